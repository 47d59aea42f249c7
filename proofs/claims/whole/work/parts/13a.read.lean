/-! LadderBench$NetworkReader.findFault -/
def rm_X6_findFault : Room := { frames := 1, cells := 0, slots := 0, locals := 20 }
set_option maxRecDepth 20000 in
theorem ggX6_findFault_X9_indexOfLetter : GoodIn wsX6_findFault wsX9_indexOfLetter := goodIn_r _ [5] (by decide +kernel) (by decide +kernel)
set_option maxRecDepth 20000 in
theorem gX6_findFault_X9_indexOfLetter_n31 : GoodIn wsX6_findFault (wsX9_indexOfLetter) := ggX6_findFault_X9_indexOfLetter
theorem hy_X6_findFault : yX6_findFault.cls = RX6 ∧ yX6_findFault.cls ≠ "java/lang/invoke/MethodHandle" ∧ yX6_findFault.cls ≠ "java/lang/invoke/VarHandle" ∧ (parseMethodDescriptor yX6_findFault.desc).map (fun d => d.parameters.length) = some 1 := by decide +kernel
set_option maxRecDepth 100000 in
theorem D_X6_findFault : gDec cX6_findFault [(0, (.iconst 0, 1)), (1, (.istore_n 2, 1)), (2, (.iconst 0, 1)), (3, (.istore_n 3, 1)), (4, (.iconst 1, 1)), (5, (.istore 4, 2)), (7, (.iconst 0, 1)), (8, (.istore 5, 2)), (10, (.iload 5, 2)), (12, (.aload_n 1, 1)), (13, (.getfield 22, 3)), (16, (.if_icmp .ge 117, 3)), (19, (.aload_n 1, 1)), (20, (.getfield 27, 3)), (23, (.iload 5, 2)), (25, (.caload, 1)), (26, (.istore 6, 2)), (28, (.iload 4, 2)), (30, (.ifCond .eq 57, 3)), (33, (.iload 6, 2)), (35, (.invokestatic 31, 3)), (38, (.istore 7, 2)), (40, (.iload 6, 2)), (42, (.bipush 40, 2)), (44, (.if_icmp .ne 9, 3)), (47, (.iinc 2 1, 3)), (50, (.goto 34, 3)), (53, (.iload 7, 2)), (55, (.iconst (-1), 1)), (56, (.if_icmp .eq 25, 3)), (59, (.iload_n 3, 1)), (60, (.iload 7, 2)), (62, (.ishr, 1)), (63, (.iconst 1, 1)), (64, (.iand, 1)), (65, (.ifCond .ne 16, 3)), (68, (.iload_n 3, 1)), (69, (.iconst 1, 1)), (70, (.iload 7, 2)), (72, (.ishl, 1)), (73, (.ior, 1)), (74, (.istore_n 3, 1)), (75, (.iconst 0, 1)), (76, (.istore 4, 2)), (78, (.goto 6, 3)), (81, (.iload 5, 2)), (83, (.ireturn, 1)), (84, (.goto 43, 3)), (87, (.iload 6, 2)), (89, (.bipush 43, 2)), (91, (.if_icmp .eq 10, 3)), (94, (.iload 6, 2)), (96, (.bipush 124, 2)), (98, (.if_icmp .ne 9, 3)), (101, (.iconst 1, 1)), (102, (.istore 4, 2)), (104, (.goto 23, 3)), (107, (.iload 6, 2)), (109, (.bipush 41, 2)), (111, (.if_icmp .ne 13, 3)), (114, (.iload_n 2, 1)), (115, (.ifCond .le 9, 3)), (118, (.iinc 2 (-1), 3)), (121, (.goto 6, 3)), (124, (.iload 5, 2)), (126, (.ireturn, 1)), (127, (.iinc 5 1, 3)), (130, (.goto (-120), 3)), (133, (.iload 4, 2)), (135, (.ifCond .ne 7, 3)), (138, (.iload_n 2, 1)), (139, (.ifCond .le 10, 3)), (142, (.aload_n 1, 1)), (143, (.getfield 22, 3)), (146, (.goto 4, 3)), (149, (.iconst (-1), 1)), (150, (.ireturn, 1))] = true := by decide +kernel
set_option maxRecDepth 100000 in
theorem in_X6_findFault_X4 : ∀ x ∈ u_ws RX4 TX4 2, x ∈ wsX6_findFault := by decide +kernel
theorem fl_X6_findFault_22 : gF wsX6_findFault RX6 22 4 1 := ⟨RX4, TX4, 2, rfl, by decide, in_X6_findFault_X4, by decide +kernel⟩
theorem fl_X6_findFault_27 : gF wsX6_findFault RX6 27 4 0 := ⟨RX4, TX4, 2, rfl, by decide, in_X6_findFault_X4, by decide +kernel⟩
theorem nl_X6_findFault_31 : Cond.methodLinkNest RX6 31 yX9_indexOfLetter "LadderBench" ∈ gNestL ∧ Cond.initialized yX9_indexOfLetter.cls ∈ wsX6_findFault ∧ Cond.static yX9_indexOfLetter ∈ wsX6_findFault := by decide +kernel
def f_X6_findFault_10 (a1 : Nat) (h : gHp) : Nat → Int32 → Int32 → Int32 → Int32 → Option (Int32)
  | 0, _, _, _, _ => none
  | n + 1, x2, x3, x4, x5 => if (h.1 a1 1) ≤ x5 then if x4 = 0 then if x2 ≤ 0 then some (-1) else some (h.1 a1 1) else some (h.1 a1 1) else if gIn x5 40 then if x4 = 0 then if (h.1 (a1 + 1) (gN x5)) = 43 then f_X6_findFault_10 a1 h n x2 x3 1 (x5 + 1) else if (h.1 (a1 + 1) (gN x5)) = 124 then f_X6_findFault_10 a1 h n x2 x3 1 (x5 + 1) else if (h.1 (a1 + 1) (gN x5)) = 41 then if x2 ≤ 0 then some x5 else f_X6_findFault_10 a1 h n (x2 + (-1)) x3 x4 (x5 + 1) else some x5 else (f_X9_indexOfLetter (h.1 (a1 + 1) (gN x5)) h).bind fun v3 => if (h.1 (a1 + 1) (gN x5)) = 40 then f_X6_findFault_10 a1 h n (x2 + 1) x3 x4 (x5 + 1) else if v3 = (-1) then some x5 else if ((x3 >>> (v3 &&& 31)) &&& 1) = 0 then f_X6_findFault_10 a1 h n x2 (x3 ||| (1 <<< (v3 &&& 31))) 0 (x5 + 1) else some x5 else none
set_option maxRecDepth 20000 in
set_option maxHeartbeats 4000000 in
theorem w_X6_findFault_10 {w : gWd} {g : gCx} (C : gC w g cX6_findFault wsX6_findFault RX6 8 1 20) {a1 : Nat} (A1 : is_X4 w a1) (h : gHp)  {o : Int32} (E : gEn w g (some .int) (some (.int o)) h) : ∀ (n : Nat) (x2 : Int32) (x3 : Int32) (x4 : Int32) (x5 : Int32), f_X6_findFault_10 a1 h n x2 x3 x4 x5 = some o → gX w g 8 h 10 [(1, .ref a1), (2, .int x2), (3, .int x3), (4, .int x4), (5, .int x5)] [] := by
  intro n
  induction n with
  | zero => intro _ _ _ _ hF; cases hF
  | succ n ih =>
    intro x2 x3 x4 x5 hF
    rw [f_X6_findFault_10] at hF
    refine gx_iload C 4 (gDec_at D_X6_findFault 8 rfl) rfl ?_
    refine gx_aload_n C 0 (gDec_at D_X6_findFault 9 rfl) rfl rfl ?_
    refine gx_geti C fl_X6_findFault_22 (is_X4_sh A1) rfl (gDec_at D_X6_findFault 10 rfl) ?_
    refine gx_icmp_ge C 133 (gDec_at D_X6_findFault 11 rfl) (by decide) (fun c => ?_) (fun c => ?_)
    · replace hF := gPos c hF
      refine gx_iload C 3 (gDec_at D_X6_findFault 68 rfl) rfl ?_
      refine gx_if_ne C 142 (gDec_at D_X6_findFault 69 rfl) (by decide) (fun c => ?_) (fun c => ?_)
      · replace hF := gNeg c hF
        refine gx_aload_n C 0 (gDec_at D_X6_findFault 72 rfl) rfl rfl ?_
        refine gx_geti C fl_X6_findFault_22 (is_X4_sh A1) rfl (gDec_at D_X6_findFault 73 rfl) ?_
        refine gx_goto C 150 (gDec_at D_X6_findFault 74 rfl) (by decide) ?_
        obtain rfl := Option.some.inj hF
        exact gx_iret C E (gDec_at D_X6_findFault 76 rfl)
      · replace hF := gPos c hF
        refine gx_iload_n C 1 (gDec_at D_X6_findFault 70 rfl) rfl rfl ?_
        refine gx_if_le C 149 (gDec_at D_X6_findFault 71 rfl) (by decide) (fun c => ?_) (fun c => ?_)
        · replace hF := gPos c hF
          refine gx_iconst C (v := (-1)) (gDec_at D_X6_findFault 75 rfl) (by decide) ?_
          obtain rfl := Option.some.inj hF
          exact gx_iret C E (gDec_at D_X6_findFault 76 rfl)
        · replace hF := gNeg c hF
          refine gx_aload_n C 0 (gDec_at D_X6_findFault 72 rfl) rfl rfl ?_
          refine gx_geti C fl_X6_findFault_22 (is_X4_sh A1) rfl (gDec_at D_X6_findFault 73 rfl) ?_
          refine gx_goto C 150 (gDec_at D_X6_findFault 74 rfl) (by decide) ?_
          obtain rfl := Option.some.inj hF
          exact gx_iret C E (gDec_at D_X6_findFault 76 rfl)
    · replace hF := gNeg c hF
      refine gx_aload_n C 0 (gDec_at D_X6_findFault 12 rfl) rfl rfl ?_
      refine gx_getr C fl_X6_findFault_27 (is_X4_sh A1) rfl (gDec_at D_X6_findFault 13 rfl) ?_
      refine gx_iload C 4 (gDec_at D_X6_findFault 14 rfl) rfl ?_
      obtain ⟨b1, hF⟩ := gGd hF
      refine gx_caload C (is_X4_characters A1) b1 (gDec_at D_X6_findFault 15 rfl) ?_
      refine gx_istore C (lv' := [(6, .int (h.1 (a1 + 1) (gN x5))), (1, .ref a1), (2, .int x2), (3, .int x3), (4, .int x4), (5, .int x5)]) (gDec_at D_X6_findFault 16 rfl) (Nat.le_of_ble_eq_true rfl) rfl ?_
      refine gx_iload C 4 (gDec_at D_X6_findFault 17 rfl) rfl ?_
      refine gx_if_eq C 87 (gDec_at D_X6_findFault 18 rfl) (by decide) (fun c => ?_) (fun c => ?_)
      · replace hF := gPos c hF
        refine gx_iload C 0 (gDec_at D_X6_findFault 48 rfl) rfl ?_
        refine gx_bipush C (v := 43) (gDec_at D_X6_findFault 49 rfl) (by decide) ?_
        refine gx_icmp_eq C 101 (gDec_at D_X6_findFault 50 rfl) (by decide) (fun c => ?_) (fun c => ?_)
        · replace hF := gPos c hF
          refine gx_iconst C (v := 1) (gDec_at D_X6_findFault 54 rfl) (by decide) ?_
          refine gx_istore C (lv' := [(4, .int 1), (6, .int (h.1 (a1 + 1) (gN x5))), (1, .ref a1), (2, .int x2), (3, .int x3), (5, .int x5)]) (gDec_at D_X6_findFault 55 rfl) (Nat.le_of_ble_eq_true rfl) rfl ?_
          refine gx_goto C 127 (gDec_at D_X6_findFault 56 rfl) (by decide) ?_
          refine gx_iinc C (j := 5) (v := x5 + 1) (lv' := [(5, .int (x5 + 1)), (4, .int 1), (6, .int (h.1 (a1 + 1) (gN x5))), (1, .ref a1), (2, .int x2), (3, .int x3)]) (gDec_at D_X6_findFault 66 rfl) rfl (by rfl) (Nat.le_of_ble_eq_true rfl) rfl ?_
          refine gx_goto C 10 (gDec_at D_X6_findFault 67 rfl) (by decide) ?_
          exact gx_sub [3, 4, 5, 1, 0] rfl (ih x2 x3 1 (x5 + 1) hF)
        · replace hF := gNeg c hF
          refine gx_iload C 0 (gDec_at D_X6_findFault 51 rfl) rfl ?_
          refine gx_bipush C (v := 124) (gDec_at D_X6_findFault 52 rfl) (by decide) ?_
          refine gx_icmp_ne C 107 (gDec_at D_X6_findFault 53 rfl) (by decide) (fun c => ?_) (fun c => ?_)
          · replace hF := gNeg c hF
            refine gx_iload C 0 (gDec_at D_X6_findFault 57 rfl) rfl ?_
            refine gx_bipush C (v := 41) (gDec_at D_X6_findFault 58 rfl) (by decide) ?_
            refine gx_icmp_ne C 124 (gDec_at D_X6_findFault 59 rfl) (by decide) (fun c => ?_) (fun c => ?_)
            · replace hF := gNeg c hF
              refine gx_iload C 5 (gDec_at D_X6_findFault 64 rfl) rfl ?_
              obtain rfl := Option.some.inj hF
              exact gx_iret C E (gDec_at D_X6_findFault 65 rfl)
            · replace hF := gPos c hF
              refine gx_iload_n C 2 (gDec_at D_X6_findFault 60 rfl) rfl rfl ?_
              refine gx_if_le C 124 (gDec_at D_X6_findFault 61 rfl) (by decide) (fun c => ?_) (fun c => ?_)
              · replace hF := gPos c hF
                refine gx_iload C 5 (gDec_at D_X6_findFault 64 rfl) rfl ?_
                obtain rfl := Option.some.inj hF
                exact gx_iret C E (gDec_at D_X6_findFault 65 rfl)
              · replace hF := gNeg c hF
                refine gx_iinc C (j := 2) (v := x2 + (-1)) (lv' := [(2, .int (x2 + (-1))), (6, .int (h.1 (a1 + 1) (gN x5))), (1, .ref a1), (3, .int x3), (4, .int x4), (5, .int x5)]) (gDec_at D_X6_findFault 62 rfl) rfl (by rfl) (Nat.le_of_ble_eq_true rfl) rfl ?_
                refine gx_goto C 127 (gDec_at D_X6_findFault 63 rfl) (by decide) ?_
                refine gx_iinc C (j := 5) (v := x5 + 1) (lv' := [(5, .int (x5 + 1)), (2, .int (x2 + (-1))), (6, .int (h.1 (a1 + 1) (gN x5))), (1, .ref a1), (3, .int x3), (4, .int x4)]) (gDec_at D_X6_findFault 66 rfl) rfl (by rfl) (Nat.le_of_ble_eq_true rfl) rfl ?_
                refine gx_goto C 10 (gDec_at D_X6_findFault 67 rfl) (by decide) ?_
                exact gx_sub [3, 1, 4, 5, 0] rfl (ih (x2 + (-1)) x3 x4 (x5 + 1) hF)
          · replace hF := gPos c hF
            refine gx_iconst C (v := 1) (gDec_at D_X6_findFault 54 rfl) (by decide) ?_
            refine gx_istore C (lv' := [(4, .int 1), (6, .int (h.1 (a1 + 1) (gN x5))), (1, .ref a1), (2, .int x2), (3, .int x3), (5, .int x5)]) (gDec_at D_X6_findFault 55 rfl) (Nat.le_of_ble_eq_true rfl) rfl ?_
            refine gx_goto C 127 (gDec_at D_X6_findFault 56 rfl) (by decide) ?_
            refine gx_iinc C (j := 5) (v := x5 + 1) (lv' := [(5, .int (x5 + 1)), (4, .int 1), (6, .int (h.1 (a1 + 1) (gN x5))), (1, .ref a1), (2, .int x2), (3, .int x3)]) (gDec_at D_X6_findFault 66 rfl) rfl (by rfl) (Nat.le_of_ble_eq_true rfl) rfl ?_
            refine gx_goto C 10 (gDec_at D_X6_findFault 67 rfl) (by decide) ?_
            exact gx_sub [3, 4, 5, 1, 0] rfl (ih x2 x3 1 (x5 + 1) hF)
      · replace hF := gNeg c hF
        refine gx_iload C 0 (gDec_at D_X6_findFault 19 rfl) rfl ?_
        obtain ⟨v3, hv2, hF⟩ := gBind hF
        refine gx_callSN1 C (st := []) 1 [.int (h.1 (a1 + 1) (gN x5))] (m_X9_indexOfLetter w h (h.1 (a1 + 1) (gN x5)) hv2) gX6_findFault_X9_indexOfLetter_n31 nl_X6_findFault_31.1 nl_X6_findFault_31.2.1 nl_X6_findFault_31.2.2 rfl rfl rfl hy_X9_indexOfLetter (Nat.le_of_ble_eq_true rfl) (Nat.le_of_ble_eq_true rfl) rfl rfl (Nat.le_of_ble_eq_true rfl) (gDec_at D_X6_findFault 20 rfl) ?_
        refine gx_istore C (lv' := [(7, .int v3), (6, .int (h.1 (a1 + 1) (gN x5))), (1, .ref a1), (2, .int x2), (3, .int x3), (4, .int x4), (5, .int x5)]) (gDec_at D_X6_findFault 21 rfl) (Nat.le_of_ble_eq_true rfl) rfl ?_
        refine gx_iload C 1 (gDec_at D_X6_findFault 22 rfl) rfl ?_
        refine gx_bipush C (v := 40) (gDec_at D_X6_findFault 23 rfl) (by decide) ?_
        refine gx_icmp_ne C 53 (gDec_at D_X6_findFault 24 rfl) (by decide) (fun c => ?_) (fun c => ?_)
        · replace hF := gNeg c hF
          refine gx_iload C 0 (gDec_at D_X6_findFault 27 rfl) rfl ?_
          refine gx_iconst C (v := (-1)) (gDec_at D_X6_findFault 28 rfl) (by decide) ?_
          refine gx_icmp_eq C 81 (gDec_at D_X6_findFault 29 rfl) (by decide) (fun c => ?_) (fun c => ?_)
          · replace hF := gPos c hF
            refine gx_iload C 6 (gDec_at D_X6_findFault 45 rfl) rfl ?_
            obtain rfl := Option.some.inj hF
            exact gx_iret C E (gDec_at D_X6_findFault 46 rfl)
          · replace hF := gNeg c hF
            refine gx_iload_n C 4 (gDec_at D_X6_findFault 30 rfl) rfl rfl ?_
            refine gx_iload C 0 (gDec_at D_X6_findFault 31 rfl) rfl ?_
            refine gx_ishr C (gDec_at D_X6_findFault 32 rfl) ?_
            refine gx_iconst C (v := 1) (gDec_at D_X6_findFault 33 rfl) (by decide) ?_
            refine gx_iand C (gDec_at D_X6_findFault 34 rfl) ?_
            refine gx_if_ne C 81 (gDec_at D_X6_findFault 35 rfl) (by decide) (fun c => ?_) (fun c => ?_)
            · replace hF := gNeg c hF
              refine gx_iload C 6 (gDec_at D_X6_findFault 45 rfl) rfl ?_
              obtain rfl := Option.some.inj hF
              exact gx_iret C E (gDec_at D_X6_findFault 46 rfl)
            · replace hF := gPos c hF
              refine gx_iload_n C 4 (gDec_at D_X6_findFault 36 rfl) rfl rfl ?_
              refine gx_iconst C (v := 1) (gDec_at D_X6_findFault 37 rfl) (by decide) ?_
              refine gx_iload C 0 (gDec_at D_X6_findFault 38 rfl) rfl ?_
              refine gx_ishl C (gDec_at D_X6_findFault 39 rfl) ?_
              refine gx_ior C (gDec_at D_X6_findFault 40 rfl) ?_
              refine gx_istore_n C (lv' := [(3, .int (x3 ||| (1 <<< (v3 &&& 31)))), (7, .int v3), (6, .int (h.1 (a1 + 1) (gN x5))), (1, .ref a1), (2, .int x2), (4, .int x4), (5, .int x5)]) (gDec_at D_X6_findFault 41 rfl) rfl (Nat.le_of_ble_eq_true rfl) rfl ?_
              refine gx_iconst C (v := 0) (gDec_at D_X6_findFault 42 rfl) (by decide) ?_
              refine gx_istore C (lv' := [(4, .int 0), (3, .int (x3 ||| (1 <<< (v3 &&& 31)))), (7, .int v3), (6, .int (h.1 (a1 + 1) (gN x5))), (1, .ref a1), (2, .int x2), (5, .int x5)]) (gDec_at D_X6_findFault 43 rfl) (Nat.le_of_ble_eq_true rfl) rfl ?_
              refine gx_goto C 84 (gDec_at D_X6_findFault 44 rfl) (by decide) ?_
              refine gx_goto C 127 (gDec_at D_X6_findFault 47 rfl) (by decide) ?_
              refine gx_iinc C (j := 6) (v := x5 + 1) (lv' := [(5, .int (x5 + 1)), (4, .int 0), (3, .int (x3 ||| (1 <<< (v3 &&& 31)))), (7, .int v3), (6, .int (h.1 (a1 + 1) (gN x5))), (1, .ref a1), (2, .int x2)]) (gDec_at D_X6_findFault 66 rfl) rfl (by rfl) (Nat.le_of_ble_eq_true rfl) rfl ?_
              refine gx_goto C 10 (gDec_at D_X6_findFault 67 rfl) (by decide) ?_
              exact gx_sub [5, 6, 2, 1, 0] rfl (ih x2 (x3 ||| (1 <<< (v3 &&& 31))) 0 (x5 + 1) hF)
        · replace hF := gPos c hF
          refine gx_iinc C (j := 3) (v := x2 + 1) (lv' := [(2, .int (x2 + 1)), (7, .int v3), (6, .int (h.1 (a1 + 1) (gN x5))), (1, .ref a1), (3, .int x3), (4, .int x4), (5, .int x5)]) (gDec_at D_X6_findFault 25 rfl) rfl (by rfl) (Nat.le_of_ble_eq_true rfl) rfl ?_
          refine gx_goto C 84 (gDec_at D_X6_findFault 26 rfl) (by decide) ?_
          refine gx_goto C 127 (gDec_at D_X6_findFault 47 rfl) (by decide) ?_
          refine gx_iinc C (j := 6) (v := x5 + 1) (lv' := [(5, .int (x5 + 1)), (2, .int (x2 + 1)), (7, .int v3), (6, .int (h.1 (a1 + 1) (gN x5))), (1, .ref a1), (3, .int x3), (4, .int x4)]) (gDec_at D_X6_findFault 66 rfl) rfl (by rfl) (Nat.le_of_ble_eq_true rfl) rfl ?_
          refine gx_goto C 10 (gDec_at D_X6_findFault 67 rfl) (by decide) ?_
          exact gx_sub [4, 1, 5, 6, 0] rfl (ih (x2 + 1) x3 x4 (x5 + 1) hF)
def f_X6_findFault (a0 : Nat) (a1 : Nat) (h : gHp) : Option (Int32) := f_X6_findFault_10 a1 h gFuel 0 0 1 0
set_option maxRecDepth 20000 in
set_option maxHeartbeats 4000000 in
theorem m_X6_findFault (w : gWd) (h : gHp) {a0 : Nat} (A0 : is_X6 w a0) {a1 : Nat} (A1 : is_X4 w a1) {o : Int32} (hF : f_X6_findFault a0 a1 h = some o) : gMet w yX6_findFault wsX6_findFault rm_X6_findFault [.ref a0, .ref a1] h (some (.int o)) h := by
  refine gMet_of (cc := cX6_findFault) (maxL := 8) (ret := (some .int)) (fr := 1) (lo := 20) (own := RX6) [(0, .ref a0), (1, .ref a1)] (by decide) rfl rfl (Nat.le_of_ble_eq_true rfl) rfl (Nat.le_refl _) (Nat.le_refl _) (fun g C E => ?_)
  rw [f_X6_findFault] at hF
  refine gx_iconst C (v := 0) (gDec_at D_X6_findFault 0 rfl) (by decide) ?_
  refine gx_istore_n C (lv' := [(2, .int 0), (0, .ref a0), (1, .ref a1)]) (gDec_at D_X6_findFault 1 rfl) rfl (Nat.le_of_ble_eq_true rfl) rfl ?_
  refine gx_iconst C (v := 0) (gDec_at D_X6_findFault 2 rfl) (by decide) ?_
  refine gx_istore_n C (lv' := [(3, .int 0), (2, .int 0), (0, .ref a0), (1, .ref a1)]) (gDec_at D_X6_findFault 3 rfl) rfl (Nat.le_of_ble_eq_true rfl) rfl ?_
  refine gx_iconst C (v := 1) (gDec_at D_X6_findFault 4 rfl) (by decide) ?_
  refine gx_istore C (lv' := [(4, .int 1), (3, .int 0), (2, .int 0), (0, .ref a0), (1, .ref a1)]) (gDec_at D_X6_findFault 5 rfl) (Nat.le_of_ble_eq_true rfl) rfl ?_
  refine gx_iconst C (v := 0) (gDec_at D_X6_findFault 6 rfl) (by decide) ?_
  refine gx_istore C (lv' := [(5, .int 0), (4, .int 1), (3, .int 0), (2, .int 0), (0, .ref a0), (1, .ref a1)]) (gDec_at D_X6_findFault 7 rfl) (Nat.le_of_ble_eq_true rfl) rfl ?_
  exact gx_sub [5, 3, 2, 1, 0] rfl (w_X6_findFault_10 C A1 h   E gFuel 0 0 1 0 hF)
/-! LadderBench$NetworkReader.clearDepth -/
def rm_X6_clearDepth : Room := { frames := 0, cells := 0, slots := 0, locals := 0 }
theorem hy_X6_clearDepth : yX6_clearDepth.cls = RX6 ∧ yX6_clearDepth.cls ≠ "java/lang/invoke/MethodHandle" ∧ yX6_clearDepth.cls ≠ "java/lang/invoke/VarHandle" ∧ (parseMethodDescriptor yX6_clearDepth.desc).map (fun d => d.parameters.length) = some 0 := by decide +kernel
set_option maxRecDepth 100000 in
theorem D_X6_clearDepth : gDec cX6_clearDepth [(0, (.aload_n 0, 1)), (1, (.getfield 9, 3)), (4, (.aload_n 0, 1)), (5, (.getfield 18, 3)), (8, (.iconst 0, 1)), (9, (.iastore, 1)), (10, (.aload_n 0, 1)), (11, (.getfield 15, 3)), (14, (.aload_n 0, 1)), (15, (.getfield 18, 3)), (18, (.iconst 0, 1)), (19, (.iastore, 1)), (20, (.return_, 1))] = true := by decide +kernel
set_option maxRecDepth 100000 in
theorem in_X6_clearDepth_X6 : ∀ x ∈ u_ws RX6 TX6 3, x ∈ wsX6_clearDepth := by decide +kernel
theorem fl_X6_clearDepth_9 : gF wsX6_clearDepth RX6 9 6 0 := ⟨RX6, TX6, 3, rfl, by decide, in_X6_clearDepth_X6, by decide +kernel⟩
theorem fl_X6_clearDepth_18 : gF wsX6_clearDepth RX6 18 6 2 := ⟨RX6, TX6, 3, rfl, by decide, in_X6_clearDepth_X6, by decide +kernel⟩
theorem fl_X6_clearDepth_15 : gF wsX6_clearDepth RX6 15 6 1 := ⟨RX6, TX6, 3, rfl, by decide, in_X6_clearDepth_X6, by decide +kernel⟩
def f_X6_clearDepth (a0 : Nat) (h : gHp) : Option (gHp) := if gIn (h.1 a0 2) 41 then if gIn ((gsI h (a0 + 1) (gN (h.1 a0 2)) 0).1 a0 2) 41 then some (gsI (gsI h (a0 + 1) (gN (h.1 a0 2)) 0) (a0 + 2) (gN ((gsI h (a0 + 1) (gN (h.1 a0 2)) 0).1 a0 2)) 0) else none else none
set_option maxRecDepth 20000 in
set_option maxHeartbeats 4000000 in
theorem m_X6_clearDepth (w : gWd) (h : gHp) {a0 : Nat} (A0 : is_X6 w a0) {o : gHp} (hF : f_X6_clearDepth a0 h = some o) : gMet w yX6_clearDepth wsX6_clearDepth rm_X6_clearDepth [.ref a0] h (none) o := by
  refine gMet_of (cc := cX6_clearDepth) (maxL := 1) (ret := none) (fr := 0) (lo := 0) (own := RX6) [(0, .ref a0)] (by decide) rfl rfl (Nat.le_of_ble_eq_true rfl) rfl (Nat.le_refl _) (Nat.le_refl _) (fun g C E => ?_)
  rw [f_X6_clearDepth] at hF
  refine gx_aload_n C 0 (gDec_at D_X6_clearDepth 0 rfl) rfl rfl ?_
  refine gx_getr C fl_X6_clearDepth_9 (is_X6_sh A0) rfl (gDec_at D_X6_clearDepth 1 rfl) ?_
  refine gx_aload_n C 0 (gDec_at D_X6_clearDepth 2 rfl) rfl rfl ?_
  refine gx_geti C fl_X6_clearDepth_18 (is_X6_sh A0) rfl (gDec_at D_X6_clearDepth 3 rfl) ?_
  refine gx_iconst C (v := 0) (gDec_at D_X6_clearDepth 4 rfl) (by decide) ?_
  obtain ⟨b1, hF⟩ := gGd hF
  refine gx_iastore C (is_X6_pieces A0) b1 (gDec_at D_X6_clearDepth 5 rfl) ?_
  refine gx_aload_n C 0 (gDec_at D_X6_clearDepth 6 rfl) rfl rfl ?_
  refine gx_getr C fl_X6_clearDepth_15 (is_X6_sh A0) rfl (gDec_at D_X6_clearDepth 7 rfl) ?_
  refine gx_aload_n C 0 (gDec_at D_X6_clearDepth 8 rfl) rfl rfl ?_
  refine gx_geti C fl_X6_clearDepth_18 (is_X6_sh A0) rfl (gDec_at D_X6_clearDepth 9 rfl) ?_
  refine gx_iconst C (v := 0) (gDec_at D_X6_clearDepth 10 rfl) (by decide) ?_
  obtain ⟨b2, hF⟩ := gGd hF
  refine gx_iastore C (is_X6_links A0) b2 (gDec_at D_X6_clearDepth 11 rfl) ?_
  obtain rfl := Option.some.inj hF
  exact gx_vret C E (gDec_at D_X6_clearDepth 12 rfl)
/-! LadderBench$NetworkReader.endLink -/
def rm_X6_endLink : Room := { frames := 2, cells := 0, slots := 0, locals := 45 }
set_option maxRecDepth 20000 in
theorem ggX6_endLink_X5_join : GoodIn wsX6_endLink wsX5_join := goodIn_r _ [8, 9, 10, 11, 12, 13, 14, 15, 16, 17, 18, 19, 20, 7, 21, 22, 23, 27, 28, 29, 30, 31] (by decide +kernel) (by decide +kernel)
set_option maxRecDepth 20000 in
theorem gX6_endLink_X5_join : GoodIn wsX6_endLink (wsV RX6 58 RX5 yX5_join wsX5_join) := goodIn_app (goodIn_of _ (by decide +kernel)) ggX6_endLink_X5_join
theorem hy_X6_endLink : yX6_endLink.cls = RX6 ∧ yX6_endLink.cls ≠ "java/lang/invoke/MethodHandle" ∧ yX6_endLink.cls ≠ "java/lang/invoke/VarHandle" ∧ (parseMethodDescriptor yX6_endLink.desc).map (fun d => d.parameters.length) = some 1 := by decide +kernel
set_option maxRecDepth 100000 in
theorem D_X6_endLink : gDec cX6_endLink [(0, (.aload_n 0, 1)), (1, (.getfield 15, 3)), (4, (.aload_n 0, 1)), (5, (.getfield 18, 3)), (8, (.dup2, 1)), (9, (.iaload, 1)), (10, (.aload_n 1, 1)), (11, (.aload_n 0, 1)), (12, (.getfield 9, 3)), (15, (.aload_n 0, 1)), (16, (.getfield 18, 3)), (19, (.iaload, 1)), (20, (.iconst 2, 1)), (21, (.invokevirtual 58, 3)), (24, (.ior, 1)), (25, (.iastore, 1)), (26, (.aload_n 0, 1)), (27, (.getfield 9, 3)), (30, (.aload_n 0, 1)), (31, (.getfield 18, 3)), (34, (.iconst 0, 1)), (35, (.iastore, 1)), (36, (.return_, 1))] = true := by decide +kernel
set_option maxRecDepth 100000 in
theorem in_X6_endLink_X6 : ∀ x ∈ u_ws RX6 TX6 3, x ∈ wsX6_endLink := by decide +kernel
theorem fl_X6_endLink_15 : gF wsX6_endLink RX6 15 6 1 := ⟨RX6, TX6, 3, rfl, by decide, in_X6_endLink_X6, by decide +kernel⟩
theorem fl_X6_endLink_18 : gF wsX6_endLink RX6 18 6 2 := ⟨RX6, TX6, 3, rfl, by decide, in_X6_endLink_X6, by decide +kernel⟩
theorem fl_X6_endLink_9 : gF wsX6_endLink RX6 9 6 0 := ⟨RX6, TX6, 3, rfl, by decide, in_X6_endLink_X6, by decide +kernel⟩
def f_X6_endLink (a0 : Nat) (a1 : Nat) (h : gHp) : Option (gHp) := if gIn (h.1 a0 2) 41 then if gIn (h.1 a0 2) 41 then (f_X5_join a1 (h.1 (a0 + 1) (gN (h.1 a0 2))) 2 h).bind fun v4 => if gIn (h.1 a0 2) 41 then if gIn ((gsI v4.2 (a0 + 2) (gN (h.1 a0 2)) ((h.1 (a0 + 2) (gN (h.1 a0 2))) ||| v4.1)).1 a0 2) 41 then some (gsI (gsI v4.2 (a0 + 2) (gN (h.1 a0 2)) ((h.1 (a0 + 2) (gN (h.1 a0 2))) ||| v4.1)) (a0 + 1) (gN ((gsI v4.2 (a0 + 2) (gN (h.1 a0 2)) ((h.1 (a0 + 2) (gN (h.1 a0 2))) ||| v4.1)).1 a0 2)) 0) else none else none else none else none
set_option maxRecDepth 20000 in
set_option maxHeartbeats 4000000 in
theorem m_X6_endLink (w : gWd) (h : gHp) {a0 : Nat} (A0 : is_X6 w a0) {a1 : Nat} (A1 : is_X5 w a1) {o : gHp} (hF : f_X6_endLink a0 a1 h = some o) : gMet w yX6_endLink wsX6_endLink rm_X6_endLink [.ref a0, .ref a1] h (none) o := by
  refine gMet_of (cc := cX6_endLink) (maxL := 2) (ret := none) (fr := 2) (lo := 45) (own := RX6) [(0, .ref a0), (1, .ref a1)] (by decide) rfl rfl (Nat.le_of_ble_eq_true rfl) rfl (Nat.le_refl _) (Nat.le_refl _) (fun g C E => ?_)
  rw [f_X6_endLink] at hF
  refine gx_aload_n C 0 (gDec_at D_X6_endLink 0 rfl) rfl rfl ?_
  refine gx_getr C fl_X6_endLink_15 (is_X6_sh A0) rfl (gDec_at D_X6_endLink 1 rfl) ?_
  refine gx_aload_n C 0 (gDec_at D_X6_endLink 2 rfl) rfl rfl ?_
  refine gx_geti C fl_X6_endLink_18 (is_X6_sh A0) rfl (gDec_at D_X6_endLink 3 rfl) ?_
  refine gx_dup2 C (gDec_at D_X6_endLink 4 rfl) rfl rfl ?_
  obtain ⟨b1, hF⟩ := gGd hF
  refine gx_iaload C (is_X6_links A0) b1 (gDec_at D_X6_endLink 5 rfl) ?_
  refine gx_aload_n C 1 (gDec_at D_X6_endLink 6 rfl) rfl rfl ?_
  refine gx_aload_n C 0 (gDec_at D_X6_endLink 7 rfl) rfl rfl ?_
  refine gx_getr C fl_X6_endLink_9 (is_X6_sh A0) rfl (gDec_at D_X6_endLink 8 rfl) ?_
  refine gx_aload_n C 0 (gDec_at D_X6_endLink 9 rfl) rfl rfl ?_
  refine gx_geti C fl_X6_endLink_18 (is_X6_sh A0) rfl (gDec_at D_X6_endLink 10 rfl) ?_
  obtain ⟨b2, hF⟩ := gGd hF
  refine gx_iaload C (is_X6_pieces A0) b2 (gDec_at D_X6_endLink 11 rfl) ?_
  refine gx_iconst C (v := 2) (gDec_at D_X6_endLink 12 rfl) (by decide) ?_
  obtain ⟨v4, hv3, hF⟩ := gBind hF
  refine gx_callV1 C (st := .int (h.1 (a0 + 2) (gN (h.1 a0 2))) :: .int (h.1 a0 2) :: .ref (a0 + 2) :: []) 2 [.int (h.1 (a0 + 1) (gN (h.1 a0 2))), .int 2] (m_X5_join w h A1 (h.1 (a0 + 1) (gN (h.1 a0 2))) 2 hv3) gX6_endLink_X5_join rfl rfl rfl hy_X5_join (Nat.le_of_ble_eq_true rfl) (Nat.le_of_ble_eq_true rfl) (is_X5_sh A1) rfl rfl rfl (Nat.le_of_ble_eq_true rfl) (gDec_at D_X6_endLink 13 rfl) ?_
  refine gx_ior C (gDec_at D_X6_endLink 14 rfl) ?_
  obtain ⟨b5, hF⟩ := gGd hF
  refine gx_iastore C (is_X6_links A0) b5 (gDec_at D_X6_endLink 15 rfl) ?_
  refine gx_aload_n C 0 (gDec_at D_X6_endLink 16 rfl) rfl rfl ?_
  refine gx_getr C fl_X6_endLink_9 (is_X6_sh A0) rfl (gDec_at D_X6_endLink 17 rfl) ?_
  refine gx_aload_n C 0 (gDec_at D_X6_endLink 18 rfl) rfl rfl ?_
  refine gx_geti C fl_X6_endLink_18 (is_X6_sh A0) rfl (gDec_at D_X6_endLink 19 rfl) ?_
  refine gx_iconst C (v := 0) (gDec_at D_X6_endLink 20 rfl) (by decide) ?_
  obtain ⟨b6, hF⟩ := gGd hF
  refine gx_iastore C (is_X6_pieces A0) b6 (gDec_at D_X6_endLink 21 rfl) ?_
  obtain rfl := Option.some.inj hF
  exact gx_vret C E (gDec_at D_X6_endLink 22 rfl)
/-! LadderBench$NetworkReader.endChain -/
def rm_X6_endChain : Room := { frames := 3, cells := 0, slots := 0, locals := 66 }
set_option maxRecDepth 20000 in
theorem ggX6_endChain_X5_join : GoodIn wsX6_endChain wsX5_join := goodIn_r _ [13, 14, 15, 16, 17, 18, 19, 20, 21, 22, 23, 24, 25, 12, 26, 27, 28, 32, 33, 34, 35, 36] (by decide +kernel) (by decide +kernel)
set_option maxRecDepth 20000 in
theorem gX6_endChain_X5_join : GoodIn wsX6_endChain (wsV RX6 58 RX5 yX5_join wsX5_join) := goodIn_app (goodIn_of _ (by decide +kernel)) ggX6_endChain_X5_join
set_option maxRecDepth 20000 in
theorem ggX6_endChain_X6_endLink : GoodIn wsX6_endChain wsX6_endLink := goodIn_r _ [7, 1, 2, 8, 9, 10, 11, 12, 13, 14, 15, 16, 17, 18, 19, 20, 21, 22, 23, 24, 25, 26, 27, 28, 29, 30, 31, 32, 33, 34, 35, 36] (by decide +kernel) (by decide +kernel)
set_option maxRecDepth 20000 in
theorem gX6_endChain_X6_endLink : GoodIn wsX6_endChain (wsV RX6 51 RX6 yX6_endLink wsX6_endLink) := goodIn_app (goodIn_of _ (by decide +kernel)) ggX6_endChain_X6_endLink
theorem hy_X6_endChain : yX6_endChain.cls = RX6 ∧ yX6_endChain.cls ≠ "java/lang/invoke/MethodHandle" ∧ yX6_endChain.cls ≠ "java/lang/invoke/VarHandle" ∧ (parseMethodDescriptor yX6_endChain.desc).map (fun d => d.parameters.length) = some 1 := by decide +kernel
set_option maxRecDepth 100000 in
theorem D_X6_endChain : gDec cX6_endChain [(0, (.aload_n 0, 1)), (1, (.aload_n 1, 1)), (2, (.invokevirtual 51, 3)), (5, (.aload_n 1, 1)), (6, (.aload_n 0, 1)), (7, (.getfield 15, 3)), (10, (.aload_n 0, 1)), (11, (.getfield 18, 3)), (14, (.iaload, 1)), (15, (.iconst 1, 1)), (16, (.invokevirtual 58, 3)), (19, (.ireturn, 1))] = true := by decide +kernel
set_option maxRecDepth 100000 in
theorem in_X6_endChain_X6 : ∀ x ∈ u_ws RX6 TX6 3, x ∈ wsX6_endChain := by decide +kernel
theorem fl_X6_endChain_15 : gF wsX6_endChain RX6 15 6 1 := ⟨RX6, TX6, 3, rfl, by decide, in_X6_endChain_X6, by decide +kernel⟩
theorem fl_X6_endChain_18 : gF wsX6_endChain RX6 18 6 2 := ⟨RX6, TX6, 3, rfl, by decide, in_X6_endChain_X6, by decide +kernel⟩
def f_X6_endChain (a0 : Nat) (a1 : Nat) (h : gHp) : Option (Int32 × gHp) := (f_X6_endLink a0 a1 h).bind fun v2 => if gIn (v2.1 a0 2) 41 then (f_X5_join a1 (v2.1 (a0 + 2) (gN (v2.1 a0 2))) 1 v2).bind fun v5 => some (v5.1, v5.2) else none
set_option maxRecDepth 20000 in
set_option maxHeartbeats 4000000 in
theorem m_X6_endChain (w : gWd) (h : gHp) {a0 : Nat} (A0 : is_X6 w a0) {a1 : Nat} (A1 : is_X5 w a1) {o : Int32 × gHp} (hF : f_X6_endChain a0 a1 h = some o) : gMet w yX6_endChain wsX6_endChain rm_X6_endChain [.ref a0, .ref a1] h (some (.int o.1)) o.2 := by
  refine gMet_of (cc := cX6_endChain) (maxL := 2) (ret := (some .int)) (fr := 3) (lo := 66) (own := RX6) [(0, .ref a0), (1, .ref a1)] (by decide) rfl rfl (Nat.le_of_ble_eq_true rfl) rfl (Nat.le_refl _) (Nat.le_refl _) (fun g C E => ?_)
  rw [f_X6_endChain] at hF
  refine gx_aload_n C 0 (gDec_at D_X6_endChain 0 rfl) rfl rfl ?_
  refine gx_aload_n C 1 (gDec_at D_X6_endChain 1 rfl) rfl rfl ?_
  obtain ⟨v2, hv1, hF⟩ := gBind hF
  refine gx_callV0 C (st := []) 1 [.ref a1] (m_X6_endLink w h A0 A1 hv1) gX6_endChain_X6_endLink rfl rfl rfl hy_X6_endLink (Nat.le_of_ble_eq_true rfl) (Nat.le_of_ble_eq_true rfl) (is_X6_sh A0) rfl rfl rfl (Nat.le_of_ble_eq_true rfl) (gDec_at D_X6_endChain 2 rfl) ?_
  refine gx_aload_n C 1 (gDec_at D_X6_endChain 3 rfl) rfl rfl ?_
  refine gx_aload_n C 0 (gDec_at D_X6_endChain 4 rfl) rfl rfl ?_
  refine gx_getr C fl_X6_endChain_15 (is_X6_sh A0) rfl (gDec_at D_X6_endChain 5 rfl) ?_
  refine gx_aload_n C 0 (gDec_at D_X6_endChain 6 rfl) rfl rfl ?_
  refine gx_geti C fl_X6_endChain_18 (is_X6_sh A0) rfl (gDec_at D_X6_endChain 7 rfl) ?_
  obtain ⟨b3, hF⟩ := gGd hF
  refine gx_iaload C (is_X6_links A0) b3 (gDec_at D_X6_endChain 8 rfl) ?_
  refine gx_iconst C (v := 1) (gDec_at D_X6_endChain 9 rfl) (by decide) ?_
  obtain ⟨v5, hv4, hF⟩ := gBind hF
  refine gx_callV1 C (st := []) 2 [.int (v2.1 (a0 + 2) (gN (v2.1 a0 2))), .int 1] (m_X5_join w v2 A1 (v2.1 (a0 + 2) (gN (v2.1 a0 2))) 1 hv4) gX6_endChain_X5_join rfl rfl rfl hy_X5_join (Nat.le_of_ble_eq_true rfl) (Nat.le_of_ble_eq_true rfl) (is_X5_sh A1) rfl rfl rfl (Nat.le_of_ble_eq_true rfl) (gDec_at D_X6_endChain 10 rfl) ?_
  obtain rfl := Option.some.inj hF
  exact gx_iret C E (gDec_at D_X6_endChain 11 rfl)
/-! LadderBench$NetworkReader.take -/
def rm_X6_take : Room := { frames := 4, cells := 0, slots := 0, locals := 87 }
set_option maxRecDepth 20000 in
theorem ggX6_take_X5_addArm : GoodIn wsX6_take wsX5_addArm := goodIn_r _ [43, 44, 22, 36, 31, 32, 33, 20, 34, 35, 23, 48, 49, 50, 51, 52] (by decide +kernel) (by decide +kernel)
set_option maxRecDepth 20000 in
theorem gX6_take_X5_addArm : GoodIn wsX6_take (wsV RX6 55 RX5 yX5_addArm wsX5_addArm) := goodIn_app (goodIn_of _ (by decide +kernel)) ggX6_take_X5_addArm
set_option maxRecDepth 20000 in
theorem ggX6_take_X6_clearDepth : GoodIn wsX6_take wsX6_clearDepth := goodIn_r _ [7, 2, 1, 8, 45, 46, 47] (by decide +kernel) (by decide +kernel)
set_option maxRecDepth 20000 in
theorem gX6_take_X6_clearDepth : GoodIn wsX6_take (wsV RX6 40 RX6 yX6_clearDepth wsX6_clearDepth) := goodIn_app (goodIn_of _ (by decide +kernel)) ggX6_take_X6_clearDepth
set_option maxRecDepth 20000 in
theorem ggX6_take_X6_endChain : GoodIn wsX6_take wsX6_endChain := goodIn_r _ [12, 8, 1, 13, 14, 15, 6, 16, 2, 17, 18, 19, 20, 21, 22, 23, 24, 25, 26, 27, 28, 29, 30, 31, 32, 33, 34, 35, 36, 45, 46, 47, 48, 49, 50, 51, 52] (by decide +kernel) (by decide +kernel)
set_option maxRecDepth 20000 in
theorem gX6_take_X6_endChain : GoodIn wsX6_take (wsV RX6 47 RX6 yX6_endChain wsX6_endChain) := goodIn_app (goodIn_of _ (by decide +kernel)) ggX6_take_X6_endChain
set_option maxRecDepth 20000 in
theorem ggX6_take_X6_endLink : GoodIn wsX6_take wsX6_endLink := goodIn_r _ [16, 8, 1, 2, 17, 18, 19, 20, 21, 22, 23, 24, 25, 26, 27, 28, 29, 30, 31, 32, 33, 34, 35, 36, 45, 46, 47, 48, 49, 50, 51, 52] (by decide +kernel) (by decide +kernel)
set_option maxRecDepth 20000 in
theorem gX6_take_X6_endLink : GoodIn wsX6_take (wsV RX6 51 RX6 yX6_endLink wsX6_endLink) := goodIn_app (goodIn_of _ (by decide +kernel)) ggX6_take_X6_endLink
set_option maxRecDepth 20000 in
theorem ggX6_take_X9_indexOfLetter : GoodIn wsX6_take wsX9_indexOfLetter := goodIn_r _ [39] (by decide +kernel) (by decide +kernel)
set_option maxRecDepth 20000 in
theorem gX6_take_X9_indexOfLetter_n31 : GoodIn wsX6_take (wsX9_indexOfLetter) := ggX6_take_X9_indexOfLetter
theorem hy_X6_take : yX6_take.cls = RX6 ∧ yX6_take.cls ≠ "java/lang/invoke/MethodHandle" ∧ yX6_take.cls ≠ "java/lang/invoke/VarHandle" ∧ (parseMethodDescriptor yX6_take.desc).map (fun d => d.parameters.length) = some 2 := by decide +kernel
set_option maxRecDepth 100000 in
theorem D_X6_take : gDec cX6_take [(0, (.iload_n 1, 1)), (1, (.bipush 40, 2)), (3, (.if_icmp .ne 29, 3)), (6, (.aload_n 0, 1)), (7, (.getfield 18, 3)), (10, (.bipush 40, 2)), (12, (.if_icmp .ge 105, 3)), (15, (.aload_n 0, 1)), (16, (.dup, 1)), (17, (.getfield 18, 3)), (20, (.iconst 1, 1)), (21, (.iadd, 1)), (22, (.putfield 18, 3)), (25, (.aload_n 0, 1)), (26, (.invokevirtual 40, 3)), (29, (.goto 88, 3)), (32, (.iload_n 1, 1)), (33, (.bipush 41, 2)), (35, (.if_icmp .ne 42, 3)), (38, (.aload_n 0, 1)), (39, (.aload_n 2, 1)), (40, (.invokevirtual 47, 3)), (43, (.istore_n 3, 1)), (44, (.aload_n 0, 1)), (45, (.getfield 18, 3)), (48, (.ifCond .le 26, 3)), (51, (.aload_n 0, 1)), (52, (.dup, 1)), (53, (.getfield 18, 3)), (56, (.iconst 1, 1)), (57, (.isub, 1)), (58, (.putfield 18, 3)), (61, (.aload_n 0, 1)), (62, (.getfield 9, 3)), (65, (.aload_n 0, 1)), (66, (.getfield 18, 3)), (69, (.dup2, 1)), (70, (.iaload, 1)), (71, (.iload_n 3, 1)), (72, (.ior, 1)), (73, (.iastore, 1)), (74, (.goto 43, 3)), (77, (.iload_n 1, 1)), (78, (.bipush 43, 2)), (80, (.if_icmp .ne 11, 3)), (83, (.aload_n 0, 1)), (84, (.aload_n 2, 1)), (85, (.invokevirtual 51, 3)), (88, (.goto 29, 3)), (91, (.iload_n 1, 1)), (92, (.bipush 124, 2)), (94, (.if_icmp .eq 23, 3)), (97, (.aload_n 0, 1)), (98, (.getfield 9, 3)), (101, (.aload_n 0, 1)), (102, (.getfield 18, 3)), (105, (.dup2, 1)), (106, (.iaload, 1)), (107, (.aload_n 2, 1)), (108, (.iload_n 1, 1)), (109, (.invokestatic 31, 3)), (112, (.invokevirtual 55, 3)), (115, (.ior, 1)), (116, (.iastore, 1)), (117, (.return_, 1))] = true := by decide +kernel
set_option maxRecDepth 100000 in
theorem in_X6_take_X6 : ∀ x ∈ u_ws RX6 TX6 3, x ∈ wsX6_take := by decide +kernel
theorem fl_X6_take_9 : gF wsX6_take RX6 9 6 0 := ⟨RX6, TX6, 3, rfl, by decide, in_X6_take_X6, by decide +kernel⟩
theorem fl_X6_take_18 : gF wsX6_take RX6 18 6 2 := ⟨RX6, TX6, 3, rfl, by decide, in_X6_take_X6, by decide +kernel⟩
theorem nl_X6_take_31 : Cond.methodLinkNest RX6 31 yX9_indexOfLetter "LadderBench" ∈ gNestL ∧ Cond.initialized yX9_indexOfLetter.cls ∈ wsX6_take ∧ Cond.static yX9_indexOfLetter ∈ wsX6_take := by decide +kernel
theorem flw_X6_take_18 : gFw wsX6_take RX6 18 6 2 .int := ⟨RX6, TX6, 3, tyX6, rfl, by decide, in_X6_take_X6, by decide +kernel, tyX6_ok, nmX6, rfl, by decide +kernel⟩
def f_X6_take (a0 : Nat) (x1 : Int32) (a2 : Nat) (h : gHp) : Option (gHp) := if x1 = 40 then if 40 ≤ (h.1 a0 2) then some h else (f_X6_clearDepth a0 (gsI h a0 2 ((h.1 a0 2) + 1))).bind fun v14 => some v14 else if x1 = 41 then (f_X6_endChain a0 a2 h).bind fun v10 => if (v10.2.1 a0 2) ≤ 0 then some v10.2 else if gIn ((gsI v10.2 a0 2 ((v10.2.1 a0 2) - 1)).1 a0 2) 41 then if gIn ((gsI v10.2 a0 2 ((v10.2.1 a0 2) - 1)).1 a0 2) 41 then some (gsI (gsI v10.2 a0 2 ((v10.2.1 a0 2) - 1)) (a0 + 1) (gN ((gsI v10.2 a0 2 ((v10.2.1 a0 2) - 1)).1 a0 2)) (((gsI v10.2 a0 2 ((v10.2.1 a0 2) - 1)).1 (a0 + 1) (gN ((gsI v10.2 a0 2 ((v10.2.1 a0 2) - 1)).1 a0 2))) ||| v10.1)) else none else none else if x1 = 43 then (f_X6_endLink a0 a2 h).bind fun v8 => some v8 else if x1 = 124 then some h else if gIn (h.1 a0 2) 41 then (f_X9_indexOfLetter x1 h).bind fun v3 => (f_X5_addArm a2 v3 h).bind fun v5 => if gIn (h.1 a0 2) 41 then some (gsI v5.2 (a0 + 1) (gN (h.1 a0 2)) ((h.1 (a0 + 1) (gN (h.1 a0 2))) ||| v5.1)) else none else none
set_option maxRecDepth 20000 in
set_option maxHeartbeats 4000000 in
theorem m_X6_take (w : gWd) (h : gHp) {a0 : Nat} (A0 : is_X6 w a0) (x1 : Int32) {a2 : Nat} (A2 : is_X5 w a2) {o : gHp} (hF : f_X6_take a0 x1 a2 h = some o) : gMet w yX6_take wsX6_take rm_X6_take [.ref a0, .int x1, .ref a2] h (none) o := by
  refine gMet_of (cc := cX6_take) (maxL := 4) (ret := none) (fr := 4) (lo := 87) (own := RX6) [(0, .ref a0), (1, .int x1), (2, .ref a2)] (by decide) rfl rfl (Nat.le_of_ble_eq_true rfl) rfl (Nat.le_refl _) (Nat.le_refl _) (fun g C E => ?_)
  rw [f_X6_take] at hF
  refine gx_iload_n C 1 (gDec_at D_X6_take 0 rfl) rfl rfl ?_
  refine gx_bipush C (v := 40) (gDec_at D_X6_take 1 rfl) (by decide) ?_
  refine gx_icmp_ne C 32 (gDec_at D_X6_take 2 rfl) (by decide) (fun c => ?_) (fun c => ?_)
  · replace hF := gNeg c hF
    refine gx_iload_n C 1 (gDec_at D_X6_take 16 rfl) rfl rfl ?_
    refine gx_bipush C (v := 41) (gDec_at D_X6_take 17 rfl) (by decide) ?_
    refine gx_icmp_ne C 77 (gDec_at D_X6_take 18 rfl) (by decide) (fun c => ?_) (fun c => ?_)
    · replace hF := gNeg c hF
      refine gx_iload_n C 1 (gDec_at D_X6_take 42 rfl) rfl rfl ?_
      refine gx_bipush C (v := 43) (gDec_at D_X6_take 43 rfl) (by decide) ?_
      refine gx_icmp_ne C 91 (gDec_at D_X6_take 44 rfl) (by decide) (fun c => ?_) (fun c => ?_)
      · replace hF := gNeg c hF
        refine gx_iload_n C 1 (gDec_at D_X6_take 49 rfl) rfl rfl ?_
        refine gx_bipush C (v := 124) (gDec_at D_X6_take 50 rfl) (by decide) ?_
        refine gx_icmp_eq C 117 (gDec_at D_X6_take 51 rfl) (by decide) (fun c => ?_) (fun c => ?_)
        · replace hF := gPos c hF
          obtain rfl := Option.some.inj hF
          exact gx_vret C E (gDec_at D_X6_take 64 rfl)
        · replace hF := gNeg c hF
          refine gx_aload_n C 0 (gDec_at D_X6_take 52 rfl) rfl rfl ?_
          refine gx_getr C fl_X6_take_9 (is_X6_sh A0) rfl (gDec_at D_X6_take 53 rfl) ?_
          refine gx_aload_n C 0 (gDec_at D_X6_take 54 rfl) rfl rfl ?_
          refine gx_geti C fl_X6_take_18 (is_X6_sh A0) rfl (gDec_at D_X6_take 55 rfl) ?_
          refine gx_dup2 C (gDec_at D_X6_take 56 rfl) rfl rfl ?_
          obtain ⟨b1, hF⟩ := gGd hF
          refine gx_iaload C (is_X6_pieces A0) b1 (gDec_at D_X6_take 57 rfl) ?_
          refine gx_aload_n C 2 (gDec_at D_X6_take 58 rfl) rfl rfl ?_
          refine gx_iload_n C 1 (gDec_at D_X6_take 59 rfl) rfl rfl ?_
          obtain ⟨v3, hv2, hF⟩ := gBind hF
          refine gx_callSN1 C (st := .ref a2 :: .int (h.1 (a0 + 1) (gN (h.1 a0 2))) :: .int (h.1 a0 2) :: .ref (a0 + 1) :: []) 1 [.int x1] (m_X9_indexOfLetter w h x1 hv2) gX6_take_X9_indexOfLetter_n31 nl_X6_take_31.1 nl_X6_take_31.2.1 nl_X6_take_31.2.2 rfl rfl rfl hy_X9_indexOfLetter (Nat.le_of_ble_eq_true rfl) (Nat.le_of_ble_eq_true rfl) rfl rfl (Nat.le_of_ble_eq_true rfl) (gDec_at D_X6_take 60 rfl) ?_
          obtain ⟨v5, hv4, hF⟩ := gBind hF
          refine gx_callV1 C (st := .int (h.1 (a0 + 1) (gN (h.1 a0 2))) :: .int (h.1 a0 2) :: .ref (a0 + 1) :: []) 1 [.int v3] (m_X5_addArm w h A2 v3 hv4) gX6_take_X5_addArm rfl rfl rfl hy_X5_addArm (Nat.le_of_ble_eq_true rfl) (Nat.le_of_ble_eq_true rfl) (is_X5_sh A2) rfl rfl rfl (Nat.le_of_ble_eq_true rfl) (gDec_at D_X6_take 61 rfl) ?_
          refine gx_ior C (gDec_at D_X6_take 62 rfl) ?_
          obtain ⟨b6, hF⟩ := gGd hF
          refine gx_iastore C (is_X6_pieces A0) b6 (gDec_at D_X6_take 63 rfl) ?_
          obtain rfl := Option.some.inj hF
          exact gx_vret C E (gDec_at D_X6_take 64 rfl)
      · replace hF := gPos c hF
        refine gx_aload_n C 0 (gDec_at D_X6_take 45 rfl) rfl rfl ?_
        refine gx_aload_n C 2 (gDec_at D_X6_take 46 rfl) rfl rfl ?_
        obtain ⟨v8, hv7, hF⟩ := gBind hF
        refine gx_callV0 C (st := []) 1 [.ref a2] (m_X6_endLink w h A0 A2 hv7) gX6_take_X6_endLink rfl rfl rfl hy_X6_endLink (Nat.le_of_ble_eq_true rfl) (Nat.le_of_ble_eq_true rfl) (is_X6_sh A0) rfl rfl rfl (Nat.le_of_ble_eq_true rfl) (gDec_at D_X6_take 47 rfl) ?_
        refine gx_goto C 117 (gDec_at D_X6_take 48 rfl) (by decide) ?_
        obtain rfl := Option.some.inj hF
        exact gx_vret C E (gDec_at D_X6_take 64 rfl)
    · replace hF := gPos c hF
      refine gx_aload_n C 0 (gDec_at D_X6_take 19 rfl) rfl rfl ?_
      refine gx_aload_n C 2 (gDec_at D_X6_take 20 rfl) rfl rfl ?_
      obtain ⟨v10, hv9, hF⟩ := gBind hF
      refine gx_callV1 C (st := []) 1 [.ref a2] (m_X6_endChain w h A0 A2 hv9) gX6_take_X6_endChain rfl rfl rfl hy_X6_endChain (Nat.le_of_ble_eq_true rfl) (Nat.le_of_ble_eq_true rfl) (is_X6_sh A0) rfl rfl rfl (Nat.le_of_ble_eq_true rfl) (gDec_at D_X6_take 21 rfl) ?_
      refine gx_istore_n C (lv' := [(3, .int v10.1), (0, .ref a0), (1, .int x1), (2, .ref a2)]) (gDec_at D_X6_take 22 rfl) rfl (Nat.le_of_ble_eq_true rfl) rfl ?_
      refine gx_aload_n C 1 (gDec_at D_X6_take 23 rfl) rfl rfl ?_
      refine gx_geti C fl_X6_take_18 (is_X6_sh A0) rfl (gDec_at D_X6_take 24 rfl) ?_
      refine gx_if_le C 74 (gDec_at D_X6_take 25 rfl) (by decide) (fun c => ?_) (fun c => ?_)
      · replace hF := gPos c hF
        refine gx_goto C 117 (gDec_at D_X6_take 41 rfl) (by decide) ?_
        obtain rfl := Option.some.inj hF
        exact gx_vret C E (gDec_at D_X6_take 64 rfl)
      · replace hF := gNeg c hF
        refine gx_aload_n C 1 (gDec_at D_X6_take 26 rfl) rfl rfl ?_
        refine gx_dup C (gDec_at D_X6_take 27 rfl) rfl ?_
        refine gx_geti C fl_X6_take_18 (is_X6_sh A0) rfl (gDec_at D_X6_take 28 rfl) ?_
        refine gx_iconst C (v := 1) (gDec_at D_X6_take 29 rfl) (by decide) ?_
        refine gx_isub C (gDec_at D_X6_take 30 rfl) ?_
        refine gx_putI C flw_X6_take_18 (is_X6_sh A0) rfl rfl rfl (gDec_at D_X6_take 31 rfl) ?_
        refine gx_aload_n C 1 (gDec_at D_X6_take 32 rfl) rfl rfl ?_
        refine gx_getr C fl_X6_take_9 (is_X6_sh A0) rfl (gDec_at D_X6_take 33 rfl) ?_
        refine gx_aload_n C 1 (gDec_at D_X6_take 34 rfl) rfl rfl ?_
        refine gx_geti C fl_X6_take_18 (is_X6_sh A0) rfl (gDec_at D_X6_take 35 rfl) ?_
        refine gx_dup2 C (gDec_at D_X6_take 36 rfl) rfl rfl ?_
        obtain ⟨b11, hF⟩ := gGd hF
        refine gx_iaload C (is_X6_pieces A0) b11 (gDec_at D_X6_take 37 rfl) ?_
        refine gx_iload_n C 0 (gDec_at D_X6_take 38 rfl) rfl rfl ?_
        refine gx_ior C (gDec_at D_X6_take 39 rfl) ?_
        obtain ⟨b12, hF⟩ := gGd hF
        refine gx_iastore C (is_X6_pieces A0) b12 (gDec_at D_X6_take 40 rfl) ?_
        refine gx_goto C 117 (gDec_at D_X6_take 41 rfl) (by decide) ?_
        obtain rfl := Option.some.inj hF
        exact gx_vret C E (gDec_at D_X6_take 64 rfl)
  · replace hF := gPos c hF
    refine gx_aload_n C 0 (gDec_at D_X6_take 3 rfl) rfl rfl ?_
    refine gx_geti C fl_X6_take_18 (is_X6_sh A0) rfl (gDec_at D_X6_take 4 rfl) ?_
    refine gx_bipush C (v := 40) (gDec_at D_X6_take 5 rfl) (by decide) ?_
    refine gx_icmp_ge C 117 (gDec_at D_X6_take 6 rfl) (by decide) (fun c => ?_) (fun c => ?_)
    · replace hF := gPos c hF
      obtain rfl := Option.some.inj hF
      exact gx_vret C E (gDec_at D_X6_take 64 rfl)
    · replace hF := gNeg c hF
      refine gx_aload_n C 0 (gDec_at D_X6_take 7 rfl) rfl rfl ?_
      refine gx_dup C (gDec_at D_X6_take 8 rfl) rfl ?_
      refine gx_geti C fl_X6_take_18 (is_X6_sh A0) rfl (gDec_at D_X6_take 9 rfl) ?_
      refine gx_iconst C (v := 1) (gDec_at D_X6_take 10 rfl) (by decide) ?_
      refine gx_iadd C (gDec_at D_X6_take 11 rfl) ?_
      refine gx_putI C flw_X6_take_18 (is_X6_sh A0) rfl rfl rfl (gDec_at D_X6_take 12 rfl) ?_
      refine gx_aload_n C 0 (gDec_at D_X6_take 13 rfl) rfl rfl ?_
      obtain ⟨v14, hv13, hF⟩ := gBind hF
      refine gx_callV0 C (st := []) 0 [] (m_X6_clearDepth w (gsI h a0 2 ((h.1 a0 2) + 1)) A0 hv13) gX6_take_X6_clearDepth rfl rfl rfl hy_X6_clearDepth (Nat.le_of_ble_eq_true rfl) (Nat.le_of_ble_eq_true rfl) (is_X6_sh A0) rfl rfl rfl (Nat.le_of_ble_eq_true rfl) (gDec_at D_X6_take 14 rfl) ?_
      refine gx_goto C 117 (gDec_at D_X6_take 15 rfl) (by decide) ?_
      obtain rfl := Option.some.inj hF
      exact gx_vret C E (gDec_at D_X6_take 64 rfl)
/-! LadderBench$NetworkReader.build -/
def rm_X6_build : Room := { frames := 5, cells := 0, slots := 0, locals := 110 }
set_option maxRecDepth 20000 in
theorem ggX6_build_X5_clear : GoodIn wsX6_build wsX5_clear := goodIn_r _ [8, 9, 10, 60, 61, 62, 63, 64] (by decide +kernel) (by decide +kernel)
set_option maxRecDepth 20000 in
theorem gX6_build_X5_clear : GoodIn wsX6_build (wsV RX6 35 RX5 yX5_clear wsX5_clear) := goodIn_app (goodIn_of _ (by decide +kernel)) ggX6_build_X5_clear
set_option maxRecDepth 20000 in
theorem ggX6_build_X6_clearDepth : GoodIn wsX6_build wsX6_clearDepth := goodIn_r _ [15, 16, 1, 17, 55, 56, 57] (by decide +kernel) (by decide +kernel)
set_option maxRecDepth 20000 in
theorem gX6_build_X6_clearDepth : GoodIn wsX6_build (wsV RX6 40 RX6 yX6_clearDepth wsX6_clearDepth) := goodIn_app (goodIn_of _ (by decide +kernel)) ggX6_build_X6_clearDepth
set_option maxRecDepth 20000 in
theorem ggX6_build_X6_endChain : GoodIn wsX6_build wsX6_endChain := goodIn_r _ [25, 17, 1, 26, 27, 28, 14, 29, 16, 30, 31, 32, 7, 33, 9, 34, 35, 36, 37, 38, 39, 40, 41, 42, 43, 44, 45, 46, 47, 55, 56, 57, 60, 61, 62, 63, 64] (by decide +kernel) (by decide +kernel)
set_option maxRecDepth 20000 in
theorem gX6_build_X6_endChain : GoodIn wsX6_build (wsV RX6 47 RX6 yX6_endChain wsX6_endChain) := goodIn_app (goodIn_of _ (by decide +kernel)) ggX6_build_X6_endChain
set_option maxRecDepth 20000 in
theorem ggX6_build_X6_take : GoodIn wsX6_build wsX6_take := goodIn_r _ [21, 1, 16, 11, 12, 13, 14, 15, 17, 22, 23, 24, 25, 26, 27, 28, 29, 30, 31, 32, 7, 33, 9, 34, 35, 36, 37, 38, 39, 40, 41, 42, 43, 44, 45, 46, 47, 48, 49, 50, 51, 52, 53, 54, 10, 55, 56, 57, 60, 61, 62, 63, 64] (by decide +kernel) (by decide +kernel)
set_option maxRecDepth 20000 in
theorem gX6_build_X6_take : GoodIn wsX6_build (wsV RX6 43 RX6 yX6_take wsX6_take) := goodIn_app (goodIn_of _ (by decide +kernel)) ggX6_build_X6_take
theorem hy_X6_build : yX6_build.cls = RX6 ∧ yX6_build.cls ≠ "java/lang/invoke/MethodHandle" ∧ yX6_build.cls ≠ "java/lang/invoke/VarHandle" ∧ (parseMethodDescriptor yX6_build.desc).map (fun d => d.parameters.length) = some 2 := by decide +kernel
set_option maxRecDepth 100000 in
theorem D_X6_build : gDec cX6_build [(0, (.aload_n 2, 1)), (1, (.invokevirtual 35, 3)), (4, (.aload_n 0, 1)), (5, (.iconst 0, 1)), (6, (.putfield 18, 3)), (9, (.aload_n 0, 1)), (10, (.invokevirtual 40, 3)), (13, (.iconst 0, 1)), (14, (.istore_n 3, 1)), (15, (.iload_n 3, 1)), (16, (.aload_n 1, 1)), (17, (.getfield 22, 3)), (20, (.if_icmp .ge 20, 3)), (23, (.aload_n 0, 1)), (24, (.aload_n 1, 1)), (25, (.getfield 27, 3)), (28, (.iload_n 3, 1)), (29, (.caload, 1)), (30, (.aload_n 2, 1)), (31, (.invokevirtual 43, 3)), (34, (.iinc 3 1, 3)), (37, (.goto (-22), 3)), (40, (.aload_n 0, 1)), (41, (.aload_n 2, 1)), (42, (.invokevirtual 47, 3)), (45, (.pop, 1)), (46, (.return_, 1))] = true := by decide +kernel
set_option maxRecDepth 100000 in
theorem in_X6_build_X4 : ∀ x ∈ u_ws RX4 TX4 2, x ∈ wsX6_build := by decide +kernel
set_option maxRecDepth 100000 in
theorem in_X6_build_X6 : ∀ x ∈ u_ws RX6 TX6 3, x ∈ wsX6_build := by decide +kernel
theorem flw_X6_build_18 : gFw wsX6_build RX6 18 6 2 .int := ⟨RX6, TX6, 3, tyX6, rfl, by decide, in_X6_build_X6, by decide +kernel, tyX6_ok, nmX6, rfl, by decide +kernel⟩
theorem fl_X6_build_22 : gF wsX6_build RX6 22 4 1 := ⟨RX4, TX4, 2, rfl, by decide, in_X6_build_X4, by decide +kernel⟩
theorem fl_X6_build_27 : gF wsX6_build RX6 27 4 0 := ⟨RX4, TX4, 2, rfl, by decide, in_X6_build_X4, by decide +kernel⟩
def f_X6_build_15 (a0 : Nat) (a1 : Nat) (a2 : Nat) : Nat → Int32 → gHp → Option (gHp)
  | 0, _, _ => none
  | n + 1, x3, h => if (h.1 a1 1) ≤ x3 then some h else if gIn x3 40 then (f_X6_take a0 (h.1 (a1 + 1) (gN x3)) a2 h).bind fun v7 => f_X6_build_15 a0 a1 a2 n (x3 + 1) v7 else none
set_option maxRecDepth 20000 in
set_option maxHeartbeats 4000000 in
theorem w_X6_build_15 {w : gWd} {g : gCx} (C : gC w g cX6_build wsX6_build RX6 4 5 110) {a0 : Nat} (A0 : is_X6 w a0) {a1 : Nat} (A1 : is_X4 w a1) {a2 : Nat} (A2 : is_X5 w a2)  {o : gHp} (hk : gX w g 4 o 40 [(0, .ref a0), (2, .ref a2)] []) : ∀ (n : Nat) (x3 : Int32) (h : gHp), f_X6_build_15 a0 a1 a2 n x3 h = some o → gX w g 4 h 15 [(0, .ref a0), (1, .ref a1), (2, .ref a2), (3, .int x3)] [] := by
  intro n
  induction n with
  | zero => intro _ _ hF; cases hF
  | succ n ih =>
    intro x3 h hF
    rw [f_X6_build_15] at hF
    refine gx_iload_n C 3 (gDec_at D_X6_build 9 rfl) rfl rfl ?_
    refine gx_aload_n C 1 (gDec_at D_X6_build 10 rfl) rfl rfl ?_
    refine gx_geti C fl_X6_build_22 (is_X4_sh A1) rfl (gDec_at D_X6_build 11 rfl) ?_
    refine gx_icmp_ge C 40 (gDec_at D_X6_build 12 rfl) (by decide) (fun c => ?_) (fun c => ?_)
    · replace hF := gPos c hF
      obtain rfl := Option.some.inj hF
      exact gx_sub [0, 2] rfl hk
    · replace hF := gNeg c hF
      refine gx_aload_n C 0 (gDec_at D_X6_build 13 rfl) rfl rfl ?_
      refine gx_aload_n C 1 (gDec_at D_X6_build 14 rfl) rfl rfl ?_
      refine gx_getr C fl_X6_build_27 (is_X4_sh A1) rfl (gDec_at D_X6_build 15 rfl) ?_
      refine gx_iload_n C 3 (gDec_at D_X6_build 16 rfl) rfl rfl ?_
      obtain ⟨b5, hF⟩ := gGd hF
      refine gx_caload C (is_X4_characters A1) b5 (gDec_at D_X6_build 17 rfl) ?_
      refine gx_aload_n C 2 (gDec_at D_X6_build 18 rfl) rfl rfl ?_
      obtain ⟨v7, hv6, hF⟩ := gBind hF
      refine gx_callV0 C (st := []) 2 [.int (h.1 (a1 + 1) (gN x3)), .ref a2] (m_X6_take w h A0 (h.1 (a1 + 1) (gN x3)) A2 hv6) gX6_build_X6_take rfl rfl rfl hy_X6_take (Nat.le_of_ble_eq_true rfl) (Nat.le_of_ble_eq_true rfl) (is_X6_sh A0) rfl rfl rfl (Nat.le_of_ble_eq_true rfl) (gDec_at D_X6_build 19 rfl) ?_
      refine gx_iinc C (j := 3) (v := x3 + 1) (lv' := [(3, .int (x3 + 1)), (0, .ref a0), (1, .ref a1), (2, .ref a2)]) (gDec_at D_X6_build 20 rfl) rfl (by rfl) (Nat.le_of_ble_eq_true rfl) rfl ?_
      refine gx_goto C 15 (gDec_at D_X6_build 21 rfl) (by decide) ?_
      exact gx_sub [1, 2, 3, 0] rfl (ih (x3 + 1) v7 hF)
def f_X6_build (a0 : Nat) (a1 : Nat) (a2 : Nat) (h : gHp) : Option (gHp) := (f_X5_clear a2 h).bind fun v2 => (f_X6_clearDepth a0 (gsI v2 a0 2 0)).bind fun v4 => (f_X6_build_15 a0 a1 a2 gFuel 0 v4).bind fun v8 => (f_X6_endChain a0 a2 v8).bind fun v12 => some v12.2
set_option maxRecDepth 20000 in
set_option maxHeartbeats 4000000 in
theorem m_X6_build (w : gWd) (h : gHp) {a0 : Nat} (A0 : is_X6 w a0) {a1 : Nat} (A1 : is_X4 w a1) {a2 : Nat} (A2 : is_X5 w a2) {o : gHp} (hF : f_X6_build a0 a1 a2 h = some o) : gMet w yX6_build wsX6_build rm_X6_build [.ref a0, .ref a1, .ref a2] h (none) o := by
  refine gMet_of (cc := cX6_build) (maxL := 4) (ret := none) (fr := 5) (lo := 110) (own := RX6) [(0, .ref a0), (1, .ref a1), (2, .ref a2)] (by decide) rfl rfl (Nat.le_of_ble_eq_true rfl) rfl (Nat.le_refl _) (Nat.le_refl _) (fun g C E => ?_)
  rw [f_X6_build] at hF
  refine gx_aload_n C 2 (gDec_at D_X6_build 0 rfl) rfl rfl ?_
  obtain ⟨v2, hv1, hF⟩ := gBind hF
  refine gx_callV0 C (st := []) 0 [] (m_X5_clear w h A2 hv1) gX6_build_X5_clear rfl rfl rfl hy_X5_clear (Nat.le_of_ble_eq_true rfl) (Nat.le_of_ble_eq_true rfl) (is_X5_sh A2) rfl rfl rfl (Nat.le_of_ble_eq_true rfl) (gDec_at D_X6_build 1 rfl) ?_
  refine gx_aload_n C 0 (gDec_at D_X6_build 2 rfl) rfl rfl ?_
  refine gx_iconst C (v := 0) (gDec_at D_X6_build 3 rfl) (by decide) ?_
  refine gx_putI C flw_X6_build_18 (is_X6_sh A0) rfl rfl rfl (gDec_at D_X6_build 4 rfl) ?_
  refine gx_aload_n C 0 (gDec_at D_X6_build 5 rfl) rfl rfl ?_
  obtain ⟨v4, hv3, hF⟩ := gBind hF
  refine gx_callV0 C (st := []) 0 [] (m_X6_clearDepth w (gsI v2 a0 2 0) A0 hv3) gX6_build_X6_clearDepth rfl rfl rfl hy_X6_clearDepth (Nat.le_of_ble_eq_true rfl) (Nat.le_of_ble_eq_true rfl) (is_X6_sh A0) rfl rfl rfl (Nat.le_of_ble_eq_true rfl) (gDec_at D_X6_build 6 rfl) ?_
  refine gx_iconst C (v := 0) (gDec_at D_X6_build 7 rfl) (by decide) ?_
  refine gx_istore_n C (lv' := [(3, .int 0), (0, .ref a0), (1, .ref a1), (2, .ref a2)]) (gDec_at D_X6_build 8 rfl) rfl (Nat.le_of_ble_eq_true rfl) rfl ?_
  obtain ⟨v8, hv9, hF⟩ := gBind hF
  have k10 : gX w g 4 v8 40 [(0, .ref a0), (2, .ref a2)] [] := by
    refine gx_aload_n C 0 (gDec_at D_X6_build 22 rfl) rfl rfl ?_
    refine gx_aload_n C 1 (gDec_at D_X6_build 23 rfl) rfl rfl ?_
    obtain ⟨v12, hv11, hF⟩ := gBind hF
    refine gx_callV1 C (st := []) 1 [.ref a2] (m_X6_endChain w v8 A0 A2 hv11) gX6_build_X6_endChain rfl rfl rfl hy_X6_endChain (Nat.le_of_ble_eq_true rfl) (Nat.le_of_ble_eq_true rfl) (is_X6_sh A0) rfl rfl rfl (Nat.le_of_ble_eq_true rfl) (gDec_at D_X6_build 24 rfl) ?_
    refine gx_pop C (gDec_at D_X6_build 25 rfl) rfl ?_
    obtain rfl := Option.some.inj hF
    exact gx_vret C E (gDec_at D_X6_build 26 rfl)
  exact gx_sub [1, 2, 3, 0] rfl (w_X6_build_15 C A0 A1 A2 k10 gFuel 0 v4 hv9)
