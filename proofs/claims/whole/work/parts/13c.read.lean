/-! LadderBench$Command.isDoneIn -/
def rm_X1_isDoneIn : Room := { frames := 0, cells := 0, slots := 0, locals := 0 }
theorem hy_X1_isDoneIn : yX1_isDoneIn.cls = RX1 ∧ yX1_isDoneIn.cls ≠ "java/lang/invoke/MethodHandle" ∧ yX1_isDoneIn.cls ≠ "java/lang/invoke/VarHandle" ∧ (parseMethodDescriptor yX1_isDoneIn.desc).map (fun d => d.parameters.length) = some 1 := by decide +kernel
set_option maxRecDepth 100000 in
theorem D_X1_isDoneIn : gDec cX1_isDoneIn [(0, (.aload_n 0, 1)), (1, (.getfield 9, 3)), (4, (.tableswitch 131 0 4 #[36, 58, 77, 96, 114], 36)), (40, (.aload_n 1, 1)), (41, (.getfield 74, 3)), (44, (.aload_n 0, 1)), (45, (.getfield 18, 3)), (48, (.iaload, 1)), (49, (.aload_n 0, 1)), (50, (.getfield 15, 3)), (53, (.if_icmp .ne 7, 3)), (56, (.iconst 1, 1)), (57, (.goto 4, 3)), (60, (.iconst 0, 1)), (61, (.ireturn, 1)), (62, (.aload_n 1, 1)), (63, (.getfield 80, 3)), (66, (.aload_n 0, 1)), (67, (.getfield 18, 3)), (70, (.iaload, 1)), (71, (.iconst 1, 1)), (72, (.if_icmp .ne 7, 3)), (75, (.iconst 1, 1)), (76, (.goto 4, 3)), (79, (.iconst 0, 1)), (80, (.ireturn, 1)), (81, (.aload_n 1, 1)), (82, (.getfield 80, 3)), (85, (.aload_n 0, 1)), (86, (.getfield 18, 3)), (89, (.iaload, 1)), (90, (.iconst 2, 1)), (91, (.if_icmp .ne 7, 3)), (94, (.iconst 1, 1)), (95, (.goto 4, 3)), (98, (.iconst 0, 1)), (99, (.ireturn, 1)), (100, (.aload_n 1, 1)), (101, (.getfield 80, 3)), (104, (.aload_n 0, 1)), (105, (.getfield 18, 3)), (108, (.iaload, 1)), (109, (.ifCond .ne 7, 3)), (112, (.iconst 1, 1)), (113, (.goto 4, 3)), (116, (.iconst 0, 1)), (117, (.ireturn, 1)), (118, (.aload_n 1, 1)), (119, (.getfield 83, 3)), (122, (.aload_n 0, 1)), (123, (.getfield 15, 3)), (126, (.if_icmp .ne 7, 3)), (129, (.iconst 1, 1)), (130, (.goto 4, 3)), (133, (.iconst 0, 1)), (134, (.ireturn, 1)), (135, (.aload_n 1, 1)), (136, (.getfield 85, 3)), (139, (.aload_n 0, 1)), (140, (.getfield 15, 3)), (143, (.if_icmp .ne 7, 3)), (146, (.iconst 1, 1)), (147, (.goto 4, 3)), (150, (.iconst 0, 1)), (151, (.ireturn, 1))] = true := by decide +kernel
set_option maxRecDepth 100000 in
theorem in_X1_isDoneIn_X1 : ∀ x ∈ u_ws RX1 TX1 3, x ∈ wsX1_isDoneIn := by decide +kernel
set_option maxRecDepth 100000 in
theorem in_X1_isDoneIn_X8 : ∀ x ∈ u_ws RX8 TX8 8, x ∈ wsX1_isDoneIn := by decide +kernel
theorem fl_X1_isDoneIn_9 : gF wsX1_isDoneIn RX1 9 1 0 := ⟨RX1, TX1, 3, rfl, by decide, in_X1_isDoneIn_X1, by decide +kernel⟩
theorem fl_X1_isDoneIn_74 : gF wsX1_isDoneIn RX1 74 8 2 := ⟨RX8, TX8, 8, rfl, by decide, in_X1_isDoneIn_X8, by decide +kernel⟩
theorem fl_X1_isDoneIn_18 : gF wsX1_isDoneIn RX1 18 1 2 := ⟨RX1, TX1, 3, rfl, by decide, in_X1_isDoneIn_X1, by decide +kernel⟩
theorem fl_X1_isDoneIn_15 : gF wsX1_isDoneIn RX1 15 1 1 := ⟨RX1, TX1, 3, rfl, by decide, in_X1_isDoneIn_X1, by decide +kernel⟩
theorem fl_X1_isDoneIn_80 : gF wsX1_isDoneIn RX1 80 8 3 := ⟨RX8, TX8, 8, rfl, by decide, in_X1_isDoneIn_X8, by decide +kernel⟩
theorem fl_X1_isDoneIn_83 : gF wsX1_isDoneIn RX1 83 8 5 := ⟨RX8, TX8, 8, rfl, by decide, in_X1_isDoneIn_X8, by decide +kernel⟩
theorem fl_X1_isDoneIn_85 : gF wsX1_isDoneIn RX1 85 8 6 := ⟨RX8, TX8, 8, rfl, by decide, in_X1_isDoneIn_X8, by decide +kernel⟩
def f_X1_isDoneIn (a0 : Nat) (a1 : Nat) (h : gHp) : Option (Bool) := if (h.1 a0 0) = 0 then if gIn (h.1 a0 2) 6 then if (h.1 (a1 + 10) (gN (h.1 a0 2))) = (h.1 a0 1) then some true else some false else none else if (h.1 a0 0) = 1 then if gIn (h.1 a0 2) 6 then if (h.1 (a1 + 11) (gN (h.1 a0 2))) = 1 then some true else some false else none else if (h.1 a0 0) = 2 then if gIn (h.1 a0 2) 6 then if (h.1 (a1 + 11) (gN (h.1 a0 2))) = 2 then some true else some false else none else if (h.1 a0 0) = 3 then if gIn (h.1 a0 2) 6 then if (h.1 (a1 + 11) (gN (h.1 a0 2))) = 0 then some true else some false else none else if (h.1 a0 0) = 4 then if (h.1 a1 5) = (h.1 a0 1) then some true else some false else if (h.1 a1 6) = (h.1 a0 1) then some true else some false
set_option maxRecDepth 20000 in
set_option maxHeartbeats 4000000 in
theorem m_X1_isDoneIn (w : gWd) (h : gHp) {a0 : Nat} (A0 : is_X1 w a0) {a1 : Nat} (A1 : is_X8 w a1) {o : Bool} (hF : f_X1_isDoneIn a0 a1 h = some o) : gMet w yX1_isDoneIn wsX1_isDoneIn rm_X1_isDoneIn [.ref a0, .ref a1] h (some (.int (gZ o))) h := by
  refine gMet_of (cc := cX1_isDoneIn) (maxL := 2) (ret := (some .boolean)) (fr := 0) (lo := 0) (own := RX1) [(0, .ref a0), (1, .ref a1)] (by decide) rfl rfl (Nat.le_of_ble_eq_true rfl) rfl (Nat.le_refl _) (Nat.le_refl _) (fun g C E => ?_)
  rw [f_X1_isDoneIn] at hF
  refine gx_aload_n C 0 (gDec_at D_X1_isDoneIn 0 rfl) rfl rfl ?_
  refine gx_geti C fl_X1_isDoneIn_9 (is_X1_sh A0) rfl (gDec_at D_X1_isDoneIn 1 rfl) ?_
  by_cases c0 : (h.1 a0 0) = 0
  · replace hF := gPos c0 hF
    refine gx_tableIn C 40 (gDec_at D_X1_isDoneIn 2 rfl) (by rw [c0]; decide) (by rw [c0]; decide) (by rw [c0]; rfl) (by decide) ?_
    refine gx_aload_n C 1 (gDec_at D_X1_isDoneIn 3 rfl) rfl rfl ?_
    refine gx_getr C fl_X1_isDoneIn_74 (is_X8_sh A1) rfl (gDec_at D_X1_isDoneIn 4 rfl) ?_
    refine gx_aload_n C 0 (gDec_at D_X1_isDoneIn 5 rfl) rfl rfl ?_
    refine gx_geti C fl_X1_isDoneIn_18 (is_X1_sh A0) rfl (gDec_at D_X1_isDoneIn 6 rfl) ?_
    obtain ⟨b1, hF⟩ := gGd hF
    refine gx_iaload C (is_X8_armValue A1) b1 (gDec_at D_X1_isDoneIn 7 rfl) ?_
    refine gx_aload_n C 0 (gDec_at D_X1_isDoneIn 8 rfl) rfl rfl ?_
    refine gx_geti C fl_X1_isDoneIn_15 (is_X1_sh A0) rfl (gDec_at D_X1_isDoneIn 9 rfl) ?_
    refine gx_icmp_ne C 60 (gDec_at D_X1_isDoneIn 10 rfl) (by decide) (fun c => ?_) (fun c => ?_)
    · replace hF := gNeg c hF
      refine gx_iconst C (v := 0) (gDec_at D_X1_isDoneIn 13 rfl) (by decide) ?_
      obtain rfl := Option.some.inj hF
      exact gx_zret (b := false) C E (gDec_at D_X1_isDoneIn 14 rfl)
    · replace hF := gPos c hF
      refine gx_iconst C (v := 1) (gDec_at D_X1_isDoneIn 11 rfl) (by decide) ?_
      refine gx_goto C 61 (gDec_at D_X1_isDoneIn 12 rfl) (by decide) ?_
      obtain rfl := Option.some.inj hF
      exact gx_zret (b := true) C E (gDec_at D_X1_isDoneIn 14 rfl)
  replace hF := gNeg c0 hF
  by_cases c1 : (h.1 a0 0) = 1
  · replace hF := gPos c1 hF
    refine gx_tableIn C 62 (gDec_at D_X1_isDoneIn 2 rfl) (by rw [c1]; decide) (by rw [c1]; decide) (by rw [c1]; rfl) (by decide) ?_
    refine gx_aload_n C 1 (gDec_at D_X1_isDoneIn 15 rfl) rfl rfl ?_
    refine gx_getr C fl_X1_isDoneIn_80 (is_X8_sh A1) rfl (gDec_at D_X1_isDoneIn 16 rfl) ?_
    refine gx_aload_n C 0 (gDec_at D_X1_isDoneIn 17 rfl) rfl rfl ?_
    refine gx_geti C fl_X1_isDoneIn_18 (is_X1_sh A0) rfl (gDec_at D_X1_isDoneIn 18 rfl) ?_
    obtain ⟨b2, hF⟩ := gGd hF
    refine gx_iaload C (is_X8_armState A1) b2 (gDec_at D_X1_isDoneIn 19 rfl) ?_
    refine gx_iconst C (v := 1) (gDec_at D_X1_isDoneIn 20 rfl) (by decide) ?_
    refine gx_icmp_ne C 79 (gDec_at D_X1_isDoneIn 21 rfl) (by decide) (fun c => ?_) (fun c => ?_)
    · replace hF := gNeg c hF
      refine gx_iconst C (v := 0) (gDec_at D_X1_isDoneIn 24 rfl) (by decide) ?_
      obtain rfl := Option.some.inj hF
      exact gx_zret (b := false) C E (gDec_at D_X1_isDoneIn 25 rfl)
    · replace hF := gPos c hF
      refine gx_iconst C (v := 1) (gDec_at D_X1_isDoneIn 22 rfl) (by decide) ?_
      refine gx_goto C 80 (gDec_at D_X1_isDoneIn 23 rfl) (by decide) ?_
      obtain rfl := Option.some.inj hF
      exact gx_zret (b := true) C E (gDec_at D_X1_isDoneIn 25 rfl)
  replace hF := gNeg c1 hF
  by_cases c2 : (h.1 a0 0) = 2
  · replace hF := gPos c2 hF
    refine gx_tableIn C 81 (gDec_at D_X1_isDoneIn 2 rfl) (by rw [c2]; decide) (by rw [c2]; decide) (by rw [c2]; rfl) (by decide) ?_
    refine gx_aload_n C 1 (gDec_at D_X1_isDoneIn 26 rfl) rfl rfl ?_
    refine gx_getr C fl_X1_isDoneIn_80 (is_X8_sh A1) rfl (gDec_at D_X1_isDoneIn 27 rfl) ?_
    refine gx_aload_n C 0 (gDec_at D_X1_isDoneIn 28 rfl) rfl rfl ?_
    refine gx_geti C fl_X1_isDoneIn_18 (is_X1_sh A0) rfl (gDec_at D_X1_isDoneIn 29 rfl) ?_
    obtain ⟨b3, hF⟩ := gGd hF
    refine gx_iaload C (is_X8_armState A1) b3 (gDec_at D_X1_isDoneIn 30 rfl) ?_
    refine gx_iconst C (v := 2) (gDec_at D_X1_isDoneIn 31 rfl) (by decide) ?_
    refine gx_icmp_ne C 98 (gDec_at D_X1_isDoneIn 32 rfl) (by decide) (fun c => ?_) (fun c => ?_)
    · replace hF := gNeg c hF
      refine gx_iconst C (v := 0) (gDec_at D_X1_isDoneIn 35 rfl) (by decide) ?_
      obtain rfl := Option.some.inj hF
      exact gx_zret (b := false) C E (gDec_at D_X1_isDoneIn 36 rfl)
    · replace hF := gPos c hF
      refine gx_iconst C (v := 1) (gDec_at D_X1_isDoneIn 33 rfl) (by decide) ?_
      refine gx_goto C 99 (gDec_at D_X1_isDoneIn 34 rfl) (by decide) ?_
      obtain rfl := Option.some.inj hF
      exact gx_zret (b := true) C E (gDec_at D_X1_isDoneIn 36 rfl)
  replace hF := gNeg c2 hF
  by_cases c3 : (h.1 a0 0) = 3
  · replace hF := gPos c3 hF
    refine gx_tableIn C 100 (gDec_at D_X1_isDoneIn 2 rfl) (by rw [c3]; decide) (by rw [c3]; decide) (by rw [c3]; rfl) (by decide) ?_
    refine gx_aload_n C 1 (gDec_at D_X1_isDoneIn 37 rfl) rfl rfl ?_
    refine gx_getr C fl_X1_isDoneIn_80 (is_X8_sh A1) rfl (gDec_at D_X1_isDoneIn 38 rfl) ?_
    refine gx_aload_n C 0 (gDec_at D_X1_isDoneIn 39 rfl) rfl rfl ?_
    refine gx_geti C fl_X1_isDoneIn_18 (is_X1_sh A0) rfl (gDec_at D_X1_isDoneIn 40 rfl) ?_
    obtain ⟨b4, hF⟩ := gGd hF
    refine gx_iaload C (is_X8_armState A1) b4 (gDec_at D_X1_isDoneIn 41 rfl) ?_
    refine gx_if_ne C 116 (gDec_at D_X1_isDoneIn 42 rfl) (by decide) (fun c => ?_) (fun c => ?_)
    · replace hF := gNeg c hF
      refine gx_iconst C (v := 0) (gDec_at D_X1_isDoneIn 45 rfl) (by decide) ?_
      obtain rfl := Option.some.inj hF
      exact gx_zret (b := false) C E (gDec_at D_X1_isDoneIn 46 rfl)
    · replace hF := gPos c hF
      refine gx_iconst C (v := 1) (gDec_at D_X1_isDoneIn 43 rfl) (by decide) ?_
      refine gx_goto C 117 (gDec_at D_X1_isDoneIn 44 rfl) (by decide) ?_
      obtain rfl := Option.some.inj hF
      exact gx_zret (b := true) C E (gDec_at D_X1_isDoneIn 46 rfl)
  replace hF := gNeg c3 hF
  by_cases c4 : (h.1 a0 0) = 4
  · replace hF := gPos c4 hF
    refine gx_tableIn C 118 (gDec_at D_X1_isDoneIn 2 rfl) (by rw [c4]; decide) (by rw [c4]; decide) (by rw [c4]; rfl) (by decide) ?_
    refine gx_aload_n C 1 (gDec_at D_X1_isDoneIn 47 rfl) rfl rfl ?_
    refine gx_geti C fl_X1_isDoneIn_83 (is_X8_sh A1) rfl (gDec_at D_X1_isDoneIn 48 rfl) ?_
    refine gx_aload_n C 0 (gDec_at D_X1_isDoneIn 49 rfl) rfl rfl ?_
    refine gx_geti C fl_X1_isDoneIn_15 (is_X1_sh A0) rfl (gDec_at D_X1_isDoneIn 50 rfl) ?_
    refine gx_icmp_ne C 133 (gDec_at D_X1_isDoneIn 51 rfl) (by decide) (fun c => ?_) (fun c => ?_)
    · replace hF := gNeg c hF
      refine gx_iconst C (v := 0) (gDec_at D_X1_isDoneIn 54 rfl) (by decide) ?_
      obtain rfl := Option.some.inj hF
      exact gx_zret (b := false) C E (gDec_at D_X1_isDoneIn 55 rfl)
    · replace hF := gPos c hF
      refine gx_iconst C (v := 1) (gDec_at D_X1_isDoneIn 52 rfl) (by decide) ?_
      refine gx_goto C 134 (gDec_at D_X1_isDoneIn 53 rfl) (by decide) ?_
      obtain rfl := Option.some.inj hF
      exact gx_zret (b := true) C E (gDec_at D_X1_isDoneIn 55 rfl)
  replace hF := gNeg c4 hF
  refine gx_tableOut C 135 (gDec_at D_X1_isDoneIn 2 rfl) (gSw _ 4 (by decide) (fun k hk => match k, hk with | 0, _ => c0 | 1, _ => c1 | 2, _ => c2 | 3, _ => c3 | 4, _ => c4 | k + 5, hk => absurd hk (by omega))) (by decide) ?_
  refine gx_aload_n C 1 (gDec_at D_X1_isDoneIn 56 rfl) rfl rfl ?_
  refine gx_geti C fl_X1_isDoneIn_85 (is_X8_sh A1) rfl (gDec_at D_X1_isDoneIn 57 rfl) ?_
  refine gx_aload_n C 0 (gDec_at D_X1_isDoneIn 58 rfl) rfl rfl ?_
  refine gx_geti C fl_X1_isDoneIn_15 (is_X1_sh A0) rfl (gDec_at D_X1_isDoneIn 59 rfl) ?_
  refine gx_icmp_ne C 150 (gDec_at D_X1_isDoneIn 60 rfl) (by decide) (fun c => ?_) (fun c => ?_)
  · replace hF := gNeg c hF
    refine gx_iconst C (v := 0) (gDec_at D_X1_isDoneIn 63 rfl) (by decide) ?_
    obtain rfl := Option.some.inj hF
    exact gx_zret (b := false) C E (gDec_at D_X1_isDoneIn 64 rfl)
  · replace hF := gPos c hF
    refine gx_iconst C (v := 1) (gDec_at D_X1_isDoneIn 61 rfl) (by decide) ?_
    refine gx_goto C 151 (gDec_at D_X1_isDoneIn 62 rfl) (by decide) ?_
    obtain rfl := Option.some.inj hF
    exact gx_zret (b := true) C E (gDec_at D_X1_isDoneIn 64 rfl)
/-! LadderBench$Command.changeIn -/
def rm_X1_changeIn : Room := { frames := 2, cells := 0, slots := 0, locals := 44 }
set_option maxRecDepth 20000 in
theorem ggX1_changeIn_X8_setArm : GoodIn wsX1_changeIn wsX8_setArm := goodIn_r _ [12, 13, 14, 15, 16, 17, 11, 18, 19, 20, 21, 22, 26, 27, 28, 29, 30, 31, 32, 33, 34, 35, 36, 37, 38] (by decide +kernel) (by decide +kernel)
set_option maxRecDepth 20000 in
theorem gX1_changeIn_X8_setArm : GoodIn wsX1_changeIn (wsV RX1 87 RX8 yX8_setArm wsX8_setArm) := goodIn_app (goodIn_of _ (by decide +kernel)) ggX1_changeIn_X8_setArm
theorem hy_X1_changeIn : yX1_changeIn.cls = RX1 ∧ yX1_changeIn.cls ≠ "java/lang/invoke/MethodHandle" ∧ yX1_changeIn.cls ≠ "java/lang/invoke/VarHandle" ∧ (parseMethodDescriptor yX1_changeIn.desc).map (fun d => d.parameters.length) = some 1 := by decide +kernel
set_option maxRecDepth 100000 in
theorem D_X1_changeIn : gDec cX1_changeIn [(0, (.aload_n 0, 1)), (1, (.getfield 9, 3)), (4, (.tableswitch 134 0 4 #[36, 60, 81, 102, 123], 36)), (40, (.aload_n 1, 1)), (41, (.aload_n 0, 1)), (42, (.getfield 18, 3)), (45, (.aload_n 0, 1)), (46, (.getfield 15, 3)), (49, (.aload_n 1, 1)), (50, (.getfield 80, 3)), (53, (.aload_n 0, 1)), (54, (.getfield 18, 3)), (57, (.iaload, 1)), (58, (.invokevirtual 87, 3)), (61, (.goto 85, 3)), (64, (.aload_n 1, 1)), (65, (.aload_n 0, 1)), (66, (.getfield 18, 3)), (69, (.aload_n 1, 1)), (70, (.getfield 74, 3)), (73, (.aload_n 0, 1)), (74, (.getfield 18, 3)), (77, (.iaload, 1)), (78, (.iconst 1, 1)), (79, (.invokevirtual 87, 3)), (82, (.goto 64, 3)), (85, (.aload_n 1, 1)), (86, (.aload_n 0, 1)), (87, (.getfield 18, 3)), (90, (.aload_n 1, 1)), (91, (.getfield 74, 3)), (94, (.aload_n 0, 1)), (95, (.getfield 18, 3)), (98, (.iaload, 1)), (99, (.iconst 2, 1)), (100, (.invokevirtual 87, 3)), (103, (.goto 43, 3)), (106, (.aload_n 1, 1)), (107, (.aload_n 0, 1)), (108, (.getfield 18, 3)), (111, (.aload_n 1, 1)), (112, (.getfield 74, 3)), (115, (.aload_n 0, 1)), (116, (.getfield 18, 3)), (119, (.iaload, 1)), (120, (.iconst 0, 1)), (121, (.invokevirtual 87, 3)), (124, (.goto 22, 3)), (127, (.aload_n 1, 1)), (128, (.aload_n 0, 1)), (129, (.getfield 15, 3)), (132, (.putfield 83, 3)), (135, (.goto 11, 3)), (138, (.aload_n 1, 1)), (139, (.aload_n 0, 1)), (140, (.getfield 15, 3)), (143, (.putfield 85, 3)), (146, (.return_, 1))] = true := by decide +kernel
set_option maxRecDepth 100000 in
theorem in_X1_changeIn_X1 : ∀ x ∈ u_ws RX1 TX1 3, x ∈ wsX1_changeIn := by decide +kernel
set_option maxRecDepth 100000 in
theorem in_X1_changeIn_X8 : ∀ x ∈ u_ws RX8 TX8 8, x ∈ wsX1_changeIn := by decide +kernel
theorem fl_X1_changeIn_9 : gF wsX1_changeIn RX1 9 1 0 := ⟨RX1, TX1, 3, rfl, by decide, in_X1_changeIn_X1, by decide +kernel⟩
theorem fl_X1_changeIn_18 : gF wsX1_changeIn RX1 18 1 2 := ⟨RX1, TX1, 3, rfl, by decide, in_X1_changeIn_X1, by decide +kernel⟩
theorem fl_X1_changeIn_15 : gF wsX1_changeIn RX1 15 1 1 := ⟨RX1, TX1, 3, rfl, by decide, in_X1_changeIn_X1, by decide +kernel⟩
theorem fl_X1_changeIn_80 : gF wsX1_changeIn RX1 80 8 3 := ⟨RX8, TX8, 8, rfl, by decide, in_X1_changeIn_X8, by decide +kernel⟩
theorem fl_X1_changeIn_74 : gF wsX1_changeIn RX1 74 8 2 := ⟨RX8, TX8, 8, rfl, by decide, in_X1_changeIn_X8, by decide +kernel⟩
theorem flw_X1_changeIn_83 : gFw wsX1_changeIn RX1 83 8 5 .int := ⟨RX8, TX8, 8, tyX8, rfl, by decide, in_X1_changeIn_X8, by decide +kernel, tyX8_ok, nmX8, rfl, by decide +kernel⟩
theorem flw_X1_changeIn_85 : gFw wsX1_changeIn RX1 85 8 6 .int := ⟨RX8, TX8, 8, tyX8, rfl, by decide, in_X1_changeIn_X8, by decide +kernel, tyX8_ok, nmX8, rfl, by decide +kernel⟩
def f_X1_changeIn (a0 : Nat) (a1 : Nat) (h : gHp) : Option (gHp) := if (h.1 a0 0) = 0 then if gIn (h.1 a0 2) 6 then (f_X8_setArm a1 (h.1 a0 2) (h.1 a0 1) (h.1 (a1 + 11) (gN (h.1 a0 2))) h).bind fun v3 => some v3 else none else if (h.1 a0 0) = 1 then if gIn (h.1 a0 2) 6 then (f_X8_setArm a1 (h.1 a0 2) (h.1 (a1 + 10) (gN (h.1 a0 2))) 1 h).bind fun v6 => some v6 else none else if (h.1 a0 0) = 2 then if gIn (h.1 a0 2) 6 then (f_X8_setArm a1 (h.1 a0 2) (h.1 (a1 + 10) (gN (h.1 a0 2))) 2 h).bind fun v9 => some v9 else none else if (h.1 a0 0) = 3 then if gIn (h.1 a0 2) 6 then (f_X8_setArm a1 (h.1 a0 2) (h.1 (a1 + 10) (gN (h.1 a0 2))) 0 h).bind fun v12 => some v12 else none else if (h.1 a0 0) = 4 then some (gsI h a1 5 (h.1 a0 1)) else some (gsI h a1 6 (h.1 a0 1))
set_option maxRecDepth 20000 in
set_option maxHeartbeats 4000000 in
theorem m_X1_changeIn (w : gWd) (h : gHp) {a0 : Nat} (A0 : is_X1 w a0) {a1 : Nat} (A1 : is_X8 w a1) {o : gHp} (hF : f_X1_changeIn a0 a1 h = some o) : gMet w yX1_changeIn wsX1_changeIn rm_X1_changeIn [.ref a0, .ref a1] h (none) o := by
  refine gMet_of (cc := cX1_changeIn) (maxL := 2) (ret := none) (fr := 2) (lo := 44) (own := RX1) [(0, .ref a0), (1, .ref a1)] (by decide) rfl rfl (Nat.le_of_ble_eq_true rfl) rfl (Nat.le_refl _) (Nat.le_refl _) (fun g C E => ?_)
  rw [f_X1_changeIn] at hF
  refine gx_aload_n C 0 (gDec_at D_X1_changeIn 0 rfl) rfl rfl ?_
  refine gx_geti C fl_X1_changeIn_9 (is_X1_sh A0) rfl (gDec_at D_X1_changeIn 1 rfl) ?_
  by_cases c0 : (h.1 a0 0) = 0
  · replace hF := gPos c0 hF
    refine gx_tableIn C 40 (gDec_at D_X1_changeIn 2 rfl) (by rw [c0]; decide) (by rw [c0]; decide) (by rw [c0]; rfl) (by decide) ?_
    refine gx_aload_n C 1 (gDec_at D_X1_changeIn 3 rfl) rfl rfl ?_
    refine gx_aload_n C 0 (gDec_at D_X1_changeIn 4 rfl) rfl rfl ?_
    refine gx_geti C fl_X1_changeIn_18 (is_X1_sh A0) rfl (gDec_at D_X1_changeIn 5 rfl) ?_
    refine gx_aload_n C 0 (gDec_at D_X1_changeIn 6 rfl) rfl rfl ?_
    refine gx_geti C fl_X1_changeIn_15 (is_X1_sh A0) rfl (gDec_at D_X1_changeIn 7 rfl) ?_
    refine gx_aload_n C 1 (gDec_at D_X1_changeIn 8 rfl) rfl rfl ?_
    refine gx_getr C fl_X1_changeIn_80 (is_X8_sh A1) rfl (gDec_at D_X1_changeIn 9 rfl) ?_
    refine gx_aload_n C 0 (gDec_at D_X1_changeIn 10 rfl) rfl rfl ?_
    refine gx_geti C fl_X1_changeIn_18 (is_X1_sh A0) rfl (gDec_at D_X1_changeIn 11 rfl) ?_
    obtain ⟨b1, hF⟩ := gGd hF
    refine gx_iaload C (is_X8_armState A1) b1 (gDec_at D_X1_changeIn 12 rfl) ?_
    obtain ⟨v3, hv2, hF⟩ := gBind hF
    refine gx_callV0 C (st := []) 3 [.int (h.1 a0 2), .int (h.1 a0 1), .int (h.1 (a1 + 11) (gN (h.1 a0 2)))] (m_X8_setArm w h A1 (h.1 a0 2) (h.1 a0 1) (h.1 (a1 + 11) (gN (h.1 a0 2))) hv2) gX1_changeIn_X8_setArm rfl rfl rfl hy_X8_setArm (Nat.le_of_ble_eq_true rfl) (Nat.le_of_ble_eq_true rfl) (is_X8_sh A1) rfl rfl rfl (Nat.le_of_ble_eq_true rfl) (gDec_at D_X1_changeIn 13 rfl) ?_
    refine gx_goto C 146 (gDec_at D_X1_changeIn 14 rfl) (by decide) ?_
    obtain rfl := Option.some.inj hF
    exact gx_vret C E (gDec_at D_X1_changeIn 57 rfl)
  replace hF := gNeg c0 hF
  by_cases c1 : (h.1 a0 0) = 1
  · replace hF := gPos c1 hF
    refine gx_tableIn C 64 (gDec_at D_X1_changeIn 2 rfl) (by rw [c1]; decide) (by rw [c1]; decide) (by rw [c1]; rfl) (by decide) ?_
    refine gx_aload_n C 1 (gDec_at D_X1_changeIn 15 rfl) rfl rfl ?_
    refine gx_aload_n C 0 (gDec_at D_X1_changeIn 16 rfl) rfl rfl ?_
    refine gx_geti C fl_X1_changeIn_18 (is_X1_sh A0) rfl (gDec_at D_X1_changeIn 17 rfl) ?_
    refine gx_aload_n C 1 (gDec_at D_X1_changeIn 18 rfl) rfl rfl ?_
    refine gx_getr C fl_X1_changeIn_74 (is_X8_sh A1) rfl (gDec_at D_X1_changeIn 19 rfl) ?_
    refine gx_aload_n C 0 (gDec_at D_X1_changeIn 20 rfl) rfl rfl ?_
    refine gx_geti C fl_X1_changeIn_18 (is_X1_sh A0) rfl (gDec_at D_X1_changeIn 21 rfl) ?_
    obtain ⟨b4, hF⟩ := gGd hF
    refine gx_iaload C (is_X8_armValue A1) b4 (gDec_at D_X1_changeIn 22 rfl) ?_
    refine gx_iconst C (v := 1) (gDec_at D_X1_changeIn 23 rfl) (by decide) ?_
    obtain ⟨v6, hv5, hF⟩ := gBind hF
    refine gx_callV0 C (st := []) 3 [.int (h.1 a0 2), .int (h.1 (a1 + 10) (gN (h.1 a0 2))), .int 1] (m_X8_setArm w h A1 (h.1 a0 2) (h.1 (a1 + 10) (gN (h.1 a0 2))) 1 hv5) gX1_changeIn_X8_setArm rfl rfl rfl hy_X8_setArm (Nat.le_of_ble_eq_true rfl) (Nat.le_of_ble_eq_true rfl) (is_X8_sh A1) rfl rfl rfl (Nat.le_of_ble_eq_true rfl) (gDec_at D_X1_changeIn 24 rfl) ?_
    refine gx_goto C 146 (gDec_at D_X1_changeIn 25 rfl) (by decide) ?_
    obtain rfl := Option.some.inj hF
    exact gx_vret C E (gDec_at D_X1_changeIn 57 rfl)
  replace hF := gNeg c1 hF
  by_cases c2 : (h.1 a0 0) = 2
  · replace hF := gPos c2 hF
    refine gx_tableIn C 85 (gDec_at D_X1_changeIn 2 rfl) (by rw [c2]; decide) (by rw [c2]; decide) (by rw [c2]; rfl) (by decide) ?_
    refine gx_aload_n C 1 (gDec_at D_X1_changeIn 26 rfl) rfl rfl ?_
    refine gx_aload_n C 0 (gDec_at D_X1_changeIn 27 rfl) rfl rfl ?_
    refine gx_geti C fl_X1_changeIn_18 (is_X1_sh A0) rfl (gDec_at D_X1_changeIn 28 rfl) ?_
    refine gx_aload_n C 1 (gDec_at D_X1_changeIn 29 rfl) rfl rfl ?_
    refine gx_getr C fl_X1_changeIn_74 (is_X8_sh A1) rfl (gDec_at D_X1_changeIn 30 rfl) ?_
    refine gx_aload_n C 0 (gDec_at D_X1_changeIn 31 rfl) rfl rfl ?_
    refine gx_geti C fl_X1_changeIn_18 (is_X1_sh A0) rfl (gDec_at D_X1_changeIn 32 rfl) ?_
    obtain ⟨b7, hF⟩ := gGd hF
    refine gx_iaload C (is_X8_armValue A1) b7 (gDec_at D_X1_changeIn 33 rfl) ?_
    refine gx_iconst C (v := 2) (gDec_at D_X1_changeIn 34 rfl) (by decide) ?_
    obtain ⟨v9, hv8, hF⟩ := gBind hF
    refine gx_callV0 C (st := []) 3 [.int (h.1 a0 2), .int (h.1 (a1 + 10) (gN (h.1 a0 2))), .int 2] (m_X8_setArm w h A1 (h.1 a0 2) (h.1 (a1 + 10) (gN (h.1 a0 2))) 2 hv8) gX1_changeIn_X8_setArm rfl rfl rfl hy_X8_setArm (Nat.le_of_ble_eq_true rfl) (Nat.le_of_ble_eq_true rfl) (is_X8_sh A1) rfl rfl rfl (Nat.le_of_ble_eq_true rfl) (gDec_at D_X1_changeIn 35 rfl) ?_
    refine gx_goto C 146 (gDec_at D_X1_changeIn 36 rfl) (by decide) ?_
    obtain rfl := Option.some.inj hF
    exact gx_vret C E (gDec_at D_X1_changeIn 57 rfl)
  replace hF := gNeg c2 hF
  by_cases c3 : (h.1 a0 0) = 3
  · replace hF := gPos c3 hF
    refine gx_tableIn C 106 (gDec_at D_X1_changeIn 2 rfl) (by rw [c3]; decide) (by rw [c3]; decide) (by rw [c3]; rfl) (by decide) ?_
    refine gx_aload_n C 1 (gDec_at D_X1_changeIn 37 rfl) rfl rfl ?_
    refine gx_aload_n C 0 (gDec_at D_X1_changeIn 38 rfl) rfl rfl ?_
    refine gx_geti C fl_X1_changeIn_18 (is_X1_sh A0) rfl (gDec_at D_X1_changeIn 39 rfl) ?_
    refine gx_aload_n C 1 (gDec_at D_X1_changeIn 40 rfl) rfl rfl ?_
    refine gx_getr C fl_X1_changeIn_74 (is_X8_sh A1) rfl (gDec_at D_X1_changeIn 41 rfl) ?_
    refine gx_aload_n C 0 (gDec_at D_X1_changeIn 42 rfl) rfl rfl ?_
    refine gx_geti C fl_X1_changeIn_18 (is_X1_sh A0) rfl (gDec_at D_X1_changeIn 43 rfl) ?_
    obtain ⟨b10, hF⟩ := gGd hF
    refine gx_iaload C (is_X8_armValue A1) b10 (gDec_at D_X1_changeIn 44 rfl) ?_
    refine gx_iconst C (v := 0) (gDec_at D_X1_changeIn 45 rfl) (by decide) ?_
    obtain ⟨v12, hv11, hF⟩ := gBind hF
    refine gx_callV0 C (st := []) 3 [.int (h.1 a0 2), .int (h.1 (a1 + 10) (gN (h.1 a0 2))), .int 0] (m_X8_setArm w h A1 (h.1 a0 2) (h.1 (a1 + 10) (gN (h.1 a0 2))) 0 hv11) gX1_changeIn_X8_setArm rfl rfl rfl hy_X8_setArm (Nat.le_of_ble_eq_true rfl) (Nat.le_of_ble_eq_true rfl) (is_X8_sh A1) rfl rfl rfl (Nat.le_of_ble_eq_true rfl) (gDec_at D_X1_changeIn 46 rfl) ?_
    refine gx_goto C 146 (gDec_at D_X1_changeIn 47 rfl) (by decide) ?_
    obtain rfl := Option.some.inj hF
    exact gx_vret C E (gDec_at D_X1_changeIn 57 rfl)
  replace hF := gNeg c3 hF
  by_cases c4 : (h.1 a0 0) = 4
  · replace hF := gPos c4 hF
    refine gx_tableIn C 127 (gDec_at D_X1_changeIn 2 rfl) (by rw [c4]; decide) (by rw [c4]; decide) (by rw [c4]; rfl) (by decide) ?_
    refine gx_aload_n C 1 (gDec_at D_X1_changeIn 48 rfl) rfl rfl ?_
    refine gx_aload_n C 0 (gDec_at D_X1_changeIn 49 rfl) rfl rfl ?_
    refine gx_geti C fl_X1_changeIn_15 (is_X1_sh A0) rfl (gDec_at D_X1_changeIn 50 rfl) ?_
    refine gx_putI C flw_X1_changeIn_83 (is_X8_sh A1) rfl rfl rfl (gDec_at D_X1_changeIn 51 rfl) ?_
    refine gx_goto C 146 (gDec_at D_X1_changeIn 52 rfl) (by decide) ?_
    obtain rfl := Option.some.inj hF
    exact gx_vret C E (gDec_at D_X1_changeIn 57 rfl)
  replace hF := gNeg c4 hF
  refine gx_tableOut C 138 (gDec_at D_X1_changeIn 2 rfl) (gSw _ 4 (by decide) (fun k hk => match k, hk with | 0, _ => c0 | 1, _ => c1 | 2, _ => c2 | 3, _ => c3 | 4, _ => c4 | k + 5, hk => absurd hk (by omega))) (by decide) ?_
  refine gx_aload_n C 1 (gDec_at D_X1_changeIn 53 rfl) rfl rfl ?_
  refine gx_aload_n C 0 (gDec_at D_X1_changeIn 54 rfl) rfl rfl ?_
  refine gx_geti C fl_X1_changeIn_15 (is_X1_sh A0) rfl (gDec_at D_X1_changeIn 55 rfl) ?_
  refine gx_putI C flw_X1_changeIn_85 (is_X8_sh A1) rfl rfl rfl (gDec_at D_X1_changeIn 56 rfl) ?_
  obtain rfl := Option.some.inj hF
  exact gx_vret C E (gDec_at D_X1_changeIn 57 rfl)
