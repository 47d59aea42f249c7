/-! LadderBench$Circuit.putArm -/
def rm_X0_putArm : Room := { frames := 2, cells := 0, slots := 0, locals := 56 }
set_option maxRecDepth 20000 in
theorem ggX0_putArm_X2_put : GoodIn wsX0_putArm wsX2_put := goodIn_r _ [10, 11, 12, 13, 14, 9, 15, 34, 35] (by decide +kernel) (by decide +kernel)
set_option maxRecDepth 20000 in
theorem gX0_putArm_X2_put : GoodIn wsX0_putArm (wsV RX0 79 RX2 yX2_put wsX2_put) := goodIn_app (goodIn_of _ (by decide +kernel)) ggX0_putArm_X2_put
theorem hy_X0_putArm : yX0_putArm.cls = RX0 ∧ yX0_putArm.cls ≠ "java/lang/invoke/MethodHandle" ∧ yX0_putArm.cls ≠ "java/lang/invoke/VarHandle" ∧ (parseMethodDescriptor yX0_putArm.desc).map (fun d => d.parameters.length) = some 2 := by decide +kernel
set_option maxRecDepth 100000 in
theorem D_X0_putArm : gDec cX0_putArm [(0, (.aload_n 1, 1)), (1, (.getfield 31, 3)), (4, (.getfield 69, 3)), (7, (.iload_n 2, 1)), (8, (.iaload, 1)), (9, (.istore_n 3, 1)), (10, (.iload_n 3, 1)), (11, (.ifCond .lt 9, 3)), (14, (.iload_n 3, 1)), (15, (.bipush 6, 2)), (17, (.if_icmp .lt 4, 3)), (20, (.return_, 1)), (21, (.aload_n 1, 1)), (22, (.getfield 73, 3)), (25, (.iload_n 3, 1)), (26, (.iaload, 1)), (27, (.ifCond .ne 23, 3)), (30, (.aload_n 0, 1)), (31, (.getfield 11, 3)), (34, (.iload_n 2, 1)), (35, (.aaload, 1)), (36, (.aload_n 1, 1)), (37, (.getfield 76, 3)), (40, (.iload_n 3, 1)), (41, (.iaload, 1)), (42, (.i2l, 1)), (43, (.lconst 1, 1)), (44, (.invokevirtual 79, 3)), (47, (.goto 38, 3)), (50, (.aload_n 1, 1)), (51, (.getfield 73, 3)), (54, (.iload_n 3, 1)), (55, (.iaload, 1)), (56, (.iconst 1, 1)), (57, (.if_icmp .ne 17, 3)), (60, (.aload_n 0, 1)), (61, (.getfield 11, 3)), (64, (.iload_n 2, 1)), (65, (.aaload, 1)), (66, (.lconst 1, 1)), (67, (.lconst 0, 1)), (68, (.invokevirtual 79, 3)), (71, (.goto 14, 3)), (74, (.aload_n 0, 1)), (75, (.getfield 11, 3)), (78, (.iload_n 2, 1)), (79, (.aaload, 1)), (80, (.lconst 0, 1)), (81, (.lconst 1, 1)), (82, (.invokevirtual 79, 3)), (85, (.return_, 1))] = true := by decide +kernel
set_option maxRecDepth 100000 in
theorem in_X0_putArm_X0 : ∀ x ∈ u_ws RX0 TX0 5, x ∈ wsX0_putArm := by decide +kernel
set_option maxRecDepth 100000 in
theorem in_X0_putArm_X5 : ∀ x ∈ u_ws RX5 TX5 5, x ∈ wsX0_putArm := by decide +kernel
set_option maxRecDepth 100000 in
theorem in_X0_putArm_X8 : ∀ x ∈ u_ws RX8 TX8 8, x ∈ wsX0_putArm := by decide +kernel
theorem fl_X0_putArm_31 : gF wsX0_putArm RX0 31 8 0 := ⟨RX8, TX8, 8, rfl, by decide, in_X0_putArm_X8, by decide +kernel⟩
theorem fl_X0_putArm_69 : gF wsX0_putArm RX0 69 5 2 := ⟨RX5, TX5, 5, rfl, by decide, in_X0_putArm_X5, by decide +kernel⟩
theorem fl_X0_putArm_73 : gF wsX0_putArm RX0 73 8 3 := ⟨RX8, TX8, 8, rfl, by decide, in_X0_putArm_X8, by decide +kernel⟩
theorem fl_X0_putArm_11 : gF wsX0_putArm RX0 11 0 0 := ⟨RX0, TX0, 5, rfl, by decide, in_X0_putArm_X0, by decide +kernel⟩
theorem fl_X0_putArm_76 : gF wsX0_putArm RX0 76 8 2 := ⟨RX8, TX8, 8, rfl, by decide, in_X0_putArm_X8, by decide +kernel⟩
def f_X0_putArm (a0 : Nat) (a1 : Nat) (x2 : Int32) (h : gHp) : Option (gHp) := if gIn x2 11 then if (h.1 (a1 + 1 + 3) (gN x2)) < 0 then some h else if (h.1 (a1 + 1 + 3) (gN x2)) < 6 then if gIn (h.1 (a1 + 1 + 3) (gN x2)) 6 then if (h.1 (a1 + 11) (gN (h.1 (a1 + 1 + 3) (gN x2)))) = 0 then if gIn x2 11 then if gIn (h.1 (a1 + 1 + 3) (gN x2)) 6 then (f_X2_put (a0 + 6 + 2 * gN x2) ((h.1 (a1 + 10) (gN (h.1 (a1 + 1 + 3) (gN x2)))).toInt64) 1 h).bind fun v13 => some v13 else none else none else if gIn (h.1 (a1 + 1 + 3) (gN x2)) 6 then if (h.1 (a1 + 11) (gN (h.1 (a1 + 1 + 3) (gN x2)))) = 1 then if gIn x2 11 then (f_X2_put (a0 + 6 + 2 * gN x2) 1 0 h).bind fun v9 => some v9 else none else if gIn x2 11 then (f_X2_put (a0 + 6 + 2 * gN x2) 0 1 h).bind fun v6 => some v6 else none else none else none else some h else none
set_option maxRecDepth 20000 in
set_option maxHeartbeats 4000000 in
theorem m_X0_putArm (w : gWd) (h : gHp) {a0 : Nat} (A0 : is_X0 w a0) {a1 : Nat} (A1 : is_X8 w a1) (x2 : Int32) {o : gHp} (hF : f_X0_putArm a0 a1 x2 h = some o) : gMet w yX0_putArm wsX0_putArm rm_X0_putArm [.ref a0, .ref a1, .int x2] h (none) o := by
  refine gMet_of (cc := cX0_putArm) (maxL := 4) (ret := none) (fr := 2) (lo := 56) (own := RX0) [(0, .ref a0), (1, .ref a1), (2, .int x2)] (by decide) rfl rfl (Nat.le_of_ble_eq_true rfl) rfl (Nat.le_refl _) (Nat.le_refl _) (fun g C E => ?_)
  rw [f_X0_putArm] at hF
  refine gx_aload_n C 1 (gDec_at D_X0_putArm 0 rfl) rfl rfl ?_
  refine gx_getr C fl_X0_putArm_31 (is_X8_sh A1) rfl (gDec_at D_X0_putArm 1 rfl) ?_
  refine gx_getr C fl_X0_putArm_69 (is_X5_sh (is_X8_network A1)) rfl (gDec_at D_X0_putArm 2 rfl) ?_
  refine gx_iload_n C 2 (gDec_at D_X0_putArm 3 rfl) rfl rfl ?_
  obtain ⟨b1, hF⟩ := gGd hF
  refine gx_iaload C (is_X5_letter (is_X8_network A1)) b1 (gDec_at D_X0_putArm 4 rfl) ?_
  refine gx_istore_n C (lv' := [(3, .int (h.1 (a1 + 1 + 3) (gN x2))), (0, .ref a0), (1, .ref a1), (2, .int x2)]) (gDec_at D_X0_putArm 5 rfl) rfl (Nat.le_of_ble_eq_true rfl) rfl ?_
  refine gx_iload_n C 0 (gDec_at D_X0_putArm 6 rfl) rfl rfl ?_
  refine gx_if_lt C 20 (gDec_at D_X0_putArm 7 rfl) (by decide) (fun c => ?_) (fun c => ?_)
  · replace hF := gPos c hF
    obtain rfl := Option.some.inj hF
    exact gx_vret C E (gDec_at D_X0_putArm 11 rfl)
  · replace hF := gNeg c hF
    refine gx_iload_n C 0 (gDec_at D_X0_putArm 8 rfl) rfl rfl ?_
    refine gx_bipush C (v := 6) (gDec_at D_X0_putArm 9 rfl) (by decide) ?_
    refine gx_icmp_lt C 21 (gDec_at D_X0_putArm 10 rfl) (by decide) (fun c => ?_) (fun c => ?_)
    · replace hF := gPos c hF
      refine gx_aload_n C 2 (gDec_at D_X0_putArm 12 rfl) rfl rfl ?_
      refine gx_getr C fl_X0_putArm_73 (is_X8_sh A1) rfl (gDec_at D_X0_putArm 13 rfl) ?_
      refine gx_iload_n C 0 (gDec_at D_X0_putArm 14 rfl) rfl rfl ?_
      obtain ⟨b2, hF⟩ := gGd hF
      refine gx_iaload C (is_X8_armState A1) b2 (gDec_at D_X0_putArm 15 rfl) ?_
      refine gx_if_ne C 50 (gDec_at D_X0_putArm 16 rfl) (by decide) (fun c => ?_) (fun c => ?_)
      · replace hF := gNeg c hF
        refine gx_aload_n C 2 (gDec_at D_X0_putArm 29 rfl) rfl rfl ?_
        refine gx_getr C fl_X0_putArm_73 (is_X8_sh A1) rfl (gDec_at D_X0_putArm 30 rfl) ?_
        refine gx_iload_n C 0 (gDec_at D_X0_putArm 31 rfl) rfl rfl ?_
        obtain ⟨b3, hF⟩ := gGd hF
        refine gx_iaload C (is_X8_armState A1) b3 (gDec_at D_X0_putArm 32 rfl) ?_
        refine gx_iconst C (v := 1) (gDec_at D_X0_putArm 33 rfl) (by decide) ?_
        refine gx_icmp_ne C 74 (gDec_at D_X0_putArm 34 rfl) (by decide) (fun c => ?_) (fun c => ?_)
        · replace hF := gNeg c hF
          refine gx_aload_n C 1 (gDec_at D_X0_putArm 43 rfl) rfl rfl ?_
          refine gx_getr C fl_X0_putArm_11 (is_X0_sh A0) rfl (gDec_at D_X0_putArm 44 rfl) ?_
          refine gx_iload_n C 3 (gDec_at D_X0_putArm 45 rfl) rfl rfl ?_
          obtain ⟨b4, hF⟩ := gGd hF
          refine gx_aaloadFr C (is_X0_ohms A0) b4 (gDec_at D_X0_putArm 46 rfl) ?_
          show gX w g 4 h _ _ (.ref (a0 + 6 + 2 * gN x2) :: [])
          refine gx_lconst C (v := 0) (gDec_at D_X0_putArm 47 rfl) (by decide) ?_
          refine gx_lconst C (v := 1) (gDec_at D_X0_putArm 48 rfl) (by decide) ?_
          obtain ⟨v6, hv5, hF⟩ := gBind hF
          refine gx_callV0 C (st := []) 2 [.long 0, .long 1] (m_X2_put w h (is_X0_ohms_at A0 b4) 0 1 hv5) gX0_putArm_X2_put rfl rfl rfl hy_X2_put (Nat.le_of_ble_eq_true rfl) (Nat.le_of_ble_eq_true rfl) (is_X2_sh (is_X0_ohms_at A0 b4)) rfl rfl rfl (Nat.le_of_ble_eq_true rfl) (gDec_at D_X0_putArm 49 rfl) ?_
          obtain rfl := Option.some.inj hF
          exact gx_vret C E (gDec_at D_X0_putArm 50 rfl)
        · replace hF := gPos c hF
          refine gx_aload_n C 1 (gDec_at D_X0_putArm 35 rfl) rfl rfl ?_
          refine gx_getr C fl_X0_putArm_11 (is_X0_sh A0) rfl (gDec_at D_X0_putArm 36 rfl) ?_
          refine gx_iload_n C 3 (gDec_at D_X0_putArm 37 rfl) rfl rfl ?_
          obtain ⟨b7, hF⟩ := gGd hF
          refine gx_aaloadFr C (is_X0_ohms A0) b7 (gDec_at D_X0_putArm 38 rfl) ?_
          show gX w g 4 h _ _ (.ref (a0 + 6 + 2 * gN x2) :: [])
          refine gx_lconst C (v := 1) (gDec_at D_X0_putArm 39 rfl) (by decide) ?_
          refine gx_lconst C (v := 0) (gDec_at D_X0_putArm 40 rfl) (by decide) ?_
          obtain ⟨v9, hv8, hF⟩ := gBind hF
          refine gx_callV0 C (st := []) 2 [.long 1, .long 0] (m_X2_put w h (is_X0_ohms_at A0 b7) 1 0 hv8) gX0_putArm_X2_put rfl rfl rfl hy_X2_put (Nat.le_of_ble_eq_true rfl) (Nat.le_of_ble_eq_true rfl) (is_X2_sh (is_X0_ohms_at A0 b7)) rfl rfl rfl (Nat.le_of_ble_eq_true rfl) (gDec_at D_X0_putArm 41 rfl) ?_
          refine gx_goto C 85 (gDec_at D_X0_putArm 42 rfl) (by decide) ?_
          obtain rfl := Option.some.inj hF
          exact gx_vret C E (gDec_at D_X0_putArm 50 rfl)
      · replace hF := gPos c hF
        refine gx_aload_n C 1 (gDec_at D_X0_putArm 17 rfl) rfl rfl ?_
        refine gx_getr C fl_X0_putArm_11 (is_X0_sh A0) rfl (gDec_at D_X0_putArm 18 rfl) ?_
        refine gx_iload_n C 3 (gDec_at D_X0_putArm 19 rfl) rfl rfl ?_
        obtain ⟨b10, hF⟩ := gGd hF
        refine gx_aaloadFr C (is_X0_ohms A0) b10 (gDec_at D_X0_putArm 20 rfl) ?_
        show gX w g 4 h _ _ (.ref (a0 + 6 + 2 * gN x2) :: [])
        refine gx_aload_n C 2 (gDec_at D_X0_putArm 21 rfl) rfl rfl ?_
        refine gx_getr C fl_X0_putArm_76 (is_X8_sh A1) rfl (gDec_at D_X0_putArm 22 rfl) ?_
        refine gx_iload_n C 0 (gDec_at D_X0_putArm 23 rfl) rfl rfl ?_
        obtain ⟨b11, hF⟩ := gGd hF
        refine gx_iaload C (is_X8_armValue A1) b11 (gDec_at D_X0_putArm 24 rfl) ?_
        refine gx_i2l C (gDec_at D_X0_putArm 25 rfl) ?_
        refine gx_lconst C (v := 1) (gDec_at D_X0_putArm 26 rfl) (by decide) ?_
        obtain ⟨v13, hv12, hF⟩ := gBind hF
        refine gx_callV0 C (st := []) 2 [.long ((h.1 (a1 + 10) (gN (h.1 (a1 + 1 + 3) (gN x2)))).toInt64), .long 1] (m_X2_put w h (is_X0_ohms_at A0 b10) ((h.1 (a1 + 10) (gN (h.1 (a1 + 1 + 3) (gN x2)))).toInt64) 1 hv12) gX0_putArm_X2_put rfl rfl rfl hy_X2_put (Nat.le_of_ble_eq_true rfl) (Nat.le_of_ble_eq_true rfl) (is_X2_sh (is_X0_ohms_at A0 b10)) rfl rfl rfl (Nat.le_of_ble_eq_true rfl) (gDec_at D_X0_putArm 27 rfl) ?_
        refine gx_goto C 85 (gDec_at D_X0_putArm 28 rfl) (by decide) ?_
        obtain rfl := Option.some.inj hF
        exact gx_vret C E (gDec_at D_X0_putArm 50 rfl)
    · replace hF := gNeg c hF
      obtain rfl := Option.some.inj hF
      exact gx_vret C E (gDec_at D_X0_putArm 11 rfl)
/-! LadderBench$Circuit.addUp -/
def rm_X0_addUp : Room := { frames := 3, cells := 0, slots := 0, locals := 84 }
set_option maxRecDepth 20000 in
theorem ggX0_addUp_X2_add : GoodIn wsX0_addUp wsX2_add := goodIn_r _ [37, 11, 10, 38, 6, 7, 8, 9, 12, 13, 14, 49, 50] (by decide +kernel) (by decide +kernel)
set_option maxRecDepth 20000 in
theorem gX0_addUp_X2_add : GoodIn wsX0_addUp (wsV RX0 86 RX2 yX2_add wsX2_add) := goodIn_app (goodIn_of _ (by decide +kernel)) ggX0_addUp_X2_add
set_option maxRecDepth 20000 in
theorem ggX0_addUp_X2_copy : GoodIn wsX0_addUp wsX2_copy := goodIn_r _ [18, 10, 11, 49, 50] (by decide +kernel) (by decide +kernel)
set_option maxRecDepth 20000 in
theorem gX0_addUp_X2_copy : GoodIn wsX0_addUp (wsV RX0 55 RX2 yX2_copy wsX2_copy) := goodIn_app (goodIn_of _ (by decide +kernel)) ggX0_addUp_X2_copy
set_option maxRecDepth 20000 in
theorem ggX0_addUp_X2_invert : GoodIn wsX0_addUp wsX2_invert := goodIn_r _ [33, 10, 11, 49, 50] (by decide +kernel) (by decide +kernel)
set_option maxRecDepth 20000 in
theorem gX0_addUp_X2_invert : GoodIn wsX0_addUp (wsV RX0 59 RX2 yX2_invert wsX2_invert) := goodIn_app (goodIn_of _ (by decide +kernel)) ggX0_addUp_X2_invert
set_option maxRecDepth 20000 in
theorem ggX0_addUp_X2_put : GoodIn wsX0_addUp wsX2_put := goodIn_r _ [9, 10, 11, 12, 13, 8, 14, 49, 50] (by decide +kernel) (by decide +kernel)
set_option maxRecDepth 20000 in
theorem gX0_addUp_X2_put : GoodIn wsX0_addUp (wsV RX0 79 RX2 yX2_put wsX2_put) := goodIn_app (goodIn_of _ (by decide +kernel)) ggX0_addUp_X2_put
set_option maxRecDepth 20000 in
theorem ggX0_addUp_X5_isKind : GoodIn wsX0_addUp wsX5_isKind := goodIn_r _ [23, 24, 25, 26, 27, 22, 28, 29, 44, 45, 46, 47, 48] (by decide +kernel) (by decide +kernel)
set_option maxRecDepth 20000 in
theorem gX0_addUp_X5_isKind : GoodIn wsX0_addUp (wsV RX0 43 RX5 yX5_isKind wsX5_isKind) := goodIn_app (goodIn_of _ (by decide +kernel)) ggX0_addUp_X5_isKind
theorem hy_X0_addUp : yX0_addUp.cls = RX0 ∧ yX0_addUp.cls ≠ "java/lang/invoke/MethodHandle" ∧ yX0_addUp.cls ≠ "java/lang/invoke/VarHandle" ∧ (parseMethodDescriptor yX0_addUp.desc).map (fun d => d.parameters.length) = some 3 := by decide +kernel
set_option maxRecDepth 100000 in
theorem D_X0_addUp : gDec cX0_addUp [(0, (.aload_n 0, 1)), (1, (.getfield 21, 3)), (4, (.lconst 0, 1)), (5, (.lconst 1, 1)), (6, (.invokevirtual 79, 3)), (9, (.iconst 0, 1)), (10, (.istore 4, 2)), (12, (.iload 4, 2)), (14, (.iload_n 2, 1)), (15, (.if_icmp .ge 68, 3)), (18, (.aload_n 1, 1)), (19, (.getfield 83, 3)), (22, (.iload 4, 2)), (24, (.iaload, 1)), (25, (.iload_n 2, 1)), (26, (.if_icmp .ne 51, 3)), (29, (.iload 4, 2)), (31, (.iload_n 3, 1)), (32, (.if_icmp .eq 45, 3)), (35, (.aload_n 0, 1)), (36, (.getfield 25, 3)), (39, (.aload_n 0, 1)), (40, (.getfield 11, 3)), (43, (.iload 4, 2)), (45, (.aaload, 1)), (46, (.invokevirtual 55, 3)), (49, (.aload_n 1, 1)), (50, (.iload_n 2, 1)), (51, (.iconst 2, 1)), (52, (.invokevirtual 43, 3)), (55, (.ifCond .eq 10, 3)), (58, (.aload_n 0, 1)), (59, (.getfield 25, 3)), (62, (.invokevirtual 59, 3)), (65, (.aload_n 0, 1)), (66, (.getfield 21, 3)), (69, (.aload_n 0, 1)), (70, (.getfield 25, 3)), (73, (.iconst 1, 1)), (74, (.invokevirtual 86, 3)), (77, (.iinc 4 1, 3)), (80, (.goto (-68), 3)), (83, (.return_, 1))] = true := by decide +kernel
set_option maxRecDepth 100000 in
theorem in_X0_addUp_X0 : ∀ x ∈ u_ws RX0 TX0 5, x ∈ wsX0_addUp := by decide +kernel
set_option maxRecDepth 100000 in
theorem in_X0_addUp_X5 : ∀ x ∈ u_ws RX5 TX5 5, x ∈ wsX0_addUp := by decide +kernel
theorem fl_X0_addUp_21 : gF wsX0_addUp RX0 21 0 2 := ⟨RX0, TX0, 5, rfl, by decide, in_X0_addUp_X0, by decide +kernel⟩
theorem fl_X0_addUp_83 : gF wsX0_addUp RX0 83 5 1 := ⟨RX5, TX5, 5, rfl, by decide, in_X0_addUp_X5, by decide +kernel⟩
theorem fl_X0_addUp_25 : gF wsX0_addUp RX0 25 0 3 := ⟨RX0, TX0, 5, rfl, by decide, in_X0_addUp_X0, by decide +kernel⟩
theorem fl_X0_addUp_11 : gF wsX0_addUp RX0 11 0 0 := ⟨RX0, TX0, 5, rfl, by decide, in_X0_addUp_X0, by decide +kernel⟩
def f_X0_addUp_12 (a0 : Nat) (a1 : Nat) (x2 : Int32) (x3 : Int32) : Nat → Int32 → gHp → Option (gHp)
  | 0, _, _ => none
  | n + 1, x4, h => if x2 ≤ x4 then some h else if gIn x4 11 then if (h.1 (a1 + 2) (gN x4)) = x2 then if x4 = x3 then f_X0_addUp_12 a0 a1 x2 x3 n (x4 + 1) h else if gIn x4 11 then (f_X2_copy (a0 + 4) (a0 + 6 + 2 * gN x4) h).bind fun v6 => (f_X5_isKind a1 x2 2 v6).bind fun v8 => (if v8 = true then (f_X2_invert (a0 + 4) v6).bind fun v15 => some v15 else some v6 : Option (gHp)).bind fun v9 => (f_X2_add (a0 + 3) (a0 + 4) 1 v9).bind fun v13 => f_X0_addUp_12 a0 a1 x2 x3 n (x4 + 1) v13 else none else f_X0_addUp_12 a0 a1 x2 x3 n (x4 + 1) h else none
set_option maxRecDepth 20000 in
set_option maxHeartbeats 4000000 in
theorem w_X0_addUp_12 {w : gWd} {g : gCx} (C : gC w g cX0_addUp wsX0_addUp RX0 5 3 84) {a0 : Nat} (A0 : is_X0 w a0) {a1 : Nat} (A1 : is_X5 w a1) (x2 : Int32) (x3 : Int32)  {o : gHp} (hk : gX w g 5 o 83 [] []) : ∀ (n : Nat) (x4 : Int32) (h : gHp), f_X0_addUp_12 a0 a1 x2 x3 n x4 h = some o → gX w g 5 h 12 [(0, .ref a0), (1, .ref a1), (2, .int x2), (3, .int x3), (4, .int x4)] [] := by
  intro n
  induction n with
  | zero => intro _ _ hF; cases hF
  | succ n ih =>
    intro x4 h hF
    rw [f_X0_addUp_12] at hF
    refine gx_iload C 4 (gDec_at D_X0_addUp 7 rfl) rfl ?_
    refine gx_iload_n C 2 (gDec_at D_X0_addUp 8 rfl) rfl rfl ?_
    refine gx_icmp_ge C 83 (gDec_at D_X0_addUp 9 rfl) (by decide) (fun c => ?_) (fun c => ?_)
    · replace hF := gPos c hF
      obtain rfl := Option.some.inj hF
      exact gx_sub [] rfl hk
    · replace hF := gNeg c hF
      refine gx_aload_n C 1 (gDec_at D_X0_addUp 10 rfl) rfl rfl ?_
      refine gx_getr C fl_X0_addUp_83 (is_X5_sh A1) rfl (gDec_at D_X0_addUp 11 rfl) ?_
      refine gx_iload C 4 (gDec_at D_X0_addUp 12 rfl) rfl ?_
      obtain ⟨b3, hF⟩ := gGd hF
      refine gx_iaload C (is_X5_around A1) b3 (gDec_at D_X0_addUp 13 rfl) ?_
      refine gx_iload_n C 2 (gDec_at D_X0_addUp 14 rfl) rfl rfl ?_
      refine gx_icmp_ne C 77 (gDec_at D_X0_addUp 15 rfl) (by decide) (fun c => ?_) (fun c => ?_)
      · replace hF := gNeg c hF
        refine gx_iinc C (j := 4) (v := x4 + 1) (lv' := [(4, .int (x4 + 1)), (0, .ref a0), (1, .ref a1), (2, .int x2), (3, .int x3)]) (gDec_at D_X0_addUp 40 rfl) rfl (by rfl) (Nat.le_of_ble_eq_true rfl) rfl ?_
        refine gx_goto C 12 (gDec_at D_X0_addUp 41 rfl) (by decide) ?_
        exact gx_sub [1, 2, 3, 4, 0] rfl (ih (x4 + 1) h hF)
      · replace hF := gPos c hF
        refine gx_iload C 4 (gDec_at D_X0_addUp 16 rfl) rfl ?_
        refine gx_iload_n C 3 (gDec_at D_X0_addUp 17 rfl) rfl rfl ?_
        refine gx_icmp_eq C 77 (gDec_at D_X0_addUp 18 rfl) (by decide) (fun c => ?_) (fun c => ?_)
        · replace hF := gPos c hF
          refine gx_iinc C (j := 4) (v := x4 + 1) (lv' := [(4, .int (x4 + 1)), (0, .ref a0), (1, .ref a1), (2, .int x2), (3, .int x3)]) (gDec_at D_X0_addUp 40 rfl) rfl (by rfl) (Nat.le_of_ble_eq_true rfl) rfl ?_
          refine gx_goto C 12 (gDec_at D_X0_addUp 41 rfl) (by decide) ?_
          exact gx_sub [1, 2, 3, 4, 0] rfl (ih (x4 + 1) h hF)
        · replace hF := gNeg c hF
          refine gx_aload_n C 0 (gDec_at D_X0_addUp 19 rfl) rfl rfl ?_
          refine gx_getr C fl_X0_addUp_25 (is_X0_sh A0) rfl (gDec_at D_X0_addUp 20 rfl) ?_
          refine gx_aload_n C 0 (gDec_at D_X0_addUp 21 rfl) rfl rfl ?_
          refine gx_getr C fl_X0_addUp_11 (is_X0_sh A0) rfl (gDec_at D_X0_addUp 22 rfl) ?_
          refine gx_iload C 4 (gDec_at D_X0_addUp 23 rfl) rfl ?_
          obtain ⟨b4, hF⟩ := gGd hF
          refine gx_aaloadFr C (is_X0_ohms A0) b4 (gDec_at D_X0_addUp 24 rfl) ?_
          show gX w g 5 h _ _ (.ref (a0 + 6 + 2 * gN x4) :: .ref (a0 + 4) :: [])
          obtain ⟨v6, hv5, hF⟩ := gBind hF
          refine gx_callV0 C (st := []) 1 [.ref (a0 + 6 + 2 * gN x4)] (m_X2_copy w h (is_X0_share A0) (is_X0_ohms_at A0 b4) hv5) gX0_addUp_X2_copy rfl rfl rfl hy_X2_copy (Nat.le_of_ble_eq_true rfl) (Nat.le_of_ble_eq_true rfl) (is_X2_sh (is_X0_share A0)) rfl rfl rfl (Nat.le_of_ble_eq_true rfl) (gDec_at D_X0_addUp 25 rfl) ?_
          refine gx_aload_n C 1 (gDec_at D_X0_addUp 26 rfl) rfl rfl ?_
          refine gx_iload_n C 2 (gDec_at D_X0_addUp 27 rfl) rfl rfl ?_
          refine gx_iconst C (v := 2) (gDec_at D_X0_addUp 28 rfl) (by decide) ?_
          obtain ⟨v8, hv7, hF⟩ := gBind hF
          refine gx_callV1 C (st := []) 2 [.int x2, .int 2] (m_X5_isKind w v6 A1 x2 2 hv7) gX0_addUp_X5_isKind rfl rfl rfl hy_X5_isKind (Nat.le_of_ble_eq_true rfl) (Nat.le_of_ble_eq_true rfl) (is_X5_sh A1) rfl rfl rfl (Nat.le_of_ble_eq_true rfl) (gDec_at D_X0_addUp 29 rfl) ?_
          obtain ⟨v9, hv10, hF⟩ := gBind hF
          have k11 : gX w g 5 v9 65 [(0, .ref a0), (1, .ref a1), (2, .int x2), (3, .int x3), (4, .int x4)] ([]) := by
            refine gx_aload_n C 0 (gDec_at D_X0_addUp 34 rfl) rfl rfl ?_
            refine gx_getr C fl_X0_addUp_21 (is_X0_sh A0) rfl (gDec_at D_X0_addUp 35 rfl) ?_
            refine gx_aload_n C 0 (gDec_at D_X0_addUp 36 rfl) rfl rfl ?_
            refine gx_getr C fl_X0_addUp_25 (is_X0_sh A0) rfl (gDec_at D_X0_addUp 37 rfl) ?_
            refine gx_iconst C (v := 1) (gDec_at D_X0_addUp 38 rfl) (by decide) ?_
            obtain ⟨v13, hv12, hF⟩ := gBind hF
            refine gx_callV0 C (st := []) 2 [.ref (a0 + 4), .int 1] (m_X2_add w v9 (is_X0_sum A0) (is_X0_share A0) 1 hv12) gX0_addUp_X2_add rfl rfl rfl hy_X2_add (Nat.le_of_ble_eq_true rfl) (Nat.le_of_ble_eq_true rfl) (is_X2_sh (is_X0_sum A0)) rfl rfl rfl (Nat.le_of_ble_eq_true rfl) (gDec_at D_X0_addUp 39 rfl) ?_
            refine gx_iinc C (j := 4) (v := x4 + 1) (lv' := [(4, .int (x4 + 1)), (0, .ref a0), (1, .ref a1), (2, .int x2), (3, .int x3)]) (gDec_at D_X0_addUp 40 rfl) rfl (by rfl) (Nat.le_of_ble_eq_true rfl) rfl ?_
            refine gx_goto C 12 (gDec_at D_X0_addUp 41 rfl) (by decide) ?_
            exact gx_sub [1, 2, 3, 4, 0] rfl (ih (x4 + 1) v13 hF)
          replace hF := hv10
          refine gx_ifz_eq C 65 (gDec_at D_X0_addUp 30 rfl) (by decide) (fun c => ?_) (fun c => ?_)
          · replace hF := gNeg c hF
            obtain rfl := Option.some.inj hF
            exact gx_sub [0, 1, 2, 3, 4] rfl k11
          · replace hF := gPos c hF
            refine gx_aload_n C 0 (gDec_at D_X0_addUp 31 rfl) rfl rfl ?_
            refine gx_getr C fl_X0_addUp_25 (is_X0_sh A0) rfl (gDec_at D_X0_addUp 32 rfl) ?_
            obtain ⟨v15, hv14, hF⟩ := gBind hF
            refine gx_callV0 C (st := []) 0 [] (m_X2_invert w v6 (is_X0_share A0) hv14) gX0_addUp_X2_invert rfl rfl rfl hy_X2_invert (Nat.le_of_ble_eq_true rfl) (Nat.le_of_ble_eq_true rfl) (is_X2_sh (is_X0_share A0)) rfl rfl rfl (Nat.le_of_ble_eq_true rfl) (gDec_at D_X0_addUp 33 rfl) ?_
            obtain rfl := Option.some.inj hF
            exact gx_sub [0, 1, 2, 3, 4] rfl k11
def f_X0_addUp (a0 : Nat) (a1 : Nat) (x2 : Int32) (x3 : Int32) (h : gHp) : Option (gHp) := (f_X2_put (a0 + 3) 0 1 h).bind fun v2 => (f_X0_addUp_12 a0 a1 x2 x3 gFuel 0 v2).bind fun v16 => some v16
set_option maxRecDepth 20000 in
set_option maxHeartbeats 4000000 in
theorem m_X0_addUp (w : gWd) (h : gHp) {a0 : Nat} (A0 : is_X0 w a0) {a1 : Nat} (A1 : is_X5 w a1) (x2 : Int32) (x3 : Int32) {o : gHp} (hF : f_X0_addUp a0 a1 x2 x3 h = some o) : gMet w yX0_addUp wsX0_addUp rm_X0_addUp [.ref a0, .ref a1, .int x2, .int x3] h (none) o := by
  refine gMet_of (cc := cX0_addUp) (maxL := 5) (ret := none) (fr := 3) (lo := 84) (own := RX0) [(0, .ref a0), (1, .ref a1), (2, .int x2), (3, .int x3)] (by decide) rfl rfl (Nat.le_of_ble_eq_true rfl) rfl (Nat.le_refl _) (Nat.le_refl _) (fun g C E => ?_)
  rw [f_X0_addUp] at hF
  refine gx_aload_n C 0 (gDec_at D_X0_addUp 0 rfl) rfl rfl ?_
  refine gx_getr C fl_X0_addUp_21 (is_X0_sh A0) rfl (gDec_at D_X0_addUp 1 rfl) ?_
  refine gx_lconst C (v := 0) (gDec_at D_X0_addUp 2 rfl) (by decide) ?_
  refine gx_lconst C (v := 1) (gDec_at D_X0_addUp 3 rfl) (by decide) ?_
  obtain ⟨v2, hv1, hF⟩ := gBind hF
  refine gx_callV0 C (st := []) 2 [.long 0, .long 1] (m_X2_put w h (is_X0_sum A0) 0 1 hv1) gX0_addUp_X2_put rfl rfl rfl hy_X2_put (Nat.le_of_ble_eq_true rfl) (Nat.le_of_ble_eq_true rfl) (is_X2_sh (is_X0_sum A0)) rfl rfl rfl (Nat.le_of_ble_eq_true rfl) (gDec_at D_X0_addUp 4 rfl) ?_
  refine gx_iconst C (v := 0) (gDec_at D_X0_addUp 5 rfl) (by decide) ?_
  refine gx_istore C (lv' := [(4, .int 0), (0, .ref a0), (1, .ref a1), (2, .int x2), (3, .int x3)]) (gDec_at D_X0_addUp 6 rfl) (Nat.le_of_ble_eq_true rfl) rfl ?_
  obtain ⟨v16, hv17, hF⟩ := gBind hF
  have k18 : gX w g 5 v16 83 [] [] := by
    obtain rfl := Option.some.inj hF
    exact gx_vret C E (gDec_at D_X0_addUp 42 rfl)
  exact gx_sub [1, 2, 3, 4, 0] rfl (w_X0_addUp_12 C A0 A1 x2 x3 k18 gFuel 0 v2 hv17)
/-! LadderBench$Circuit.addMeter -/
def rm_X0_addMeter : Room := { frames := 3, cells := 0, slots := 0, locals := 84 }
set_option maxRecDepth 20000 in
theorem ggX0_addMeter_X2_add : GoodIn wsX0_addMeter wsX2_add := goodIn_r _ [19, 8, 7, 20, 3, 4, 5, 6, 9, 10, 11, 26, 27] (by decide +kernel) (by decide +kernel)
set_option maxRecDepth 20000 in
theorem gX0_addMeter_X2_add : GoodIn wsX0_addMeter (wsV RX0 86 RX2 yX2_add wsX2_add) := goodIn_app (goodIn_of _ (by decide +kernel)) ggX0_addMeter_X2_add
set_option maxRecDepth 20000 in
theorem ggX0_addMeter_X2_invert : GoodIn wsX0_addMeter wsX2_invert := goodIn_r _ [15, 7, 8, 26, 27] (by decide +kernel) (by decide +kernel)
set_option maxRecDepth 20000 in
theorem gX0_addMeter_X2_invert : GoodIn wsX0_addMeter (wsV RX0 59 RX2 yX2_invert wsX2_invert) := goodIn_app (goodIn_of _ (by decide +kernel)) ggX0_addMeter_X2_invert
set_option maxRecDepth 20000 in
theorem ggX0_addMeter_X2_put : GoodIn wsX0_addMeter wsX2_put := goodIn_r _ [6, 7, 8, 9, 10, 5, 11, 26, 27] (by decide +kernel) (by decide +kernel)
set_option maxRecDepth 20000 in
theorem gX0_addMeter_X2_put : GoodIn wsX0_addMeter (wsV RX0 79 RX2 yX2_put wsX2_put) := goodIn_app (goodIn_of _ (by decide +kernel)) ggX0_addMeter_X2_put
theorem hy_X0_addMeter : yX0_addMeter.cls = RX0 ∧ yX0_addMeter.cls ≠ "java/lang/invoke/MethodHandle" ∧ yX0_addMeter.cls ≠ "java/lang/invoke/VarHandle" ∧ (parseMethodDescriptor yX0_addMeter.desc).map (fun d => d.parameters.length) = some 2 := by decide +kernel
set_option maxRecDepth 100000 in
theorem D_X0_addMeter : gDec cX0_addMeter [(0, (.aload_n 0, 1)), (1, (.getfield 25, 3)), (4, (.lconst 1, 1)), (5, (.iload_n 2, 1)), (6, (.i2l, 1)), (7, (.invokevirtual 79, 3)), (10, (.aload_n 1, 1)), (11, (.invokevirtual 59, 3)), (14, (.aload_n 1, 1)), (15, (.aload_n 0, 1)), (16, (.getfield 25, 3)), (19, (.iconst 1, 1)), (20, (.invokevirtual 86, 3)), (23, (.aload_n 1, 1)), (24, (.invokevirtual 59, 3)), (27, (.return_, 1))] = true := by decide +kernel
set_option maxRecDepth 100000 in
theorem in_X0_addMeter_X0 : ∀ x ∈ u_ws RX0 TX0 5, x ∈ wsX0_addMeter := by decide +kernel
theorem fl_X0_addMeter_25 : gF wsX0_addMeter RX0 25 0 3 := ⟨RX0, TX0, 5, rfl, by decide, in_X0_addMeter_X0, by decide +kernel⟩
def f_X0_addMeter (a0 : Nat) (a1 : Nat) (x2 : Int32) (h : gHp) : Option (gHp) := (f_X2_put (a0 + 4) 1 x2.toInt64 h).bind fun v2 => (f_X2_invert a1 v2).bind fun v4 => (f_X2_add a1 (a0 + 4) 1 v4).bind fun v6 => (f_X2_invert a1 v6).bind fun v8 => some v8
set_option maxRecDepth 20000 in
set_option maxHeartbeats 4000000 in
theorem m_X0_addMeter (w : gWd) (h : gHp) {a0 : Nat} (A0 : is_X0 w a0) {a1 : Nat} (A1 : is_X2 w a1) (x2 : Int32) {o : gHp} (hF : f_X0_addMeter a0 a1 x2 h = some o) : gMet w yX0_addMeter wsX0_addMeter rm_X0_addMeter [.ref a0, .ref a1, .int x2] h (none) o := by
  refine gMet_of (cc := cX0_addMeter) (maxL := 3) (ret := none) (fr := 3) (lo := 84) (own := RX0) [(0, .ref a0), (1, .ref a1), (2, .int x2)] (by decide) rfl rfl (Nat.le_of_ble_eq_true rfl) rfl (Nat.le_refl _) (Nat.le_refl _) (fun g C E => ?_)
  rw [f_X0_addMeter] at hF
  refine gx_aload_n C 0 (gDec_at D_X0_addMeter 0 rfl) rfl rfl ?_
  refine gx_getr C fl_X0_addMeter_25 (is_X0_sh A0) rfl (gDec_at D_X0_addMeter 1 rfl) ?_
  refine gx_lconst C (v := 1) (gDec_at D_X0_addMeter 2 rfl) (by decide) ?_
  refine gx_iload_n C 2 (gDec_at D_X0_addMeter 3 rfl) rfl rfl ?_
  refine gx_i2l C (gDec_at D_X0_addMeter 4 rfl) ?_
  obtain ⟨v2, hv1, hF⟩ := gBind hF
  refine gx_callV0 C (st := []) 2 [.long 1, .long x2.toInt64] (m_X2_put w h (is_X0_share A0) 1 x2.toInt64 hv1) gX0_addMeter_X2_put rfl rfl rfl hy_X2_put (Nat.le_of_ble_eq_true rfl) (Nat.le_of_ble_eq_true rfl) (is_X2_sh (is_X0_share A0)) rfl rfl rfl (Nat.le_of_ble_eq_true rfl) (gDec_at D_X0_addMeter 5 rfl) ?_
  refine gx_aload_n C 1 (gDec_at D_X0_addMeter 6 rfl) rfl rfl ?_
  obtain ⟨v4, hv3, hF⟩ := gBind hF
  refine gx_callV0 C (st := []) 0 [] (m_X2_invert w v2 A1 hv3) gX0_addMeter_X2_invert rfl rfl rfl hy_X2_invert (Nat.le_of_ble_eq_true rfl) (Nat.le_of_ble_eq_true rfl) (is_X2_sh A1) rfl rfl rfl (Nat.le_of_ble_eq_true rfl) (gDec_at D_X0_addMeter 7 rfl) ?_
  refine gx_aload_n C 1 (gDec_at D_X0_addMeter 8 rfl) rfl rfl ?_
  refine gx_aload_n C 0 (gDec_at D_X0_addMeter 9 rfl) rfl rfl ?_
  refine gx_getr C fl_X0_addMeter_25 (is_X0_sh A0) rfl (gDec_at D_X0_addMeter 10 rfl) ?_
  refine gx_iconst C (v := 1) (gDec_at D_X0_addMeter 11 rfl) (by decide) ?_
  obtain ⟨v6, hv5, hF⟩ := gBind hF
  refine gx_callV0 C (st := []) 2 [.ref (a0 + 4), .int 1] (m_X2_add w v4 A1 (is_X0_share A0) 1 hv5) gX0_addMeter_X2_add rfl rfl rfl hy_X2_add (Nat.le_of_ble_eq_true rfl) (Nat.le_of_ble_eq_true rfl) (is_X2_sh A1) rfl rfl rfl (Nat.le_of_ble_eq_true rfl) (gDec_at D_X0_addMeter 12 rfl) ?_
  refine gx_aload_n C 1 (gDec_at D_X0_addMeter 13 rfl) rfl rfl ?_
  obtain ⟨v8, hv7, hF⟩ := gBind hF
  refine gx_callV0 C (st := []) 0 [] (m_X2_invert w v6 A1 hv7) gX0_addMeter_X2_invert rfl rfl rfl hy_X2_invert (Nat.le_of_ble_eq_true rfl) (Nat.le_of_ble_eq_true rfl) (is_X2_sh A1) rfl rfl rfl (Nat.le_of_ble_eq_true rfl) (gDec_at D_X0_addMeter 14 rfl) ?_
  obtain rfl := Option.some.inj hF
  exact gx_vret C E (gDec_at D_X0_addMeter 15 rfl)
/-! LadderBench$Circuit.findOhms -/
def rm_X0_findOhms : Room := { frames := 4, cells := 0, slots := 0, locals := 108 }
set_option maxRecDepth 20000 in
theorem ggX0_findOhms_X0_addMeter : GoodIn wsX0_findOhms wsX0_addMeter := goodIn_r _ [57, 40, 25, 26, 27, 28, 29, 30, 31, 32, 33, 34, 45, 46, 47, 48, 49, 50, 51, 52, 53, 71, 72, 73, 74, 75, 76, 77] (by decide +kernel) (by decide +kernel)
set_option maxRecDepth 20000 in
theorem gX0_findOhms_X0_addMeter : GoodIn wsX0_findOhms (wsV RX0 65 RX0 yX0_addMeter wsX0_addMeter) := goodIn_app (goodIn_of _ (by decide +kernel)) ggX0_findOhms_X0_addMeter
set_option maxRecDepth 20000 in
theorem ggX0_findOhms_X0_addUp : GoodIn wsX0_findOhms wsX0_addUp := goodIn_r _ [38, 4, 39, 40, 3, 25, 26, 27, 28, 29, 30, 31, 32, 33, 34, 41, 42, 43, 44, 6, 7, 8, 9, 10, 11, 12, 13, 14, 15, 16, 45, 46, 47, 48, 49, 50, 51, 52, 53, 71, 72, 73, 74, 75, 66, 67, 68, 69, 70, 76, 77] (by decide +kernel) (by decide +kernel)
set_option maxRecDepth 20000 in
theorem gX0_findOhms_X0_addUp : GoodIn wsX0_findOhms (wsV RX0 51 RX0 yX0_addUp wsX0_addUp) := goodIn_app (goodIn_of _ (by decide +kernel)) ggX0_findOhms_X0_addUp
set_option maxRecDepth 20000 in
theorem ggX0_findOhms_X0_putArm : GoodIn wsX0_findOhms wsX0_putArm := goodIn_r _ [21, 1, 22, 23, 3, 24, 25, 26, 27, 28, 29, 30, 31, 32, 33, 34, 58, 59, 60, 61, 62, 63, 64, 65, 66, 67, 68, 69, 70, 71, 72, 73, 74, 75, 76, 77] (by decide +kernel) (by decide +kernel)
set_option maxRecDepth 20000 in
theorem gX0_findOhms_X0_putArm : GoodIn wsX0_findOhms (wsV RX0 47 RX0 yX0_putArm wsX0_putArm) := goodIn_app (goodIn_of _ (by decide +kernel)) ggX0_findOhms_X0_putArm
set_option maxRecDepth 20000 in
theorem ggX0_findOhms_X2_copy : GoodIn wsX0_findOhms wsX2_copy := goodIn_r _ [44, 30, 31, 76, 77] (by decide +kernel) (by decide +kernel)
set_option maxRecDepth 20000 in
theorem gX0_findOhms_X2_copy : GoodIn wsX0_findOhms (wsV RX0 55 RX2 yX2_copy wsX2_copy) := goodIn_app (goodIn_of _ (by decide +kernel)) ggX0_findOhms_X2_copy
set_option maxRecDepth 20000 in
theorem ggX0_findOhms_X2_invert : GoodIn wsX0_findOhms wsX2_invert := goodIn_r _ [48, 30, 31, 76, 77] (by decide +kernel) (by decide +kernel)
set_option maxRecDepth 20000 in
theorem gX0_findOhms_X2_invert : GoodIn wsX0_findOhms (wsV RX0 59 RX2 yX2_invert wsX2_invert) := goodIn_app (goodIn_of _ (by decide +kernel)) ggX0_findOhms_X2_invert
set_option maxRecDepth 20000 in
theorem ggX0_findOhms_X5_isKind : GoodIn wsX0_findOhms wsX5_isKind := goodIn_r _ [10, 11, 12, 13, 14, 9, 15, 16, 66, 67, 68, 69, 70] (by decide +kernel) (by decide +kernel)
set_option maxRecDepth 20000 in
theorem gX0_findOhms_X5_isKind : GoodIn wsX0_findOhms (wsV RX0 43 RX5 yX5_isKind wsX5_isKind) := goodIn_app (goodIn_of _ (by decide +kernel)) ggX0_findOhms_X5_isKind
theorem hy_X0_findOhms : yX0_findOhms.cls = RX0 ∧ yX0_findOhms.cls ≠ "java/lang/invoke/MethodHandle" ∧ yX0_findOhms.cls ≠ "java/lang/invoke/VarHandle" ∧ (parseMethodDescriptor yX0_findOhms.desc).map (fun d => d.parameters.length) = some 2 := by decide +kernel
set_option maxRecDepth 100000 in
theorem D_X0_findOhms : gDec cX0_findOhms [(0, (.aload_n 1, 1)), (1, (.getfield 31, 3)), (4, (.astore_n 3, 1)), (5, (.iconst 0, 1)), (6, (.istore 4, 2)), (8, (.iload 4, 2)), (10, (.aload_n 3, 1)), (11, (.getfield 37, 3)), (14, (.if_icmp .ge 92, 3)), (17, (.aload_n 3, 1)), (18, (.iload 4, 2)), (20, (.iconst 0, 1)), (21, (.invokevirtual 43, 3)), (24, (.ifCond .eq 13, 3)), (27, (.aload_n 0, 1)), (28, (.aload_n 1, 1)), (29, (.iload 4, 2)), (31, (.invokevirtual 47, 3)), (34, (.goto 45, 3)), (37, (.aload_n 0, 1)), (38, (.aload_n 3, 1)), (39, (.iload 4, 2)), (41, (.iconst (-1), 1)), (42, (.invokevirtual 51, 3)), (45, (.aload_n 0, 1)), (46, (.getfield 11, 3)), (49, (.iload 4, 2)), (51, (.aaload, 1)), (52, (.aload_n 0, 1)), (53, (.getfield 21, 3)), (56, (.invokevirtual 55, 3)), (59, (.aload_n 3, 1)), (60, (.iload 4, 2)), (62, (.iconst 2, 1)), (63, (.invokevirtual 43, 3)), (66, (.ifCond .eq 13, 3)), (69, (.aload_n 0, 1)), (70, (.getfield 11, 3)), (73, (.iload 4, 2)), (75, (.aaload, 1)), (76, (.invokevirtual 59, 3)), (79, (.iload 4, 2)), (81, (.iload_n 2, 1)), (82, (.if_icmp .ne 18, 3)), (85, (.aload_n 0, 1)), (86, (.aload_n 0, 1)), (87, (.getfield 11, 3)), (90, (.iload 4, 2)), (92, (.aaload, 1)), (93, (.aload_n 1, 1)), (94, (.getfield 62, 3)), (97, (.invokevirtual 65, 3)), (100, (.iinc 4 1, 3)), (103, (.goto (-95), 3)), (106, (.return_, 1))] = true := by decide +kernel
set_option maxRecDepth 100000 in
theorem in_X0_findOhms_X0 : ∀ x ∈ u_ws RX0 TX0 5, x ∈ wsX0_findOhms := by decide +kernel
set_option maxRecDepth 100000 in
theorem in_X0_findOhms_X5 : ∀ x ∈ u_ws RX5 TX5 5, x ∈ wsX0_findOhms := by decide +kernel
set_option maxRecDepth 100000 in
theorem in_X0_findOhms_X8 : ∀ x ∈ u_ws RX8 TX8 8, x ∈ wsX0_findOhms := by decide +kernel
theorem fl_X0_findOhms_31 : gF wsX0_findOhms RX0 31 8 0 := ⟨RX8, TX8, 8, rfl, by decide, in_X0_findOhms_X8, by decide +kernel⟩
theorem fl_X0_findOhms_37 : gF wsX0_findOhms RX0 37 5 4 := ⟨RX5, TX5, 5, rfl, by decide, in_X0_findOhms_X5, by decide +kernel⟩
theorem fl_X0_findOhms_11 : gF wsX0_findOhms RX0 11 0 0 := ⟨RX0, TX0, 5, rfl, by decide, in_X0_findOhms_X0, by decide +kernel⟩
theorem fl_X0_findOhms_62 : gF wsX0_findOhms RX0 62 8 6 := ⟨RX8, TX8, 8, rfl, by decide, in_X0_findOhms_X8, by decide +kernel⟩
theorem fl_X0_findOhms_21 : gF wsX0_findOhms RX0 21 0 2 := ⟨RX0, TX0, 5, rfl, by decide, in_X0_findOhms_X0, by decide +kernel⟩
def f_X0_findOhms_8 (a0 : Nat) (a1 : Nat) (x2 : Int32) (a3 : Nat) : Nat → Int32 → gHp → Option (gHp)
  | 0, _, _ => none
  | n + 1, x4, h => if (h.1 a3 4) ≤ x4 then some h else (f_X5_isKind a3 x4 0 h).bind fun v2 => (if v2 = true then (f_X0_putArm a0 a1 x4 h).bind fun v20 => some v20 else (f_X0_addUp a0 a3 x4 (-1) h).bind fun v10 => if gIn x4 11 then (f_X2_copy (a0 + 6 + 2 * gN x4) (a0 + 3) v10).bind fun v13 => (f_X5_isKind a3 x4 2 v13).bind fun v15 => if v15 = true then if gIn x4 11 then (f_X2_invert (a0 + 6 + 2 * gN x4) v13).bind fun v18 => some v18 else none else some v13 else none : Option (gHp)).bind fun v3 => if x4 = x2 then if gIn x4 11 then (f_X0_addMeter a0 (a0 + 6 + 2 * gN x4) (v3.1 a1 6) v3).bind fun v8 => f_X0_findOhms_8 a0 a1 x2 a3 n (x4 + 1) v8 else none else f_X0_findOhms_8 a0 a1 x2 a3 n (x4 + 1) v3
set_option maxRecDepth 20000 in
set_option maxHeartbeats 4000000 in
theorem w_X0_findOhms_8 {w : gWd} {g : gCx} (C : gC w g cX0_findOhms wsX0_findOhms RX0 5 4 108) {a0 : Nat} (A0 : is_X0 w a0) {a1 : Nat} (A1 : is_X8 w a1) (x2 : Int32) {a3 : Nat} (A3 : is_X5 w a3)  {o : gHp} (hk : gX w g 5 o 106 [] []) : ∀ (n : Nat) (x4 : Int32) (h : gHp), f_X0_findOhms_8 a0 a1 x2 a3 n x4 h = some o → gX w g 5 h 8 [(0, .ref a0), (1, .ref a1), (2, .int x2), (3, .ref a3), (4, .int x4)] [] := by
  intro n
  induction n with
  | zero => intro _ _ hF; cases hF
  | succ n ih =>
    intro x4 h hF
    rw [f_X0_findOhms_8] at hF
    refine gx_iload C 4 (gDec_at D_X0_findOhms 5 rfl) rfl ?_
    refine gx_aload_n C 3 (gDec_at D_X0_findOhms 6 rfl) rfl rfl ?_
    refine gx_geti C fl_X0_findOhms_37 (is_X5_sh A3) rfl (gDec_at D_X0_findOhms 7 rfl) ?_
    refine gx_icmp_ge C 106 (gDec_at D_X0_findOhms 8 rfl) (by decide) (fun c => ?_) (fun c => ?_)
    · replace hF := gPos c hF
      obtain rfl := Option.some.inj hF
      exact gx_sub [] rfl hk
    · replace hF := gNeg c hF
      refine gx_aload_n C 3 (gDec_at D_X0_findOhms 9 rfl) rfl rfl ?_
      refine gx_iload C 4 (gDec_at D_X0_findOhms 10 rfl) rfl ?_
      refine gx_iconst C (v := 0) (gDec_at D_X0_findOhms 11 rfl) (by decide) ?_
      obtain ⟨v2, hv1, hF⟩ := gBind hF
      refine gx_callV1 C (st := []) 2 [.int x4, .int 0] (m_X5_isKind w h A3 x4 0 hv1) gX0_findOhms_X5_isKind rfl rfl rfl hy_X5_isKind (Nat.le_of_ble_eq_true rfl) (Nat.le_of_ble_eq_true rfl) (is_X5_sh A3) rfl rfl rfl (Nat.le_of_ble_eq_true rfl) (gDec_at D_X0_findOhms 12 rfl) ?_
      obtain ⟨v3, hv4, hF⟩ := gBind hF
      have k5 : gX w g 5 v3 79 [(0, .ref a0), (1, .ref a1), (2, .int x2), (3, .ref a3), (4, .int x4)] ([]) := by
        refine gx_iload C 4 (gDec_at D_X0_findOhms 41 rfl) rfl ?_
        refine gx_iload_n C 2 (gDec_at D_X0_findOhms 42 rfl) rfl rfl ?_
        refine gx_icmp_ne C 100 (gDec_at D_X0_findOhms 43 rfl) (by decide) (fun c => ?_) (fun c => ?_)
        · replace hF := gNeg c hF
          refine gx_iinc C (j := 4) (v := x4 + 1) (lv' := [(4, .int (x4 + 1)), (0, .ref a0), (1, .ref a1), (2, .int x2), (3, .ref a3)]) (gDec_at D_X0_findOhms 52 rfl) rfl (by rfl) (Nat.le_of_ble_eq_true rfl) rfl ?_
          refine gx_goto C 8 (gDec_at D_X0_findOhms 53 rfl) (by decide) ?_
          exact gx_sub [1, 2, 3, 4, 0] rfl (ih (x4 + 1) v3 hF)
        · replace hF := gPos c hF
          refine gx_aload_n C 0 (gDec_at D_X0_findOhms 44 rfl) rfl rfl ?_
          refine gx_aload_n C 0 (gDec_at D_X0_findOhms 45 rfl) rfl rfl ?_
          refine gx_getr C fl_X0_findOhms_11 (is_X0_sh A0) rfl (gDec_at D_X0_findOhms 46 rfl) ?_
          refine gx_iload C 4 (gDec_at D_X0_findOhms 47 rfl) rfl ?_
          obtain ⟨b6, hF⟩ := gGd hF
          refine gx_aaloadFr C (is_X0_ohms A0) b6 (gDec_at D_X0_findOhms 48 rfl) ?_
          show gX w g 5 v3 _ _ (.ref (a0 + 6 + 2 * gN x4) :: .ref a0 :: [])
          refine gx_aload_n C 1 (gDec_at D_X0_findOhms 49 rfl) rfl rfl ?_
          refine gx_geti C fl_X0_findOhms_62 (is_X8_sh A1) rfl (gDec_at D_X0_findOhms 50 rfl) ?_
          obtain ⟨v8, hv7, hF⟩ := gBind hF
          refine gx_callV0 C (st := []) 2 [.ref (a0 + 6 + 2 * gN x4), .int (v3.1 a1 6)] (m_X0_addMeter w v3 A0 (is_X0_ohms_at A0 b6) (v3.1 a1 6) hv7) gX0_findOhms_X0_addMeter rfl rfl rfl hy_X0_addMeter (Nat.le_of_ble_eq_true rfl) (Nat.le_of_ble_eq_true rfl) (is_X0_sh A0) rfl rfl rfl (Nat.le_of_ble_eq_true rfl) (gDec_at D_X0_findOhms 51 rfl) ?_
          refine gx_iinc C (j := 4) (v := x4 + 1) (lv' := [(4, .int (x4 + 1)), (0, .ref a0), (1, .ref a1), (2, .int x2), (3, .ref a3)]) (gDec_at D_X0_findOhms 52 rfl) rfl (by rfl) (Nat.le_of_ble_eq_true rfl) rfl ?_
          refine gx_goto C 8 (gDec_at D_X0_findOhms 53 rfl) (by decide) ?_
          exact gx_sub [1, 2, 3, 4, 0] rfl (ih (x4 + 1) v8 hF)
      replace hF := hv4
      refine gx_ifz_eq C 37 (gDec_at D_X0_findOhms 13 rfl) (by decide) (fun c => ?_) (fun c => ?_)
      · replace hF := gNeg c hF
        refine gx_aload_n C 0 (gDec_at D_X0_findOhms 19 rfl) rfl rfl ?_
        refine gx_aload_n C 3 (gDec_at D_X0_findOhms 20 rfl) rfl rfl ?_
        refine gx_iload C 4 (gDec_at D_X0_findOhms 21 rfl) rfl ?_
        refine gx_iconst C (v := (-1)) (gDec_at D_X0_findOhms 22 rfl) (by decide) ?_
        obtain ⟨v10, hv9, hF⟩ := gBind hF
        refine gx_callV0 C (st := []) 3 [.ref a3, .int x4, .int (-1)] (m_X0_addUp w h A0 A3 x4 (-1) hv9) gX0_findOhms_X0_addUp rfl rfl rfl hy_X0_addUp (Nat.le_of_ble_eq_true rfl) (Nat.le_of_ble_eq_true rfl) (is_X0_sh A0) rfl rfl rfl (Nat.le_of_ble_eq_true rfl) (gDec_at D_X0_findOhms 23 rfl) ?_
        refine gx_aload_n C 0 (gDec_at D_X0_findOhms 24 rfl) rfl rfl ?_
        refine gx_getr C fl_X0_findOhms_11 (is_X0_sh A0) rfl (gDec_at D_X0_findOhms 25 rfl) ?_
        refine gx_iload C 4 (gDec_at D_X0_findOhms 26 rfl) rfl ?_
        obtain ⟨b11, hF⟩ := gGd hF
        refine gx_aaloadFr C (is_X0_ohms A0) b11 (gDec_at D_X0_findOhms 27 rfl) ?_
        show gX w g 5 v10 _ _ (.ref (a0 + 6 + 2 * gN x4) :: [])
        refine gx_aload_n C 0 (gDec_at D_X0_findOhms 28 rfl) rfl rfl ?_
        refine gx_getr C fl_X0_findOhms_21 (is_X0_sh A0) rfl (gDec_at D_X0_findOhms 29 rfl) ?_
        obtain ⟨v13, hv12, hF⟩ := gBind hF
        refine gx_callV0 C (st := []) 1 [.ref (a0 + 3)] (m_X2_copy w v10 (is_X0_ohms_at A0 b11) (is_X0_sum A0) hv12) gX0_findOhms_X2_copy rfl rfl rfl hy_X2_copy (Nat.le_of_ble_eq_true rfl) (Nat.le_of_ble_eq_true rfl) (is_X2_sh (is_X0_ohms_at A0 b11)) rfl rfl rfl (Nat.le_of_ble_eq_true rfl) (gDec_at D_X0_findOhms 30 rfl) ?_
        refine gx_aload_n C 3 (gDec_at D_X0_findOhms 31 rfl) rfl rfl ?_
        refine gx_iload C 4 (gDec_at D_X0_findOhms 32 rfl) rfl ?_
        refine gx_iconst C (v := 2) (gDec_at D_X0_findOhms 33 rfl) (by decide) ?_
        obtain ⟨v15, hv14, hF⟩ := gBind hF
        refine gx_callV1 C (st := []) 2 [.int x4, .int 2] (m_X5_isKind w v13 A3 x4 2 hv14) gX0_findOhms_X5_isKind rfl rfl rfl hy_X5_isKind (Nat.le_of_ble_eq_true rfl) (Nat.le_of_ble_eq_true rfl) (is_X5_sh A3) rfl rfl rfl (Nat.le_of_ble_eq_true rfl) (gDec_at D_X0_findOhms 34 rfl) ?_
        refine gx_ifz_eq C 79 (gDec_at D_X0_findOhms 35 rfl) (by decide) (fun c => ?_) (fun c => ?_)
        · replace hF := gNeg c hF
          obtain rfl := Option.some.inj hF
          exact gx_sub [0, 1, 2, 3, 4] rfl k5
        · replace hF := gPos c hF
          refine gx_aload_n C 0 (gDec_at D_X0_findOhms 36 rfl) rfl rfl ?_
          refine gx_getr C fl_X0_findOhms_11 (is_X0_sh A0) rfl (gDec_at D_X0_findOhms 37 rfl) ?_
          refine gx_iload C 4 (gDec_at D_X0_findOhms 38 rfl) rfl ?_
          obtain ⟨b16, hF⟩ := gGd hF
          refine gx_aaloadFr C (is_X0_ohms A0) b16 (gDec_at D_X0_findOhms 39 rfl) ?_
          show gX w g 5 v13 _ _ (.ref (a0 + 6 + 2 * gN x4) :: [])
          obtain ⟨v18, hv17, hF⟩ := gBind hF
          refine gx_callV0 C (st := []) 0 [] (m_X2_invert w v13 (is_X0_ohms_at A0 b16) hv17) gX0_findOhms_X2_invert rfl rfl rfl hy_X2_invert (Nat.le_of_ble_eq_true rfl) (Nat.le_of_ble_eq_true rfl) (is_X2_sh (is_X0_ohms_at A0 b16)) rfl rfl rfl (Nat.le_of_ble_eq_true rfl) (gDec_at D_X0_findOhms 40 rfl) ?_
          obtain rfl := Option.some.inj hF
          exact gx_sub [0, 1, 2, 3, 4] rfl k5
      · replace hF := gPos c hF
        refine gx_aload_n C 0 (gDec_at D_X0_findOhms 14 rfl) rfl rfl ?_
        refine gx_aload_n C 1 (gDec_at D_X0_findOhms 15 rfl) rfl rfl ?_
        refine gx_iload C 4 (gDec_at D_X0_findOhms 16 rfl) rfl ?_
        obtain ⟨v20, hv19, hF⟩ := gBind hF
        refine gx_callV0 C (st := []) 2 [.ref a1, .int x4] (m_X0_putArm w h A0 A1 x4 hv19) gX0_findOhms_X0_putArm rfl rfl rfl hy_X0_putArm (Nat.le_of_ble_eq_true rfl) (Nat.le_of_ble_eq_true rfl) (is_X0_sh A0) rfl rfl rfl (Nat.le_of_ble_eq_true rfl) (gDec_at D_X0_findOhms 17 rfl) ?_
        refine gx_goto C 79 (gDec_at D_X0_findOhms 18 rfl) (by decide) ?_
        obtain rfl := Option.some.inj hF
        exact gx_sub [0, 1, 2, 3, 4] rfl k5
def f_X0_findOhms (a0 : Nat) (a1 : Nat) (x2 : Int32) (h : gHp) : Option (gHp) := (f_X0_findOhms_8 a0 a1 x2 (a1 + 1) gFuel 0 h).bind fun v21 => some v21
set_option maxRecDepth 20000 in
set_option maxHeartbeats 4000000 in
theorem m_X0_findOhms (w : gWd) (h : gHp) {a0 : Nat} (A0 : is_X0 w a0) {a1 : Nat} (A1 : is_X8 w a1) (x2 : Int32) {o : gHp} (hF : f_X0_findOhms a0 a1 x2 h = some o) : gMet w yX0_findOhms wsX0_findOhms rm_X0_findOhms [.ref a0, .ref a1, .int x2] h (none) o := by
  refine gMet_of (cc := cX0_findOhms) (maxL := 5) (ret := none) (fr := 4) (lo := 108) (own := RX0) [(0, .ref a0), (1, .ref a1), (2, .int x2)] (by decide) rfl rfl (Nat.le_of_ble_eq_true rfl) rfl (Nat.le_refl _) (Nat.le_refl _) (fun g C E => ?_)
  rw [f_X0_findOhms] at hF
  refine gx_aload_n C 1 (gDec_at D_X0_findOhms 0 rfl) rfl rfl ?_
  refine gx_getr C fl_X0_findOhms_31 (is_X8_sh A1) rfl (gDec_at D_X0_findOhms 1 rfl) ?_
  refine gx_astore_n C (lv' := [(3, .ref (a1 + 1)), (0, .ref a0), (1, .ref a1), (2, .int x2)]) (gDec_at D_X0_findOhms 2 rfl) rfl (Nat.le_of_ble_eq_true rfl) rfl ?_
  refine gx_iconst C (v := 0) (gDec_at D_X0_findOhms 3 rfl) (by decide) ?_
  refine gx_istore C (lv' := [(4, .int 0), (3, .ref (a1 + 1)), (0, .ref a0), (1, .ref a1), (2, .int x2)]) (gDec_at D_X0_findOhms 4 rfl) (Nat.le_of_ble_eq_true rfl) rfl ?_
  obtain ⟨v21, hv22, hF⟩ := gBind hF
  have k23 : gX w g 5 v21 106 [] [] := by
    obtain rfl := Option.some.inj hF
    exact gx_vret C E (gDec_at D_X0_findOhms 54 rfl)
  exact gx_sub [2, 3, 4, 1, 0] rfl (w_X0_findOhms_8 C A0 A1 x2 (is_X8_network A1) k23 gFuel 0 h hv22)
/-! LadderBench$Circuit.countInfinite -/
def rm_X0_countInfinite : Room := { frames := 1, cells := 0, slots := 0, locals := 20 }
set_option maxRecDepth 20000 in
theorem ggX0_countInfinite_X2_isInfinite : GoodIn wsX0_countInfinite wsX2_isInfinite := goodIn_r _ [7, 8, 19, 20] (by decide +kernel) (by decide +kernel)
set_option maxRecDepth 20000 in
theorem gX0_countInfinite_X2_isInfinite : GoodIn wsX0_countInfinite (wsV RX0 105 RX2 yX2_isInfinite wsX2_isInfinite) := goodIn_app (goodIn_of _ (by decide +kernel)) ggX0_countInfinite_X2_isInfinite
theorem hy_X0_countInfinite : yX0_countInfinite.cls = RX0 ∧ yX0_countInfinite.cls ≠ "java/lang/invoke/MethodHandle" ∧ yX0_countInfinite.cls ≠ "java/lang/invoke/VarHandle" ∧ (parseMethodDescriptor yX0_countInfinite.desc).map (fun d => d.parameters.length) = some 2 := by decide +kernel
set_option maxRecDepth 100000 in
theorem D_X0_countInfinite : gDec cX0_countInfinite [(0, (.iconst 0, 1)), (1, (.istore_n 3, 1)), (2, (.iconst 0, 1)), (3, (.istore 4, 2)), (5, (.iload 4, 2)), (7, (.iload_n 2, 1)), (8, (.if_icmp .ge 36, 3)), (11, (.aload_n 1, 1)), (12, (.getfield 83, 3)), (15, (.iload 4, 2)), (17, (.iaload, 1)), (18, (.iload_n 2, 1)), (19, (.if_icmp .ne 19, 3)), (22, (.aload_n 0, 1)), (23, (.getfield 11, 3)), (26, (.iload 4, 2)), (28, (.aaload, 1)), (29, (.invokevirtual 105, 3)), (32, (.ifCond .eq 6, 3)), (35, (.iinc 3 1, 3)), (38, (.iinc 4 1, 3)), (41, (.goto (-36), 3)), (44, (.iload_n 3, 1)), (45, (.ireturn, 1))] = true := by decide +kernel
set_option maxRecDepth 100000 in
theorem in_X0_countInfinite_X0 : ∀ x ∈ u_ws RX0 TX0 5, x ∈ wsX0_countInfinite := by decide +kernel
set_option maxRecDepth 100000 in
theorem in_X0_countInfinite_X5 : ∀ x ∈ u_ws RX5 TX5 5, x ∈ wsX0_countInfinite := by decide +kernel
theorem fl_X0_countInfinite_83 : gF wsX0_countInfinite RX0 83 5 1 := ⟨RX5, TX5, 5, rfl, by decide, in_X0_countInfinite_X5, by decide +kernel⟩
theorem fl_X0_countInfinite_11 : gF wsX0_countInfinite RX0 11 0 0 := ⟨RX0, TX0, 5, rfl, by decide, in_X0_countInfinite_X0, by decide +kernel⟩
def f_X0_countInfinite_5 (a0 : Nat) (a1 : Nat) (x2 : Int32) (h : gHp) : Nat → Int32 → Int32 → Option (Int32)
  | 0, _, _ => none
  | n + 1, x3, x4 => if x2 ≤ x4 then some x3 else if gIn x4 11 then if (h.1 (a1 + 2) (gN x4)) = x2 then if gIn x4 11 then (f_X2_isInfinite (a0 + 6 + 2 * gN x4) h).bind fun v4 => if v4 = true then f_X0_countInfinite_5 a0 a1 x2 h n (x3 + 1) (x4 + 1) else f_X0_countInfinite_5 a0 a1 x2 h n x3 (x4 + 1) else none else f_X0_countInfinite_5 a0 a1 x2 h n x3 (x4 + 1) else none
set_option maxRecDepth 20000 in
set_option maxHeartbeats 4000000 in
theorem w_X0_countInfinite_5 {w : gWd} {g : gCx} (C : gC w g cX0_countInfinite wsX0_countInfinite RX0 5 1 20) {a0 : Nat} (A0 : is_X0 w a0) {a1 : Nat} (A1 : is_X5 w a1) (x2 : Int32) (h : gHp)  {o : Int32} (hk : gX w g 5 h 44 [(3, .int o)] []) : ∀ (n : Nat) (x3 : Int32) (x4 : Int32), f_X0_countInfinite_5 a0 a1 x2 h n x3 x4 = some o → gX w g 5 h 5 [(0, .ref a0), (1, .ref a1), (2, .int x2), (3, .int x3), (4, .int x4)] [] := by
  intro n
  induction n with
  | zero => intro _ _ hF; cases hF
  | succ n ih =>
    intro x3 x4 hF
    rw [f_X0_countInfinite_5] at hF
    refine gx_iload C 4 (gDec_at D_X0_countInfinite 4 rfl) rfl ?_
    refine gx_iload_n C 2 (gDec_at D_X0_countInfinite 5 rfl) rfl rfl ?_
    refine gx_icmp_ge C 44 (gDec_at D_X0_countInfinite 6 rfl) (by decide) (fun c => ?_) (fun c => ?_)
    · replace hF := gPos c hF
      obtain rfl := Option.some.inj hF
      exact gx_sub [3] rfl hk
    · replace hF := gNeg c hF
      refine gx_aload_n C 1 (gDec_at D_X0_countInfinite 7 rfl) rfl rfl ?_
      refine gx_getr C fl_X0_countInfinite_83 (is_X5_sh A1) rfl (gDec_at D_X0_countInfinite 8 rfl) ?_
      refine gx_iload C 4 (gDec_at D_X0_countInfinite 9 rfl) rfl ?_
      obtain ⟨b1, hF⟩ := gGd hF
      refine gx_iaload C (is_X5_around A1) b1 (gDec_at D_X0_countInfinite 10 rfl) ?_
      refine gx_iload_n C 2 (gDec_at D_X0_countInfinite 11 rfl) rfl rfl ?_
      refine gx_icmp_ne C 38 (gDec_at D_X0_countInfinite 12 rfl) (by decide) (fun c => ?_) (fun c => ?_)
      · replace hF := gNeg c hF
        refine gx_iinc C (j := 4) (v := x4 + 1) (lv' := [(4, .int (x4 + 1)), (0, .ref a0), (1, .ref a1), (2, .int x2), (3, .int x3)]) (gDec_at D_X0_countInfinite 20 rfl) rfl (by rfl) (Nat.le_of_ble_eq_true rfl) rfl ?_
        refine gx_goto C 5 (gDec_at D_X0_countInfinite 21 rfl) (by decide) ?_
        exact gx_sub [1, 2, 3, 4, 0] rfl (ih x3 (x4 + 1) hF)
      · replace hF := gPos c hF
        refine gx_aload_n C 0 (gDec_at D_X0_countInfinite 13 rfl) rfl rfl ?_
        refine gx_getr C fl_X0_countInfinite_11 (is_X0_sh A0) rfl (gDec_at D_X0_countInfinite 14 rfl) ?_
        refine gx_iload C 4 (gDec_at D_X0_countInfinite 15 rfl) rfl ?_
        obtain ⟨b2, hF⟩ := gGd hF
        refine gx_aaloadFr C (is_X0_ohms A0) b2 (gDec_at D_X0_countInfinite 16 rfl) ?_
        show gX w g 5 h _ _ (.ref (a0 + 6 + 2 * gN x4) :: [])
        obtain ⟨v4, hv3, hF⟩ := gBind hF
        refine gx_callV1 C (st := []) 0 [] (m_X2_isInfinite w h (is_X0_ohms_at A0 b2) hv3) gX0_countInfinite_X2_isInfinite rfl rfl rfl hy_X2_isInfinite (Nat.le_of_ble_eq_true rfl) (Nat.le_of_ble_eq_true rfl) (is_X2_sh (is_X0_ohms_at A0 b2)) rfl rfl rfl (Nat.le_of_ble_eq_true rfl) (gDec_at D_X0_countInfinite 17 rfl) ?_
        refine gx_ifz_eq C 38 (gDec_at D_X0_countInfinite 18 rfl) (by decide) (fun c => ?_) (fun c => ?_)
        · replace hF := gNeg c hF
          refine gx_iinc C (j := 4) (v := x4 + 1) (lv' := [(4, .int (x4 + 1)), (0, .ref a0), (1, .ref a1), (2, .int x2), (3, .int x3)]) (gDec_at D_X0_countInfinite 20 rfl) rfl (by rfl) (Nat.le_of_ble_eq_true rfl) rfl ?_
          refine gx_goto C 5 (gDec_at D_X0_countInfinite 21 rfl) (by decide) ?_
          exact gx_sub [1, 2, 3, 4, 0] rfl (ih x3 (x4 + 1) hF)
        · replace hF := gPos c hF
          refine gx_iinc C (j := 3) (v := x3 + 1) (lv' := [(3, .int (x3 + 1)), (0, .ref a0), (1, .ref a1), (2, .int x2), (4, .int x4)]) (gDec_at D_X0_countInfinite 19 rfl) rfl (by rfl) (Nat.le_of_ble_eq_true rfl) rfl ?_
          refine gx_iinc C (j := 4) (v := x4 + 1) (lv' := [(4, .int (x4 + 1)), (3, .int (x3 + 1)), (0, .ref a0), (1, .ref a1), (2, .int x2)]) (gDec_at D_X0_countInfinite 20 rfl) rfl (by rfl) (Nat.le_of_ble_eq_true rfl) rfl ?_
          refine gx_goto C 5 (gDec_at D_X0_countInfinite 21 rfl) (by decide) ?_
          exact gx_sub [2, 3, 4, 1, 0] rfl (ih (x3 + 1) (x4 + 1) hF)
def f_X0_countInfinite (a0 : Nat) (a1 : Nat) (x2 : Int32) (h : gHp) : Option (Int32) := (f_X0_countInfinite_5 a0 a1 x2 h gFuel 0 0).bind fun v5 => some v5
set_option maxRecDepth 20000 in
set_option maxHeartbeats 4000000 in
theorem m_X0_countInfinite (w : gWd) (h : gHp) {a0 : Nat} (A0 : is_X0 w a0) {a1 : Nat} (A1 : is_X5 w a1) (x2 : Int32) {o : Int32} (hF : f_X0_countInfinite a0 a1 x2 h = some o) : gMet w yX0_countInfinite wsX0_countInfinite rm_X0_countInfinite [.ref a0, .ref a1, .int x2] h (some (.int o)) h := by
  refine gMet_of (cc := cX0_countInfinite) (maxL := 5) (ret := (some .int)) (fr := 1) (lo := 20) (own := RX0) [(0, .ref a0), (1, .ref a1), (2, .int x2)] (by decide) rfl rfl (Nat.le_of_ble_eq_true rfl) rfl (Nat.le_refl _) (Nat.le_refl _) (fun g C E => ?_)
  rw [f_X0_countInfinite] at hF
  refine gx_iconst C (v := 0) (gDec_at D_X0_countInfinite 0 rfl) (by decide) ?_
  refine gx_istore_n C (lv' := [(3, .int 0), (0, .ref a0), (1, .ref a1), (2, .int x2)]) (gDec_at D_X0_countInfinite 1 rfl) rfl (Nat.le_of_ble_eq_true rfl) rfl ?_
  refine gx_iconst C (v := 0) (gDec_at D_X0_countInfinite 2 rfl) (by decide) ?_
  refine gx_istore C (lv' := [(4, .int 0), (3, .int 0), (0, .ref a0), (1, .ref a1), (2, .int x2)]) (gDec_at D_X0_countInfinite 3 rfl) (Nat.le_of_ble_eq_true rfl) rfl ?_
  obtain ⟨v5, hv6, hF⟩ := gBind hF
  have k7 : gX w g 5 h 44 [(3, .int v5)] [] := by
    refine gx_iload_n C 0 (gDec_at D_X0_countInfinite 22 rfl) rfl rfl ?_
    obtain rfl := Option.some.inj hF
    exact gx_iret C E (gDec_at D_X0_countInfinite 23 rfl)
  exact gx_sub [2, 3, 4, 1, 0] rfl (w_X0_countInfinite_5 C A0 A1 x2 h k7 gFuel 0 0 hv6)
