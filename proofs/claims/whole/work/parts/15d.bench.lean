/-! LadderBench.fault -/
def rm_X9_fault : Room := { frames := 6, cells := 0, slots := 0, locals := 154 }
set_option maxRecDepth 20000 in
theorem ggX9_fault_X2_put : GoodIn wsX9_fault wsX2_put := goodIn_r _ [9, 10, 11, 12, 13, 8, 14, 136, 137] (by decide +kernel) (by decide +kernel)
set_option maxRecDepth 20000 in
theorem gX9_fault_X2_put : GoodIn wsX9_fault (wsV RX9 247 RX2 yX2_put wsX2_put) := goodIn_app (goodIn_of _ (by decide +kernel)) ggX9_fault_X2_put
set_option maxRecDepth 20000 in
theorem ggX9_fault_X9_couldBe : GoodIn wsX9_fault wsX9_couldBe := goodIn_r _ [19, 1, 2, 20, 21, 22, 23, 3, 4, 24, 25, 26, 27, 28, 29, 30, 31, 32, 33, 34, 35, 36, 37, 38, 39, 40, 41, 42, 43, 44, 45, 46, 47, 48, 49, 50, 51, 52, 53, 54, 55, 56, 57, 58, 59, 60, 61, 62, 63, 64, 65, 66, 67, 68, 69, 70, 71, 72, 73, 74, 75, 76, 77, 78, 79, 80, 81, 82, 83, 84, 85, 6, 7, 8, 9, 10, 11, 12, 13, 14, 86, 87, 88, 89, 90, 91, 92, 93, 94, 95, 96, 97, 98, 99, 100, 101, 102, 103, 104, 105, 106, 107, 108, 109, 110, 111, 112, 113, 114, 115, 116, 117, 118, 119, 120, 121, 122, 123, 124, 125, 126, 127, 128, 129, 130, 138, 139, 140, 141, 142, 131, 132, 133, 134, 135, 143, 144, 145, 146, 136, 137] (by decide +kernel) (by decide +kernel)
set_option maxRecDepth 20000 in
theorem gX9_fault_X9_couldBe : GoodIn wsX9_fault (wsV RX9 254 RX9 yX9_couldBe wsX9_couldBe) := goodIn_app (goodIn_of _ (by decide +kernel)) ggX9_fault_X9_couldBe
theorem hy_X9_fault : yX9_fault.cls = RX9 ∧ yX9_fault.cls ≠ "java/lang/invoke/MethodHandle" ∧ yX9_fault.cls ≠ "java/lang/invoke/VarHandle" ∧ (parseMethodDescriptor yX9_fault.desc).map (fun d => d.parameters.length) = some 3 := by decide +kernel
set_option maxRecDepth 100000 in
theorem D_X9_fault : gDec cX9_fault [(0, (.iload_n 1, 1)), (1, (.ifCond .lt 20, 3)), (4, (.iload_n 1, 1)), (5, (.sipush 9999, 3)), (8, (.if_icmp .gt 13, 3)), (11, (.iload_n 2, 1)), (12, (.ifCond .lt 9, 3)), (15, (.iload_n 2, 1)), (16, (.bipush 99, 2)), (18, (.if_icmp .le 6, 3)), (21, (.bipush (-2), 2)), (23, (.ireturn, 1)), (24, (.iload_n 1, 1)), (25, (.ifCond .ne 7, 3)), (28, (.iload_n 2, 1)), (29, (.ifCond .eq 7, 3)), (32, (.iload_n 3, 1)), (33, (.ifCond .ge 6, 3)), (36, (.bipush (-2), 2)), (38, (.ireturn, 1)), (39, (.aload_n 0, 1)), (40, (.getfield 19, 3)), (43, (.getfield 84, 3)), (46, (.getfield 95, 3)), (49, (.ifCond .ne 6, 3)), (52, (.bipush (-3), 2)), (54, (.ireturn, 1)), (55, (.aload_n 0, 1)), (56, (.getfield 60, 3)), (59, (.iload_n 1, 1)), (60, (.i2l, 1)), (61, (.iload_n 2, 1)), (62, (.i2l, 1)), (63, (.invokevirtual 247, 3)), (66, (.iload_n 3, 1)), (67, (.istore 4, 2)), (69, (.iconst 0, 1)), (70, (.istore 5, 2)), (72, (.iload 5, 2)), (74, (.bipush 6, 2)), (76, (.if_icmp .ge 52, 3)), (79, (.iconst 1, 1)), (80, (.istore 6, 2)), (82, (.iload 6, 2)), (84, (.iconst 2, 1)), (85, (.if_icmp .gt 37, 3)), (88, (.aload_n 0, 1)), (89, (.iload 5, 2)), (91, (.iload 6, 2)), (93, (.invokevirtual 254, 3)), (96, (.ifCond .eq 20, 3)), (99, (.iload 4, 2)), (101, (.ifCond .ne 12, 3)), (104, (.bipush 10, 2)), (106, (.iload 5, 2)), (108, (.imul, 1)), (109, (.iload 6, 2)), (111, (.iadd, 1)), (112, (.ireturn, 1)), (113, (.iinc 4 (-1), 3)), (116, (.iinc 6 1, 3)), (119, (.goto (-37), 3)), (122, (.iinc 5 1, 3)), (125, (.goto (-53), 3)), (128, (.bipush (-4), 2)), (130, (.ireturn, 1))] = true := by decide +kernel
set_option maxRecDepth 100000 in
theorem in_X9_fault_X5 : ∀ x ∈ u_ws RX5 TX5 5, x ∈ wsX9_fault := by decide +kernel
set_option maxRecDepth 100000 in
theorem in_X9_fault_X8 : ∀ x ∈ u_ws RX8 TX8 8, x ∈ wsX9_fault := by decide +kernel
set_option maxRecDepth 100000 in
theorem in_X9_fault_X9 : ∀ x ∈ u_ws RX9 TX9 10, x ∈ wsX9_fault := by decide +kernel
theorem fl_X9_fault_19 : gF wsX9_fault RX9 19 9 1 := ⟨RX9, TX9, 10, rfl, by decide, in_X9_fault_X9, by decide +kernel⟩
theorem fl_X9_fault_84 : gF wsX9_fault RX9 84 8 0 := ⟨RX8, TX8, 8, rfl, by decide, in_X9_fault_X8, by decide +kernel⟩
theorem fl_X9_fault_95 : gF wsX9_fault RX9 95 5 4 := ⟨RX5, TX5, 5, rfl, by decide, in_X9_fault_X5, by decide +kernel⟩
theorem fl_X9_fault_60 : gF wsX9_fault RX9 60 9 8 := ⟨RX9, TX9, 10, rfl, by decide, in_X9_fault_X9, by decide +kernel⟩
def f_X9_fault_82 (a0 : Nat) (x5 : Int32) (k_72 : Int32 → Int32 → gHp → Option (Int32 × gHp)) : Nat → Int32 → Int32 → gHp → Option (Int32 × gHp)
  | 0, _, _, _ => none
  | n + 1, x4, x6, h => if 2 < x6 then k_72 x4 (x5 + 1) h else (f_X9_couldBe a0 x5 x6 h).bind fun v4 => if v4.1 = true then if x4 = 0 then some ((10 * x5) + x6, v4.2) else f_X9_fault_82 a0 x5 k_72 n (x4 + (-1)) (x6 + 1) v4.2 else f_X9_fault_82 a0 x5 k_72 n x4 (x6 + 1) v4.2
set_option maxRecDepth 20000 in
set_option maxHeartbeats 4000000 in
theorem w_X9_fault_82 {w : gWd} {g : gCx} (C : gC w g cX9_fault wsX9_fault RX9 7 6 154) {a0 : Nat} (A0 : is_X9 w a0) (x5 : Int32) (k_72 : Int32 → Int32 → gHp → Option (Int32 × gHp)) {o : Int32 × gHp} (hk_72 : ∀ (y0 : Int32) (y1 : Int32) (y2 : gHp), k_72 y0 y1 y2 = some o → gX w g 7 y2 72 [(0, .ref a0), (4, .int y0), (5, .int y1)] []) (E : gEn w g (some .int) (some (.int o.1)) o.2) : ∀ (n : Nat) (x4 : Int32) (x6 : Int32) (h : gHp), f_X9_fault_82 a0 x5 k_72 n x4 x6 h = some o → gX w g 7 h 82 [(0, .ref a0), (4, .int x4), (5, .int x5), (6, .int x6)] [] := by
  intro n
  induction n with
  | zero => intro _ _ _ hF; cases hF
  | succ n ih =>
    intro x4 x6 h hF
    rw [f_X9_fault_82] at hF
    refine gx_iload C 3 (gDec_at D_X9_fault 43 rfl) rfl ?_
    refine gx_iconst C (v := 2) (gDec_at D_X9_fault 44 rfl) (by decide) ?_
    refine gx_icmp_gt C 122 (gDec_at D_X9_fault 45 rfl) (by decide) (fun c => ?_) (fun c => ?_)
    · replace hF := gPos c hF
      refine gx_iinc C (j := 2) (v := x5 + 1) (lv' := [(5, .int (x5 + 1)), (0, .ref a0), (4, .int x4), (6, .int x6)]) (gDec_at D_X9_fault 62 rfl) rfl (by rfl) (Nat.le_of_ble_eq_true rfl) rfl ?_
      refine gx_goto C 72 (gDec_at D_X9_fault 63 rfl) (by decide) ?_
      exact gx_sub [1, 2, 0] rfl (hk_72 x4 (x5 + 1) h hF)
    · replace hF := gNeg c hF
      refine gx_aload_n C 0 (gDec_at D_X9_fault 46 rfl) rfl rfl ?_
      refine gx_iload C 2 (gDec_at D_X9_fault 47 rfl) rfl ?_
      refine gx_iload C 3 (gDec_at D_X9_fault 48 rfl) rfl ?_
      obtain ⟨v4, hv3, hF⟩ := gBind hF
      refine gx_callV1 C (st := []) 2 [.int x5, .int x6] (m_X9_couldBe w h A0 x5 x6 hv3) gX9_fault_X9_couldBe rfl rfl rfl hy_X9_couldBe (Nat.le_of_ble_eq_true rfl) (Nat.le_of_ble_eq_true rfl) (is_X9_sh A0) rfl rfl rfl (Nat.le_of_ble_eq_true rfl) (gDec_at D_X9_fault 49 rfl) ?_
      refine gx_ifz_eq C 116 (gDec_at D_X9_fault 50 rfl) (by decide) (fun c => ?_) (fun c => ?_)
      · replace hF := gNeg c hF
        refine gx_iinc C (j := 3) (v := x6 + 1) (lv' := [(6, .int (x6 + 1)), (0, .ref a0), (4, .int x4), (5, .int x5)]) (gDec_at D_X9_fault 60 rfl) rfl (by rfl) (Nat.le_of_ble_eq_true rfl) rfl ?_
        refine gx_goto C 82 (gDec_at D_X9_fault 61 rfl) (by decide) ?_
        exact gx_sub [1, 2, 3, 0] rfl (ih x4 (x6 + 1) v4.2 hF)
      · replace hF := gPos c hF
        refine gx_iload C 1 (gDec_at D_X9_fault 51 rfl) rfl ?_
        refine gx_if_ne C 113 (gDec_at D_X9_fault 52 rfl) (by decide) (fun c => ?_) (fun c => ?_)
        · replace hF := gNeg c hF
          refine gx_iinc C (j := 1) (v := x4 + (-1)) (lv' := [(4, .int (x4 + (-1))), (0, .ref a0), (5, .int x5), (6, .int x6)]) (gDec_at D_X9_fault 59 rfl) rfl (by rfl) (Nat.le_of_ble_eq_true rfl) rfl ?_
          refine gx_iinc C (j := 3) (v := x6 + 1) (lv' := [(6, .int (x6 + 1)), (4, .int (x4 + (-1))), (0, .ref a0), (5, .int x5)]) (gDec_at D_X9_fault 60 rfl) rfl (by rfl) (Nat.le_of_ble_eq_true rfl) rfl ?_
          refine gx_goto C 82 (gDec_at D_X9_fault 61 rfl) (by decide) ?_
          exact gx_sub [2, 1, 3, 0] rfl (ih (x4 + (-1)) (x6 + 1) v4.2 hF)
        · replace hF := gPos c hF
          refine gx_bipush C (v := 10) (gDec_at D_X9_fault 53 rfl) (by decide) ?_
          refine gx_iload C 2 (gDec_at D_X9_fault 54 rfl) rfl ?_
          refine gx_imul C (gDec_at D_X9_fault 55 rfl) ?_
          refine gx_iload C 3 (gDec_at D_X9_fault 56 rfl) rfl ?_
          refine gx_iadd C (gDec_at D_X9_fault 57 rfl) ?_
          obtain rfl := Option.some.inj hF
          exact gx_iret C E (gDec_at D_X9_fault 58 rfl)
def f_X9_fault_72 (a0 : Nat) : Nat → Int32 → Int32 → gHp → Option (Int32 × gHp)
  | 0, _, _, _ => none
  | n + 1, x4, x5, h => if 6 ≤ x5 then some ((-4), h) else f_X9_fault_82 a0 x5 (fun y0 y1 y2 => f_X9_fault_72 a0 n y0 y1 y2) gFuel x4 1 h
set_option maxRecDepth 20000 in
set_option maxHeartbeats 4000000 in
theorem w_X9_fault_72 {w : gWd} {g : gCx} (C : gC w g cX9_fault wsX9_fault RX9 7 6 154) {a0 : Nat} (A0 : is_X9 w a0)  {o : Int32 × gHp} (E : gEn w g (some .int) (some (.int o.1)) o.2) : ∀ (n : Nat) (x4 : Int32) (x5 : Int32) (h : gHp), f_X9_fault_72 a0 n x4 x5 h = some o → gX w g 7 h 72 [(0, .ref a0), (4, .int x4), (5, .int x5)] [] := by
  intro n
  induction n with
  | zero => intro _ _ _ hF; cases hF
  | succ n ih =>
    intro x4 x5 h hF
    rw [f_X9_fault_72] at hF
    refine gx_iload C 2 (gDec_at D_X9_fault 38 rfl) rfl ?_
    refine gx_bipush C (v := 6) (gDec_at D_X9_fault 39 rfl) (by decide) ?_
    refine gx_icmp_ge C 128 (gDec_at D_X9_fault 40 rfl) (by decide) (fun c => ?_) (fun c => ?_)
    · replace hF := gPos c hF
      refine gx_bipush C (v := (-4)) (gDec_at D_X9_fault 64 rfl) (by decide) ?_
      obtain rfl := Option.some.inj hF
      exact gx_iret C E (gDec_at D_X9_fault 65 rfl)
    · replace hF := gNeg c hF
      refine gx_iconst C (v := 1) (gDec_at D_X9_fault 41 rfl) (by decide) ?_
      refine gx_istore C (lv' := [(6, .int 1), (0, .ref a0), (4, .int x4), (5, .int x5)]) (gDec_at D_X9_fault 42 rfl) (Nat.le_of_ble_eq_true rfl) rfl ?_
      exact gx_sub [1, 2, 3, 0] rfl (w_X9_fault_82 C A0 x5 _ (fun y0 y1 y2 hq => ih y0 y1 y2 hq) E gFuel x4 1 h hF)
def f_X9_fault_32 (a0 : Nat) (x1 : Int32) (x2 : Int32) (x3 : Int32) (h : gHp) : Option (Int32 × gHp) := if 0 ≤ x3 then if (h.1 (a0 + 3 + 1) 4) = 0 then some ((-3), h) else (f_X2_put (a0 + 141) x1.toInt64 x2.toInt64 h).bind fun v2 => f_X9_fault_72 a0 gFuel x3 0 v2 else some ((-2), h)
set_option maxRecDepth 20000 in
set_option maxHeartbeats 4000000 in
theorem w_X9_fault_32 {w : gWd} {g : gCx} (C : gC w g cX9_fault wsX9_fault RX9 7 6 154) {a0 : Nat} (A0 : is_X9 w a0) (x1 : Int32) (x2 : Int32) (x3 : Int32) (h : gHp)  {o : Int32 × gHp}  (E : gEn w g (some .int) (some (.int o.1)) o.2) (hF : f_X9_fault_32 a0 x1 x2 x3 h = some o) : gX w g 7 h 32 [(0, .ref a0), (1, .int x1), (2, .int x2), (3, .int x3)] ([]) := by
  rw [f_X9_fault_32] at hF
  refine gx_iload_n C 3 (gDec_at D_X9_fault 16 rfl) rfl rfl ?_
  refine gx_if_ge C 39 (gDec_at D_X9_fault 17 rfl) (by decide) (fun c => ?_) (fun c => ?_)
  · replace hF := gPos c hF
    refine gx_aload_n C 0 (gDec_at D_X9_fault 20 rfl) rfl rfl ?_
    refine gx_getr C fl_X9_fault_19 (is_X9_sh A0) rfl (gDec_at D_X9_fault 21 rfl) ?_
    refine gx_getr C fl_X9_fault_84 (is_X8_sh (is_X9_now A0)) rfl (gDec_at D_X9_fault 22 rfl) ?_
    refine gx_geti C fl_X9_fault_95 (is_X5_sh (is_X8_network (is_X9_now A0))) rfl (gDec_at D_X9_fault 23 rfl) ?_
    refine gx_if_ne C 55 (gDec_at D_X9_fault 24 rfl) (by decide) (fun c => ?_) (fun c => ?_)
    · replace hF := gNeg c hF
      refine gx_aload_n C 0 (gDec_at D_X9_fault 27 rfl) rfl rfl ?_
      refine gx_getr C fl_X9_fault_60 (is_X9_sh A0) rfl (gDec_at D_X9_fault 28 rfl) ?_
      refine gx_iload_n C 1 (gDec_at D_X9_fault 29 rfl) rfl rfl ?_
      refine gx_i2l C (gDec_at D_X9_fault 30 rfl) ?_
      refine gx_iload_n C 2 (gDec_at D_X9_fault 31 rfl) rfl rfl ?_
      refine gx_i2l C (gDec_at D_X9_fault 32 rfl) ?_
      obtain ⟨v2, hv1, hF⟩ := gBind hF
      refine gx_callV0 C (st := []) 2 [.long x1.toInt64, .long x2.toInt64] (m_X2_put w h (is_X9_wanted A0) x1.toInt64 x2.toInt64 hv1) gX9_fault_X2_put rfl rfl rfl hy_X2_put (Nat.le_of_ble_eq_true rfl) (Nat.le_of_ble_eq_true rfl) (is_X2_sh (is_X9_wanted A0)) rfl rfl rfl (Nat.le_of_ble_eq_true rfl) (gDec_at D_X9_fault 33 rfl) ?_
      refine gx_iload_n C 3 (gDec_at D_X9_fault 34 rfl) rfl rfl ?_
      refine gx_istore C (lv' := [(4, .int x3), (0, .ref a0), (1, .int x1), (2, .int x2), (3, .int x3)]) (gDec_at D_X9_fault 35 rfl) (Nat.le_of_ble_eq_true rfl) rfl ?_
      refine gx_iconst C (v := 0) (gDec_at D_X9_fault 36 rfl) (by decide) ?_
      refine gx_istore C (lv' := [(5, .int 0), (4, .int x3), (0, .ref a0), (1, .int x1), (2, .int x2), (3, .int x3)]) (gDec_at D_X9_fault 37 rfl) (Nat.le_of_ble_eq_true rfl) rfl ?_
      exact gx_sub [2, 1, 0] rfl (w_X9_fault_72 C A0   E gFuel x3 0 v2 hF)
    · replace hF := gPos c hF
      refine gx_bipush C (v := (-3)) (gDec_at D_X9_fault 25 rfl) (by decide) ?_
      obtain rfl := Option.some.inj hF
      exact gx_iret C E (gDec_at D_X9_fault 26 rfl)
  · replace hF := gNeg c hF
    refine gx_bipush C (v := (-2)) (gDec_at D_X9_fault 18 rfl) (by decide) ?_
    obtain rfl := Option.some.inj hF
    exact gx_iret C E (gDec_at D_X9_fault 19 rfl)
def f_X9_fault (a0 : Nat) (x1 : Int32) (x2 : Int32) (x3 : Int32) (h : gHp) : Option (Int32 × gHp) := if x1 < 0 then some ((-2), h) else if 9999 < x1 then some ((-2), h) else if x2 < 0 then some ((-2), h) else if x2 ≤ 99 then if x1 = 0 then if x2 = 0 then some ((-2), h) else f_X9_fault_32 a0 x1 x2 x3 h else f_X9_fault_32 a0 x1 x2 x3 h else some ((-2), h)
set_option maxRecDepth 20000 in
set_option maxHeartbeats 4000000 in
theorem m_X9_fault (w : gWd) (h : gHp) {a0 : Nat} (A0 : is_X9 w a0) (x1 : Int32) (x2 : Int32) (x3 : Int32) {o : Int32 × gHp} (hF : f_X9_fault a0 x1 x2 x3 h = some o) : gMet w yX9_fault wsX9_fault rm_X9_fault [.ref a0, .int x1, .int x2, .int x3] h (some (.int o.1)) o.2 := by
  refine gMet_of (cc := cX9_fault) (maxL := 7) (ret := (some .int)) (fr := 6) (lo := 154) (own := RX9) [(0, .ref a0), (1, .int x1), (2, .int x2), (3, .int x3)] (by decide) rfl rfl (Nat.le_of_ble_eq_true rfl) rfl (Nat.le_refl _) (Nat.le_refl _) (fun g C E => ?_)
  rw [f_X9_fault] at hF
  refine gx_iload_n C 1 (gDec_at D_X9_fault 0 rfl) rfl rfl ?_
  refine gx_if_lt C 21 (gDec_at D_X9_fault 1 rfl) (by decide) (fun c => ?_) (fun c => ?_)
  · replace hF := gPos c hF
    refine gx_bipush C (v := (-2)) (gDec_at D_X9_fault 10 rfl) (by decide) ?_
    obtain rfl := Option.some.inj hF
    exact gx_iret C E (gDec_at D_X9_fault 11 rfl)
  · replace hF := gNeg c hF
    refine gx_iload_n C 1 (gDec_at D_X9_fault 2 rfl) rfl rfl ?_
    refine gx_sipush C (v := 9999) (gDec_at D_X9_fault 3 rfl) (by decide) ?_
    refine gx_icmp_gt C 21 (gDec_at D_X9_fault 4 rfl) (by decide) (fun c => ?_) (fun c => ?_)
    · replace hF := gPos c hF
      refine gx_bipush C (v := (-2)) (gDec_at D_X9_fault 10 rfl) (by decide) ?_
      obtain rfl := Option.some.inj hF
      exact gx_iret C E (gDec_at D_X9_fault 11 rfl)
    · replace hF := gNeg c hF
      refine gx_iload_n C 2 (gDec_at D_X9_fault 5 rfl) rfl rfl ?_
      refine gx_if_lt C 21 (gDec_at D_X9_fault 6 rfl) (by decide) (fun c => ?_) (fun c => ?_)
      · replace hF := gPos c hF
        refine gx_bipush C (v := (-2)) (gDec_at D_X9_fault 10 rfl) (by decide) ?_
        obtain rfl := Option.some.inj hF
        exact gx_iret C E (gDec_at D_X9_fault 11 rfl)
      · replace hF := gNeg c hF
        refine gx_iload_n C 2 (gDec_at D_X9_fault 7 rfl) rfl rfl ?_
        refine gx_bipush C (v := 99) (gDec_at D_X9_fault 8 rfl) (by decide) ?_
        refine gx_icmp_le C 24 (gDec_at D_X9_fault 9 rfl) (by decide) (fun c => ?_) (fun c => ?_)
        · replace hF := gPos c hF
          refine gx_iload_n C 1 (gDec_at D_X9_fault 12 rfl) rfl rfl ?_
          refine gx_if_ne C 32 (gDec_at D_X9_fault 13 rfl) (by decide) (fun c => ?_) (fun c => ?_)
          · replace hF := gNeg c hF
            exact gx_sub [0, 1, 2, 3] rfl (w_X9_fault_32 C A0 x1 x2 x3 h   E hF)
          · replace hF := gPos c hF
            refine gx_iload_n C 2 (gDec_at D_X9_fault 14 rfl) rfl rfl ?_
            refine gx_if_eq C 36 (gDec_at D_X9_fault 15 rfl) (by decide) (fun c => ?_) (fun c => ?_)
            · replace hF := gPos c hF
              refine gx_bipush C (v := (-2)) (gDec_at D_X9_fault 18 rfl) (by decide) ?_
              obtain rfl := Option.some.inj hF
              exact gx_iret C E (gDec_at D_X9_fault 19 rfl)
            · replace hF := gNeg c hF
              exact gx_sub [0, 1, 2, 3] rfl (w_X9_fault_32 C A0 x1 x2 x3 h   E hF)
        · replace hF := gNeg c hF
          refine gx_bipush C (v := (-2)) (gDec_at D_X9_fault 10 rfl) (by decide) ?_
          obtain rfl := Option.some.inj hF
          exact gx_iret C E (gDec_at D_X9_fault 11 rfl)
/-! LadderBench.worst -/
def rm_X9_worst : Room := { frames := 6, cells := 0, slots := 0, locals := 154 }
set_option maxRecDepth 20000 in
theorem ggX9_worst_X0_findLoss : GoodIn wsX9_worst wsX0_findLoss := goodIn_r _ [9, 10, 11, 12, 13, 14, 15, 16, 17, 18, 8, 19, 20, 21, 22, 23, 24, 25, 26, 27, 28, 29, 30, 31, 32, 33, 34, 35, 36, 37, 38, 39, 40, 41, 42, 43, 44, 45, 46, 47, 48, 49, 50, 51, 52, 53, 54, 55, 56, 57, 58, 59, 60, 61, 62, 63, 64, 65, 66, 67, 68, 69, 70, 71, 72, 73, 74, 75, 76, 77, 78, 79, 80, 81, 82, 83, 84, 85, 86, 87, 88, 89, 90, 91, 92, 93, 94, 95, 96, 97, 98, 99, 100, 101, 102, 103, 104, 105, 106, 107, 108, 132, 133, 134, 135, 136, 137, 138, 119, 120, 121, 122, 123, 124, 125, 126, 127, 128, 129, 130, 131] (by decide +kernel) (by decide +kernel)
set_option maxRecDepth 20000 in
theorem gX9_worst_X0_findLoss : GoodIn wsX9_worst (wsV RX9 233 RX0 yX0_findLoss wsX0_findLoss) := goodIn_app (goodIn_of _ (by decide +kernel)) ggX9_worst_X0_findLoss
theorem hy_X9_worst : yX9_worst.cls = RX9 ∧ yX9_worst.cls ≠ "java/lang/invoke/MethodHandle" ∧ yX9_worst.cls ≠ "java/lang/invoke/VarHandle" ∧ (parseMethodDescriptor yX9_worst.desc).map (fun d => d.parameters.length) = some 0 := by decide +kernel
set_option maxRecDepth 100000 in
theorem D_X9_worst : gDec cX9_worst [(0, (.bipush (-4), 2)), (2, (.istore_n 1, 1)), (3, (.iconst 0, 1)), (4, (.istore_n 2, 1)), (5, (.iconst 0, 1)), (6, (.istore_n 3, 1)), (7, (.iload_n 3, 1)), (8, (.aload_n 0, 1)), (9, (.getfield 19, 3)), (12, (.getfield 84, 3)), (15, (.getfield 95, 3)), (18, (.if_icmp .ge 40, 3)), (21, (.aload_n 0, 1)), (22, (.getfield 53, 3)), (25, (.aload_n 0, 1)), (26, (.getfield 19, 3)), (29, (.iload_n 3, 1)), (30, (.invokevirtual 233, 3)), (33, (.istore 4, 2)), (35, (.iload_n 1, 1)), (36, (.bipush (-4), 2)), (38, (.if_icmp .eq 9, 3)), (41, (.iload 4, 2)), (43, (.iload_n 2, 1)), (44, (.if_icmp .le 8, 3)), (47, (.iload_n 3, 1)), (48, (.istore_n 1, 1)), (49, (.iload 4, 2)), (51, (.istore_n 2, 1)), (52, (.iinc 3 1, 3)), (55, (.goto (-48), 3)), (58, (.iload_n 1, 1)), (59, (.ireturn, 1))] = true := by decide +kernel
set_option maxRecDepth 100000 in
theorem in_X9_worst_X5 : ∀ x ∈ u_ws RX5 TX5 5, x ∈ wsX9_worst := by decide +kernel
set_option maxRecDepth 100000 in
theorem in_X9_worst_X8 : ∀ x ∈ u_ws RX8 TX8 8, x ∈ wsX9_worst := by decide +kernel
set_option maxRecDepth 100000 in
theorem in_X9_worst_X9 : ∀ x ∈ u_ws RX9 TX9 10, x ∈ wsX9_worst := by decide +kernel
theorem fl_X9_worst_19 : gF wsX9_worst RX9 19 9 1 := ⟨RX9, TX9, 10, rfl, by decide, in_X9_worst_X9, by decide +kernel⟩
theorem fl_X9_worst_84 : gF wsX9_worst RX9 84 8 0 := ⟨RX8, TX8, 8, rfl, by decide, in_X9_worst_X8, by decide +kernel⟩
theorem fl_X9_worst_95 : gF wsX9_worst RX9 95 5 4 := ⟨RX5, TX5, 5, rfl, by decide, in_X9_worst_X5, by decide +kernel⟩
theorem fl_X9_worst_53 : gF wsX9_worst RX9 53 9 7 := ⟨RX9, TX9, 10, rfl, by decide, in_X9_worst_X9, by decide +kernel⟩
def f_X9_worst_7 (a0 : Nat) : Nat → Int32 → Int32 → Int32 → gHp → Option (Int32 × gHp)
  | 0, _, _, _, _ => none
  | n + 1, x1, x2, x3, h => if (h.1 (a0 + 3 + 1) 4) ≤ x3 then some (x1, h) else (f_X0_findLoss (a0 + 113) (a0 + 3) x3 h).bind fun v2 => if x1 = (-4) then f_X9_worst_7 a0 n x3 v2.1 (x3 + 1) v2.2 else if v2.1 ≤ x2 then f_X9_worst_7 a0 n x1 x2 (x3 + 1) v2.2 else f_X9_worst_7 a0 n x3 v2.1 (x3 + 1) v2.2
set_option maxRecDepth 20000 in
set_option maxHeartbeats 4000000 in
theorem w_X9_worst_7 {w : gWd} {g : gCx} (C : gC w g cX9_worst wsX9_worst RX9 5 6 154) {a0 : Nat} (A0 : is_X9 w a0)  {o : Int32 × gHp} (hk : gX w g 5 o.2 58 [(1, .int o.1)] []) : ∀ (n : Nat) (x1 : Int32) (x2 : Int32) (x3 : Int32) (h : gHp), f_X9_worst_7 a0 n x1 x2 x3 h = some o → gX w g 5 h 7 [(0, .ref a0), (1, .int x1), (2, .int x2), (3, .int x3)] [] := by
  intro n
  induction n with
  | zero => intro _ _ _ _ hF; cases hF
  | succ n ih =>
    intro x1 x2 x3 h hF
    rw [f_X9_worst_7] at hF
    refine gx_iload_n C 3 (gDec_at D_X9_worst 6 rfl) rfl rfl ?_
    refine gx_aload_n C 0 (gDec_at D_X9_worst 7 rfl) rfl rfl ?_
    refine gx_getr C fl_X9_worst_19 (is_X9_sh A0) rfl (gDec_at D_X9_worst 8 rfl) ?_
    refine gx_getr C fl_X9_worst_84 (is_X8_sh (is_X9_now A0)) rfl (gDec_at D_X9_worst 9 rfl) ?_
    refine gx_geti C fl_X9_worst_95 (is_X5_sh (is_X8_network (is_X9_now A0))) rfl (gDec_at D_X9_worst 10 rfl) ?_
    refine gx_icmp_ge C 58 (gDec_at D_X9_worst 11 rfl) (by decide) (fun c => ?_) (fun c => ?_)
    · replace hF := gPos c hF
      obtain rfl := Option.some.inj hF
      exact gx_sub [1] rfl hk
    · replace hF := gNeg c hF
      refine gx_aload_n C 0 (gDec_at D_X9_worst 12 rfl) rfl rfl ?_
      refine gx_getr C fl_X9_worst_53 (is_X9_sh A0) rfl (gDec_at D_X9_worst 13 rfl) ?_
      refine gx_aload_n C 0 (gDec_at D_X9_worst 14 rfl) rfl rfl ?_
      refine gx_getr C fl_X9_worst_19 (is_X9_sh A0) rfl (gDec_at D_X9_worst 15 rfl) ?_
      refine gx_iload_n C 3 (gDec_at D_X9_worst 16 rfl) rfl rfl ?_
      obtain ⟨v2, hv1, hF⟩ := gBind hF
      refine gx_callV1 C (st := []) 2 [.ref (a0 + 3), .int x3] (m_X0_findLoss w h (is_X9_circuit A0) (is_X9_now A0) x3 hv1) gX9_worst_X0_findLoss rfl rfl rfl hy_X0_findLoss (Nat.le_of_ble_eq_true rfl) (Nat.le_of_ble_eq_true rfl) (is_X0_sh (is_X9_circuit A0)) rfl rfl rfl (Nat.le_of_ble_eq_true rfl) (gDec_at D_X9_worst 17 rfl) ?_
      refine gx_istore C (lv' := [(4, .int v2.1), (0, .ref a0), (1, .int x1), (2, .int x2), (3, .int x3)]) (gDec_at D_X9_worst 18 rfl) (Nat.le_of_ble_eq_true rfl) rfl ?_
      refine gx_iload_n C 2 (gDec_at D_X9_worst 19 rfl) rfl rfl ?_
      refine gx_bipush C (v := (-4)) (gDec_at D_X9_worst 20 rfl) (by decide) ?_
      refine gx_icmp_eq C 47 (gDec_at D_X9_worst 21 rfl) (by decide) (fun c => ?_) (fun c => ?_)
      · replace hF := gPos c hF
        refine gx_iload_n C 4 (gDec_at D_X9_worst 25 rfl) rfl rfl ?_
        refine gx_istore_n C (lv' := [(1, .int x3), (4, .int v2.1), (0, .ref a0), (2, .int x2), (3, .int x3)]) (gDec_at D_X9_worst 26 rfl) rfl (Nat.le_of_ble_eq_true rfl) rfl ?_
        refine gx_iload C 1 (gDec_at D_X9_worst 27 rfl) rfl ?_
        refine gx_istore_n C (lv' := [(2, .int v2.1), (1, .int x3), (4, .int v2.1), (0, .ref a0), (3, .int x3)]) (gDec_at D_X9_worst 28 rfl) rfl (Nat.le_of_ble_eq_true rfl) rfl ?_
        refine gx_iinc C (j := 4) (v := x3 + 1) (lv' := [(3, .int (x3 + 1)), (2, .int v2.1), (1, .int x3), (4, .int v2.1), (0, .ref a0)]) (gDec_at D_X9_worst 29 rfl) rfl (by rfl) (Nat.le_of_ble_eq_true rfl) rfl ?_
        refine gx_goto C 7 (gDec_at D_X9_worst 30 rfl) (by decide) ?_
        exact gx_sub [4, 2, 1, 0] rfl (ih x3 v2.1 (x3 + 1) v2.2 hF)
      · replace hF := gNeg c hF
        refine gx_iload C 0 (gDec_at D_X9_worst 22 rfl) rfl ?_
        refine gx_iload_n C 3 (gDec_at D_X9_worst 23 rfl) rfl rfl ?_
        refine gx_icmp_le C 52 (gDec_at D_X9_worst 24 rfl) (by decide) (fun c => ?_) (fun c => ?_)
        · replace hF := gPos c hF
          refine gx_iinc C (j := 4) (v := x3 + 1) (lv' := [(3, .int (x3 + 1)), (4, .int v2.1), (0, .ref a0), (1, .int x1), (2, .int x2)]) (gDec_at D_X9_worst 29 rfl) rfl (by rfl) (Nat.le_of_ble_eq_true rfl) rfl ?_
          refine gx_goto C 7 (gDec_at D_X9_worst 30 rfl) (by decide) ?_
          exact gx_sub [2, 3, 4, 0] rfl (ih x1 x2 (x3 + 1) v2.2 hF)
        · replace hF := gNeg c hF
          refine gx_iload_n C 4 (gDec_at D_X9_worst 25 rfl) rfl rfl ?_
          refine gx_istore_n C (lv' := [(1, .int x3), (4, .int v2.1), (0, .ref a0), (2, .int x2), (3, .int x3)]) (gDec_at D_X9_worst 26 rfl) rfl (Nat.le_of_ble_eq_true rfl) rfl ?_
          refine gx_iload C 1 (gDec_at D_X9_worst 27 rfl) rfl ?_
          refine gx_istore_n C (lv' := [(2, .int v2.1), (1, .int x3), (4, .int v2.1), (0, .ref a0), (3, .int x3)]) (gDec_at D_X9_worst 28 rfl) rfl (Nat.le_of_ble_eq_true rfl) rfl ?_
          refine gx_iinc C (j := 4) (v := x3 + 1) (lv' := [(3, .int (x3 + 1)), (2, .int v2.1), (1, .int x3), (4, .int v2.1), (0, .ref a0)]) (gDec_at D_X9_worst 29 rfl) rfl (by rfl) (Nat.le_of_ble_eq_true rfl) rfl ?_
          refine gx_goto C 7 (gDec_at D_X9_worst 30 rfl) (by decide) ?_
          exact gx_sub [4, 2, 1, 0] rfl (ih x3 v2.1 (x3 + 1) v2.2 hF)
def f_X9_worst (a0 : Nat) (h : gHp) : Option (Int32 × gHp) := (f_X9_worst_7 a0 gFuel (-4) 0 0 h).bind fun v3 => some (v3.1, v3.2)
set_option maxRecDepth 20000 in
set_option maxHeartbeats 4000000 in
theorem m_X9_worst (w : gWd) (h : gHp) {a0 : Nat} (A0 : is_X9 w a0) {o : Int32 × gHp} (hF : f_X9_worst a0 h = some o) : gMet w yX9_worst wsX9_worst rm_X9_worst [.ref a0] h (some (.int o.1)) o.2 := by
  refine gMet_of (cc := cX9_worst) (maxL := 5) (ret := (some .int)) (fr := 6) (lo := 154) (own := RX9) [(0, .ref a0)] (by decide) rfl rfl (Nat.le_of_ble_eq_true rfl) rfl (Nat.le_refl _) (Nat.le_refl _) (fun g C E => ?_)
  rw [f_X9_worst] at hF
  refine gx_bipush C (v := (-4)) (gDec_at D_X9_worst 0 rfl) (by decide) ?_
  refine gx_istore_n C (lv' := [(1, .int (-4)), (0, .ref a0)]) (gDec_at D_X9_worst 1 rfl) rfl (Nat.le_of_ble_eq_true rfl) rfl ?_
  refine gx_iconst C (v := 0) (gDec_at D_X9_worst 2 rfl) (by decide) ?_
  refine gx_istore_n C (lv' := [(2, .int 0), (1, .int (-4)), (0, .ref a0)]) (gDec_at D_X9_worst 3 rfl) rfl (Nat.le_of_ble_eq_true rfl) rfl ?_
  refine gx_iconst C (v := 0) (gDec_at D_X9_worst 4 rfl) (by decide) ?_
  refine gx_istore_n C (lv' := [(3, .int 0), (2, .int 0), (1, .int (-4)), (0, .ref a0)]) (gDec_at D_X9_worst 5 rfl) rfl (Nat.le_of_ble_eq_true rfl) rfl ?_
  obtain ⟨v3, hv4, hF⟩ := gBind hF
  have k5 : gX w g 5 v3.2 58 [(1, .int v3.1)] [] := by
    refine gx_iload_n C 0 (gDec_at D_X9_worst 31 rfl) rfl rfl ?_
    obtain rfl := Option.some.inj hF
    exact gx_iret C E (gDec_at D_X9_worst 32 rfl)
  exact gx_sub [3, 2, 1, 0] rfl (w_X9_worst_7 C A0 k5 gFuel (-4) 0 0 h hv4)
/-! LadderBench.count -/
def rm_X9_count : Room := { frames := 2, cells := 0, slots := 0, locals := 43 }
set_option maxRecDepth 20000 in
theorem ggX9_count_X5_countKind : GoodIn wsX9_count wsX5_countKind := goodIn_r _ [17, 18, 19, 63, 64, 65, 66, 67] (by decide +kernel) (by decide +kernel)
set_option maxRecDepth 20000 in
theorem gX9_count_X5_countKind : GoodIn wsX9_count (wsV RX9 258 RX5 yX5_countKind wsX5_countKind) := goodIn_app (goodIn_of _ (by decide +kernel)) ggX9_count_X5_countKind
set_option maxRecDepth 20000 in
theorem ggX9_count_X7_countTimes : GoodIn wsX9_count wsX7_countTimes := goodIn_r _ [32, 33, 34, 68, 69, 70, 71] (by decide +kernel) (by decide +kernel)
set_option maxRecDepth 20000 in
theorem gX9_count_X7_countTimes : GoodIn wsX9_count (wsV RX9 267 RX7 yX7_countTimes wsX7_countTimes) := goodIn_app (goodIn_of _ (by decide +kernel)) ggX9_count_X7_countTimes
set_option maxRecDepth 20000 in
theorem ggX9_count_X8_countNotSound : GoodIn wsX9_count wsX8_countNotSound := goodIn_r _ [38, 25, 39, 40, 41, 42, 16, 43, 44, 55, 56, 57, 58, 59, 60, 61, 62, 63, 64, 65, 66, 67] (by decide +kernel) (by decide +kernel)
set_option maxRecDepth 20000 in
theorem gX9_count_X8_countNotSound : GoodIn wsX9_count (wsV RX9 273 RX8 yX8_countNotSound wsX8_countNotSound) := goodIn_app (goodIn_of _ (by decide +kernel)) ggX9_count_X8_countNotSound
set_option maxRecDepth 20000 in
theorem ggX9_count_X8_countUnfolded : GoodIn wsX9_count wsX8_countUnfolded := goodIn_r _ [24, 25, 26, 27, 55, 56, 57, 58, 59, 60, 61, 62, 63, 64, 65, 66, 67] (by decide +kernel) (by decide +kernel)
set_option maxRecDepth 20000 in
theorem gX9_count_X8_countUnfolded : GoodIn wsX9_count (wsV RX9 135 RX8 yX8_countUnfolded wsX8_countUnfolded) := goodIn_app (goodIn_of _ (by decide +kernel)) ggX9_count_X8_countUnfolded
theorem hy_X9_count : yX9_count.cls = RX9 ∧ yX9_count.cls ≠ "java/lang/invoke/MethodHandle" ∧ yX9_count.cls ≠ "java/lang/invoke/VarHandle" ∧ (parseMethodDescriptor yX9_count.desc).map (fun d => d.parameters.length) = some 1 := by decide +kernel
set_option maxRecDepth 100000 in
theorem D_X9_count : gDec cX9_count [(0, (.iload_n 1, 1)), (1, (.tableswitch 160 0 10 #[59, 70, 82, 90, 98, 106, 117, 128, 136, 144, 152], 59)), (60, (.aload_n 0, 1)), (61, (.getfield 19, 3)), (64, (.getfield 84, 3)), (67, (.getfield 95, 3)), (70, (.ireturn, 1)), (71, (.aload_n 0, 1)), (72, (.getfield 19, 3)), (75, (.getfield 84, 3)), (78, (.iconst 0, 1)), (79, (.invokevirtual 258, 3)), (82, (.ireturn, 1)), (83, (.aload_n 0, 1)), (84, (.getfield 19, 3)), (87, (.invokevirtual 135, 3)), (90, (.ireturn, 1)), (91, (.aload_n 0, 1)), (92, (.getfield 19, 3)), (95, (.getfield 261, 3)), (98, (.ireturn, 1)), (99, (.aload_n 0, 1)), (100, (.getfield 19, 3)), (103, (.getfield 264, 3)), (106, (.ireturn, 1)), (107, (.aload_n 0, 1)), (108, (.getfield 19, 3)), (111, (.getfield 155, 3)), (114, (.getfield 165, 3)), (117, (.ireturn, 1)), (118, (.aload_n 0, 1)), (119, (.getfield 19, 3)), (122, (.getfield 155, 3)), (125, (.invokevirtual 267, 3)), (128, (.ireturn, 1)), (129, (.aload_n 0, 1)), (130, (.getfield 19, 3)), (133, (.getfield 270, 3)), (136, (.ireturn, 1)), (137, (.aload_n 0, 1)), (138, (.getfield 32, 3)), (141, (.getfield 170, 3)), (144, (.ireturn, 1)), (145, (.aload_n 0, 1)), (146, (.getfield 10, 3)), (149, (.getfield 68, 3)), (152, (.ireturn, 1)), (153, (.aload_n 0, 1)), (154, (.getfield 19, 3)), (157, (.invokevirtual 273, 3)), (160, (.ireturn, 1)), (161, (.bipush (-2), 2)), (163, (.ireturn, 1))] = true := by decide +kernel
set_option maxRecDepth 100000 in
theorem in_X9_count_X3 : ∀ x ∈ u_ws RX3 TX3 3, x ∈ wsX9_count := by decide +kernel
set_option maxRecDepth 100000 in
theorem in_X9_count_X4 : ∀ x ∈ u_ws RX4 TX4 2, x ∈ wsX9_count := by decide +kernel
set_option maxRecDepth 100000 in
theorem in_X9_count_X5 : ∀ x ∈ u_ws RX5 TX5 5, x ∈ wsX9_count := by decide +kernel
set_option maxRecDepth 100000 in
theorem in_X9_count_X7 : ∀ x ∈ u_ws RX7 TX7 4, x ∈ wsX9_count := by decide +kernel
set_option maxRecDepth 100000 in
theorem in_X9_count_X8 : ∀ x ∈ u_ws RX8 TX8 8, x ∈ wsX9_count := by decide +kernel
set_option maxRecDepth 100000 in
theorem in_X9_count_X9 : ∀ x ∈ u_ws RX9 TX9 10, x ∈ wsX9_count := by decide +kernel
theorem fl_X9_count_19 : gF wsX9_count RX9 19 9 1 := ⟨RX9, TX9, 10, rfl, by decide, in_X9_count_X9, by decide +kernel⟩
theorem fl_X9_count_84 : gF wsX9_count RX9 84 8 0 := ⟨RX8, TX8, 8, rfl, by decide, in_X9_count_X8, by decide +kernel⟩
theorem fl_X9_count_95 : gF wsX9_count RX9 95 5 4 := ⟨RX5, TX5, 5, rfl, by decide, in_X9_count_X5, by decide +kernel⟩
theorem fl_X9_count_261 : gF wsX9_count RX9 261 8 5 := ⟨RX8, TX8, 8, rfl, by decide, in_X9_count_X8, by decide +kernel⟩
theorem fl_X9_count_264 : gF wsX9_count RX9 264 8 6 := ⟨RX8, TX8, 8, rfl, by decide, in_X9_count_X8, by decide +kernel⟩
theorem fl_X9_count_155 : gF wsX9_count RX9 155 8 1 := ⟨RX8, TX8, 8, rfl, by decide, in_X9_count_X8, by decide +kernel⟩
theorem fl_X9_count_165 : gF wsX9_count RX9 165 7 3 := ⟨RX7, TX7, 4, rfl, by decide, in_X9_count_X7, by decide +kernel⟩
theorem fl_X9_count_270 : gF wsX9_count RX9 270 8 7 := ⟨RX8, TX8, 8, rfl, by decide, in_X9_count_X8, by decide +kernel⟩
theorem fl_X9_count_32 : gF wsX9_count RX9 32 9 4 := ⟨RX9, TX9, 10, rfl, by decide, in_X9_count_X9, by decide +kernel⟩
theorem fl_X9_count_170 : gF wsX9_count RX9 170 3 2 := ⟨RX3, TX3, 3, rfl, by decide, in_X9_count_X3, by decide +kernel⟩
theorem fl_X9_count_10 : gF wsX9_count RX9 10 9 0 := ⟨RX9, TX9, 10, rfl, by decide, in_X9_count_X9, by decide +kernel⟩
theorem fl_X9_count_68 : gF wsX9_count RX9 68 4 1 := ⟨RX4, TX4, 2, rfl, by decide, in_X9_count_X4, by decide +kernel⟩
def f_X9_count (a0 : Nat) (x1 : Int32) (h : gHp) : Option (Int32) := if x1 = 0 then some (h.1 (a0 + 3 + 1) 4) else if x1 = 1 then (f_X5_countKind (a0 + 3 + 1) 0 h).bind fun v2 => some v2 else if x1 = 2 then (f_X8_countUnfolded (a0 + 3) h).bind fun v4 => some v4 else if x1 = 3 then some (h.1 (a0 + 3) 5) else if x1 = 4 then some (h.1 (a0 + 3) 6) else if x1 = 5 then some (h.1 (a0 + 3 + 6) 3) else if x1 = 6 then (f_X7_countTimes (a0 + 3 + 6) h).bind fun v6 => some v6 else if x1 = 7 then some (h.1 (a0 + 3) 7) else if x1 = 8 then some (h.1 (a0 + 42) 2) else if x1 = 9 then some (h.1 (a0 + 1) 1) else if x1 = 10 then (f_X8_countNotSound (a0 + 3) h).bind fun v8 => some v8 else some (-2)
set_option maxRecDepth 20000 in
set_option maxHeartbeats 4000000 in
theorem m_X9_count (w : gWd) (h : gHp) {a0 : Nat} (A0 : is_X9 w a0) (x1 : Int32) {o : Int32} (hF : f_X9_count a0 x1 h = some o) : gMet w yX9_count wsX9_count rm_X9_count [.ref a0, .int x1] h (some (.int o)) h := by
  refine gMet_of (cc := cX9_count) (maxL := 2) (ret := (some .int)) (fr := 2) (lo := 43) (own := RX9) [(0, .ref a0), (1, .int x1)] (by decide) rfl rfl (Nat.le_of_ble_eq_true rfl) rfl (Nat.le_refl _) (Nat.le_refl _) (fun g C E => ?_)
  rw [f_X9_count] at hF
  refine gx_iload_n C 1 (gDec_at D_X9_count 0 rfl) rfl rfl ?_
  by_cases c0 : x1 = 0
  · replace hF := gPos c0 hF
    refine gx_tableIn C 60 (gDec_at D_X9_count 1 rfl) (by rw [c0]; decide) (by rw [c0]; decide) (by rw [c0]; rfl) (by decide) ?_
    refine gx_aload_n C 0 (gDec_at D_X9_count 2 rfl) rfl rfl ?_
    refine gx_getr C fl_X9_count_19 (is_X9_sh A0) rfl (gDec_at D_X9_count 3 rfl) ?_
    refine gx_getr C fl_X9_count_84 (is_X8_sh (is_X9_now A0)) rfl (gDec_at D_X9_count 4 rfl) ?_
    refine gx_geti C fl_X9_count_95 (is_X5_sh (is_X8_network (is_X9_now A0))) rfl (gDec_at D_X9_count 5 rfl) ?_
    obtain rfl := Option.some.inj hF
    exact gx_iret C E (gDec_at D_X9_count 6 rfl)
  replace hF := gNeg c0 hF
  by_cases c1 : x1 = 1
  · replace hF := gPos c1 hF
    refine gx_tableIn C 71 (gDec_at D_X9_count 1 rfl) (by rw [c1]; decide) (by rw [c1]; decide) (by rw [c1]; rfl) (by decide) ?_
    refine gx_aload_n C 0 (gDec_at D_X9_count 7 rfl) rfl rfl ?_
    refine gx_getr C fl_X9_count_19 (is_X9_sh A0) rfl (gDec_at D_X9_count 8 rfl) ?_
    refine gx_getr C fl_X9_count_84 (is_X8_sh (is_X9_now A0)) rfl (gDec_at D_X9_count 9 rfl) ?_
    refine gx_iconst C (v := 0) (gDec_at D_X9_count 10 rfl) (by decide) ?_
    obtain ⟨v2, hv1, hF⟩ := gBind hF
    refine gx_callV1 C (st := []) 1 [.int 0] (m_X5_countKind w h (is_X8_network (is_X9_now A0)) 0 hv1) gX9_count_X5_countKind rfl rfl rfl hy_X5_countKind (Nat.le_of_ble_eq_true rfl) (Nat.le_of_ble_eq_true rfl) (is_X5_sh (is_X8_network (is_X9_now A0))) rfl rfl rfl (Nat.le_of_ble_eq_true rfl) (gDec_at D_X9_count 11 rfl) ?_
    obtain rfl := Option.some.inj hF
    exact gx_iret C E (gDec_at D_X9_count 12 rfl)
  replace hF := gNeg c1 hF
  by_cases c2 : x1 = 2
  · replace hF := gPos c2 hF
    refine gx_tableIn C 83 (gDec_at D_X9_count 1 rfl) (by rw [c2]; decide) (by rw [c2]; decide) (by rw [c2]; rfl) (by decide) ?_
    refine gx_aload_n C 0 (gDec_at D_X9_count 13 rfl) rfl rfl ?_
    refine gx_getr C fl_X9_count_19 (is_X9_sh A0) rfl (gDec_at D_X9_count 14 rfl) ?_
    obtain ⟨v4, hv3, hF⟩ := gBind hF
    refine gx_callV1 C (st := []) 0 [] (m_X8_countUnfolded w h (is_X9_now A0) hv3) gX9_count_X8_countUnfolded rfl rfl rfl hy_X8_countUnfolded (Nat.le_of_ble_eq_true rfl) (Nat.le_of_ble_eq_true rfl) (is_X8_sh (is_X9_now A0)) rfl rfl rfl (Nat.le_of_ble_eq_true rfl) (gDec_at D_X9_count 15 rfl) ?_
    obtain rfl := Option.some.inj hF
    exact gx_iret C E (gDec_at D_X9_count 16 rfl)
  replace hF := gNeg c2 hF
  by_cases c3 : x1 = 3
  · replace hF := gPos c3 hF
    refine gx_tableIn C 91 (gDec_at D_X9_count 1 rfl) (by rw [c3]; decide) (by rw [c3]; decide) (by rw [c3]; rfl) (by decide) ?_
    refine gx_aload_n C 0 (gDec_at D_X9_count 17 rfl) rfl rfl ?_
    refine gx_getr C fl_X9_count_19 (is_X9_sh A0) rfl (gDec_at D_X9_count 18 rfl) ?_
    refine gx_geti C fl_X9_count_261 (is_X8_sh (is_X9_now A0)) rfl (gDec_at D_X9_count 19 rfl) ?_
    obtain rfl := Option.some.inj hF
    exact gx_iret C E (gDec_at D_X9_count 20 rfl)
  replace hF := gNeg c3 hF
  by_cases c4 : x1 = 4
  · replace hF := gPos c4 hF
    refine gx_tableIn C 99 (gDec_at D_X9_count 1 rfl) (by rw [c4]; decide) (by rw [c4]; decide) (by rw [c4]; rfl) (by decide) ?_
    refine gx_aload_n C 0 (gDec_at D_X9_count 21 rfl) rfl rfl ?_
    refine gx_getr C fl_X9_count_19 (is_X9_sh A0) rfl (gDec_at D_X9_count 22 rfl) ?_
    refine gx_geti C fl_X9_count_264 (is_X8_sh (is_X9_now A0)) rfl (gDec_at D_X9_count 23 rfl) ?_
    obtain rfl := Option.some.inj hF
    exact gx_iret C E (gDec_at D_X9_count 24 rfl)
  replace hF := gNeg c4 hF
  by_cases c5 : x1 = 5
  · replace hF := gPos c5 hF
    refine gx_tableIn C 107 (gDec_at D_X9_count 1 rfl) (by rw [c5]; decide) (by rw [c5]; decide) (by rw [c5]; rfl) (by decide) ?_
    refine gx_aload_n C 0 (gDec_at D_X9_count 25 rfl) rfl rfl ?_
    refine gx_getr C fl_X9_count_19 (is_X9_sh A0) rfl (gDec_at D_X9_count 26 rfl) ?_
    refine gx_getr C fl_X9_count_155 (is_X8_sh (is_X9_now A0)) rfl (gDec_at D_X9_count 27 rfl) ?_
    refine gx_geti C fl_X9_count_165 (is_X7_sh (is_X8_notes (is_X9_now A0))) rfl (gDec_at D_X9_count 28 rfl) ?_
    obtain rfl := Option.some.inj hF
    exact gx_iret C E (gDec_at D_X9_count 29 rfl)
  replace hF := gNeg c5 hF
  by_cases c6 : x1 = 6
  · replace hF := gPos c6 hF
    refine gx_tableIn C 118 (gDec_at D_X9_count 1 rfl) (by rw [c6]; decide) (by rw [c6]; decide) (by rw [c6]; rfl) (by decide) ?_
    refine gx_aload_n C 0 (gDec_at D_X9_count 30 rfl) rfl rfl ?_
    refine gx_getr C fl_X9_count_19 (is_X9_sh A0) rfl (gDec_at D_X9_count 31 rfl) ?_
    refine gx_getr C fl_X9_count_155 (is_X8_sh (is_X9_now A0)) rfl (gDec_at D_X9_count 32 rfl) ?_
    obtain ⟨v6, hv5, hF⟩ := gBind hF
    refine gx_callV1 C (st := []) 0 [] (m_X7_countTimes w h (is_X8_notes (is_X9_now A0)) hv5) gX9_count_X7_countTimes rfl rfl rfl hy_X7_countTimes (Nat.le_of_ble_eq_true rfl) (Nat.le_of_ble_eq_true rfl) (is_X7_sh (is_X8_notes (is_X9_now A0))) rfl rfl rfl (Nat.le_of_ble_eq_true rfl) (gDec_at D_X9_count 33 rfl) ?_
    obtain rfl := Option.some.inj hF
    exact gx_iret C E (gDec_at D_X9_count 34 rfl)
  replace hF := gNeg c6 hF
  by_cases c7 : x1 = 7
  · replace hF := gPos c7 hF
    refine gx_tableIn C 129 (gDec_at D_X9_count 1 rfl) (by rw [c7]; decide) (by rw [c7]; decide) (by rw [c7]; rfl) (by decide) ?_
    refine gx_aload_n C 0 (gDec_at D_X9_count 35 rfl) rfl rfl ?_
    refine gx_getr C fl_X9_count_19 (is_X9_sh A0) rfl (gDec_at D_X9_count 36 rfl) ?_
    refine gx_geti C fl_X9_count_270 (is_X8_sh (is_X9_now A0)) rfl (gDec_at D_X9_count 37 rfl) ?_
    obtain rfl := Option.some.inj hF
    exact gx_iret C E (gDec_at D_X9_count 38 rfl)
  replace hF := gNeg c7 hF
  by_cases c8 : x1 = 8
  · replace hF := gPos c8 hF
    refine gx_tableIn C 137 (gDec_at D_X9_count 1 rfl) (by rw [c8]; decide) (by rw [c8]; decide) (by rw [c8]; rfl) (by decide) ?_
    refine gx_aload_n C 0 (gDec_at D_X9_count 39 rfl) rfl rfl ?_
    refine gx_getr C fl_X9_count_32 (is_X9_sh A0) rfl (gDec_at D_X9_count 40 rfl) ?_
    refine gx_geti C fl_X9_count_170 (is_X3_sh (is_X9_history A0)) rfl (gDec_at D_X9_count 41 rfl) ?_
    obtain rfl := Option.some.inj hF
    exact gx_iret C E (gDec_at D_X9_count 42 rfl)
  replace hF := gNeg c8 hF
  by_cases c9 : x1 = 9
  · replace hF := gPos c9 hF
    refine gx_tableIn C 145 (gDec_at D_X9_count 1 rfl) (by rw [c9]; decide) (by rw [c9]; decide) (by rw [c9]; rfl) (by decide) ?_
    refine gx_aload_n C 0 (gDec_at D_X9_count 43 rfl) rfl rfl ?_
    refine gx_getr C fl_X9_count_10 (is_X9_sh A0) rfl (gDec_at D_X9_count 44 rfl) ?_
    refine gx_geti C fl_X9_count_68 (is_X4_sh (is_X9_text A0)) rfl (gDec_at D_X9_count 45 rfl) ?_
    obtain rfl := Option.some.inj hF
    exact gx_iret C E (gDec_at D_X9_count 46 rfl)
  replace hF := gNeg c9 hF
  by_cases c10 : x1 = 10
  · replace hF := gPos c10 hF
    refine gx_tableIn C 153 (gDec_at D_X9_count 1 rfl) (by rw [c10]; decide) (by rw [c10]; decide) (by rw [c10]; rfl) (by decide) ?_
    refine gx_aload_n C 0 (gDec_at D_X9_count 47 rfl) rfl rfl ?_
    refine gx_getr C fl_X9_count_19 (is_X9_sh A0) rfl (gDec_at D_X9_count 48 rfl) ?_
    obtain ⟨v8, hv7, hF⟩ := gBind hF
    refine gx_callV1 C (st := []) 0 [] (m_X8_countNotSound w h (is_X9_now A0) hv7) gX9_count_X8_countNotSound rfl rfl rfl hy_X8_countNotSound (Nat.le_of_ble_eq_true rfl) (Nat.le_of_ble_eq_true rfl) (is_X8_sh (is_X9_now A0)) rfl rfl rfl (Nat.le_of_ble_eq_true rfl) (gDec_at D_X9_count 49 rfl) ?_
    obtain rfl := Option.some.inj hF
    exact gx_iret C E (gDec_at D_X9_count 50 rfl)
  replace hF := gNeg c10 hF
  refine gx_tableOut C 161 (gDec_at D_X9_count 1 rfl) (gSw _ 10 (by decide) (fun k hk => match k, hk with | 0, _ => c0 | 1, _ => c1 | 2, _ => c2 | 3, _ => c3 | 4, _ => c4 | 5, _ => c5 | 6, _ => c6 | 7, _ => c7 | 8, _ => c8 | 9, _ => c9 | 10, _ => c10 | k + 11, hk => absurd hk (by omega))) (by decide) ?_
  refine gx_bipush C (v := (-2)) (gDec_at D_X9_count 51 rfl) (by decide) ?_
  obtain rfl := Option.some.inj hF
  exact gx_iret C E (gDec_at D_X9_count 52 rfl)
