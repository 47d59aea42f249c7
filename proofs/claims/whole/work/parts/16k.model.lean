/-! LadderBenchModel.restore -/
def rm_X10_restore : Room := { frames := 1, cells := 0, slots := 0, locals := 21 }
set_option maxRecDepth 20000 in
theorem ggX10_restore_X10_parts : GoodIn wsX10_restore wsX10_parts := goodIn_r _ [14, 2, 15, 16, 17, 18, 19, 20, 21, 22, 23, 24, 25, 26, 27, 28, 29, 30, 31, 32, 33, 34, 35, 36, 37, 38, 39, 40] (by decide +kernel) (by decide +kernel)
set_option maxRecDepth 20000 in
theorem gX10_restore_X10_parts : GoodIn wsX10_restore (wsV RX10 56 RX10 yX10_parts wsX10_parts) := goodIn_app (goodIn_of _ (by decide +kernel)) ggX10_restore_X10_parts
set_option maxRecDepth 20000 in
theorem ggX10_restore_X10_record : GoodIn wsX10_restore wsX10_record := goodIn_r _ [8, 9, 10, 2, 15, 16, 17, 18, 19, 20, 21, 22, 23, 24, 25, 26, 27, 28, 29, 30, 31, 32, 33, 34, 35, 36, 37, 38, 39, 40] (by decide +kernel) (by decide +kernel)
set_option maxRecDepth 20000 in
theorem gX10_restore_X10_record : GoodIn wsX10_restore (wsV RX10 99 RX10 yX10_record wsX10_record) := goodIn_app (goodIn_of _ (by decide +kernel)) ggX10_restore_X10_record
theorem hy_X10_restore : yX10_restore.cls = RX10 ∧ yX10_restore.cls ≠ "java/lang/invoke/MethodHandle" ∧ yX10_restore.cls ≠ "java/lang/invoke/VarHandle" ∧ (parseMethodDescriptor yX10_restore.desc).map (fun d => d.parameters.length) = some 0 := by decide +kernel
set_option maxRecDepth 100000 in
theorem D_X10_restore : gDec cX10_restore [(0, (.aload_n 0, 1)), (1, (.getfield 236, 3)), (4, (.ifCond .ne 6, 3)), (7, (.bipush (-4), 2)), (9, (.ireturn, 1)), (10, (.aload_n 0, 1)), (11, (.invokevirtual 99, 3)), (14, (.iconst 0, 1)), (15, (.istore_n 1, 1)), (16, (.iload_n 1, 1)), (17, (.sipush 141, 3)), (20, (.if_icmp .ge 21, 3)), (23, (.aload_n 0, 1)), (24, (.getfield 7, 3)), (27, (.iload_n 1, 1)), (28, (.aload_n 0, 1)), (29, (.getfield 16, 3)), (32, (.iload_n 1, 1)), (33, (.laload, 1)), (34, (.lastore, 1)), (35, (.iinc 1 1, 3)), (38, (.goto (-22), 3)), (41, (.aload_n 0, 1)), (42, (.invokevirtual 56, 3)), (45, (.ireturn, 1))] = true := by decide +kernel
set_option maxRecDepth 100000 in
theorem in_X10_restore_X10 : ∀ x ∈ u_ws RX10 TX10 26, x ∈ wsX10_restore := by decide +kernel
theorem fl_X10_restore_236 : gF wsX10_restore RX10 236 10 4 := ⟨RX10, TX10, 26, rfl, by decide, in_X10_restore_X10, by decide +kernel⟩
theorem fl_X10_restore_7 : gF wsX10_restore RX10 7 10 0 := ⟨RX10, TX10, 26, rfl, by decide, in_X10_restore_X10, by decide +kernel⟩
theorem fl_X10_restore_16 : gF wsX10_restore RX10 16 10 3 := ⟨RX10, TX10, 26, rfl, by decide, in_X10_restore_X10, by decide +kernel⟩
def f_X10_restore_16 (a0 : Nat) : Nat → Int32 → gHp → Option (gHp)
  | 0, _, _ => none
  | n + 1, x1, h => if 141 ≤ x1 then some h else if gIn x1 141 then if gIn x1 141 then f_X10_restore_16 a0 n (x1 + 1) (gsL h (a0 + 1) (gN x1) (h.2 (a0 + 3) (gN x1))) else none else none
set_option maxRecDepth 20000 in
set_option maxHeartbeats 4000000 in
theorem w_X10_restore_16 {w : gWd} {g : gCx} (C : gC w g cX10_restore wsX10_restore RX10 2 1 21) {a0 : Nat} (A0 : is_X10 w a0)  {o : gHp} (hk : gX w g 2 o 41 [(0, .ref a0)] []) : ∀ (n : Nat) (x1 : Int32) (h : gHp), f_X10_restore_16 a0 n x1 h = some o → gX w g 2 h 16 [(0, .ref a0), (1, .int x1)] [] := by
  intro n
  induction n with
  | zero => intro _ _ hF; cases hF
  | succ n ih =>
    intro x1 h hF
    rw [f_X10_restore_16] at hF
    refine gx_iload_n C 1 (gDec_at D_X10_restore 9 rfl) rfl rfl ?_
    refine gx_sipush C (v := 141) (gDec_at D_X10_restore 10 rfl) (by decide) ?_
    refine gx_icmp_ge C 41 (gDec_at D_X10_restore 11 rfl) (by decide) (fun c => ?_) (fun c => ?_)
    · replace hF := gPos c hF
      obtain rfl := Option.some.inj hF
      exact gx_sub [0] rfl hk
    · replace hF := gNeg c hF
      refine gx_aload_n C 0 (gDec_at D_X10_restore 12 rfl) rfl rfl ?_
      refine gx_getr C fl_X10_restore_7 (is_X10_sh A0) rfl (gDec_at D_X10_restore 13 rfl) ?_
      refine gx_iload_n C 1 (gDec_at D_X10_restore 14 rfl) rfl rfl ?_
      refine gx_aload_n C 0 (gDec_at D_X10_restore 15 rfl) rfl rfl ?_
      refine gx_getr C fl_X10_restore_16 (is_X10_sh A0) rfl (gDec_at D_X10_restore 16 rfl) ?_
      refine gx_iload_n C 1 (gDec_at D_X10_restore 17 rfl) rfl rfl ?_
      obtain ⟨b3, hF⟩ := gGd hF
      refine gx_laload C (is_X10_slot A0) b3 (gDec_at D_X10_restore 18 rfl) ?_
      obtain ⟨b4, hF⟩ := gGd hF
      refine gx_lastore C (is_X10_now A0) b4 (gDec_at D_X10_restore 19 rfl) ?_
      refine gx_iinc C (j := 1) (v := x1 + 1) (lv' := [(1, .int (x1 + 1)), (0, .ref a0)]) (gDec_at D_X10_restore 20 rfl) rfl (by rfl) (Nat.le_of_ble_eq_true rfl) rfl ?_
      refine gx_goto C 16 (gDec_at D_X10_restore 21 rfl) (by decide) ?_
      exact gx_sub [1, 0] rfl (ih (x1 + 1) (gsL h (a0 + 1) (gN x1) (h.2 (a0 + 3) (gN x1))) hF)
def f_X10_restore (a0 : Nat) (h : gHp) : Option (Int32 × gHp) := if (h.1 a0 4) = 0 then some ((-4), h) else (f_X10_record a0 h).bind fun v2 => (f_X10_restore_16 a0 gFuel 0 v2).bind fun v5 => (f_X10_parts a0 v5).bind fun v9 => some (v9, v5)
set_option maxRecDepth 20000 in
set_option maxHeartbeats 4000000 in
theorem m_X10_restore (w : gWd) (h : gHp) {a0 : Nat} (A0 : is_X10 w a0) {o : Int32 × gHp} (hF : f_X10_restore a0 h = some o) : gMet w yX10_restore wsX10_restore rm_X10_restore [.ref a0] h (some (.int o.1)) o.2 := by
  refine gMet_of (cc := cX10_restore) (maxL := 2) (ret := (some .int)) (fr := 1) (lo := 21) (own := RX10) [(0, .ref a0)] (by decide) rfl rfl (Nat.le_of_ble_eq_true rfl) rfl (Nat.le_refl _) (Nat.le_refl _) (fun g C E => ?_)
  rw [f_X10_restore] at hF
  refine gx_aload_n C 0 (gDec_at D_X10_restore 0 rfl) rfl rfl ?_
  refine gx_geti C fl_X10_restore_236 (is_X10_sh A0) rfl (gDec_at D_X10_restore 1 rfl) ?_
  refine gx_if_ne C 10 (gDec_at D_X10_restore 2 rfl) (by decide) (fun c => ?_) (fun c => ?_)
  · replace hF := gNeg c hF
    refine gx_aload_n C 0 (gDec_at D_X10_restore 5 rfl) rfl rfl ?_
    obtain ⟨v2, hv1, hF⟩ := gBind hF
    refine gx_callV0 C (st := []) 0 [] (m_X10_record w h A0 hv1) gX10_restore_X10_record rfl rfl rfl hy_X10_record (Nat.le_of_ble_eq_true rfl) (Nat.le_of_ble_eq_true rfl) (is_X10_sh A0) rfl rfl rfl (Nat.le_of_ble_eq_true rfl) (gDec_at D_X10_restore 6 rfl) ?_
    refine gx_iconst C (v := 0) (gDec_at D_X10_restore 7 rfl) (by decide) ?_
    refine gx_istore_n C (lv' := [(1, .int 0), (0, .ref a0)]) (gDec_at D_X10_restore 8 rfl) rfl (Nat.le_of_ble_eq_true rfl) rfl ?_
    obtain ⟨v5, hv6, hF⟩ := gBind hF
    have k7 : gX w g 2 v5 41 [(0, .ref a0)] [] := by
      refine gx_aload_n C 0 (gDec_at D_X10_restore 22 rfl) rfl rfl ?_
      obtain ⟨v9, hv8, hF⟩ := gBind hF
      refine gx_callV1 C (st := []) 0 [] (m_X10_parts w v5 A0 hv8) gX10_restore_X10_parts rfl rfl rfl hy_X10_parts (Nat.le_of_ble_eq_true rfl) (Nat.le_of_ble_eq_true rfl) (is_X10_sh A0) rfl rfl rfl (Nat.le_of_ble_eq_true rfl) (gDec_at D_X10_restore 23 rfl) ?_
      obtain rfl := Option.some.inj hF
      exact gx_iret C E (gDec_at D_X10_restore 24 rfl)
    exact gx_sub [1, 0] rfl (w_X10_restore_16 C A0 k7 gFuel 0 v2 hv6)
  · replace hF := gPos c hF
    refine gx_bipush C (v := (-4)) (gDec_at D_X10_restore 3 rfl) (by decide) ?_
    obtain rfl := Option.some.inj hF
    exact gx_iret C E (gDec_at D_X10_restore 4 rfl)
/-! LadderBenchModel.armsIn -/
def rm_X10_armsIn : Room := { frames := 1, cells := 0, slots := 0, locals := 22 }
set_option maxRecDepth 20000 in
theorem ggX10_armsIn_X10_ofPart : GoodIn wsX10_armsIn wsX10_ofPart := goodIn_r _ [5, 6, 7, 8, 9, 10, 11, 12, 13, 14, 15, 16, 17, 18, 19, 20, 21, 22, 23, 24, 25, 26, 27, 28, 29, 30, 31, 32] (by decide +kernel) (by decide +kernel)
set_option maxRecDepth 20000 in
theorem gX10_armsIn_X10_ofPart : GoodIn wsX10_armsIn (wsV RX10 130 RX10 yX10_ofPart wsX10_ofPart) := goodIn_app (goodIn_of _ (by decide +kernel)) ggX10_armsIn_X10_ofPart
theorem hy_X10_armsIn : yX10_armsIn.cls = RX10 ∧ yX10_armsIn.cls ≠ "java/lang/invoke/MethodHandle" ∧ yX10_armsIn.cls ≠ "java/lang/invoke/VarHandle" ∧ (parseMethodDescriptor yX10_armsIn.desc).map (fun d => d.parameters.length) = some 1 := by decide +kernel
set_option maxRecDepth 100000 in
theorem D_X10_armsIn : gDec cX10_armsIn [(0, (.iconst 0, 1)), (1, (.istore_n 2, 1)), (2, (.iconst 0, 1)), (3, (.istore_n 3, 1)), (4, (.iload_n 3, 1)), (5, (.iload_n 1, 1)), (6, (.if_icmp .gt 65, 3)), (9, (.aload_n 0, 1)), (10, (.iload_n 3, 1)), (11, (.iconst 0, 1)), (12, (.invokevirtual 130, 3)), (15, (.ifCond .ne 7, 3)), (18, (.iload_n 3, 1)), (19, (.goto 5, 3)), (22, (.bipush (-4), 2)), (24, (.istore 4, 2)), (26, (.iload 4, 2)), (28, (.bipush (-4), 2)), (30, (.if_icmp .eq 21, 3)), (33, (.iload 4, 2)), (35, (.iload_n 1, 1)), (36, (.if_icmp .ge 15, 3)), (39, (.aload_n 0, 1)), (40, (.iload 4, 2)), (42, (.iconst 1, 1)), (43, (.invokevirtual 130, 3)), (46, (.istore 4, 2)), (48, (.goto (-22), 3)), (51, (.iload_n 2, 1)), (52, (.iload 4, 2)), (54, (.iload_n 1, 1)), (55, (.if_icmp .ne 7, 3)), (58, (.iconst 1, 1)), (59, (.goto 4, 3)), (62, (.iconst 0, 1)), (63, (.iadd, 1)), (64, (.istore_n 2, 1)), (65, (.iinc 3 1, 3)), (68, (.goto (-64), 3)), (71, (.iload_n 2, 1)), (72, (.ireturn, 1))] = true := by decide +kernel
def f_X10_armsIn_26 (a0 : Nat) (x1 : Int32) (x2 : Int32) (x3 : Int32) (h : gHp) : Nat → Int32 → Option (Int32)
  | 0, _ => none
  | n + 1, x4 => if x4 = (-4) then some x4 else if x1 ≤ x4 then some x4 else (f_X10_ofPart a0 x4 1 h).bind fun v7 => f_X10_armsIn_26 a0 x1 x2 x3 h n v7
set_option maxRecDepth 20000 in
set_option maxHeartbeats 4000000 in
theorem w_X10_armsIn_26 {w : gWd} {g : gCx} (C : gC w g cX10_armsIn wsX10_armsIn RX10 5 1 22) {a0 : Nat} (A0 : is_X10 w a0) (x1 : Int32) (x2 : Int32) (x3 : Int32) (h : gHp)  {o : Int32} (hk : gX w g 5 h 51 [(0, .ref a0), (1, .int x1), (2, .int x2), (3, .int x3), (4, .int o)] []) : ∀ (n : Nat) (x4 : Int32), f_X10_armsIn_26 a0 x1 x2 x3 h n x4 = some o → gX w g 5 h 26 [(0, .ref a0), (1, .int x1), (2, .int x2), (3, .int x3), (4, .int x4)] [] := by
  intro n
  induction n with
  | zero => intro _ hF; cases hF
  | succ n ih =>
    intro x4 hF
    rw [f_X10_armsIn_26] at hF
    refine gx_iload C 4 (gDec_at D_X10_armsIn 16 rfl) rfl ?_
    refine gx_bipush C (v := (-4)) (gDec_at D_X10_armsIn 17 rfl) (by decide) ?_
    refine gx_icmp_eq C 51 (gDec_at D_X10_armsIn 18 rfl) (by decide) (fun c => ?_) (fun c => ?_)
    · replace hF := gPos c hF
      obtain rfl := Option.some.inj hF
      exact gx_sub [0, 1, 2, 3, 4] rfl hk
    · replace hF := gNeg c hF
      refine gx_iload C 4 (gDec_at D_X10_armsIn 19 rfl) rfl ?_
      refine gx_iload_n C 1 (gDec_at D_X10_armsIn 20 rfl) rfl rfl ?_
      refine gx_icmp_ge C 51 (gDec_at D_X10_armsIn 21 rfl) (by decide) (fun c => ?_) (fun c => ?_)
      · replace hF := gPos c hF
        obtain rfl := Option.some.inj hF
        exact gx_sub [0, 1, 2, 3, 4] rfl hk
      · replace hF := gNeg c hF
        refine gx_aload_n C 0 (gDec_at D_X10_armsIn 22 rfl) rfl rfl ?_
        refine gx_iload C 4 (gDec_at D_X10_armsIn 23 rfl) rfl ?_
        refine gx_iconst C (v := 1) (gDec_at D_X10_armsIn 24 rfl) (by decide) ?_
        obtain ⟨v7, hv6, hF⟩ := gBind hF
        refine gx_callV1 C (st := []) 2 [.int x4, .int 1] (m_X10_ofPart w h A0 x4 1 hv6) gX10_armsIn_X10_ofPart rfl rfl rfl hy_X10_ofPart (Nat.le_of_ble_eq_true rfl) (Nat.le_of_ble_eq_true rfl) (is_X10_sh A0) rfl rfl rfl (Nat.le_of_ble_eq_true rfl) (gDec_at D_X10_armsIn 25 rfl) ?_
        refine gx_istore C (lv' := [(4, .int v7), (0, .ref a0), (1, .int x1), (2, .int x2), (3, .int x3)]) (gDec_at D_X10_armsIn 26 rfl) (Nat.le_of_ble_eq_true rfl) rfl ?_
        refine gx_goto C 26 (gDec_at D_X10_armsIn 27 rfl) (by decide) ?_
        exact gx_sub [1, 2, 3, 4, 0] rfl (ih v7 hF)
def f_X10_armsIn_4 (a0 : Nat) (x1 : Int32) (h : gHp) : Nat → Int32 → Int32 → Option (Int32)
  | 0, _, _ => none
  | n + 1, x2, x3 => if x1 < x3 then some x2 else (f_X10_ofPart a0 x3 0 h).bind fun v2 => (if v2 = 0 then some x3 else some (-4) : Option (Int32)).bind fun v3 => (f_X10_armsIn_26 a0 x1 x2 x3 h gFuel v3).bind fun v8 => if v8 = x1 then f_X10_armsIn_4 a0 x1 h n (x2 + 1) (x3 + 1) else f_X10_armsIn_4 a0 x1 h n (x2 + 0) (x3 + 1)
set_option maxRecDepth 20000 in
set_option maxHeartbeats 4000000 in
theorem w_X10_armsIn_4 {w : gWd} {g : gCx} (C : gC w g cX10_armsIn wsX10_armsIn RX10 5 1 22) {a0 : Nat} (A0 : is_X10 w a0) (x1 : Int32) (h : gHp)  {o : Int32} (hk : gX w g 5 h 71 [(2, .int o)] []) : ∀ (n : Nat) (x2 : Int32) (x3 : Int32), f_X10_armsIn_4 a0 x1 h n x2 x3 = some o → gX w g 5 h 4 [(0, .ref a0), (1, .int x1), (2, .int x2), (3, .int x3)] [] := by
  intro n
  induction n with
  | zero => intro _ _ hF; cases hF
  | succ n ih =>
    intro x2 x3 hF
    rw [f_X10_armsIn_4] at hF
    refine gx_iload_n C 3 (gDec_at D_X10_armsIn 4 rfl) rfl rfl ?_
    refine gx_iload_n C 1 (gDec_at D_X10_armsIn 5 rfl) rfl rfl ?_
    refine gx_icmp_gt C 71 (gDec_at D_X10_armsIn 6 rfl) (by decide) (fun c => ?_) (fun c => ?_)
    · replace hF := gPos c hF
      obtain rfl := Option.some.inj hF
      exact gx_sub [2] rfl hk
    · replace hF := gNeg c hF
      refine gx_aload_n C 0 (gDec_at D_X10_armsIn 7 rfl) rfl rfl ?_
      refine gx_iload_n C 3 (gDec_at D_X10_armsIn 8 rfl) rfl rfl ?_
      refine gx_iconst C (v := 0) (gDec_at D_X10_armsIn 9 rfl) (by decide) ?_
      obtain ⟨v2, hv1, hF⟩ := gBind hF
      refine gx_callV1 C (st := []) 2 [.int x3, .int 0] (m_X10_ofPart w h A0 x3 0 hv1) gX10_armsIn_X10_ofPart rfl rfl rfl hy_X10_ofPart (Nat.le_of_ble_eq_true rfl) (Nat.le_of_ble_eq_true rfl) (is_X10_sh A0) rfl rfl rfl (Nat.le_of_ble_eq_true rfl) (gDec_at D_X10_armsIn 10 rfl) ?_
      obtain ⟨v3, hv4, hF⟩ := gBind hF
      have k5 : gX w g 5 h 24 [(0, .ref a0), (1, .int x1), (2, .int x2), (3, .int x3)] (.int v3 :: []) := by
        refine gx_istore C (lv' := [(4, .int v3), (0, .ref a0), (1, .int x1), (2, .int x2), (3, .int x3)]) (gDec_at D_X10_armsIn 15 rfl) (Nat.le_of_ble_eq_true rfl) rfl ?_
        obtain ⟨v8, hv9, hF⟩ := gBind hF
        have k10 : gX w g 5 h 51 [(0, .ref a0), (1, .int x1), (2, .int x2), (3, .int x3), (4, .int v8)] [] := by
          refine gx_iload_n C 2 (gDec_at D_X10_armsIn 28 rfl) rfl rfl ?_
          refine gx_iload C 4 (gDec_at D_X10_armsIn 29 rfl) rfl ?_
          refine gx_iload_n C 1 (gDec_at D_X10_armsIn 30 rfl) rfl rfl ?_
          refine gx_icmp_ne C 62 (gDec_at D_X10_armsIn 31 rfl) (by decide) (fun c => ?_) (fun c => ?_)
          · replace hF := gNeg c hF
            refine gx_iconst C (v := 0) (gDec_at D_X10_armsIn 34 rfl) (by decide) ?_
            refine gx_iadd C (gDec_at D_X10_armsIn 35 rfl) ?_
            refine gx_istore_n C (lv' := [(2, .int (x2 + 0)), (0, .ref a0), (1, .int x1), (3, .int x3), (4, .int v8)]) (gDec_at D_X10_armsIn 36 rfl) rfl (Nat.le_of_ble_eq_true rfl) rfl ?_
            refine gx_iinc C (j := 3) (v := x3 + 1) (lv' := [(3, .int (x3 + 1)), (2, .int (x2 + 0)), (0, .ref a0), (1, .int x1), (4, .int v8)]) (gDec_at D_X10_armsIn 37 rfl) rfl (by rfl) (Nat.le_of_ble_eq_true rfl) rfl ?_
            refine gx_goto C 4 (gDec_at D_X10_armsIn 38 rfl) (by decide) ?_
            exact gx_sub [2, 3, 1, 0] rfl (ih (x2 + 0) (x3 + 1) hF)
          · replace hF := gPos c hF
            refine gx_iconst C (v := 1) (gDec_at D_X10_armsIn 32 rfl) (by decide) ?_
            refine gx_goto C 63 (gDec_at D_X10_armsIn 33 rfl) (by decide) ?_
            refine gx_iadd C (gDec_at D_X10_armsIn 35 rfl) ?_
            refine gx_istore_n C (lv' := [(2, .int (x2 + 1)), (0, .ref a0), (1, .int x1), (3, .int x3), (4, .int v8)]) (gDec_at D_X10_armsIn 36 rfl) rfl (Nat.le_of_ble_eq_true rfl) rfl ?_
            refine gx_iinc C (j := 3) (v := x3 + 1) (lv' := [(3, .int (x3 + 1)), (2, .int (x2 + 1)), (0, .ref a0), (1, .int x1), (4, .int v8)]) (gDec_at D_X10_armsIn 37 rfl) rfl (by rfl) (Nat.le_of_ble_eq_true rfl) rfl ?_
            refine gx_goto C 4 (gDec_at D_X10_armsIn 38 rfl) (by decide) ?_
            exact gx_sub [2, 3, 1, 0] rfl (ih (x2 + 1) (x3 + 1) hF)
        exact gx_sub [1, 2, 3, 4, 0] rfl (w_X10_armsIn_26 C A0 x1 x2 x3 h k10 gFuel v3 hv9)
      replace hF := hv4
      refine gx_if_ne C 22 (gDec_at D_X10_armsIn 11 rfl) (by decide) (fun c => ?_) (fun c => ?_)
      · replace hF := gNeg c hF
        refine gx_bipush C (v := (-4)) (gDec_at D_X10_armsIn 14 rfl) (by decide) ?_
        obtain rfl := Option.some.inj hF
        exact gx_sub [0, 1, 2, 3] rfl k5
      · replace hF := gPos c hF
        refine gx_iload_n C 3 (gDec_at D_X10_armsIn 12 rfl) rfl rfl ?_
        refine gx_goto C 24 (gDec_at D_X10_armsIn 13 rfl) (by decide) ?_
        obtain rfl := Option.some.inj hF
        exact gx_sub [0, 1, 2, 3] rfl k5
def f_X10_armsIn (a0 : Nat) (x1 : Int32) (h : gHp) : Option (Int32) := (f_X10_armsIn_4 a0 x1 h gFuel 0 0).bind fun v11 => some v11
set_option maxRecDepth 20000 in
set_option maxHeartbeats 4000000 in
theorem m_X10_armsIn (w : gWd) (h : gHp) {a0 : Nat} (A0 : is_X10 w a0) (x1 : Int32) {o : Int32} (hF : f_X10_armsIn a0 x1 h = some o) : gMet w yX10_armsIn wsX10_armsIn rm_X10_armsIn [.ref a0, .int x1] h (some (.int o)) h := by
  refine gMet_of (cc := cX10_armsIn) (maxL := 5) (ret := (some .int)) (fr := 1) (lo := 22) (own := RX10) [(0, .ref a0), (1, .int x1)] (by decide) rfl rfl (Nat.le_of_ble_eq_true rfl) rfl (Nat.le_refl _) (Nat.le_refl _) (fun g C E => ?_)
  rw [f_X10_armsIn] at hF
  refine gx_iconst C (v := 0) (gDec_at D_X10_armsIn 0 rfl) (by decide) ?_
  refine gx_istore_n C (lv' := [(2, .int 0), (0, .ref a0), (1, .int x1)]) (gDec_at D_X10_armsIn 1 rfl) rfl (Nat.le_of_ble_eq_true rfl) rfl ?_
  refine gx_iconst C (v := 0) (gDec_at D_X10_armsIn 2 rfl) (by decide) ?_
  refine gx_istore_n C (lv' := [(3, .int 0), (2, .int 0), (0, .ref a0), (1, .int x1)]) (gDec_at D_X10_armsIn 3 rfl) rfl (Nat.le_of_ble_eq_true rfl) rfl ?_
  obtain ⟨v11, hv12, hF⟩ := gBind hF
  have k13 : gX w g 5 h 71 [(2, .int v11)] [] := by
    refine gx_iload_n C 0 (gDec_at D_X10_armsIn 39 rfl) rfl rfl ?_
    obtain rfl := Option.some.inj hF
    exact gx_iret C E (gDec_at D_X10_armsIn 40 rfl)
  exact gx_sub [2, 3, 1, 0] rfl (w_X10_armsIn_4 C A0 x1 h k13 gFuel 0 0 hv12)
/-! LadderBenchModel.firstIn -/
def rm_X10_firstIn : Room := { frames := 1, cells := 0, slots := 0, locals := 22 }
set_option maxRecDepth 20000 in
theorem ggX10_firstIn_X10_ofPart : GoodIn wsX10_firstIn wsX10_ofPart := goodIn_r _ [5, 6, 7, 8, 9, 10, 11, 12, 13, 14, 15, 16, 17, 18, 19, 20, 21, 22, 23, 24, 25, 26, 27, 28, 29, 30, 31, 32] (by decide +kernel) (by decide +kernel)
set_option maxRecDepth 20000 in
theorem gX10_firstIn_X10_ofPart : GoodIn wsX10_firstIn (wsV RX10 130 RX10 yX10_ofPart wsX10_ofPart) := goodIn_app (goodIn_of _ (by decide +kernel)) ggX10_firstIn_X10_ofPart
theorem hy_X10_firstIn : yX10_firstIn.cls = RX10 ∧ yX10_firstIn.cls ≠ "java/lang/invoke/MethodHandle" ∧ yX10_firstIn.cls ≠ "java/lang/invoke/VarHandle" ∧ (parseMethodDescriptor yX10_firstIn.desc).map (fun d => d.parameters.length) = some 1 := by decide +kernel
set_option maxRecDepth 100000 in
theorem D_X10_firstIn : gDec cX10_firstIn [(0, (.iconst 0, 1)), (1, (.istore_n 2, 1)), (2, (.iload_n 2, 1)), (3, (.iload_n 1, 1)), (4, (.if_icmp .ge 21, 3)), (7, (.aload_n 0, 1)), (8, (.iload_n 2, 1)), (9, (.iconst 1, 1)), (10, (.invokevirtual 130, 3)), (13, (.iload_n 1, 1)), (14, (.if_icmp .ne 5, 3)), (17, (.iload_n 2, 1)), (18, (.ireturn, 1)), (19, (.iinc 2 1, 3)), (22, (.goto (-20), 3)), (25, (.bipush (-4), 2)), (27, (.ireturn, 1))] = true := by decide +kernel
def f_X10_firstIn_2 (a0 : Nat) (x1 : Int32) (h : gHp) : Nat → Int32 → Option (Int32)
  | 0, _ => none
  | n + 1, x2 => if x1 ≤ x2 then some (-4) else (f_X10_ofPart a0 x2 1 h).bind fun v2 => if v2 = x1 then some x2 else f_X10_firstIn_2 a0 x1 h n (x2 + 1)
set_option maxRecDepth 20000 in
set_option maxHeartbeats 4000000 in
theorem w_X10_firstIn_2 {w : gWd} {g : gCx} (C : gC w g cX10_firstIn wsX10_firstIn RX10 3 1 22) {a0 : Nat} (A0 : is_X10 w a0) (x1 : Int32) (h : gHp)  {o : Int32} (E : gEn w g (some .int) (some (.int o)) h) : ∀ (n : Nat) (x2 : Int32), f_X10_firstIn_2 a0 x1 h n x2 = some o → gX w g 3 h 2 [(0, .ref a0), (1, .int x1), (2, .int x2)] [] := by
  intro n
  induction n with
  | zero => intro _ hF; cases hF
  | succ n ih =>
    intro x2 hF
    rw [f_X10_firstIn_2] at hF
    refine gx_iload_n C 2 (gDec_at D_X10_firstIn 2 rfl) rfl rfl ?_
    refine gx_iload_n C 1 (gDec_at D_X10_firstIn 3 rfl) rfl rfl ?_
    refine gx_icmp_ge C 25 (gDec_at D_X10_firstIn 4 rfl) (by decide) (fun c => ?_) (fun c => ?_)
    · replace hF := gPos c hF
      refine gx_bipush C (v := (-4)) (gDec_at D_X10_firstIn 15 rfl) (by decide) ?_
      obtain rfl := Option.some.inj hF
      exact gx_iret C E (gDec_at D_X10_firstIn 16 rfl)
    · replace hF := gNeg c hF
      refine gx_aload_n C 0 (gDec_at D_X10_firstIn 5 rfl) rfl rfl ?_
      refine gx_iload_n C 2 (gDec_at D_X10_firstIn 6 rfl) rfl rfl ?_
      refine gx_iconst C (v := 1) (gDec_at D_X10_firstIn 7 rfl) (by decide) ?_
      obtain ⟨v2, hv1, hF⟩ := gBind hF
      refine gx_callV1 C (st := []) 2 [.int x2, .int 1] (m_X10_ofPart w h A0 x2 1 hv1) gX10_firstIn_X10_ofPart rfl rfl rfl hy_X10_ofPart (Nat.le_of_ble_eq_true rfl) (Nat.le_of_ble_eq_true rfl) (is_X10_sh A0) rfl rfl rfl (Nat.le_of_ble_eq_true rfl) (gDec_at D_X10_firstIn 8 rfl) ?_
      refine gx_iload_n C 1 (gDec_at D_X10_firstIn 9 rfl) rfl rfl ?_
      refine gx_icmp_ne C 19 (gDec_at D_X10_firstIn 10 rfl) (by decide) (fun c => ?_) (fun c => ?_)
      · replace hF := gNeg c hF
        refine gx_iinc C (j := 2) (v := x2 + 1) (lv' := [(2, .int (x2 + 1)), (0, .ref a0), (1, .int x1)]) (gDec_at D_X10_firstIn 13 rfl) rfl (by rfl) (Nat.le_of_ble_eq_true rfl) rfl ?_
        refine gx_goto C 2 (gDec_at D_X10_firstIn 14 rfl) (by decide) ?_
        exact gx_sub [1, 2, 0] rfl (ih (x2 + 1) hF)
      · replace hF := gPos c hF
        refine gx_iload_n C 2 (gDec_at D_X10_firstIn 11 rfl) rfl rfl ?_
        obtain rfl := Option.some.inj hF
        exact gx_iret C E (gDec_at D_X10_firstIn 12 rfl)
def f_X10_firstIn (a0 : Nat) (x1 : Int32) (h : gHp) : Option (Int32) := f_X10_firstIn_2 a0 x1 h gFuel 0
set_option maxRecDepth 20000 in
set_option maxHeartbeats 4000000 in
theorem m_X10_firstIn (w : gWd) (h : gHp) {a0 : Nat} (A0 : is_X10 w a0) (x1 : Int32) {o : Int32} (hF : f_X10_firstIn a0 x1 h = some o) : gMet w yX10_firstIn wsX10_firstIn rm_X10_firstIn [.ref a0, .int x1] h (some (.int o)) h := by
  refine gMet_of (cc := cX10_firstIn) (maxL := 3) (ret := (some .int)) (fr := 1) (lo := 22) (own := RX10) [(0, .ref a0), (1, .int x1)] (by decide) rfl rfl (Nat.le_of_ble_eq_true rfl) rfl (Nat.le_refl _) (Nat.le_refl _) (fun g C E => ?_)
  rw [f_X10_firstIn] at hF
  refine gx_iconst C (v := 0) (gDec_at D_X10_firstIn 0 rfl) (by decide) ?_
  refine gx_istore_n C (lv' := [(2, .int 0), (0, .ref a0), (1, .int x1)]) (gDec_at D_X10_firstIn 1 rfl) rfl (Nat.le_of_ble_eq_true rfl) rfl ?_
  exact gx_sub [1, 2, 0] rfl (w_X10_firstIn_2 C A0 x1 h   E gFuel 0 hF)
/-! LadderBenchModel.part -/
def rm_X10_part : Room := { frames := 3, cells := 0, slots := 0, locals := 65 }
set_option maxRecDepth 20000 in
theorem ggX10_part_X10_armsIn : GoodIn wsX10_part wsX10_armsIn := goodIn_r _ [21, 14, 15, 16, 4, 17, 10, 34, 35, 36, 37, 38, 39, 40, 41, 42, 43, 44, 45, 46, 47, 48, 49, 50, 51, 52, 53, 54, 55, 56, 57, 58, 59] (by decide +kernel) (by decide +kernel)
set_option maxRecDepth 20000 in
theorem gX10_part_X10_armsIn : GoodIn wsX10_part (wsV RX10 239 RX10 yX10_armsIn wsX10_armsIn) := goodIn_app (goodIn_of _ (by decide +kernel)) ggX10_part_X10_armsIn
set_option maxRecDepth 20000 in
theorem ggX10_part_X10_firstIn : GoodIn wsX10_part wsX10_firstIn := goodIn_r _ [33, 14, 15, 16, 4, 17, 10, 34, 35, 36, 37, 38, 39, 40, 41, 42, 43, 44, 45, 46, 47, 48, 49, 50, 51, 52, 53, 54, 55, 56, 57, 58, 59] (by decide +kernel) (by decide +kernel)
set_option maxRecDepth 20000 in
theorem gX10_part_X10_firstIn : GoodIn wsX10_part (wsV RX10 242 RX10 yX10_firstIn wsX10_firstIn) := goodIn_app (goodIn_of _ (by decide +kernel)) ggX10_part_X10_firstIn
set_option maxRecDepth 20000 in
theorem ggX10_part_X10_isFolded : GoodIn wsX10_part wsX10_isFolded := goodIn_r _ [25, 14, 15, 16, 4, 17, 10, 34, 35, 36, 37, 38, 39, 40, 41, 42, 43, 44, 45, 46, 47, 48, 49, 50, 51, 52, 53, 54, 55, 56, 57, 58, 59] (by decide +kernel) (by decide +kernel)
set_option maxRecDepth 20000 in
theorem gX10_part_X10_isFolded : GoodIn wsX10_part (wsV RX10 142 RX10 yX10_isFolded wsX10_isFolded) := goodIn_app (goodIn_of _ (by decide +kernel)) ggX10_part_X10_isFolded
set_option maxRecDepth 20000 in
theorem ggX10_part_X10_mayFold : GoodIn wsX10_part wsX10_mayFold := goodIn_r _ [29, 14, 15, 16, 4, 17, 10, 22, 23, 24, 25, 34, 35, 36, 37, 38, 39, 40, 41, 42, 43, 44, 45, 46, 47, 48, 49, 50, 51, 52, 53, 54, 55, 56, 57, 58, 59] (by decide +kernel) (by decide +kernel)
set_option maxRecDepth 20000 in
theorem gX10_part_X10_mayFold : GoodIn wsX10_part (wsV RX10 148 RX10 yX10_mayFold wsX10_mayFold) := goodIn_app (goodIn_of _ (by decide +kernel)) ggX10_part_X10_mayFold
set_option maxRecDepth 20000 in
theorem ggX10_part_X10_noPart : GoodIn wsX10_part wsX10_noPart := goodIn_r _ [5, 6, 7, 8, 4, 9, 10, 11, 12, 13, 34, 35, 36, 37, 38, 39, 40, 41, 42, 43, 44, 45, 46, 47, 48, 49, 50, 51, 52, 53, 54, 55, 56, 57, 58, 59] (by decide +kernel) (by decide +kernel)
set_option maxRecDepth 20000 in
theorem gX10_part_X10_noPart : GoodIn wsX10_part (wsV RX10 145 RX10 yX10_noPart wsX10_noPart) := goodIn_app (goodIn_of _ (by decide +kernel)) ggX10_part_X10_noPart
set_option maxRecDepth 20000 in
theorem ggX10_part_X10_ofPart : GoodIn wsX10_part wsX10_ofPart := goodIn_r _ [17, 10, 34, 35, 36, 37, 38, 39, 40, 41, 42, 43, 44, 45, 46, 47, 48, 49, 50, 51, 52, 53, 54, 55, 56, 57, 58, 59] (by decide +kernel) (by decide +kernel)
set_option maxRecDepth 20000 in
theorem gX10_part_X10_ofPart : GoodIn wsX10_part (wsV RX10 130 RX10 yX10_ofPart wsX10_ofPart) := goodIn_app (goodIn_of _ (by decide +kernel)) ggX10_part_X10_ofPart
theorem hy_X10_part : yX10_part.cls = RX10 ∧ yX10_part.cls ≠ "java/lang/invoke/MethodHandle" ∧ yX10_part.cls ≠ "java/lang/invoke/VarHandle" ∧ (parseMethodDescriptor yX10_part.desc).map (fun d => d.parameters.length) = some 2 := by decide +kernel
set_option maxRecDepth 100000 in
theorem D_X10_part : gDec cX10_part [(0, (.aload_n 0, 1)), (1, (.iload_n 1, 1)), (2, (.invokevirtual 145, 3)), (5, (.ifCond .eq 5, 3)), (8, (.iconst (-1), 1)), (9, (.ireturn, 1)), (10, (.iload_n 2, 1)), (11, (.tableswitch 131 0 7 #[45, 52, 59, 66, 73, 97, 103, 125], 45)), (56, (.aload_n 0, 1)), (57, (.iload_n 1, 1)), (58, (.iconst 0, 1)), (59, (.invokevirtual 130, 3)), (62, (.ireturn, 1)), (63, (.aload_n 0, 1)), (64, (.iload_n 1, 1)), (65, (.iconst 3, 1)), (66, (.invokevirtual 130, 3)), (69, (.ireturn, 1)), (70, (.aload_n 0, 1)), (71, (.iload_n 1, 1)), (72, (.iconst 4, 1)), (73, (.invokevirtual 130, 3)), (76, (.ireturn, 1)), (77, (.aload_n 0, 1)), (78, (.iload_n 1, 1)), (79, (.iconst 1, 1)), (80, (.invokevirtual 130, 3)), (83, (.ireturn, 1)), (84, (.aload_n 0, 1)), (85, (.iload_n 1, 1)), (86, (.iconst 0, 1)), (87, (.invokevirtual 130, 3)), (90, (.ifCond .ne 15, 3)), (93, (.aload_n 0, 1)), (94, (.iload_n 1, 1)), (95, (.iconst 2, 1)), (96, (.invokevirtual 130, 3)), (99, (.bipush 97, 2)), (101, (.iadd, 1)), (102, (.goto 5, 3)), (105, (.bipush (-4), 2)), (107, (.ireturn, 1)), (108, (.aload_n 0, 1)), (109, (.iload_n 1, 1)), (110, (.invokevirtual 239, 3)), (113, (.ireturn, 1)), (114, (.aload_n 0, 1)), (115, (.iload_n 1, 1)), (116, (.invokevirtual 142, 3)), (119, (.ifCond .ne 15, 3)), (122, (.aload_n 0, 1)), (123, (.iload_n 1, 1)), (124, (.invokevirtual 148, 3)), (127, (.ifCond .eq 7, 3)), (130, (.iconst 1, 1)), (131, (.goto 4, 3)), (134, (.iconst 0, 1)), (135, (.ireturn, 1)), (136, (.aload_n 0, 1)), (137, (.iload_n 1, 1)), (138, (.invokevirtual 242, 3)), (141, (.ireturn, 1)), (142, (.bipush (-2), 2)), (144, (.ireturn, 1))] = true := by decide +kernel
def f_X10_part (a0 : Nat) (x1 : Int32) (x2 : Int32) (h : gHp) : Option (Int32) := (f_X10_noPart a0 x1 h).bind fun v2 => if v2 = true then some (-1) else if x2 = 0 then (f_X10_ofPart a0 x1 0 h).bind fun v4 => some v4 else if x2 = 1 then (f_X10_ofPart a0 x1 3 h).bind fun v6 => some v6 else if x2 = 2 then (f_X10_ofPart a0 x1 4 h).bind fun v8 => some v8 else if x2 = 3 then (f_X10_ofPart a0 x1 1 h).bind fun v10 => some v10 else if x2 = 4 then (f_X10_ofPart a0 x1 0 h).bind fun v12 => if v12 = 0 then (f_X10_ofPart a0 x1 2 h).bind fun v14 => some (v14 + 97) else some (-4) else if x2 = 5 then (f_X10_armsIn a0 x1 h).bind fun v16 => some v16 else if x2 = 6 then (f_X10_isFolded a0 x1 h).bind fun v18 => if v18 = true then some 0 else (f_X10_mayFold a0 x1 h).bind fun v20 => if v20 = true then some 1 else some 0 else if x2 = 7 then (f_X10_firstIn a0 x1 h).bind fun v22 => some v22 else some (-2)
set_option maxRecDepth 20000 in
set_option maxHeartbeats 4000000 in
theorem m_X10_part (w : gWd) (h : gHp) {a0 : Nat} (A0 : is_X10 w a0) (x1 : Int32) (x2 : Int32) {o : Int32} (hF : f_X10_part a0 x1 x2 h = some o) : gMet w yX10_part wsX10_part rm_X10_part [.ref a0, .int x1, .int x2] h (some (.int o)) h := by
  refine gMet_of (cc := cX10_part) (maxL := 3) (ret := (some .int)) (fr := 3) (lo := 65) (own := RX10) [(0, .ref a0), (1, .int x1), (2, .int x2)] (by decide) rfl rfl (Nat.le_of_ble_eq_true rfl) rfl (Nat.le_refl _) (Nat.le_refl _) (fun g C E => ?_)
  rw [f_X10_part] at hF
  refine gx_aload_n C 0 (gDec_at D_X10_part 0 rfl) rfl rfl ?_
  refine gx_iload_n C 1 (gDec_at D_X10_part 1 rfl) rfl rfl ?_
  obtain ⟨v2, hv1, hF⟩ := gBind hF
  refine gx_callV1 C (st := []) 1 [.int x1] (m_X10_noPart w h A0 x1 hv1) gX10_part_X10_noPart rfl rfl rfl hy_X10_noPart (Nat.le_of_ble_eq_true rfl) (Nat.le_of_ble_eq_true rfl) (is_X10_sh A0) rfl rfl rfl (Nat.le_of_ble_eq_true rfl) (gDec_at D_X10_part 2 rfl) ?_
  refine gx_ifz_eq C 10 (gDec_at D_X10_part 3 rfl) (by decide) (fun c => ?_) (fun c => ?_)
  · replace hF := gNeg c hF
    refine gx_iload_n C 2 (gDec_at D_X10_part 6 rfl) rfl rfl ?_
    by_cases c0 : x2 = 0
    · replace hF := gPos c0 hF
      refine gx_tableIn C 56 (gDec_at D_X10_part 7 rfl) (by rw [c0]; decide) (by rw [c0]; decide) (by rw [c0]; rfl) (by decide) ?_
      refine gx_aload_n C 0 (gDec_at D_X10_part 8 rfl) rfl rfl ?_
      refine gx_iload_n C 1 (gDec_at D_X10_part 9 rfl) rfl rfl ?_
      refine gx_iconst C (v := 0) (gDec_at D_X10_part 10 rfl) (by decide) ?_
      obtain ⟨v4, hv3, hF⟩ := gBind hF
      refine gx_callV1 C (st := []) 2 [.int x1, .int 0] (m_X10_ofPart w h A0 x1 0 hv3) gX10_part_X10_ofPart rfl rfl rfl hy_X10_ofPart (Nat.le_of_ble_eq_true rfl) (Nat.le_of_ble_eq_true rfl) (is_X10_sh A0) rfl rfl rfl (Nat.le_of_ble_eq_true rfl) (gDec_at D_X10_part 11 rfl) ?_
      obtain rfl := Option.some.inj hF
      exact gx_iret C E (gDec_at D_X10_part 12 rfl)
    replace hF := gNeg c0 hF
    by_cases c1 : x2 = 1
    · replace hF := gPos c1 hF
      refine gx_tableIn C 63 (gDec_at D_X10_part 7 rfl) (by rw [c1]; decide) (by rw [c1]; decide) (by rw [c1]; rfl) (by decide) ?_
      refine gx_aload_n C 0 (gDec_at D_X10_part 13 rfl) rfl rfl ?_
      refine gx_iload_n C 1 (gDec_at D_X10_part 14 rfl) rfl rfl ?_
      refine gx_iconst C (v := 3) (gDec_at D_X10_part 15 rfl) (by decide) ?_
      obtain ⟨v6, hv5, hF⟩ := gBind hF
      refine gx_callV1 C (st := []) 2 [.int x1, .int 3] (m_X10_ofPart w h A0 x1 3 hv5) gX10_part_X10_ofPart rfl rfl rfl hy_X10_ofPart (Nat.le_of_ble_eq_true rfl) (Nat.le_of_ble_eq_true rfl) (is_X10_sh A0) rfl rfl rfl (Nat.le_of_ble_eq_true rfl) (gDec_at D_X10_part 16 rfl) ?_
      obtain rfl := Option.some.inj hF
      exact gx_iret C E (gDec_at D_X10_part 17 rfl)
    replace hF := gNeg c1 hF
    by_cases c2 : x2 = 2
    · replace hF := gPos c2 hF
      refine gx_tableIn C 70 (gDec_at D_X10_part 7 rfl) (by rw [c2]; decide) (by rw [c2]; decide) (by rw [c2]; rfl) (by decide) ?_
      refine gx_aload_n C 0 (gDec_at D_X10_part 18 rfl) rfl rfl ?_
      refine gx_iload_n C 1 (gDec_at D_X10_part 19 rfl) rfl rfl ?_
      refine gx_iconst C (v := 4) (gDec_at D_X10_part 20 rfl) (by decide) ?_
      obtain ⟨v8, hv7, hF⟩ := gBind hF
      refine gx_callV1 C (st := []) 2 [.int x1, .int 4] (m_X10_ofPart w h A0 x1 4 hv7) gX10_part_X10_ofPart rfl rfl rfl hy_X10_ofPart (Nat.le_of_ble_eq_true rfl) (Nat.le_of_ble_eq_true rfl) (is_X10_sh A0) rfl rfl rfl (Nat.le_of_ble_eq_true rfl) (gDec_at D_X10_part 21 rfl) ?_
      obtain rfl := Option.some.inj hF
      exact gx_iret C E (gDec_at D_X10_part 22 rfl)
    replace hF := gNeg c2 hF
    by_cases c3 : x2 = 3
    · replace hF := gPos c3 hF
      refine gx_tableIn C 77 (gDec_at D_X10_part 7 rfl) (by rw [c3]; decide) (by rw [c3]; decide) (by rw [c3]; rfl) (by decide) ?_
      refine gx_aload_n C 0 (gDec_at D_X10_part 23 rfl) rfl rfl ?_
      refine gx_iload_n C 1 (gDec_at D_X10_part 24 rfl) rfl rfl ?_
      refine gx_iconst C (v := 1) (gDec_at D_X10_part 25 rfl) (by decide) ?_
      obtain ⟨v10, hv9, hF⟩ := gBind hF
      refine gx_callV1 C (st := []) 2 [.int x1, .int 1] (m_X10_ofPart w h A0 x1 1 hv9) gX10_part_X10_ofPart rfl rfl rfl hy_X10_ofPart (Nat.le_of_ble_eq_true rfl) (Nat.le_of_ble_eq_true rfl) (is_X10_sh A0) rfl rfl rfl (Nat.le_of_ble_eq_true rfl) (gDec_at D_X10_part 26 rfl) ?_
      obtain rfl := Option.some.inj hF
      exact gx_iret C E (gDec_at D_X10_part 27 rfl)
    replace hF := gNeg c3 hF
    by_cases c4 : x2 = 4
    · replace hF := gPos c4 hF
      refine gx_tableIn C 84 (gDec_at D_X10_part 7 rfl) (by rw [c4]; decide) (by rw [c4]; decide) (by rw [c4]; rfl) (by decide) ?_
      refine gx_aload_n C 0 (gDec_at D_X10_part 28 rfl) rfl rfl ?_
      refine gx_iload_n C 1 (gDec_at D_X10_part 29 rfl) rfl rfl ?_
      refine gx_iconst C (v := 0) (gDec_at D_X10_part 30 rfl) (by decide) ?_
      obtain ⟨v12, hv11, hF⟩ := gBind hF
      refine gx_callV1 C (st := []) 2 [.int x1, .int 0] (m_X10_ofPart w h A0 x1 0 hv11) gX10_part_X10_ofPart rfl rfl rfl hy_X10_ofPart (Nat.le_of_ble_eq_true rfl) (Nat.le_of_ble_eq_true rfl) (is_X10_sh A0) rfl rfl rfl (Nat.le_of_ble_eq_true rfl) (gDec_at D_X10_part 31 rfl) ?_
      refine gx_if_ne C 105 (gDec_at D_X10_part 32 rfl) (by decide) (fun c => ?_) (fun c => ?_)
      · replace hF := gNeg c hF
        refine gx_bipush C (v := (-4)) (gDec_at D_X10_part 40 rfl) (by decide) ?_
        obtain rfl := Option.some.inj hF
        exact gx_iret C E (gDec_at D_X10_part 41 rfl)
      · replace hF := gPos c hF
        refine gx_aload_n C 0 (gDec_at D_X10_part 33 rfl) rfl rfl ?_
        refine gx_iload_n C 1 (gDec_at D_X10_part 34 rfl) rfl rfl ?_
        refine gx_iconst C (v := 2) (gDec_at D_X10_part 35 rfl) (by decide) ?_
        obtain ⟨v14, hv13, hF⟩ := gBind hF
        refine gx_callV1 C (st := []) 2 [.int x1, .int 2] (m_X10_ofPart w h A0 x1 2 hv13) gX10_part_X10_ofPart rfl rfl rfl hy_X10_ofPart (Nat.le_of_ble_eq_true rfl) (Nat.le_of_ble_eq_true rfl) (is_X10_sh A0) rfl rfl rfl (Nat.le_of_ble_eq_true rfl) (gDec_at D_X10_part 36 rfl) ?_
        refine gx_bipush C (v := 97) (gDec_at D_X10_part 37 rfl) (by decide) ?_
        refine gx_iadd C (gDec_at D_X10_part 38 rfl) ?_
        refine gx_goto C 107 (gDec_at D_X10_part 39 rfl) (by decide) ?_
        obtain rfl := Option.some.inj hF
        exact gx_iret C E (gDec_at D_X10_part 41 rfl)
    replace hF := gNeg c4 hF
    by_cases c5 : x2 = 5
    · replace hF := gPos c5 hF
      refine gx_tableIn C 108 (gDec_at D_X10_part 7 rfl) (by rw [c5]; decide) (by rw [c5]; decide) (by rw [c5]; rfl) (by decide) ?_
      refine gx_aload_n C 0 (gDec_at D_X10_part 42 rfl) rfl rfl ?_
      refine gx_iload_n C 1 (gDec_at D_X10_part 43 rfl) rfl rfl ?_
      obtain ⟨v16, hv15, hF⟩ := gBind hF
      refine gx_callV1 C (st := []) 1 [.int x1] (m_X10_armsIn w h A0 x1 hv15) gX10_part_X10_armsIn rfl rfl rfl hy_X10_armsIn (Nat.le_of_ble_eq_true rfl) (Nat.le_of_ble_eq_true rfl) (is_X10_sh A0) rfl rfl rfl (Nat.le_of_ble_eq_true rfl) (gDec_at D_X10_part 44 rfl) ?_
      obtain rfl := Option.some.inj hF
      exact gx_iret C E (gDec_at D_X10_part 45 rfl)
    replace hF := gNeg c5 hF
    by_cases c6 : x2 = 6
    · replace hF := gPos c6 hF
      refine gx_tableIn C 114 (gDec_at D_X10_part 7 rfl) (by rw [c6]; decide) (by rw [c6]; decide) (by rw [c6]; rfl) (by decide) ?_
      refine gx_aload_n C 0 (gDec_at D_X10_part 46 rfl) rfl rfl ?_
      refine gx_iload_n C 1 (gDec_at D_X10_part 47 rfl) rfl rfl ?_
      obtain ⟨v18, hv17, hF⟩ := gBind hF
      refine gx_callV1 C (st := []) 1 [.int x1] (m_X10_isFolded w h A0 x1 hv17) gX10_part_X10_isFolded rfl rfl rfl hy_X10_isFolded (Nat.le_of_ble_eq_true rfl) (Nat.le_of_ble_eq_true rfl) (is_X10_sh A0) rfl rfl rfl (Nat.le_of_ble_eq_true rfl) (gDec_at D_X10_part 48 rfl) ?_
      refine gx_ifz_ne C 134 (gDec_at D_X10_part 49 rfl) (by decide) (fun c => ?_) (fun c => ?_)
      · replace hF := gPos c hF
        refine gx_iconst C (v := 0) (gDec_at D_X10_part 56 rfl) (by decide) ?_
        obtain rfl := Option.some.inj hF
        exact gx_iret C E (gDec_at D_X10_part 57 rfl)
      · replace hF := gNeg c hF
        refine gx_aload_n C 0 (gDec_at D_X10_part 50 rfl) rfl rfl ?_
        refine gx_iload_n C 1 (gDec_at D_X10_part 51 rfl) rfl rfl ?_
        obtain ⟨v20, hv19, hF⟩ := gBind hF
        refine gx_callV1 C (st := []) 1 [.int x1] (m_X10_mayFold w h A0 x1 hv19) gX10_part_X10_mayFold rfl rfl rfl hy_X10_mayFold (Nat.le_of_ble_eq_true rfl) (Nat.le_of_ble_eq_true rfl) (is_X10_sh A0) rfl rfl rfl (Nat.le_of_ble_eq_true rfl) (gDec_at D_X10_part 52 rfl) ?_
        refine gx_ifz_eq C 134 (gDec_at D_X10_part 53 rfl) (by decide) (fun c => ?_) (fun c => ?_)
        · replace hF := gNeg c hF
          refine gx_iconst C (v := 0) (gDec_at D_X10_part 56 rfl) (by decide) ?_
          obtain rfl := Option.some.inj hF
          exact gx_iret C E (gDec_at D_X10_part 57 rfl)
        · replace hF := gPos c hF
          refine gx_iconst C (v := 1) (gDec_at D_X10_part 54 rfl) (by decide) ?_
          refine gx_goto C 135 (gDec_at D_X10_part 55 rfl) (by decide) ?_
          obtain rfl := Option.some.inj hF
          exact gx_iret C E (gDec_at D_X10_part 57 rfl)
    replace hF := gNeg c6 hF
    by_cases c7 : x2 = 7
    · replace hF := gPos c7 hF
      refine gx_tableIn C 136 (gDec_at D_X10_part 7 rfl) (by rw [c7]; decide) (by rw [c7]; decide) (by rw [c7]; rfl) (by decide) ?_
      refine gx_aload_n C 0 (gDec_at D_X10_part 58 rfl) rfl rfl ?_
      refine gx_iload_n C 1 (gDec_at D_X10_part 59 rfl) rfl rfl ?_
      obtain ⟨v22, hv21, hF⟩ := gBind hF
      refine gx_callV1 C (st := []) 1 [.int x1] (m_X10_firstIn w h A0 x1 hv21) gX10_part_X10_firstIn rfl rfl rfl hy_X10_firstIn (Nat.le_of_ble_eq_true rfl) (Nat.le_of_ble_eq_true rfl) (is_X10_sh A0) rfl rfl rfl (Nat.le_of_ble_eq_true rfl) (gDec_at D_X10_part 60 rfl) ?_
      obtain rfl := Option.some.inj hF
      exact gx_iret C E (gDec_at D_X10_part 61 rfl)
    replace hF := gNeg c7 hF
    refine gx_tableOut C 142 (gDec_at D_X10_part 7 rfl) (gSw _ 7 (by decide) (fun k hk => match k, hk with | 0, _ => c0 | 1, _ => c1 | 2, _ => c2 | 3, _ => c3 | 4, _ => c4 | 5, _ => c5 | 6, _ => c6 | 7, _ => c7 | k + 8, hk => absurd hk (by omega))) (by decide) ?_
    refine gx_bipush C (v := (-2)) (gDec_at D_X10_part 62 rfl) (by decide) ?_
    obtain rfl := Option.some.inj hF
    exact gx_iret C E (gDec_at D_X10_part 63 rfl)
  · replace hF := gPos c hF
    refine gx_iconst C (v := (-1)) (gDec_at D_X10_part 4 rfl) (by decide) ?_
    obtain rfl := Option.some.inj hF
    exact gx_iret C E (gDec_at D_X10_part 5 rfl)
/-! LadderBenchModel.armBy -/
def rm_X10_armBy : Room := { frames := 2, cells := 0, slots := 0, locals := 43 }
set_option maxRecDepth 20000 in
theorem ggX10_armBy_X10_hasArm : GoodIn wsX10_armBy wsX10_hasArm := goodIn_r _ [8, 1, 2, 3, 4, 9, 10, 11, 12, 13, 14, 15, 16, 17, 18, 19, 20, 21, 22, 23, 24, 25, 26, 27, 28, 29, 30, 31, 32, 33, 34, 35, 36, 37, 38, 39] (by decide +kernel) (by decide +kernel)
set_option maxRecDepth 20000 in
theorem gX10_armBy_X10_hasArm : GoodIn wsX10_armBy (wsV RX10 136 RX10 yX10_hasArm wsX10_hasArm) := goodIn_app (goodIn_of _ (by decide +kernel)) ggX10_armBy_X10_hasArm
set_option maxRecDepth 20000 in
theorem ggX10_armBy_X10_in : GoodIn wsX10_armBy wsX10_in := goodIn_r _ [4] (by decide +kernel) (by decide +kernel)
set_option maxRecDepth 20000 in
theorem gX10_armBy_X10_in : GoodIn wsX10_armBy (va_wsS RX10 60 yX10_in wsX10_in) := goodIn_app (goodIn_of _ (by decide +kernel)) ggX10_armBy_X10_in
theorem hy_X10_armBy : yX10_armBy.cls = RX10 ∧ yX10_armBy.cls ≠ "java/lang/invoke/MethodHandle" ∧ yX10_armBy.cls ≠ "java/lang/invoke/VarHandle" ∧ (parseMethodDescriptor yX10_armBy.desc).map (fun d => d.parameters.length) = some 1 := by decide +kernel
set_option maxRecDepth 100000 in
theorem D_X10_armBy : gDec cX10_armBy [(0, (.iload_n 1, 1)), (1, (.bipush 97, 2)), (3, (.bipush 102, 2)), (5, (.invokestatic 60, 3)), (8, (.ifCond .eq 21, 3)), (11, (.aload_n 0, 1)), (12, (.iload_n 1, 1)), (13, (.bipush 97, 2)), (15, (.isub, 1)), (16, (.invokevirtual 136, 3)), (19, (.ifCond .eq 10, 3)), (22, (.iload_n 1, 1)), (23, (.bipush 97, 2)), (25, (.isub, 1)), (26, (.goto 5, 3)), (29, (.bipush (-4), 2)), (31, (.ireturn, 1))] = true := by decide +kernel
def f_X10_armBy (a0 : Nat) (x1 : Int32) (h : gHp) : Option (Int32) := (f_X10_in x1 97 102 h).bind fun v2 => if v2 = true then (f_X10_hasArm a0 (x1 - 97) h).bind fun v4 => if v4 = true then some (x1 - 97) else some (-4) else some (-4)
set_option maxRecDepth 20000 in
set_option maxHeartbeats 4000000 in
theorem m_X10_armBy (w : gWd) (h : gHp) {a0 : Nat} (A0 : is_X10 w a0) (x1 : Int32) {o : Int32} (hF : f_X10_armBy a0 x1 h = some o) : gMet w yX10_armBy wsX10_armBy rm_X10_armBy [.ref a0, .int x1] h (some (.int o)) h := by
  refine gMet_of (cc := cX10_armBy) (maxL := 2) (ret := (some .int)) (fr := 2) (lo := 43) (own := RX10) [(0, .ref a0), (1, .int x1)] (by decide) rfl rfl (Nat.le_of_ble_eq_true rfl) rfl (Nat.le_refl _) (Nat.le_refl _) (fun g C E => ?_)
  rw [f_X10_armBy] at hF
  refine gx_iload_n C 1 (gDec_at D_X10_armBy 0 rfl) rfl rfl ?_
  refine gx_bipush C (v := 97) (gDec_at D_X10_armBy 1 rfl) (by decide) ?_
  refine gx_bipush C (v := 102) (gDec_at D_X10_armBy 2 rfl) (by decide) ?_
  obtain ⟨v2, hv1, hF⟩ := gBind hF
  refine gx_callS1 C (st := []) 3 [.int x1, .int 97, .int 102] (m_X10_in w h x1 97 102 hv1) gX10_armBy_X10_in rfl rfl rfl hy_X10_in (Nat.le_of_ble_eq_true rfl) (Nat.le_of_ble_eq_true rfl) rfl rfl (Nat.le_of_ble_eq_true rfl) (gDec_at D_X10_armBy 3 rfl) ?_
  refine gx_ifz_eq C 29 (gDec_at D_X10_armBy 4 rfl) (by decide) (fun c => ?_) (fun c => ?_)
  · replace hF := gNeg c hF
    refine gx_bipush C (v := (-4)) (gDec_at D_X10_armBy 15 rfl) (by decide) ?_
    obtain rfl := Option.some.inj hF
    exact gx_iret C E (gDec_at D_X10_armBy 16 rfl)
  · replace hF := gPos c hF
    refine gx_aload_n C 0 (gDec_at D_X10_armBy 5 rfl) rfl rfl ?_
    refine gx_iload_n C 1 (gDec_at D_X10_armBy 6 rfl) rfl rfl ?_
    refine gx_bipush C (v := 97) (gDec_at D_X10_armBy 7 rfl) (by decide) ?_
    refine gx_isub C (gDec_at D_X10_armBy 8 rfl) ?_
    obtain ⟨v4, hv3, hF⟩ := gBind hF
    refine gx_callV1 C (st := []) 1 [.int (x1 - 97)] (m_X10_hasArm w h A0 (x1 - 97) hv3) gX10_armBy_X10_hasArm rfl rfl rfl hy_X10_hasArm (Nat.le_of_ble_eq_true rfl) (Nat.le_of_ble_eq_true rfl) (is_X10_sh A0) rfl rfl rfl (Nat.le_of_ble_eq_true rfl) (gDec_at D_X10_armBy 9 rfl) ?_
    refine gx_ifz_eq C 29 (gDec_at D_X10_armBy 10 rfl) (by decide) (fun c => ?_) (fun c => ?_)
    · replace hF := gNeg c hF
      refine gx_bipush C (v := (-4)) (gDec_at D_X10_armBy 15 rfl) (by decide) ?_
      obtain rfl := Option.some.inj hF
      exact gx_iret C E (gDec_at D_X10_armBy 16 rfl)
    · replace hF := gPos c hF
      refine gx_iload_n C 1 (gDec_at D_X10_armBy 11 rfl) rfl rfl ?_
      refine gx_bipush C (v := 97) (gDec_at D_X10_armBy 12 rfl) (by decide) ?_
      refine gx_isub C (gDec_at D_X10_armBy 13 rfl) ?_
      refine gx_goto C 31 (gDec_at D_X10_armBy 14 rfl) (by decide) ?_
      obtain rfl := Option.some.inj hF
      exact gx_iret C E (gDec_at D_X10_armBy 16 rfl)
/-! LadderBenchModel.arm -/
def rm_X10_arm : Room := { frames := 3, cells := 0, slots := 0, locals := 64 }
set_option maxRecDepth 20000 in
theorem ggX10_arm_X10_armBy : GoodIn wsX10_arm wsX10_armBy := goodIn_r _ [5, 6, 7, 4, 8, 9, 10, 11, 12, 13, 14, 15, 16, 17, 18, 19, 20, 21, 22, 23, 24, 25, 26, 27, 28, 29, 30, 31, 32, 33, 34, 35, 36, 37, 38, 39, 40, 41, 42, 43] (by decide +kernel) (by decide +kernel)
set_option maxRecDepth 20000 in
theorem gX10_arm_X10_armBy : GoodIn wsX10_arm (wsV RX10 245 RX10 yX10_armBy wsX10_armBy) := goodIn_app (goodIn_of _ (by decide +kernel)) ggX10_arm_X10_armBy
set_option maxRecDepth 20000 in
theorem ggX10_arm_X10_ofArm : GoodIn wsX10_arm wsX10_ofArm := goodIn_r _ [16, 17, 18, 19, 20, 21, 22, 23, 24, 25, 26, 27, 28, 29, 30, 31, 32, 33, 34, 35, 36, 37, 38, 39, 40, 41, 42, 43] (by decide +kernel) (by decide +kernel)
set_option maxRecDepth 20000 in
theorem gX10_arm_X10_ofArm : GoodIn wsX10_arm (wsV RX10 64 RX10 yX10_ofArm wsX10_ofArm) := goodIn_app (goodIn_of _ (by decide +kernel)) ggX10_arm_X10_ofArm
theorem hy_X10_arm : yX10_arm.cls = RX10 ∧ yX10_arm.cls ≠ "java/lang/invoke/MethodHandle" ∧ yX10_arm.cls ≠ "java/lang/invoke/VarHandle" ∧ (parseMethodDescriptor yX10_arm.desc).map (fun d => d.parameters.length) = some 2 := by decide +kernel
set_option maxRecDepth 100000 in
theorem D_X10_arm : gDec cX10_arm [(0, (.aload_n 0, 1)), (1, (.iload_n 1, 1)), (2, (.invokevirtual 245, 3)), (5, (.istore_n 3, 1)), (6, (.iload_n 3, 1)), (7, (.bipush (-4), 2)), (9, (.if_icmp .ne 5, 3)), (12, (.iconst (-1), 1)), (13, (.ireturn, 1)), (14, (.iload_n 2, 1)), (15, (.ifCond .ne 12, 3)), (18, (.aload_n 0, 1)), (19, (.iload_n 3, 1)), (20, (.iconst 0, 1)), (21, (.invokevirtual 64, 3)), (24, (.goto 35, 3)), (27, (.iload_n 2, 1)), (28, (.iconst 1, 1)), (29, (.if_icmp .ne 12, 3)), (32, (.aload_n 0, 1)), (33, (.iload_n 3, 1)), (34, (.iconst 1, 1)), (35, (.invokevirtual 64, 3)), (38, (.goto 21, 3)), (41, (.iload_n 2, 1)), (42, (.iconst 2, 1)), (43, (.if_icmp .ne 14, 3)), (46, (.aload_n 0, 1)), (47, (.iload_n 3, 1)), (48, (.iconst 2, 1)), (49, (.invokevirtual 64, 3)), (52, (.iconst 1, 1)), (53, (.isub, 1)), (54, (.goto 5, 3)), (57, (.bipush (-2), 2)), (59, (.ireturn, 1))] = true := by decide +kernel
def f_X10_arm (a0 : Nat) (x1 : Int32) (x2 : Int32) (h : gHp) : Option (Int32) := (f_X10_armBy a0 x1 h).bind fun v2 => if v2 = (-4) then some (-1) else if x2 = 0 then (f_X10_ofArm a0 v2 0 h).bind fun v8 => some v8 else if x2 = 1 then (f_X10_ofArm a0 v2 1 h).bind fun v6 => some v6 else if x2 = 2 then (f_X10_ofArm a0 v2 2 h).bind fun v4 => some (v4 - 1) else some (-2)
set_option maxRecDepth 20000 in
set_option maxHeartbeats 4000000 in
theorem m_X10_arm (w : gWd) (h : gHp) {a0 : Nat} (A0 : is_X10 w a0) (x1 : Int32) (x2 : Int32) {o : Int32} (hF : f_X10_arm a0 x1 x2 h = some o) : gMet w yX10_arm wsX10_arm rm_X10_arm [.ref a0, .int x1, .int x2] h (some (.int o)) h := by
  refine gMet_of (cc := cX10_arm) (maxL := 4) (ret := (some .int)) (fr := 3) (lo := 64) (own := RX10) [(0, .ref a0), (1, .int x1), (2, .int x2)] (by decide) rfl rfl (Nat.le_of_ble_eq_true rfl) rfl (Nat.le_refl _) (Nat.le_refl _) (fun g C E => ?_)
  rw [f_X10_arm] at hF
  refine gx_aload_n C 0 (gDec_at D_X10_arm 0 rfl) rfl rfl ?_
  refine gx_iload_n C 1 (gDec_at D_X10_arm 1 rfl) rfl rfl ?_
  obtain ⟨v2, hv1, hF⟩ := gBind hF
  refine gx_callV1 C (st := []) 1 [.int x1] (m_X10_armBy w h A0 x1 hv1) gX10_arm_X10_armBy rfl rfl rfl hy_X10_armBy (Nat.le_of_ble_eq_true rfl) (Nat.le_of_ble_eq_true rfl) (is_X10_sh A0) rfl rfl rfl (Nat.le_of_ble_eq_true rfl) (gDec_at D_X10_arm 2 rfl) ?_
  refine gx_istore_n C (lv' := [(3, .int v2), (0, .ref a0), (1, .int x1), (2, .int x2)]) (gDec_at D_X10_arm 3 rfl) rfl (Nat.le_of_ble_eq_true rfl) rfl ?_
  refine gx_iload_n C 0 (gDec_at D_X10_arm 4 rfl) rfl rfl ?_
  refine gx_bipush C (v := (-4)) (gDec_at D_X10_arm 5 rfl) (by decide) ?_
  refine gx_icmp_ne C 14 (gDec_at D_X10_arm 6 rfl) (by decide) (fun c => ?_) (fun c => ?_)
  · replace hF := gNeg c hF
    refine gx_iload_n C 3 (gDec_at D_X10_arm 9 rfl) rfl rfl ?_
    refine gx_if_ne C 27 (gDec_at D_X10_arm 10 rfl) (by decide) (fun c => ?_) (fun c => ?_)
    · replace hF := gNeg c hF
      refine gx_iload_n C 3 (gDec_at D_X10_arm 16 rfl) rfl rfl ?_
      refine gx_iconst C (v := 1) (gDec_at D_X10_arm 17 rfl) (by decide) ?_
      refine gx_icmp_ne C 41 (gDec_at D_X10_arm 18 rfl) (by decide) (fun c => ?_) (fun c => ?_)
      · replace hF := gNeg c hF
        refine gx_iload_n C 3 (gDec_at D_X10_arm 24 rfl) rfl rfl ?_
        refine gx_iconst C (v := 2) (gDec_at D_X10_arm 25 rfl) (by decide) ?_
        refine gx_icmp_ne C 57 (gDec_at D_X10_arm 26 rfl) (by decide) (fun c => ?_) (fun c => ?_)
        · replace hF := gNeg c hF
          refine gx_bipush C (v := (-2)) (gDec_at D_X10_arm 34 rfl) (by decide) ?_
          obtain rfl := Option.some.inj hF
          exact gx_iret C E (gDec_at D_X10_arm 35 rfl)
        · replace hF := gPos c hF
          refine gx_aload_n C 1 (gDec_at D_X10_arm 27 rfl) rfl rfl ?_
          refine gx_iload_n C 0 (gDec_at D_X10_arm 28 rfl) rfl rfl ?_
          refine gx_iconst C (v := 2) (gDec_at D_X10_arm 29 rfl) (by decide) ?_
          obtain ⟨v4, hv3, hF⟩ := gBind hF
          refine gx_callV1 C (st := []) 2 [.int v2, .int 2] (m_X10_ofArm w h A0 v2 2 hv3) gX10_arm_X10_ofArm rfl rfl rfl hy_X10_ofArm (Nat.le_of_ble_eq_true rfl) (Nat.le_of_ble_eq_true rfl) (is_X10_sh A0) rfl rfl rfl (Nat.le_of_ble_eq_true rfl) (gDec_at D_X10_arm 30 rfl) ?_
          refine gx_iconst C (v := 1) (gDec_at D_X10_arm 31 rfl) (by decide) ?_
          refine gx_isub C (gDec_at D_X10_arm 32 rfl) ?_
          refine gx_goto C 59 (gDec_at D_X10_arm 33 rfl) (by decide) ?_
          obtain rfl := Option.some.inj hF
          exact gx_iret C E (gDec_at D_X10_arm 35 rfl)
      · replace hF := gPos c hF
        refine gx_aload_n C 1 (gDec_at D_X10_arm 19 rfl) rfl rfl ?_
        refine gx_iload_n C 0 (gDec_at D_X10_arm 20 rfl) rfl rfl ?_
        refine gx_iconst C (v := 1) (gDec_at D_X10_arm 21 rfl) (by decide) ?_
        obtain ⟨v6, hv5, hF⟩ := gBind hF
        refine gx_callV1 C (st := []) 2 [.int v2, .int 1] (m_X10_ofArm w h A0 v2 1 hv5) gX10_arm_X10_ofArm rfl rfl rfl hy_X10_ofArm (Nat.le_of_ble_eq_true rfl) (Nat.le_of_ble_eq_true rfl) (is_X10_sh A0) rfl rfl rfl (Nat.le_of_ble_eq_true rfl) (gDec_at D_X10_arm 22 rfl) ?_
        refine gx_goto C 59 (gDec_at D_X10_arm 23 rfl) (by decide) ?_
        obtain rfl := Option.some.inj hF
        exact gx_iret C E (gDec_at D_X10_arm 35 rfl)
    · replace hF := gPos c hF
      refine gx_aload_n C 1 (gDec_at D_X10_arm 11 rfl) rfl rfl ?_
      refine gx_iload_n C 0 (gDec_at D_X10_arm 12 rfl) rfl rfl ?_
      refine gx_iconst C (v := 0) (gDec_at D_X10_arm 13 rfl) (by decide) ?_
      obtain ⟨v8, hv7, hF⟩ := gBind hF
      refine gx_callV1 C (st := []) 2 [.int v2, .int 0] (m_X10_ofArm w h A0 v2 0 hv7) gX10_arm_X10_ofArm rfl rfl rfl hy_X10_ofArm (Nat.le_of_ble_eq_true rfl) (Nat.le_of_ble_eq_true rfl) (is_X10_sh A0) rfl rfl rfl (Nat.le_of_ble_eq_true rfl) (gDec_at D_X10_arm 14 rfl) ?_
      refine gx_goto C 59 (gDec_at D_X10_arm 15 rfl) (by decide) ?_
      obtain rfl := Option.some.inj hF
      exact gx_iret C E (gDec_at D_X10_arm 35 rfl)
  · replace hF := gPos c hF
    refine gx_iconst C (v := (-1)) (gDec_at D_X10_arm 7 rfl) (by decide) ?_
    obtain rfl := Option.some.inj hF
    exact gx_iret C E (gDec_at D_X10_arm 8 rfl)
