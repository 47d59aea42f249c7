/-! LadderBench$Command.findAction -/
def rm_X1_findAction : Room := { frames := 5, cells := 0, slots := 0, locals := 108 }
set_option maxRecDepth 20000 in
theorem ggX1_findAction_X4_startsWith : GoodIn wsX1_findAction wsX4_startsWith := goodIn_r _ [5, 6, 7, 8, 9, 10, 11, 12, 13, 14, 15, 16, 17, 18, 19, 20, 21, 22, 23, 24, 25, 26, 27, 28, 29, 30, 31, 32, 33, 34, 35, 36, 37, 38, 39, 40, 41, 42, 43, 44, 45, 46, 47, 48, 49, 50, 51, 52, 53, 54, 55, 56, 57, 58] (by decide +kernel) (by decide +kernel)
set_option maxRecDepth 20000 in
theorem gX1_findAction_X4_startsWith : GoodIn wsX1_findAction (wsV RX1 60 RX4 yX4_startsWith wsX4_startsWith) := goodIn_app (goodIn_of _ (by decide +kernel)) ggX1_findAction_X4_startsWith
theorem hy_X1_findAction : yX1_findAction.cls ≠ "java/lang/invoke/MethodHandle" ∧ yX1_findAction.cls ≠ "java/lang/invoke/VarHandle" ∧ (parseMethodDescriptor yX1_findAction.desc).map (fun d => d.parameters.length) = some 2 := by decide +kernel
set_option maxRecDepth 100000 in
theorem D_X1_findAction : gDec cX1_findAction [(0, (.aload_n 0, 1)), (1, (.ldc 58, 2)), (3, (.iload_n 1, 1)), (4, (.invokevirtual 60, 3)), (7, (.ifCond .eq 5, 3)), (10, (.iconst 0, 1)), (11, (.ireturn, 1)), (12, (.aload_n 0, 1)), (13, (.ldc 64, 2)), (15, (.iload_n 1, 1)), (16, (.invokevirtual 60, 3)), (19, (.ifCond .eq 5, 3)), (22, (.iconst 1, 1)), (23, (.ireturn, 1)), (24, (.aload_n 0, 1)), (25, (.ldc 66, 2)), (27, (.iload_n 1, 1)), (28, (.invokevirtual 60, 3)), (31, (.ifCond .eq 5, 3)), (34, (.iconst 2, 1)), (35, (.ireturn, 1)), (36, (.aload_n 0, 1)), (37, (.ldc 68, 2)), (39, (.iload_n 1, 1)), (40, (.invokevirtual 60, 3)), (43, (.ifCond .eq 5, 3)), (46, (.iconst 3, 1)), (47, (.ireturn, 1)), (48, (.aload_n 0, 1)), (49, (.ldc 70, 2)), (51, (.iload_n 1, 1)), (52, (.invokevirtual 60, 3)), (55, (.ifCond .eq 5, 3)), (58, (.iconst 4, 1)), (59, (.ireturn, 1)), (60, (.aload_n 0, 1)), (61, (.ldc 72, 2)), (63, (.iload_n 1, 1)), (64, (.invokevirtual 60, 3)), (67, (.ifCond .eq 7, 3)), (70, (.iconst 5, 1)), (71, (.goto 4, 3)), (74, (.iconst (-1), 1)), (75, (.ireturn, 1))] = true := by decide +kernel
def f_X1_findAction (a0 : Nat) (x1 : Int32) (h : gHp) : Option (Int32) := (f_X4_startsWith a0 0 x1 h).bind fun v2 => if v2 = true then some 0 else (f_X4_startsWith a0 1 x1 h).bind fun v4 => if v4 = true then some 1 else (f_X4_startsWith a0 2 x1 h).bind fun v6 => if v6 = true then some 2 else (f_X4_startsWith a0 3 x1 h).bind fun v8 => if v8 = true then some 3 else (f_X4_startsWith a0 4 x1 h).bind fun v10 => if v10 = true then some 4 else (f_X4_startsWith a0 5 x1 h).bind fun v12 => if v12 = true then some 5 else some (-1)
set_option maxRecDepth 20000 in
set_option maxHeartbeats 4000000 in
theorem m_X1_findAction (w : gWd) (h : gHp) {a0 : Nat} (A0 : is_X4 w a0) (x1 : Int32) {o : Int32} (hF : f_X1_findAction a0 x1 h = some o) : gMet w yX1_findAction wsX1_findAction rm_X1_findAction [.ref a0, .int x1] h (some (.int o)) h := by
  refine gMet_of (cc := cX1_findAction) (maxL := 2) (ret := (some .int)) (fr := 5) (lo := 108) (own := RX1) [(0, .ref a0), (1, .int x1)] (by decide) rfl rfl (Nat.le_of_ble_eq_true rfl) rfl (Nat.le_refl _) (Nat.le_refl _) (fun g C E => ?_)
  rw [f_X1_findAction] at hF
  refine gx_aload_n C 0 (gDec_at D_X1_findAction 0 rfl) rfl rfl ?_
  refine gx_ldcS C 0 (by decide) rfl rfl (gDec_at D_X1_findAction 1 rfl) ?_
  refine gx_iload_n C 1 (gDec_at D_X1_findAction 2 rfl) rfl rfl ?_
  obtain ⟨v2, hv1, hF⟩ := gBind hF
  refine gx_callV1 C (st := []) 2 [.ref (gAK w 0), .int x1] (m_X4_startsWith w h A0 (by decide) x1 hv1) gX1_findAction_X4_startsWith rfl rfl rfl hy_X4_startsWith (Nat.le_of_ble_eq_true rfl) (Nat.le_of_ble_eq_true rfl) (is_X4_sh A0) rfl rfl rfl (Nat.le_of_ble_eq_true rfl) (gDec_at D_X1_findAction 3 rfl) ?_
  refine gx_ifz_eq C 12 (gDec_at D_X1_findAction 4 rfl) (by decide) (fun c => ?_) (fun c => ?_)
  · replace hF := gNeg c hF
    refine gx_aload_n C 0 (gDec_at D_X1_findAction 7 rfl) rfl rfl ?_
    refine gx_ldcS C 1 (by decide) rfl rfl (gDec_at D_X1_findAction 8 rfl) ?_
    refine gx_iload_n C 1 (gDec_at D_X1_findAction 9 rfl) rfl rfl ?_
    obtain ⟨v4, hv3, hF⟩ := gBind hF
    refine gx_callV1 C (st := []) 2 [.ref (gAK w 1), .int x1] (m_X4_startsWith w h A0 (by decide) x1 hv3) gX1_findAction_X4_startsWith rfl rfl rfl hy_X4_startsWith (Nat.le_of_ble_eq_true rfl) (Nat.le_of_ble_eq_true rfl) (is_X4_sh A0) rfl rfl rfl (Nat.le_of_ble_eq_true rfl) (gDec_at D_X1_findAction 10 rfl) ?_
    refine gx_ifz_eq C 24 (gDec_at D_X1_findAction 11 rfl) (by decide) (fun c => ?_) (fun c => ?_)
    · replace hF := gNeg c hF
      refine gx_aload_n C 0 (gDec_at D_X1_findAction 14 rfl) rfl rfl ?_
      refine gx_ldcS C 2 (by decide) rfl rfl (gDec_at D_X1_findAction 15 rfl) ?_
      refine gx_iload_n C 1 (gDec_at D_X1_findAction 16 rfl) rfl rfl ?_
      obtain ⟨v6, hv5, hF⟩ := gBind hF
      refine gx_callV1 C (st := []) 2 [.ref (gAK w 2), .int x1] (m_X4_startsWith w h A0 (by decide) x1 hv5) gX1_findAction_X4_startsWith rfl rfl rfl hy_X4_startsWith (Nat.le_of_ble_eq_true rfl) (Nat.le_of_ble_eq_true rfl) (is_X4_sh A0) rfl rfl rfl (Nat.le_of_ble_eq_true rfl) (gDec_at D_X1_findAction 17 rfl) ?_
      refine gx_ifz_eq C 36 (gDec_at D_X1_findAction 18 rfl) (by decide) (fun c => ?_) (fun c => ?_)
      · replace hF := gNeg c hF
        refine gx_aload_n C 0 (gDec_at D_X1_findAction 21 rfl) rfl rfl ?_
        refine gx_ldcS C 3 (by decide) rfl rfl (gDec_at D_X1_findAction 22 rfl) ?_
        refine gx_iload_n C 1 (gDec_at D_X1_findAction 23 rfl) rfl rfl ?_
        obtain ⟨v8, hv7, hF⟩ := gBind hF
        refine gx_callV1 C (st := []) 2 [.ref (gAK w 3), .int x1] (m_X4_startsWith w h A0 (by decide) x1 hv7) gX1_findAction_X4_startsWith rfl rfl rfl hy_X4_startsWith (Nat.le_of_ble_eq_true rfl) (Nat.le_of_ble_eq_true rfl) (is_X4_sh A0) rfl rfl rfl (Nat.le_of_ble_eq_true rfl) (gDec_at D_X1_findAction 24 rfl) ?_
        refine gx_ifz_eq C 48 (gDec_at D_X1_findAction 25 rfl) (by decide) (fun c => ?_) (fun c => ?_)
        · replace hF := gNeg c hF
          refine gx_aload_n C 0 (gDec_at D_X1_findAction 28 rfl) rfl rfl ?_
          refine gx_ldcS C 4 (by decide) rfl rfl (gDec_at D_X1_findAction 29 rfl) ?_
          refine gx_iload_n C 1 (gDec_at D_X1_findAction 30 rfl) rfl rfl ?_
          obtain ⟨v10, hv9, hF⟩ := gBind hF
          refine gx_callV1 C (st := []) 2 [.ref (gAK w 4), .int x1] (m_X4_startsWith w h A0 (by decide) x1 hv9) gX1_findAction_X4_startsWith rfl rfl rfl hy_X4_startsWith (Nat.le_of_ble_eq_true rfl) (Nat.le_of_ble_eq_true rfl) (is_X4_sh A0) rfl rfl rfl (Nat.le_of_ble_eq_true rfl) (gDec_at D_X1_findAction 31 rfl) ?_
          refine gx_ifz_eq C 60 (gDec_at D_X1_findAction 32 rfl) (by decide) (fun c => ?_) (fun c => ?_)
          · replace hF := gNeg c hF
            refine gx_aload_n C 0 (gDec_at D_X1_findAction 35 rfl) rfl rfl ?_
            refine gx_ldcS C 5 (by decide) rfl rfl (gDec_at D_X1_findAction 36 rfl) ?_
            refine gx_iload_n C 1 (gDec_at D_X1_findAction 37 rfl) rfl rfl ?_
            obtain ⟨v12, hv11, hF⟩ := gBind hF
            refine gx_callV1 C (st := []) 2 [.ref (gAK w 5), .int x1] (m_X4_startsWith w h A0 (by decide) x1 hv11) gX1_findAction_X4_startsWith rfl rfl rfl hy_X4_startsWith (Nat.le_of_ble_eq_true rfl) (Nat.le_of_ble_eq_true rfl) (is_X4_sh A0) rfl rfl rfl (Nat.le_of_ble_eq_true rfl) (gDec_at D_X1_findAction 38 rfl) ?_
            refine gx_ifz_eq C 74 (gDec_at D_X1_findAction 39 rfl) (by decide) (fun c => ?_) (fun c => ?_)
            · replace hF := gNeg c hF
              refine gx_iconst C (v := (-1)) (gDec_at D_X1_findAction 42 rfl) (by decide) ?_
              obtain rfl := Option.some.inj hF
              exact gx_iret C E (gDec_at D_X1_findAction 43 rfl)
            · replace hF := gPos c hF
              refine gx_iconst C (v := 5) (gDec_at D_X1_findAction 40 rfl) (by decide) ?_
              refine gx_goto C 75 (gDec_at D_X1_findAction 41 rfl) (by decide) ?_
              obtain rfl := Option.some.inj hF
              exact gx_iret C E (gDec_at D_X1_findAction 43 rfl)
          · replace hF := gPos c hF
            refine gx_iconst C (v := 4) (gDec_at D_X1_findAction 33 rfl) (by decide) ?_
            obtain rfl := Option.some.inj hF
            exact gx_iret C E (gDec_at D_X1_findAction 34 rfl)
        · replace hF := gPos c hF
          refine gx_iconst C (v := 3) (gDec_at D_X1_findAction 26 rfl) (by decide) ?_
          obtain rfl := Option.some.inj hF
          exact gx_iret C E (gDec_at D_X1_findAction 27 rfl)
      · replace hF := gPos c hF
        refine gx_iconst C (v := 2) (gDec_at D_X1_findAction 19 rfl) (by decide) ?_
        obtain rfl := Option.some.inj hF
        exact gx_iret C E (gDec_at D_X1_findAction 20 rfl)
    · replace hF := gPos c hF
      refine gx_iconst C (v := 1) (gDec_at D_X1_findAction 12 rfl) (by decide) ?_
      obtain rfl := Option.some.inj hF
      exact gx_iret C E (gDec_at D_X1_findAction 13 rfl)
  · replace hF := gPos c hF
    refine gx_iconst C (v := 0) (gDec_at D_X1_findAction 5 rfl) (by decide) ?_
    obtain rfl := Option.some.inj hF
    exact gx_iret C E (gDec_at D_X1_findAction 6 rfl)
/-! LadderBench$Command.takesLetter -/
def rm_X1_takesLetter : Room := { frames := 0, cells := 0, slots := 0, locals := 0 }
theorem hy_X1_takesLetter : yX1_takesLetter.cls = RX1 ∧ yX1_takesLetter.cls ≠ "java/lang/invoke/MethodHandle" ∧ yX1_takesLetter.cls ≠ "java/lang/invoke/VarHandle" ∧ (parseMethodDescriptor yX1_takesLetter.desc).map (fun d => d.parameters.length) = some 0 := by decide +kernel
set_option maxRecDepth 100000 in
theorem D_X1_takesLetter : gDec cX1_takesLetter [(0, (.aload_n 0, 1)), (1, (.getfield 9, 3)), (4, (.ifCond .eq 27, 3)), (7, (.aload_n 0, 1)), (8, (.getfield 9, 3)), (11, (.iconst 1, 1)), (12, (.if_icmp .eq 19, 3)), (15, (.aload_n 0, 1)), (16, (.getfield 9, 3)), (19, (.iconst 2, 1)), (20, (.if_icmp .eq 11, 3)), (23, (.aload_n 0, 1)), (24, (.getfield 9, 3)), (27, (.iconst 3, 1)), (28, (.if_icmp .ne 7, 3)), (31, (.iconst 1, 1)), (32, (.goto 4, 3)), (35, (.iconst 0, 1)), (36, (.ireturn, 1))] = true := by decide +kernel
set_option maxRecDepth 100000 in
theorem in_X1_takesLetter_X1 : ∀ x ∈ u_ws RX1 TX1 3, x ∈ wsX1_takesLetter := by decide +kernel
theorem fl_X1_takesLetter_9 : gF wsX1_takesLetter RX1 9 1 0 := ⟨RX1, TX1, 3, rfl, by decide, in_X1_takesLetter_X1, by decide +kernel⟩
def f_X1_takesLetter (a0 : Nat) (h : gHp) : Option (Bool) := if (h.1 a0 0) = 0 then some true else if (h.1 a0 0) = 1 then some true else if (h.1 a0 0) = 2 then some true else if (h.1 a0 0) = 3 then some true else some false
set_option maxRecDepth 20000 in
set_option maxHeartbeats 4000000 in
theorem m_X1_takesLetter (w : gWd) (h : gHp) {a0 : Nat} (A0 : is_X1 w a0) {o : Bool} (hF : f_X1_takesLetter a0 h = some o) : gMet w yX1_takesLetter wsX1_takesLetter rm_X1_takesLetter [.ref a0] h (some (.int (gZ o))) h := by
  refine gMet_of (cc := cX1_takesLetter) (maxL := 1) (ret := (some .boolean)) (fr := 0) (lo := 0) (own := RX1) [(0, .ref a0)] (by decide) rfl rfl (Nat.le_of_ble_eq_true rfl) rfl (Nat.le_refl _) (Nat.le_refl _) (fun g C E => ?_)
  rw [f_X1_takesLetter] at hF
  refine gx_aload_n C 0 (gDec_at D_X1_takesLetter 0 rfl) rfl rfl ?_
  refine gx_geti C fl_X1_takesLetter_9 (is_X1_sh A0) rfl (gDec_at D_X1_takesLetter 1 rfl) ?_
  refine gx_if_eq C 31 (gDec_at D_X1_takesLetter 2 rfl) (by decide) (fun c => ?_) (fun c => ?_)
  · replace hF := gPos c hF
    refine gx_iconst C (v := 1) (gDec_at D_X1_takesLetter 15 rfl) (by decide) ?_
    refine gx_goto C 36 (gDec_at D_X1_takesLetter 16 rfl) (by decide) ?_
    obtain rfl := Option.some.inj hF
    exact gx_zret (b := true) C E (gDec_at D_X1_takesLetter 18 rfl)
  · replace hF := gNeg c hF
    refine gx_aload_n C 0 (gDec_at D_X1_takesLetter 3 rfl) rfl rfl ?_
    refine gx_geti C fl_X1_takesLetter_9 (is_X1_sh A0) rfl (gDec_at D_X1_takesLetter 4 rfl) ?_
    refine gx_iconst C (v := 1) (gDec_at D_X1_takesLetter 5 rfl) (by decide) ?_
    refine gx_icmp_eq C 31 (gDec_at D_X1_takesLetter 6 rfl) (by decide) (fun c => ?_) (fun c => ?_)
    · replace hF := gPos c hF
      refine gx_iconst C (v := 1) (gDec_at D_X1_takesLetter 15 rfl) (by decide) ?_
      refine gx_goto C 36 (gDec_at D_X1_takesLetter 16 rfl) (by decide) ?_
      obtain rfl := Option.some.inj hF
      exact gx_zret (b := true) C E (gDec_at D_X1_takesLetter 18 rfl)
    · replace hF := gNeg c hF
      refine gx_aload_n C 0 (gDec_at D_X1_takesLetter 7 rfl) rfl rfl ?_
      refine gx_geti C fl_X1_takesLetter_9 (is_X1_sh A0) rfl (gDec_at D_X1_takesLetter 8 rfl) ?_
      refine gx_iconst C (v := 2) (gDec_at D_X1_takesLetter 9 rfl) (by decide) ?_
      refine gx_icmp_eq C 31 (gDec_at D_X1_takesLetter 10 rfl) (by decide) (fun c => ?_) (fun c => ?_)
      · replace hF := gPos c hF
        refine gx_iconst C (v := 1) (gDec_at D_X1_takesLetter 15 rfl) (by decide) ?_
        refine gx_goto C 36 (gDec_at D_X1_takesLetter 16 rfl) (by decide) ?_
        obtain rfl := Option.some.inj hF
        exact gx_zret (b := true) C E (gDec_at D_X1_takesLetter 18 rfl)
      · replace hF := gNeg c hF
        refine gx_aload_n C 0 (gDec_at D_X1_takesLetter 11 rfl) rfl rfl ?_
        refine gx_geti C fl_X1_takesLetter_9 (is_X1_sh A0) rfl (gDec_at D_X1_takesLetter 12 rfl) ?_
        refine gx_iconst C (v := 3) (gDec_at D_X1_takesLetter 13 rfl) (by decide) ?_
        refine gx_icmp_ne C 35 (gDec_at D_X1_takesLetter 14 rfl) (by decide) (fun c => ?_) (fun c => ?_)
        · replace hF := gNeg c hF
          refine gx_iconst C (v := 0) (gDec_at D_X1_takesLetter 17 rfl) (by decide) ?_
          obtain rfl := Option.some.inj hF
          exact gx_zret (b := false) C E (gDec_at D_X1_takesLetter 18 rfl)
        · replace hF := gPos c hF
          refine gx_iconst C (v := 1) (gDec_at D_X1_takesLetter 15 rfl) (by decide) ?_
          refine gx_goto C 36 (gDec_at D_X1_takesLetter 16 rfl) (by decide) ?_
          obtain rfl := Option.some.inj hF
          exact gx_zret (b := true) C E (gDec_at D_X1_takesLetter 18 rfl)
/-! LadderBench$Command.takesNumber -/
def rm_X1_takesNumber : Room := { frames := 0, cells := 0, slots := 0, locals := 0 }
theorem hy_X1_takesNumber : yX1_takesNumber.cls = RX1 ∧ yX1_takesNumber.cls ≠ "java/lang/invoke/MethodHandle" ∧ yX1_takesNumber.cls ≠ "java/lang/invoke/VarHandle" ∧ (parseMethodDescriptor yX1_takesNumber.desc).map (fun d => d.parameters.length) = some 0 := by decide +kernel
set_option maxRecDepth 100000 in
theorem D_X1_takesNumber : gDec cX1_takesNumber [(0, (.aload_n 0, 1)), (1, (.getfield 9, 3)), (4, (.ifCond .eq 19, 3)), (7, (.aload_n 0, 1)), (8, (.getfield 9, 3)), (11, (.iconst 4, 1)), (12, (.if_icmp .eq 11, 3)), (15, (.aload_n 0, 1)), (16, (.getfield 9, 3)), (19, (.iconst 5, 1)), (20, (.if_icmp .ne 7, 3)), (23, (.iconst 1, 1)), (24, (.goto 4, 3)), (27, (.iconst 0, 1)), (28, (.ireturn, 1))] = true := by decide +kernel
set_option maxRecDepth 100000 in
theorem in_X1_takesNumber_X1 : ∀ x ∈ u_ws RX1 TX1 3, x ∈ wsX1_takesNumber := by decide +kernel
theorem fl_X1_takesNumber_9 : gF wsX1_takesNumber RX1 9 1 0 := ⟨RX1, TX1, 3, rfl, by decide, in_X1_takesNumber_X1, by decide +kernel⟩
def f_X1_takesNumber (a0 : Nat) (h : gHp) : Option (Bool) := if (h.1 a0 0) = 0 then some true else if (h.1 a0 0) = 4 then some true else if (h.1 a0 0) = 5 then some true else some false
set_option maxRecDepth 20000 in
set_option maxHeartbeats 4000000 in
theorem m_X1_takesNumber (w : gWd) (h : gHp) {a0 : Nat} (A0 : is_X1 w a0) {o : Bool} (hF : f_X1_takesNumber a0 h = some o) : gMet w yX1_takesNumber wsX1_takesNumber rm_X1_takesNumber [.ref a0] h (some (.int (gZ o))) h := by
  refine gMet_of (cc := cX1_takesNumber) (maxL := 1) (ret := (some .boolean)) (fr := 0) (lo := 0) (own := RX1) [(0, .ref a0)] (by decide) rfl rfl (Nat.le_of_ble_eq_true rfl) rfl (Nat.le_refl _) (Nat.le_refl _) (fun g C E => ?_)
  rw [f_X1_takesNumber] at hF
  refine gx_aload_n C 0 (gDec_at D_X1_takesNumber 0 rfl) rfl rfl ?_
  refine gx_geti C fl_X1_takesNumber_9 (is_X1_sh A0) rfl (gDec_at D_X1_takesNumber 1 rfl) ?_
  refine gx_if_eq C 23 (gDec_at D_X1_takesNumber 2 rfl) (by decide) (fun c => ?_) (fun c => ?_)
  · replace hF := gPos c hF
    refine gx_iconst C (v := 1) (gDec_at D_X1_takesNumber 11 rfl) (by decide) ?_
    refine gx_goto C 28 (gDec_at D_X1_takesNumber 12 rfl) (by decide) ?_
    obtain rfl := Option.some.inj hF
    exact gx_zret (b := true) C E (gDec_at D_X1_takesNumber 14 rfl)
  · replace hF := gNeg c hF
    refine gx_aload_n C 0 (gDec_at D_X1_takesNumber 3 rfl) rfl rfl ?_
    refine gx_geti C fl_X1_takesNumber_9 (is_X1_sh A0) rfl (gDec_at D_X1_takesNumber 4 rfl) ?_
    refine gx_iconst C (v := 4) (gDec_at D_X1_takesNumber 5 rfl) (by decide) ?_
    refine gx_icmp_eq C 23 (gDec_at D_X1_takesNumber 6 rfl) (by decide) (fun c => ?_) (fun c => ?_)
    · replace hF := gPos c hF
      refine gx_iconst C (v := 1) (gDec_at D_X1_takesNumber 11 rfl) (by decide) ?_
      refine gx_goto C 28 (gDec_at D_X1_takesNumber 12 rfl) (by decide) ?_
      obtain rfl := Option.some.inj hF
      exact gx_zret (b := true) C E (gDec_at D_X1_takesNumber 14 rfl)
    · replace hF := gNeg c hF
      refine gx_aload_n C 0 (gDec_at D_X1_takesNumber 7 rfl) rfl rfl ?_
      refine gx_geti C fl_X1_takesNumber_9 (is_X1_sh A0) rfl (gDec_at D_X1_takesNumber 8 rfl) ?_
      refine gx_iconst C (v := 5) (gDec_at D_X1_takesNumber 9 rfl) (by decide) ?_
      refine gx_icmp_ne C 27 (gDec_at D_X1_takesNumber 10 rfl) (by decide) (fun c => ?_) (fun c => ?_)
      · replace hF := gNeg c hF
        refine gx_iconst C (v := 0) (gDec_at D_X1_takesNumber 13 rfl) (by decide) ?_
        obtain rfl := Option.some.inj hF
        exact gx_zret (b := false) C E (gDec_at D_X1_takesNumber 14 rfl)
      · replace hF := gPos c hF
        refine gx_iconst C (v := 1) (gDec_at D_X1_takesNumber 11 rfl) (by decide) ?_
        refine gx_goto C 28 (gDec_at D_X1_takesNumber 12 rfl) (by decide) ?_
        obtain rfl := Option.some.inj hF
        exact gx_zret (b := true) C E (gDec_at D_X1_takesNumber 14 rfl)
/-! LadderBench$Command.readNumber -/
def rm_X1_readNumber : Room := { frames := 0, cells := 0, slots := 0, locals := 0 }
theorem hy_X1_readNumber : yX1_readNumber.cls ≠ "java/lang/invoke/MethodHandle" ∧ yX1_readNumber.cls ≠ "java/lang/invoke/VarHandle" ∧ (parseMethodDescriptor yX1_readNumber.desc).map (fun d => d.parameters.length) = some 3 := by decide +kernel
set_option maxRecDepth 100000 in
theorem D_X1_readNumber : gDec cX1_readNumber [(0, (.iload_n 2, 1)), (1, (.iload_n 1, 1)), (2, (.isub, 1)), (3, (.iconst 1, 1)), (4, (.if_icmp .lt 21, 3)), (7, (.iload_n 2, 1)), (8, (.iload_n 1, 1)), (9, (.isub, 1)), (10, (.iconst 3, 1)), (11, (.if_icmp .gt 14, 3)), (14, (.aload_n 0, 1)), (15, (.getfield 44, 3)), (18, (.iload_n 1, 1)), (19, (.caload, 1)), (20, (.bipush 48, 2)), (22, (.if_icmp .ne 5, 3)), (25, (.iconst (-1), 1)), (26, (.ireturn, 1)), (27, (.iconst 0, 1)), (28, (.istore_n 3, 1)), (29, (.iload_n 1, 1)), (30, (.istore 4, 2)), (32, (.iload 4, 2)), (34, (.iload_n 2, 1)), (35, (.if_icmp .ge 45, 3)), (38, (.aload_n 0, 1)), (39, (.getfield 44, 3)), (42, (.iload 4, 2)), (44, (.caload, 1)), (45, (.istore 5, 2)), (47, (.iload 5, 2)), (49, (.bipush 48, 2)), (51, (.if_icmp .lt 10, 3)), (54, (.iload 5, 2)), (56, (.bipush 57, 2)), (58, (.if_icmp .le 5, 3)), (61, (.iconst (-1), 1)), (62, (.ireturn, 1)), (63, (.bipush 10, 2)), (65, (.iload_n 3, 1)), (66, (.imul, 1)), (67, (.iload 5, 2)), (69, (.bipush 48, 2)), (71, (.isub, 1)), (72, (.iadd, 1)), (73, (.istore_n 3, 1)), (74, (.iinc 4 1, 3)), (77, (.goto (-45), 3)), (80, (.iload_n 3, 1)), (81, (.ireturn, 1))] = true := by decide +kernel
set_option maxRecDepth 100000 in
theorem in_X1_readNumber_X4 : ∀ x ∈ u_ws RX4 TX4 2, x ∈ wsX1_readNumber := by decide +kernel
theorem fl_X1_readNumber_44 : gF wsX1_readNumber RX1 44 4 0 := ⟨RX4, TX4, 2, rfl, by decide, in_X1_readNumber_X4, by decide +kernel⟩
def f_X1_readNumber_32 (a0 : Nat) (x2 : Int32) (h : gHp) : Nat → Int32 → Int32 → Option (Int32)
  | 0, _, _ => none
  | n + 1, x3, x4 => if x2 ≤ x4 then some x3 else if gIn x4 40 then if (h.1 (a0 + 1) (gN x4)) < 48 then some (-1) else if (h.1 (a0 + 1) (gN x4)) ≤ 57 then f_X1_readNumber_32 a0 x2 h n ((10 * x3) + ((h.1 (a0 + 1) (gN x4)) - 48)) (x4 + 1) else some (-1) else none
set_option maxRecDepth 20000 in
set_option maxHeartbeats 4000000 in
theorem w_X1_readNumber_32 {w : gWd} {g : gCx} (C : gC w g cX1_readNumber wsX1_readNumber RX1 6 0 0) {a0 : Nat} (A0 : is_X4 w a0) (x2 : Int32) (h : gHp)  {o : Int32} (E : gEn w g (some .int) (some (.int o)) h) : ∀ (n : Nat) (x3 : Int32) (x4 : Int32), f_X1_readNumber_32 a0 x2 h n x3 x4 = some o → gX w g 6 h 32 [(0, .ref a0), (2, .int x2), (3, .int x3), (4, .int x4)] [] := by
  intro n
  induction n with
  | zero => intro _ _ hF; cases hF
  | succ n ih =>
    intro x3 x4 hF
    rw [f_X1_readNumber_32] at hF
    refine gx_iload C 3 (gDec_at D_X1_readNumber 22 rfl) rfl ?_
    refine gx_iload_n C 1 (gDec_at D_X1_readNumber 23 rfl) rfl rfl ?_
    refine gx_icmp_ge C 80 (gDec_at D_X1_readNumber 24 rfl) (by decide) (fun c => ?_) (fun c => ?_)
    · replace hF := gPos c hF
      refine gx_iload_n C 2 (gDec_at D_X1_readNumber 48 rfl) rfl rfl ?_
      obtain rfl := Option.some.inj hF
      exact gx_iret C E (gDec_at D_X1_readNumber 49 rfl)
    · replace hF := gNeg c hF
      refine gx_aload_n C 0 (gDec_at D_X1_readNumber 25 rfl) rfl rfl ?_
      refine gx_getr C fl_X1_readNumber_44 (is_X4_sh A0) rfl (gDec_at D_X1_readNumber 26 rfl) ?_
      refine gx_iload C 3 (gDec_at D_X1_readNumber 27 rfl) rfl ?_
      obtain ⟨b2, hF⟩ := gGd hF
      refine gx_caload C (is_X4_characters A0) b2 (gDec_at D_X1_readNumber 28 rfl) ?_
      refine gx_istore C (lv' := [(5, .int (h.1 (a0 + 1) (gN x4))), (0, .ref a0), (2, .int x2), (3, .int x3), (4, .int x4)]) (gDec_at D_X1_readNumber 29 rfl) (Nat.le_of_ble_eq_true rfl) rfl ?_
      refine gx_iload C 0 (gDec_at D_X1_readNumber 30 rfl) rfl ?_
      refine gx_bipush C (v := 48) (gDec_at D_X1_readNumber 31 rfl) (by decide) ?_
      refine gx_icmp_lt C 61 (gDec_at D_X1_readNumber 32 rfl) (by decide) (fun c => ?_) (fun c => ?_)
      · replace hF := gPos c hF
        refine gx_iconst C (v := (-1)) (gDec_at D_X1_readNumber 36 rfl) (by decide) ?_
        obtain rfl := Option.some.inj hF
        exact gx_iret C E (gDec_at D_X1_readNumber 37 rfl)
      · replace hF := gNeg c hF
        refine gx_iload C 0 (gDec_at D_X1_readNumber 33 rfl) rfl ?_
        refine gx_bipush C (v := 57) (gDec_at D_X1_readNumber 34 rfl) (by decide) ?_
        refine gx_icmp_le C 63 (gDec_at D_X1_readNumber 35 rfl) (by decide) (fun c => ?_) (fun c => ?_)
        · replace hF := gPos c hF
          refine gx_bipush C (v := 10) (gDec_at D_X1_readNumber 38 rfl) (by decide) ?_
          refine gx_iload_n C 3 (gDec_at D_X1_readNumber 39 rfl) rfl rfl ?_
          refine gx_imul C (gDec_at D_X1_readNumber 40 rfl) ?_
          refine gx_iload C 0 (gDec_at D_X1_readNumber 41 rfl) rfl ?_
          refine gx_bipush C (v := 48) (gDec_at D_X1_readNumber 42 rfl) (by decide) ?_
          refine gx_isub C (gDec_at D_X1_readNumber 43 rfl) ?_
          refine gx_iadd C (gDec_at D_X1_readNumber 44 rfl) ?_
          refine gx_istore_n C (lv' := [(3, .int ((10 * x3) + ((h.1 (a0 + 1) (gN x4)) - 48))), (5, .int (h.1 (a0 + 1) (gN x4))), (0, .ref a0), (2, .int x2), (4, .int x4)]) (gDec_at D_X1_readNumber 45 rfl) rfl (Nat.le_of_ble_eq_true rfl) rfl ?_
          refine gx_iinc C (j := 4) (v := x4 + 1) (lv' := [(4, .int (x4 + 1)), (3, .int ((10 * x3) + ((h.1 (a0 + 1) (gN x4)) - 48))), (5, .int (h.1 (a0 + 1) (gN x4))), (0, .ref a0), (2, .int x2)]) (gDec_at D_X1_readNumber 46 rfl) rfl (by rfl) (Nat.le_of_ble_eq_true rfl) rfl ?_
          refine gx_goto C 32 (gDec_at D_X1_readNumber 47 rfl) (by decide) ?_
          exact gx_sub [3, 4, 1, 0] rfl (ih ((10 * x3) + ((h.1 (a0 + 1) (gN x4)) - 48)) (x4 + 1) hF)
        · replace hF := gNeg c hF
          refine gx_iconst C (v := (-1)) (gDec_at D_X1_readNumber 36 rfl) (by decide) ?_
          obtain rfl := Option.some.inj hF
          exact gx_iret C E (gDec_at D_X1_readNumber 37 rfl)
def f_X1_readNumber (a0 : Nat) (x1 : Int32) (x2 : Int32) (h : gHp) : Option (Int32) := if (x2 - x1) < 1 then some (-1) else if 3 < (x2 - x1) then some (-1) else if gIn x1 40 then if (h.1 (a0 + 1) (gN x1)) = 48 then some (-1) else f_X1_readNumber_32 a0 x2 h gFuel 0 x1 else none
set_option maxRecDepth 20000 in
set_option maxHeartbeats 4000000 in
theorem m_X1_readNumber (w : gWd) (h : gHp) {a0 : Nat} (A0 : is_X4 w a0) (x1 : Int32) (x2 : Int32) {o : Int32} (hF : f_X1_readNumber a0 x1 x2 h = some o) : gMet w yX1_readNumber wsX1_readNumber rm_X1_readNumber [.ref a0, .int x1, .int x2] h (some (.int o)) h := by
  refine gMet_of (cc := cX1_readNumber) (maxL := 6) (ret := (some .int)) (fr := 0) (lo := 0) (own := RX1) [(0, .ref a0), (1, .int x1), (2, .int x2)] (by decide) rfl rfl (Nat.le_of_ble_eq_true rfl) rfl (Nat.le_refl _) (Nat.le_refl _) (fun g C E => ?_)
  rw [f_X1_readNumber] at hF
  refine gx_iload_n C 2 (gDec_at D_X1_readNumber 0 rfl) rfl rfl ?_
  refine gx_iload_n C 1 (gDec_at D_X1_readNumber 1 rfl) rfl rfl ?_
  refine gx_isub C (gDec_at D_X1_readNumber 2 rfl) ?_
  refine gx_iconst C (v := 1) (gDec_at D_X1_readNumber 3 rfl) (by decide) ?_
  refine gx_icmp_lt C 25 (gDec_at D_X1_readNumber 4 rfl) (by decide) (fun c => ?_) (fun c => ?_)
  · replace hF := gPos c hF
    refine gx_iconst C (v := (-1)) (gDec_at D_X1_readNumber 16 rfl) (by decide) ?_
    obtain rfl := Option.some.inj hF
    exact gx_iret C E (gDec_at D_X1_readNumber 17 rfl)
  · replace hF := gNeg c hF
    refine gx_iload_n C 2 (gDec_at D_X1_readNumber 5 rfl) rfl rfl ?_
    refine gx_iload_n C 1 (gDec_at D_X1_readNumber 6 rfl) rfl rfl ?_
    refine gx_isub C (gDec_at D_X1_readNumber 7 rfl) ?_
    refine gx_iconst C (v := 3) (gDec_at D_X1_readNumber 8 rfl) (by decide) ?_
    refine gx_icmp_gt C 25 (gDec_at D_X1_readNumber 9 rfl) (by decide) (fun c => ?_) (fun c => ?_)
    · replace hF := gPos c hF
      refine gx_iconst C (v := (-1)) (gDec_at D_X1_readNumber 16 rfl) (by decide) ?_
      obtain rfl := Option.some.inj hF
      exact gx_iret C E (gDec_at D_X1_readNumber 17 rfl)
    · replace hF := gNeg c hF
      refine gx_aload_n C 0 (gDec_at D_X1_readNumber 10 rfl) rfl rfl ?_
      refine gx_getr C fl_X1_readNumber_44 (is_X4_sh A0) rfl (gDec_at D_X1_readNumber 11 rfl) ?_
      refine gx_iload_n C 1 (gDec_at D_X1_readNumber 12 rfl) rfl rfl ?_
      obtain ⟨b1, hF⟩ := gGd hF
      refine gx_caload C (is_X4_characters A0) b1 (gDec_at D_X1_readNumber 13 rfl) ?_
      refine gx_bipush C (v := 48) (gDec_at D_X1_readNumber 14 rfl) (by decide) ?_
      refine gx_icmp_ne C 27 (gDec_at D_X1_readNumber 15 rfl) (by decide) (fun c => ?_) (fun c => ?_)
      · replace hF := gNeg c hF
        refine gx_iconst C (v := 0) (gDec_at D_X1_readNumber 18 rfl) (by decide) ?_
        refine gx_istore_n C (lv' := [(3, .int 0), (0, .ref a0), (1, .int x1), (2, .int x2)]) (gDec_at D_X1_readNumber 19 rfl) rfl (Nat.le_of_ble_eq_true rfl) rfl ?_
        refine gx_iload_n C 2 (gDec_at D_X1_readNumber 20 rfl) rfl rfl ?_
        refine gx_istore C (lv' := [(4, .int x1), (3, .int 0), (0, .ref a0), (1, .int x1), (2, .int x2)]) (gDec_at D_X1_readNumber 21 rfl) (Nat.le_of_ble_eq_true rfl) rfl ?_
        exact gx_sub [2, 4, 1, 0] rfl (w_X1_readNumber_32 C A0 x2 h   E gFuel 0 x1 hF)
      · replace hF := gPos c hF
        refine gx_iconst C (v := (-1)) (gDec_at D_X1_readNumber 16 rfl) (by decide) ?_
        obtain rfl := Option.some.inj hF
        exact gx_iret C E (gDec_at D_X1_readNumber 17 rfl)
/-! LadderBench$Command.read -/
def rm_X1_read : Room := { frames := 6, cells := 0, slots := 0, locals := 129 }
set_option maxRecDepth 20000 in
theorem ggX1_read_X1_findAction : GoodIn wsX1_read wsX1_findAction := goodIn_r _ [20, 21, 22, 23, 13, 24, 15, 16, 25, 26, 27, 28, 29, 30, 31, 32, 33, 34, 35, 36, 37, 38, 39, 40, 41, 42, 43, 44, 45, 46, 47, 48, 49, 50, 51, 52, 53, 54, 55, 56, 57, 58, 59, 60, 61, 62, 63, 64, 65, 66, 67, 68, 69, 70, 71, 72, 73, 91, 92] (by decide +kernel) (by decide +kernel)
set_option maxRecDepth 20000 in
theorem gX1_read_X1_findAction : GoodIn wsX1_read (va_wsS RX1 27 yX1_findAction wsX1_findAction) := goodIn_app (goodIn_of _ (by decide +kernel)) ggX1_read_X1_findAction
set_option maxRecDepth 20000 in
theorem ggX1_read_X1_readNumber : GoodIn wsX1_read wsX1_readNumber := goodIn_r _ [87, 7, 91, 92] (by decide +kernel) (by decide +kernel)
set_option maxRecDepth 20000 in
theorem gX1_read_X1_readNumber : GoodIn wsX1_read (va_wsS RX1 54 yX1_readNumber wsX1_readNumber) := goodIn_app (goodIn_of _ (by decide +kernel)) ggX1_read_X1_readNumber
set_option maxRecDepth 20000 in
theorem ggX1_read_X1_takesLetter : GoodIn wsX1_read wsX1_takesLetter := goodIn_r _ [77, 1, 88, 89, 90] (by decide +kernel) (by decide +kernel)
set_option maxRecDepth 20000 in
theorem gX1_read_X1_takesLetter : GoodIn wsX1_read (wsV RX1 31 RX1 yX1_takesLetter wsX1_takesLetter) := goodIn_app (goodIn_of _ (by decide +kernel)) ggX1_read_X1_takesLetter
set_option maxRecDepth 20000 in
theorem ggX1_read_X1_takesNumber : GoodIn wsX1_read wsX1_takesNumber := goodIn_r _ [84, 1, 88, 89, 90] (by decide +kernel) (by decide +kernel)
set_option maxRecDepth 20000 in
theorem gX1_read_X1_takesNumber : GoodIn wsX1_read (wsV RX1 51 RX1 yX1_takesNumber wsX1_takesNumber) := goodIn_app (goodIn_of _ (by decide +kernel)) ggX1_read_X1_takesNumber
set_option maxRecDepth 20000 in
theorem ggX1_read_X4_findBlank : GoodIn wsX1_read wsX4_findBlank := goodIn_r _ [14, 15, 16, 91, 92] (by decide +kernel) (by decide +kernel)
set_option maxRecDepth 20000 in
theorem gX1_read_X4_findBlank : GoodIn wsX1_read (wsV RX1 21 RX4 yX4_findBlank wsX4_findBlank) := goodIn_app (goodIn_of _ (by decide +kernel)) ggX1_read_X4_findBlank
set_option maxRecDepth 20000 in
theorem ggX1_read_X9_indexOfLetter : GoodIn wsX1_read wsX9_indexOfLetter := goodIn_r _ [80] (by decide +kernel) (by decide +kernel)
set_option maxRecDepth 20000 in
theorem gX1_read_X9_indexOfLetter_n48 : GoodIn wsX1_read (wsX9_indexOfLetter) := ggX1_read_X9_indexOfLetter
theorem hy_X1_read : yX1_read.cls = RX1 ∧ yX1_read.cls ≠ "java/lang/invoke/MethodHandle" ∧ yX1_read.cls ≠ "java/lang/invoke/VarHandle" ∧ (parseMethodDescriptor yX1_read.desc).map (fun d => d.parameters.length) = some 1 := by decide +kernel
set_option maxRecDepth 100000 in
theorem D_X1_read : gDec cX1_read [(0, (.aload_n 1, 1)), (1, (.iconst 0, 1)), (2, (.invokevirtual 21, 3)), (5, (.istore_n 2, 1)), (6, (.aload_n 0, 1)), (7, (.aload_n 1, 1)), (8, (.iload_n 2, 1)), (9, (.invokestatic 27, 3)), (12, (.putfield 9, 3)), (15, (.aload_n 0, 1)), (16, (.getfield 9, 3)), (19, (.iconst (-1), 1)), (20, (.if_icmp .ne 5, 3)), (23, (.iconst 0, 1)), (24, (.ireturn, 1)), (25, (.aload_n 0, 1)), (26, (.invokevirtual 31, 3)), (29, (.ifCond .eq 54, 3)), (32, (.iload_n 2, 1)), (33, (.iconst 1, 1)), (34, (.iadd, 1)), (35, (.aload_n 1, 1)), (36, (.getfield 35, 3)), (39, (.invokestatic 38, 3)), (42, (.istore_n 3, 1)), (43, (.aload_n 1, 1)), (44, (.iload_n 3, 1)), (45, (.invokevirtual 21, 3)), (48, (.istore_n 2, 1)), (49, (.aload_n 0, 1)), (50, (.iload_n 2, 1)), (51, (.iload_n 3, 1)), (52, (.isub, 1)), (53, (.iconst 1, 1)), (54, (.if_icmp .ne 15, 3)), (57, (.aload_n 1, 1)), (58, (.getfield 44, 3)), (61, (.iload_n 3, 1)), (62, (.caload, 1)), (63, (.invokestatic 48, 3)), (66, (.goto 4, 3)), (69, (.iconst (-1), 1)), (70, (.putfield 18, 3)), (73, (.aload_n 0, 1)), (74, (.getfield 18, 3)), (77, (.iconst (-1), 1)), (78, (.if_icmp .ne 5, 3)), (81, (.iload_n 3, 1)), (82, (.ireturn, 1)), (83, (.aload_n 0, 1)), (84, (.invokevirtual 51, 3)), (87, (.ifCond .eq 63, 3)), (90, (.iload_n 2, 1)), (91, (.iconst 1, 1)), (92, (.iadd, 1)), (93, (.aload_n 1, 1)), (94, (.getfield 35, 3)), (97, (.invokestatic 38, 3)), (100, (.istore_n 3, 1)), (101, (.aload_n 1, 1)), (102, (.iload_n 3, 1)), (103, (.invokevirtual 21, 3)), (106, (.istore_n 2, 1)), (107, (.aload_n 0, 1)), (108, (.aload_n 1, 1)), (109, (.iload_n 3, 1)), (110, (.iload_n 2, 1)), (111, (.invokestatic 54, 3)), (114, (.putfield 15, 3)), (117, (.aload_n 0, 1)), (118, (.getfield 15, 3)), (121, (.iconst 1, 1)), (122, (.if_icmp .lt 26, 3)), (125, (.aload_n 0, 1)), (126, (.getfield 15, 3)), (129, (.aload_n 0, 1)), (130, (.getfield 9, 3)), (133, (.iconst 5, 1)), (134, (.if_icmp .ne 9, 3)), (137, (.sipush 999, 3)), (140, (.goto 5, 3)), (143, (.bipush 99, 2)), (145, (.if_icmp .le 5, 3)), (148, (.iload_n 3, 1)), (149, (.ireturn, 1)), (150, (.iload_n 2, 1)), (151, (.aload_n 1, 1)), (152, (.getfield 35, 3)), (155, (.if_icmp .ge 7, 3)), (158, (.iload_n 2, 1)), (159, (.goto 4, 3)), (162, (.iconst (-1), 1)), (163, (.ireturn, 1))] = true := by decide +kernel
set_option maxRecDepth 100000 in
theorem in_X1_read_X1 : ∀ x ∈ u_ws RX1 TX1 3, x ∈ wsX1_read := by decide +kernel
set_option maxRecDepth 100000 in
theorem in_X1_read_X4 : ∀ x ∈ u_ws RX4 TX4 2, x ∈ wsX1_read := by decide +kernel
theorem flw_X1_read_9 : gFw wsX1_read RX1 9 1 0 .int := ⟨RX1, TX1, 3, tyX1, rfl, by decide, in_X1_read_X1, by decide +kernel, tyX1_ok, nmX1, rfl, by decide +kernel⟩
theorem fl_X1_read_9 : gF wsX1_read RX1 9 1 0 := ⟨RX1, TX1, 3, rfl, by decide, in_X1_read_X1, by decide +kernel⟩
theorem fl_X1_read_35 : gF wsX1_read RX1 35 4 1 := ⟨RX4, TX4, 2, rfl, by decide, in_X1_read_X4, by decide +kernel⟩
theorem mm_X1_read_38 : gM4 wsX1_read RX1 38 Lib.Math.min.name Lib.Math.min.code := by unfold gM4; decide +kernel
theorem flw_X1_read_15 : gFw wsX1_read RX1 15 1 1 .int := ⟨RX1, TX1, 3, tyX1, rfl, by decide, in_X1_read_X1, by decide +kernel, tyX1_ok, nmX1, rfl, by decide +kernel⟩
theorem fl_X1_read_15 : gF wsX1_read RX1 15 1 1 := ⟨RX1, TX1, 3, rfl, by decide, in_X1_read_X1, by decide +kernel⟩
theorem flw_X1_read_18 : gFw wsX1_read RX1 18 1 2 .int := ⟨RX1, TX1, 3, tyX1, rfl, by decide, in_X1_read_X1, by decide +kernel, tyX1_ok, nmX1, rfl, by decide +kernel⟩
theorem fl_X1_read_18 : gF wsX1_read RX1 18 1 2 := ⟨RX1, TX1, 3, rfl, by decide, in_X1_read_X1, by decide +kernel⟩
theorem fl_X1_read_44 : gF wsX1_read RX1 44 4 0 := ⟨RX4, TX4, 2, rfl, by decide, in_X1_read_X4, by decide +kernel⟩
theorem nl_X1_read_48 : Cond.methodLinkNest RX1 48 yX9_indexOfLetter "LadderBench" ∈ gNestL ∧ Cond.initialized yX9_indexOfLetter.cls ∈ wsX1_read ∧ Cond.static yX9_indexOfLetter ∈ wsX1_read := by decide +kernel
def f_X1_read_150 (a1 : Nat) (x2 : Int32) (h : gHp) : Option (Int32 × gHp) := if (h.1 a1 1) ≤ x2 then some ((-1), h) else some (x2, h)
set_option maxRecDepth 20000 in
set_option maxHeartbeats 4000000 in
theorem w_X1_read_150 {w : gWd} {g : gCx} (C : gC w g cX1_read wsX1_read RX1 4 6 129) {a1 : Nat} (A1 : is_X4 w a1) (x2 : Int32) (h : gHp)  {o : Int32 × gHp}  (E : gEn w g (some .int) (some (.int o.1)) o.2) (hF : f_X1_read_150 a1 x2 h = some o) : gX w g 4 h 150 [(1, .ref a1), (2, .int x2)] ([]) := by
  rw [f_X1_read_150] at hF
  refine gx_iload_n C 1 (gDec_at D_X1_read 85 rfl) rfl rfl ?_
  refine gx_aload_n C 0 (gDec_at D_X1_read 86 rfl) rfl rfl ?_
  refine gx_geti C fl_X1_read_35 (is_X4_sh A1) rfl (gDec_at D_X1_read 87 rfl) ?_
  refine gx_icmp_ge C 162 (gDec_at D_X1_read 88 rfl) (by decide) (fun c => ?_) (fun c => ?_)
  · replace hF := gPos c hF
    refine gx_iconst C (v := (-1)) (gDec_at D_X1_read 91 rfl) (by decide) ?_
    obtain rfl := Option.some.inj hF
    exact gx_iret C E (gDec_at D_X1_read 92 rfl)
  · replace hF := gNeg c hF
    refine gx_iload_n C 1 (gDec_at D_X1_read 89 rfl) rfl rfl ?_
    refine gx_goto C 163 (gDec_at D_X1_read 90 rfl) (by decide) ?_
    obtain rfl := Option.some.inj hF
    exact gx_iret C E (gDec_at D_X1_read 92 rfl)
def f_X1_read_83 (a0 : Nat) (a1 : Nat) (x2 : Int32) (h : gHp) : Option (Int32 × gHp) := (f_X1_takesNumber a0 h).bind fun v8 => if v8 = true then (f_X4_findBlank a1 (if (h.1 a1 1) < (x2 + 1) then (h.1 a1 1) else (x2 + 1)) h).bind fun v10 => (f_X1_readNumber a1 (if (h.1 a1 1) < (x2 + 1) then (h.1 a1 1) else (x2 + 1)) v10 h).bind fun v12 => if ((gsI h a0 1 v12).1 a0 1) < 1 then some (if (h.1 a1 1) < (x2 + 1) then (h.1 a1 1) else (x2 + 1), gsI h a0 1 v12) else (if ((gsI h a0 1 v12).1 a0 0) = 5 then some 999 else some 99 : Option (Int32)).bind fun v13 => if ((gsI h a0 1 v12).1 a0 1) ≤ v13 then f_X1_read_150 a1 v10 (gsI h a0 1 v12) else some (if (h.1 a1 1) < (x2 + 1) then (h.1 a1 1) else (x2 + 1), gsI h a0 1 v12) else f_X1_read_150 a1 x2 h
set_option maxRecDepth 20000 in
set_option maxHeartbeats 4000000 in
theorem w_X1_read_83 {w : gWd} {g : gCx} (C : gC w g cX1_read wsX1_read RX1 4 6 129) {a0 : Nat} (A0 : is_X1 w a0) {a1 : Nat} (A1 : is_X4 w a1) (x2 : Int32) (h : gHp)  {o : Int32 × gHp}  (E : gEn w g (some .int) (some (.int o.1)) o.2) (hF : f_X1_read_83 a0 a1 x2 h = some o) : gX w g 4 h 83 [(0, .ref a0), (1, .ref a1), (2, .int x2)] ([]) := by
  rw [f_X1_read_83] at hF
  refine gx_aload_n C 0 (gDec_at D_X1_read 49 rfl) rfl rfl ?_
  obtain ⟨v8, hv7, hF⟩ := gBind hF
  refine gx_callV1 C (st := []) 0 [] (m_X1_takesNumber w h A0 hv7) gX1_read_X1_takesNumber rfl rfl rfl hy_X1_takesNumber (Nat.le_of_ble_eq_true rfl) (Nat.le_of_ble_eq_true rfl) (is_X1_sh A0) rfl rfl rfl (Nat.le_of_ble_eq_true rfl) (gDec_at D_X1_read 50 rfl) ?_
  refine gx_ifz_eq C 150 (gDec_at D_X1_read 51 rfl) (by decide) (fun c => ?_) (fun c => ?_)
  · replace hF := gNeg c hF
    exact gx_sub [1, 2] rfl (w_X1_read_150 C A1 x2 h   E hF)
  · replace hF := gPos c hF
    refine gx_iload_n C 2 (gDec_at D_X1_read 52 rfl) rfl rfl ?_
    refine gx_iconst C (v := 1) (gDec_at D_X1_read 53 rfl) (by decide) ?_
    refine gx_iadd C (gDec_at D_X1_read 54 rfl) ?_
    refine gx_aload_n C 1 (gDec_at D_X1_read 55 rfl) rfl rfl ?_
    refine gx_geti C fl_X1_read_35 (is_X4_sh A1) rfl (gDec_at D_X1_read 56 rfl) ?_
    refine gx_mmin C mm_X1_read_38 (Nat.le_of_ble_eq_true rfl) (Nat.le_of_ble_eq_true rfl) (Nat.le_of_ble_eq_true rfl) (gDec_at D_X1_read 57 rfl) ?_
    refine gx_istore_n C (lv' := [(3, .int (if (h.1 a1 1) < (x2 + 1) then (h.1 a1 1) else (x2 + 1))), (0, .ref a0), (1, .ref a1), (2, .int x2)]) (gDec_at D_X1_read 58 rfl) rfl (Nat.le_of_ble_eq_true rfl) rfl ?_
    refine gx_aload_n C 2 (gDec_at D_X1_read 59 rfl) rfl rfl ?_
    refine gx_iload_n C 0 (gDec_at D_X1_read 60 rfl) rfl rfl ?_
    obtain ⟨v10, hv9, hF⟩ := gBind hF
    refine gx_callV1 C (st := []) 1 [.int (if (h.1 a1 1) < (x2 + 1) then (h.1 a1 1) else (x2 + 1))] (m_X4_findBlank w h A1 (if (h.1 a1 1) < (x2 + 1) then (h.1 a1 1) else (x2 + 1)) hv9) gX1_read_X4_findBlank rfl rfl rfl hy_X4_findBlank (Nat.le_of_ble_eq_true rfl) (Nat.le_of_ble_eq_true rfl) (is_X4_sh A1) rfl rfl rfl (Nat.le_of_ble_eq_true rfl) (gDec_at D_X1_read 61 rfl) ?_
    refine gx_istore_n C (lv' := [(2, .int v10), (3, .int (if (h.1 a1 1) < (x2 + 1) then (h.1 a1 1) else (x2 + 1))), (0, .ref a0), (1, .ref a1)]) (gDec_at D_X1_read 62 rfl) rfl (Nat.le_of_ble_eq_true rfl) rfl ?_
    refine gx_aload_n C 2 (gDec_at D_X1_read 63 rfl) rfl rfl ?_
    refine gx_aload_n C 3 (gDec_at D_X1_read 64 rfl) rfl rfl ?_
    refine gx_iload_n C 1 (gDec_at D_X1_read 65 rfl) rfl rfl ?_
    refine gx_iload_n C 0 (gDec_at D_X1_read 66 rfl) rfl rfl ?_
    obtain ⟨v12, hv11, hF⟩ := gBind hF
    refine gx_callS1 C (st := .ref a0 :: []) 3 [.ref a1, .int (if (h.1 a1 1) < (x2 + 1) then (h.1 a1 1) else (x2 + 1)), .int v10] (m_X1_readNumber w h A1 (if (h.1 a1 1) < (x2 + 1) then (h.1 a1 1) else (x2 + 1)) v10 hv11) gX1_read_X1_readNumber rfl rfl rfl hy_X1_readNumber (Nat.le_of_ble_eq_true rfl) (Nat.le_of_ble_eq_true rfl) rfl rfl (Nat.le_of_ble_eq_true rfl) (gDec_at D_X1_read 67 rfl) ?_
    refine gx_putI C flw_X1_read_15 (is_X1_sh A0) rfl rfl rfl (gDec_at D_X1_read 68 rfl) ?_
    refine gx_aload_n C 2 (gDec_at D_X1_read 69 rfl) rfl rfl ?_
    refine gx_geti C fl_X1_read_15 (is_X1_sh A0) rfl (gDec_at D_X1_read 70 rfl) ?_
    refine gx_iconst C (v := 1) (gDec_at D_X1_read 71 rfl) (by decide) ?_
    refine gx_icmp_lt C 148 (gDec_at D_X1_read 72 rfl) (by decide) (fun c => ?_) (fun c => ?_)
    · replace hF := gPos c hF
      refine gx_iload_n C 1 (gDec_at D_X1_read 83 rfl) rfl rfl ?_
      obtain rfl := Option.some.inj hF
      exact gx_iret C E (gDec_at D_X1_read 84 rfl)
    · replace hF := gNeg c hF
      refine gx_aload_n C 2 (gDec_at D_X1_read 73 rfl) rfl rfl ?_
      refine gx_geti C fl_X1_read_15 (is_X1_sh A0) rfl (gDec_at D_X1_read 74 rfl) ?_
      refine gx_aload_n C 2 (gDec_at D_X1_read 75 rfl) rfl rfl ?_
      refine gx_geti C fl_X1_read_9 (is_X1_sh A0) rfl (gDec_at D_X1_read 76 rfl) ?_
      refine gx_iconst C (v := 5) (gDec_at D_X1_read 77 rfl) (by decide) ?_
      obtain ⟨v13, hv14, hF⟩ := gBind hF
      have k15 : gX w g 4 (gsI h a0 1 v12) 145 [(1, .ref a1), (2, .int v10), (3, .int (if (h.1 a1 1) < (x2 + 1) then (h.1 a1 1) else (x2 + 1)))] (.int v13 :: .int ((gsI h a0 1 v12).1 a0 1) :: []) := by
        refine gx_icmp_le C 150 (gDec_at D_X1_read 82 rfl) (by decide) (fun c => ?_) (fun c => ?_)
        · replace hF := gPos c hF
          exact gx_sub [0, 1] rfl (w_X1_read_150 C A1 v10 (gsI h a0 1 v12)   E hF)
        · replace hF := gNeg c hF
          refine gx_iload_n C 2 (gDec_at D_X1_read 83 rfl) rfl rfl ?_
          obtain rfl := Option.some.inj hF
          exact gx_iret C E (gDec_at D_X1_read 84 rfl)
      replace hF := hv14
      refine gx_icmp_ne C 143 (gDec_at D_X1_read 78 rfl) (by decide) (fun c => ?_) (fun c => ?_)
      · replace hF := gNeg c hF
        refine gx_bipush C (v := 99) (gDec_at D_X1_read 81 rfl) (by decide) ?_
        obtain rfl := Option.some.inj hF
        exact gx_sub [3, 0, 1] rfl k15
      · replace hF := gPos c hF
        refine gx_sipush C (v := 999) (gDec_at D_X1_read 79 rfl) (by decide) ?_
        refine gx_goto C 145 (gDec_at D_X1_read 80 rfl) (by decide) ?_
        obtain rfl := Option.some.inj hF
        exact gx_sub [3, 0, 1] rfl k15
def f_X1_read (a0 : Nat) (a1 : Nat) (h : gHp) : Option (Int32 × gHp) := (f_X4_findBlank a1 0 h).bind fun v2 => (f_X1_findAction a1 v2 h).bind fun v4 => if ((gsI h a0 0 v4).1 a0 0) = (-1) then some (0, gsI h a0 0 v4) else (f_X1_takesLetter a0 (gsI h a0 0 v4)).bind fun v6 => if v6 = true then (f_X4_findBlank a1 (if ((gsI h a0 0 v4).1 a1 1) < (v2 + 1) then ((gsI h a0 0 v4).1 a1 1) else (v2 + 1)) (gsI h a0 0 v4)).bind fun v17 => (if (v17 - (if ((gsI h a0 0 v4).1 a1 1) < (v2 + 1) then ((gsI h a0 0 v4).1 a1 1) else (v2 + 1))) = 1 then if gIn (if ((gsI h a0 0 v4).1 a1 1) < (v2 + 1) then ((gsI h a0 0 v4).1 a1 1) else (v2 + 1)) 40 then (f_X9_indexOfLetter ((gsI h a0 0 v4).1 (a1 + 1) (gN (if ((gsI h a0 0 v4).1 a1 1) < (v2 + 1) then ((gsI h a0 0 v4).1 a1 1) else (v2 + 1)))) (gsI h a0 0 v4)).bind fun v23 => some v23 else none else some (-1) : Option (Int32)).bind fun v18 => if ((gsI (gsI h a0 0 v4) a0 2 v18).1 a0 2) = (-1) then some (if ((gsI h a0 0 v4).1 a1 1) < (v2 + 1) then ((gsI h a0 0 v4).1 a1 1) else (v2 + 1), gsI (gsI h a0 0 v4) a0 2 v18) else f_X1_read_83 a0 a1 v17 (gsI (gsI h a0 0 v4) a0 2 v18) else f_X1_read_83 a0 a1 v2 (gsI h a0 0 v4)
set_option maxRecDepth 20000 in
set_option maxHeartbeats 4000000 in
theorem m_X1_read (w : gWd) (h : gHp) {a0 : Nat} (A0 : is_X1 w a0) {a1 : Nat} (A1 : is_X4 w a1) {o : Int32 × gHp} (hF : f_X1_read a0 a1 h = some o) : gMet w yX1_read wsX1_read rm_X1_read [.ref a0, .ref a1] h (some (.int o.1)) o.2 := by
  refine gMet_of (cc := cX1_read) (maxL := 4) (ret := (some .int)) (fr := 6) (lo := 129) (own := RX1) [(0, .ref a0), (1, .ref a1)] (by decide) rfl rfl (Nat.le_of_ble_eq_true rfl) rfl (Nat.le_refl _) (Nat.le_refl _) (fun g C E => ?_)
  rw [f_X1_read] at hF
  refine gx_aload_n C 1 (gDec_at D_X1_read 0 rfl) rfl rfl ?_
  refine gx_iconst C (v := 0) (gDec_at D_X1_read 1 rfl) (by decide) ?_
  obtain ⟨v2, hv1, hF⟩ := gBind hF
  refine gx_callV1 C (st := []) 1 [.int 0] (m_X4_findBlank w h A1 0 hv1) gX1_read_X4_findBlank rfl rfl rfl hy_X4_findBlank (Nat.le_of_ble_eq_true rfl) (Nat.le_of_ble_eq_true rfl) (is_X4_sh A1) rfl rfl rfl (Nat.le_of_ble_eq_true rfl) (gDec_at D_X1_read 2 rfl) ?_
  refine gx_istore_n C (lv' := [(2, .int v2), (0, .ref a0), (1, .ref a1)]) (gDec_at D_X1_read 3 rfl) rfl (Nat.le_of_ble_eq_true rfl) rfl ?_
  refine gx_aload_n C 1 (gDec_at D_X1_read 4 rfl) rfl rfl ?_
  refine gx_aload_n C 2 (gDec_at D_X1_read 5 rfl) rfl rfl ?_
  refine gx_iload_n C 0 (gDec_at D_X1_read 6 rfl) rfl rfl ?_
  obtain ⟨v4, hv3, hF⟩ := gBind hF
  refine gx_callS1 C (st := .ref a0 :: []) 2 [.ref a1, .int v2] (m_X1_findAction w h A1 v2 hv3) gX1_read_X1_findAction rfl rfl rfl hy_X1_findAction (Nat.le_of_ble_eq_true rfl) (Nat.le_of_ble_eq_true rfl) rfl rfl (Nat.le_of_ble_eq_true rfl) (gDec_at D_X1_read 7 rfl) ?_
  refine gx_putI C flw_X1_read_9 (is_X1_sh A0) rfl rfl rfl (gDec_at D_X1_read 8 rfl) ?_
  refine gx_aload_n C 1 (gDec_at D_X1_read 9 rfl) rfl rfl ?_
  refine gx_geti C fl_X1_read_9 (is_X1_sh A0) rfl (gDec_at D_X1_read 10 rfl) ?_
  refine gx_iconst C (v := (-1)) (gDec_at D_X1_read 11 rfl) (by decide) ?_
  refine gx_icmp_ne C 25 (gDec_at D_X1_read 12 rfl) (by decide) (fun c => ?_) (fun c => ?_)
  · replace hF := gNeg c hF
    refine gx_aload_n C 1 (gDec_at D_X1_read 15 rfl) rfl rfl ?_
    obtain ⟨v6, hv5, hF⟩ := gBind hF
    refine gx_callV1 C (st := []) 0 [] (m_X1_takesLetter w (gsI h a0 0 v4) A0 hv5) gX1_read_X1_takesLetter rfl rfl rfl hy_X1_takesLetter (Nat.le_of_ble_eq_true rfl) (Nat.le_of_ble_eq_true rfl) (is_X1_sh A0) rfl rfl rfl (Nat.le_of_ble_eq_true rfl) (gDec_at D_X1_read 16 rfl) ?_
    refine gx_ifz_eq C 83 (gDec_at D_X1_read 17 rfl) (by decide) (fun c => ?_) (fun c => ?_)
    · replace hF := gNeg c hF
      exact gx_sub [1, 2, 0] rfl (w_X1_read_83 C A0 A1 v2 (gsI h a0 0 v4)   E hF)
    · replace hF := gPos c hF
      refine gx_iload_n C 0 (gDec_at D_X1_read 18 rfl) rfl rfl ?_
      refine gx_iconst C (v := 1) (gDec_at D_X1_read 19 rfl) (by decide) ?_
      refine gx_iadd C (gDec_at D_X1_read 20 rfl) ?_
      refine gx_aload_n C 2 (gDec_at D_X1_read 21 rfl) rfl rfl ?_
      refine gx_geti C fl_X1_read_35 (is_X4_sh A1) rfl (gDec_at D_X1_read 22 rfl) ?_
      refine gx_mmin C mm_X1_read_38 (Nat.le_of_ble_eq_true rfl) (Nat.le_of_ble_eq_true rfl) (Nat.le_of_ble_eq_true rfl) (gDec_at D_X1_read 23 rfl) ?_
      refine gx_istore_n C (lv' := [(3, .int (if ((gsI h a0 0 v4).1 a1 1) < (v2 + 1) then ((gsI h a0 0 v4).1 a1 1) else (v2 + 1))), (2, .int v2), (0, .ref a0), (1, .ref a1)]) (gDec_at D_X1_read 24 rfl) rfl (Nat.le_of_ble_eq_true rfl) rfl ?_
      refine gx_aload_n C 3 (gDec_at D_X1_read 25 rfl) rfl rfl ?_
      refine gx_iload_n C 0 (gDec_at D_X1_read 26 rfl) rfl rfl ?_
      obtain ⟨v17, hv16, hF⟩ := gBind hF
      refine gx_callV1 C (st := []) 1 [.int (if ((gsI h a0 0 v4).1 a1 1) < (v2 + 1) then ((gsI h a0 0 v4).1 a1 1) else (v2 + 1))] (m_X4_findBlank w (gsI h a0 0 v4) A1 (if ((gsI h a0 0 v4).1 a1 1) < (v2 + 1) then ((gsI h a0 0 v4).1 a1 1) else (v2 + 1)) hv16) gX1_read_X4_findBlank rfl rfl rfl hy_X4_findBlank (Nat.le_of_ble_eq_true rfl) (Nat.le_of_ble_eq_true rfl) (is_X4_sh A1) rfl rfl rfl (Nat.le_of_ble_eq_true rfl) (gDec_at D_X1_read 27 rfl) ?_
      refine gx_istore_n C (lv' := [(2, .int v17), (3, .int (if ((gsI h a0 0 v4).1 a1 1) < (v2 + 1) then ((gsI h a0 0 v4).1 a1 1) else (v2 + 1))), (0, .ref a0), (1, .ref a1)]) (gDec_at D_X1_read 28 rfl) rfl (Nat.le_of_ble_eq_true rfl) rfl ?_
      refine gx_aload_n C 2 (gDec_at D_X1_read 29 rfl) rfl rfl ?_
      refine gx_iload_n C 0 (gDec_at D_X1_read 30 rfl) rfl rfl ?_
      refine gx_iload_n C 1 (gDec_at D_X1_read 31 rfl) rfl rfl ?_
      refine gx_isub C (gDec_at D_X1_read 32 rfl) ?_
      refine gx_iconst C (v := 1) (gDec_at D_X1_read 33 rfl) (by decide) ?_
      obtain ⟨v18, hv19, hF⟩ := gBind hF
      have k20 : gX w g 4 (gsI h a0 0 v4) 70 [(0, .ref a0), (1, .ref a1), (2, .int v17), (3, .int (if ((gsI h a0 0 v4).1 a1 1) < (v2 + 1) then ((gsI h a0 0 v4).1 a1 1) else (v2 + 1)))] (.int v18 :: .ref a0 :: []) := by
        refine gx_putI C flw_X1_read_18 (is_X1_sh A0) rfl rfl rfl (gDec_at D_X1_read 42 rfl) ?_
        refine gx_aload_n C 0 (gDec_at D_X1_read 43 rfl) rfl rfl ?_
        refine gx_geti C fl_X1_read_18 (is_X1_sh A0) rfl (gDec_at D_X1_read 44 rfl) ?_
        refine gx_iconst C (v := (-1)) (gDec_at D_X1_read 45 rfl) (by decide) ?_
        refine gx_icmp_ne C 83 (gDec_at D_X1_read 46 rfl) (by decide) (fun c => ?_) (fun c => ?_)
        · replace hF := gNeg c hF
          exact gx_sub [0, 1, 2] rfl (w_X1_read_83 C A0 A1 v17 (gsI (gsI h a0 0 v4) a0 2 v18)   E hF)
        · replace hF := gPos c hF
          refine gx_iload_n C 3 (gDec_at D_X1_read 47 rfl) rfl rfl ?_
          obtain rfl := Option.some.inj hF
          exact gx_iret C E (gDec_at D_X1_read 48 rfl)
      replace hF := hv19
      refine gx_icmp_ne C 69 (gDec_at D_X1_read 34 rfl) (by decide) (fun c => ?_) (fun c => ?_)
      · replace hF := gNeg c hF
        refine gx_iconst C (v := (-1)) (gDec_at D_X1_read 41 rfl) (by decide) ?_
        obtain rfl := Option.some.inj hF
        exact gx_sub [2, 3, 0, 1] rfl k20
      · replace hF := gPos c hF
        refine gx_aload_n C 3 (gDec_at D_X1_read 35 rfl) rfl rfl ?_
        refine gx_getr C fl_X1_read_44 (is_X4_sh A1) rfl (gDec_at D_X1_read 36 rfl) ?_
        refine gx_iload_n C 1 (gDec_at D_X1_read 37 rfl) rfl rfl ?_
        obtain ⟨b21, hF⟩ := gGd hF
        refine gx_caload C (is_X4_characters A1) b21 (gDec_at D_X1_read 38 rfl) ?_
        obtain ⟨v23, hv22, hF⟩ := gBind hF
        refine gx_callSN1 C (st := .ref a0 :: []) 1 [.int ((gsI h a0 0 v4).1 (a1 + 1) (gN (if ((gsI h a0 0 v4).1 a1 1) < (v2 + 1) then ((gsI h a0 0 v4).1 a1 1) else (v2 + 1))))] (m_X9_indexOfLetter w (gsI h a0 0 v4) ((gsI h a0 0 v4).1 (a1 + 1) (gN (if ((gsI h a0 0 v4).1 a1 1) < (v2 + 1) then ((gsI h a0 0 v4).1 a1 1) else (v2 + 1)))) hv22) gX1_read_X9_indexOfLetter_n48 nl_X1_read_48.1 nl_X1_read_48.2.1 nl_X1_read_48.2.2 rfl rfl rfl hy_X9_indexOfLetter (Nat.le_of_ble_eq_true rfl) (Nat.le_of_ble_eq_true rfl) rfl rfl (Nat.le_of_ble_eq_true rfl) (gDec_at D_X1_read 39 rfl) ?_
        refine gx_goto C 70 (gDec_at D_X1_read 40 rfl) (by decide) ?_
        obtain rfl := Option.some.inj hF
        exact gx_sub [2, 3, 0, 1] rfl k20
  · replace hF := gPos c hF
    refine gx_iconst C (v := 0) (gDec_at D_X1_read 13 rfl) (by decide) ?_
    obtain rfl := Option.some.inj hF
    exact gx_iret C E (gDec_at D_X1_read 14 rfl)
