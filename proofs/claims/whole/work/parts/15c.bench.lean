/-! LadderBench.voltage -/
def rm_X9_voltage : Room := { frames := 6, cells := 0, slots := 0, locals := 154 }
set_option maxRecDepth 20000 in
theorem ggX9_voltage_X0_findVoltage : GoodIn wsX9_voltage wsX0_findVoltage := goodIn_r _ [20, 21, 22, 23, 24, 19, 25, 26, 27, 28, 29, 30, 31, 32, 33, 9, 34, 35, 36, 7, 8, 10, 11, 37, 38, 39, 40, 41, 42, 43, 44, 45, 46, 47, 48, 49, 50, 51, 52, 53, 54, 55, 56, 57, 58, 59, 60, 61, 62, 63, 64, 65, 66, 67, 68, 69, 70, 71, 72, 73, 74, 75, 76, 77, 78, 79, 80, 81, 82, 83, 84, 85, 86, 87, 88, 89, 90, 91, 92, 93, 94, 95, 96, 97, 98, 99, 100, 101, 102, 103, 104, 105, 106, 134, 135, 136, 137, 138, 121, 122, 123, 124, 125, 126, 127, 128, 129, 130, 131, 132, 133, 139, 140] (by decide +kernel) (by decide +kernel)
set_option maxRecDepth 20000 in
theorem gX9_voltage_X0_findVoltage : GoodIn wsX9_voltage (wsV RX9 230 RX0 yX0_findVoltage wsX0_findVoltage) := goodIn_app (goodIn_of _ (by decide +kernel)) ggX9_voltage_X0_findVoltage
set_option maxRecDepth 20000 in
theorem ggX9_voltage_X2_half : GoodIn wsX9_voltage wsX2_half := goodIn_r _ [110, 49, 50, 139, 140] (by decide +kernel) (by decide +kernel)
set_option maxRecDepth 20000 in
theorem gX9_voltage_X2_half : GoodIn wsX9_voltage (wsV RX9 224 RX2 yX2_half wsX2_half) := goodIn_app (goodIn_of _ (by decide +kernel)) ggX9_voltage_X2_half
set_option maxRecDepth 20000 in
theorem ggX9_voltage_X5_hasPart : GoodIn wsX9_voltage wsX5_hasPart := goodIn_r _ [10, 11, 129, 130, 131, 132, 133] (by decide +kernel) (by decide +kernel)
set_option maxRecDepth 20000 in
theorem gX9_voltage_X5_hasPart : GoodIn wsX9_voltage (wsV RX9 121 RX5 yX5_hasPart wsX5_hasPart) := goodIn_app (goodIn_of _ (by decide +kernel)) ggX9_voltage_X5_hasPart
set_option maxRecDepth 20000 in
theorem ggX9_voltage_X9_isHalf : GoodIn wsX9_voltage wsX9_isHalf := goodIn_r _ [15] (by decide +kernel) (by decide +kernel)
set_option maxRecDepth 20000 in
theorem gX9_voltage_X9_isHalf : GoodIn wsX9_voltage (va_wsS RX9 211 yX9_isHalf wsX9_isHalf) := goodIn_app (goodIn_of _ (by decide +kernel)) ggX9_voltage_X9_isHalf
theorem hy_X9_voltage : yX9_voltage.cls = RX9 ∧ yX9_voltage.cls ≠ "java/lang/invoke/MethodHandle" ∧ yX9_voltage.cls ≠ "java/lang/invoke/VarHandle" ∧ (parseMethodDescriptor yX9_voltage.desc).map (fun d => d.parameters.length) = some 2 := by decide +kernel
set_option maxRecDepth 100000 in
theorem D_X9_voltage : gDec cX9_voltage [(0, (.aload_n 0, 1)), (1, (.getfield 19, 3)), (4, (.getfield 84, 3)), (7, (.iload_n 1, 1)), (8, (.invokevirtual 121, 3)), (11, (.ifCond .ne 7, 3)), (14, (.ldc2_w 209, 3)), (17, (.lreturn, 1)), (18, (.iload_n 2, 1)), (19, (.invokestatic 211, 3)), (22, (.ifCond .ne 7, 3)), (25, (.ldc2_w 214, 3)), (28, (.lreturn, 1)), (29, (.aload_n 0, 1)), (30, (.getfield 53, 3)), (33, (.aload_n 0, 1)), (34, (.getfield 19, 3)), (37, (.iload_n 1, 1)), (38, (.invokevirtual 230, 3)), (41, (.iload_n 2, 1)), (42, (.invokevirtual 224, 3)), (45, (.lreturn, 1))] = true := by decide +kernel
set_option maxRecDepth 100000 in
theorem in_X9_voltage_X8 : ∀ x ∈ u_ws RX8 TX8 8, x ∈ wsX9_voltage := by decide +kernel
set_option maxRecDepth 100000 in
theorem in_X9_voltage_X9 : ∀ x ∈ u_ws RX9 TX9 10, x ∈ wsX9_voltage := by decide +kernel
theorem fl_X9_voltage_19 : gF wsX9_voltage RX9 19 9 1 := ⟨RX9, TX9, 10, rfl, by decide, in_X9_voltage_X9, by decide +kernel⟩
theorem fl_X9_voltage_84 : gF wsX9_voltage RX9 84 8 0 := ⟨RX8, TX8, 8, rfl, by decide, in_X9_voltage_X8, by decide +kernel⟩
theorem fl_X9_voltage_53 : gF wsX9_voltage RX9 53 9 7 := ⟨RX9, TX9, 10, rfl, by decide, in_X9_voltage_X9, by decide +kernel⟩
theorem lc_X9_voltage_214 : Jvm.Cond.constantLong RX9 214 (-2) ∈ wsX9_voltage := by decide +kernel
theorem lc_X9_voltage_209 : Jvm.Cond.constantLong RX9 209 (-1) ∈ wsX9_voltage := by decide +kernel
def f_X9_voltage (a0 : Nat) (x1 : Int32) (x2 : Int32) (h : gHp) : Option (Int64 × gHp) := (f_X5_hasPart (a0 + 3 + 1) x1 h).bind fun v2 => if v2 = true then (f_X9_isHalf x2 h).bind fun v4 => if v4 = true then (f_X0_findVoltage (a0 + 113) (a0 + 3) x1 h).bind fun v6 => (f_X2_half v6.1 x2 v6.2).bind fun v8 => some (v8, v6.2) else some ((-2), h) else some ((-1), h)
set_option maxRecDepth 20000 in
set_option maxHeartbeats 4000000 in
theorem m_X9_voltage (w : gWd) (h : gHp) {a0 : Nat} (A0 : is_X9 w a0) (x1 : Int32) (x2 : Int32) {o : Int64 × gHp} (hF : f_X9_voltage a0 x1 x2 h = some o) : gMet w yX9_voltage wsX9_voltage rm_X9_voltage [.ref a0, .int x1, .int x2] h (some (.long o.1)) o.2 := by
  refine gMet_of (cc := cX9_voltage) (maxL := 3) (ret := (some .long)) (fr := 6) (lo := 154) (own := RX9) [(0, .ref a0), (1, .int x1), (2, .int x2)] (by decide) rfl rfl (Nat.le_of_ble_eq_true rfl) rfl (Nat.le_refl _) (Nat.le_refl _) (fun g C E => ?_)
  rw [f_X9_voltage] at hF
  refine gx_aload_n C 0 (gDec_at D_X9_voltage 0 rfl) rfl rfl ?_
  refine gx_getr C fl_X9_voltage_19 (is_X9_sh A0) rfl (gDec_at D_X9_voltage 1 rfl) ?_
  refine gx_getr C fl_X9_voltage_84 (is_X8_sh (is_X9_now A0)) rfl (gDec_at D_X9_voltage 2 rfl) ?_
  refine gx_iload_n C 1 (gDec_at D_X9_voltage 3 rfl) rfl rfl ?_
  obtain ⟨v2, hv1, hF⟩ := gBind hF
  refine gx_callV1 C (st := []) 1 [.int x1] (m_X5_hasPart w h (is_X8_network (is_X9_now A0)) x1 hv1) gX9_voltage_X5_hasPart rfl rfl rfl hy_X5_hasPart (Nat.le_of_ble_eq_true rfl) (Nat.le_of_ble_eq_true rfl) (is_X5_sh (is_X8_network (is_X9_now A0))) rfl rfl rfl (Nat.le_of_ble_eq_true rfl) (gDec_at D_X9_voltage 4 rfl) ?_
  refine gx_ifz_ne C 18 (gDec_at D_X9_voltage 5 rfl) (by decide) (fun c => ?_) (fun c => ?_)
  · replace hF := gPos c hF
    refine gx_iload_n C 2 (gDec_at D_X9_voltage 8 rfl) rfl rfl ?_
    obtain ⟨v4, hv3, hF⟩ := gBind hF
    refine gx_callS1 C (st := []) 1 [.int x2] (m_X9_isHalf w h x2 hv3) gX9_voltage_X9_isHalf rfl rfl rfl hy_X9_isHalf (Nat.le_of_ble_eq_true rfl) (Nat.le_of_ble_eq_true rfl) rfl rfl (Nat.le_of_ble_eq_true rfl) (gDec_at D_X9_voltage 9 rfl) ?_
    refine gx_ifz_ne C 29 (gDec_at D_X9_voltage 10 rfl) (by decide) (fun c => ?_) (fun c => ?_)
    · replace hF := gPos c hF
      refine gx_aload_n C 0 (gDec_at D_X9_voltage 13 rfl) rfl rfl ?_
      refine gx_getr C fl_X9_voltage_53 (is_X9_sh A0) rfl (gDec_at D_X9_voltage 14 rfl) ?_
      refine gx_aload_n C 0 (gDec_at D_X9_voltage 15 rfl) rfl rfl ?_
      refine gx_getr C fl_X9_voltage_19 (is_X9_sh A0) rfl (gDec_at D_X9_voltage 16 rfl) ?_
      refine gx_iload_n C 1 (gDec_at D_X9_voltage 17 rfl) rfl rfl ?_
      obtain ⟨v6, hv5, hF⟩ := gBind hF
      refine gx_callV1 C (st := []) 2 [.ref (a0 + 3), .int x1] (m_X0_findVoltage w h (is_X9_circuit A0) (is_X9_now A0) x1 hv5) gX9_voltage_X0_findVoltage rfl rfl rfl hy_X0_findVoltage (Nat.le_of_ble_eq_true rfl) (Nat.le_of_ble_eq_true rfl) (is_X0_sh (is_X9_circuit A0)) rfl rfl rfl (Nat.le_of_ble_eq_true rfl) (gDec_at D_X9_voltage 18 rfl) ?_
      refine gx_iload_n C 2 (gDec_at D_X9_voltage 19 rfl) rfl rfl ?_
      obtain ⟨v8, hv7, hF⟩ := gBind hF
      refine gx_callV1 C (st := []) 1 [.int x2] (m_X2_half w v6.2 (t_X0_findVoltage (is_X9_circuit A0) (is_X9_now A0) x1 hv5) x2 hv7) gX9_voltage_X2_half rfl rfl rfl hy_X2_half (Nat.le_of_ble_eq_true rfl) (Nat.le_of_ble_eq_true rfl) (is_X2_sh (t_X0_findVoltage (is_X9_circuit A0) (is_X9_now A0) x1 hv5)) rfl rfl rfl (Nat.le_of_ble_eq_true rfl) (gDec_at D_X9_voltage 20 rfl) ?_
      obtain rfl := Option.some.inj hF
      exact gx_lret C E (gDec_at D_X9_voltage 21 rfl)
    · replace hF := gNeg c hF
      refine gx_ldc2 C (v := (-2)) lc_X9_voltage_214 (gDec_at D_X9_voltage 11 rfl) ?_
      obtain rfl := Option.some.inj hF
      exact gx_lret C E (gDec_at D_X9_voltage 12 rfl)
  · replace hF := gNeg c hF
    refine gx_ldc2 C (v := (-1)) lc_X9_voltage_209 (gDec_at D_X9_voltage 6 rfl) ?_
    obtain rfl := Option.some.inj hF
    exact gx_lret C E (gDec_at D_X9_voltage 7 rfl)
/-! LadderBench.reading -/
def rm_X9_reading : Room := { frames := 6, cells := 0, slots := 0, locals := 154 }
set_option maxRecDepth 20000 in
theorem ggX9_reading_X0_findReading : GoodIn wsX9_reading wsX0_findReading := goodIn_r _ [20, 21, 22, 23, 24, 19, 25, 26, 27, 28, 29, 30, 31, 32, 33, 9, 34, 35, 36, 7, 8, 10, 11, 37, 38, 39, 40, 41, 42, 43, 44, 45, 46, 47, 48, 49, 50, 51, 52, 53, 54, 55, 56, 57, 58, 59, 60, 61, 62, 63, 64, 65, 66, 67, 68, 69, 70, 71, 72, 73, 74, 75, 76, 77, 78, 79, 80, 81, 82, 83, 84, 85, 86, 87, 88, 89, 90, 91, 92, 93, 94, 95, 96, 97, 98, 99, 100, 101, 102, 103, 104, 105, 106, 134, 135, 136, 137, 138, 121, 122, 123, 124, 125, 126, 127, 128, 129, 130, 131, 132, 133, 139, 140] (by decide +kernel) (by decide +kernel)
set_option maxRecDepth 20000 in
theorem gX9_reading_X0_findReading : GoodIn wsX9_reading (wsV RX9 151 RX0 yX0_findReading wsX0_findReading) := goodIn_app (goodIn_of _ (by decide +kernel)) ggX9_reading_X0_findReading
set_option maxRecDepth 20000 in
theorem ggX9_reading_X2_half : GoodIn wsX9_reading wsX2_half := goodIn_r _ [110, 49, 50, 139, 140] (by decide +kernel) (by decide +kernel)
set_option maxRecDepth 20000 in
theorem gX9_reading_X2_half : GoodIn wsX9_reading (wsV RX9 224 RX2 yX2_half wsX2_half) := goodIn_app (goodIn_of _ (by decide +kernel)) ggX9_reading_X2_half
set_option maxRecDepth 20000 in
theorem ggX9_reading_X5_hasPart : GoodIn wsX9_reading wsX5_hasPart := goodIn_r _ [10, 11, 129, 130, 131, 132, 133] (by decide +kernel) (by decide +kernel)
set_option maxRecDepth 20000 in
theorem gX9_reading_X5_hasPart : GoodIn wsX9_reading (wsV RX9 121 RX5 yX5_hasPart wsX5_hasPart) := goodIn_app (goodIn_of _ (by decide +kernel)) ggX9_reading_X5_hasPart
set_option maxRecDepth 20000 in
theorem ggX9_reading_X9_isHalf : GoodIn wsX9_reading wsX9_isHalf := goodIn_r _ [15] (by decide +kernel) (by decide +kernel)
set_option maxRecDepth 20000 in
theorem gX9_reading_X9_isHalf : GoodIn wsX9_reading (va_wsS RX9 211 yX9_isHalf wsX9_isHalf) := goodIn_app (goodIn_of _ (by decide +kernel)) ggX9_reading_X9_isHalf
theorem hy_X9_reading : yX9_reading.cls = RX9 ∧ yX9_reading.cls ≠ "java/lang/invoke/MethodHandle" ∧ yX9_reading.cls ≠ "java/lang/invoke/VarHandle" ∧ (parseMethodDescriptor yX9_reading.desc).map (fun d => d.parameters.length) = some 2 := by decide +kernel
set_option maxRecDepth 100000 in
theorem D_X9_reading : gDec cX9_reading [(0, (.aload_n 0, 1)), (1, (.getfield 19, 3)), (4, (.getfield 84, 3)), (7, (.iload_n 1, 1)), (8, (.invokevirtual 121, 3)), (11, (.ifCond .ne 7, 3)), (14, (.ldc2_w 209, 3)), (17, (.lreturn, 1)), (18, (.iload_n 2, 1)), (19, (.invokestatic 211, 3)), (22, (.ifCond .ne 7, 3)), (25, (.ldc2_w 214, 3)), (28, (.lreturn, 1)), (29, (.aload_n 0, 1)), (30, (.getfield 53, 3)), (33, (.aload_n 0, 1)), (34, (.getfield 19, 3)), (37, (.iload_n 1, 1)), (38, (.invokevirtual 151, 3)), (41, (.iload_n 2, 1)), (42, (.invokevirtual 224, 3)), (45, (.lreturn, 1))] = true := by decide +kernel
set_option maxRecDepth 100000 in
theorem in_X9_reading_X8 : ∀ x ∈ u_ws RX8 TX8 8, x ∈ wsX9_reading := by decide +kernel
set_option maxRecDepth 100000 in
theorem in_X9_reading_X9 : ∀ x ∈ u_ws RX9 TX9 10, x ∈ wsX9_reading := by decide +kernel
theorem fl_X9_reading_19 : gF wsX9_reading RX9 19 9 1 := ⟨RX9, TX9, 10, rfl, by decide, in_X9_reading_X9, by decide +kernel⟩
theorem fl_X9_reading_84 : gF wsX9_reading RX9 84 8 0 := ⟨RX8, TX8, 8, rfl, by decide, in_X9_reading_X8, by decide +kernel⟩
theorem fl_X9_reading_53 : gF wsX9_reading RX9 53 9 7 := ⟨RX9, TX9, 10, rfl, by decide, in_X9_reading_X9, by decide +kernel⟩
theorem lc_X9_reading_214 : Jvm.Cond.constantLong RX9 214 (-2) ∈ wsX9_reading := by decide +kernel
theorem lc_X9_reading_209 : Jvm.Cond.constantLong RX9 209 (-1) ∈ wsX9_reading := by decide +kernel
def f_X9_reading (a0 : Nat) (x1 : Int32) (x2 : Int32) (h : gHp) : Option (Int64 × gHp) := (f_X5_hasPart (a0 + 3 + 1) x1 h).bind fun v2 => if v2 = true then (f_X9_isHalf x2 h).bind fun v4 => if v4 = true then (f_X0_findReading (a0 + 113) (a0 + 3) x1 h).bind fun v6 => (f_X2_half v6.1 x2 v6.2).bind fun v8 => some (v8, v6.2) else some ((-2), h) else some ((-1), h)
set_option maxRecDepth 20000 in
set_option maxHeartbeats 4000000 in
theorem m_X9_reading (w : gWd) (h : gHp) {a0 : Nat} (A0 : is_X9 w a0) (x1 : Int32) (x2 : Int32) {o : Int64 × gHp} (hF : f_X9_reading a0 x1 x2 h = some o) : gMet w yX9_reading wsX9_reading rm_X9_reading [.ref a0, .int x1, .int x2] h (some (.long o.1)) o.2 := by
  refine gMet_of (cc := cX9_reading) (maxL := 3) (ret := (some .long)) (fr := 6) (lo := 154) (own := RX9) [(0, .ref a0), (1, .int x1), (2, .int x2)] (by decide) rfl rfl (Nat.le_of_ble_eq_true rfl) rfl (Nat.le_refl _) (Nat.le_refl _) (fun g C E => ?_)
  rw [f_X9_reading] at hF
  refine gx_aload_n C 0 (gDec_at D_X9_reading 0 rfl) rfl rfl ?_
  refine gx_getr C fl_X9_reading_19 (is_X9_sh A0) rfl (gDec_at D_X9_reading 1 rfl) ?_
  refine gx_getr C fl_X9_reading_84 (is_X8_sh (is_X9_now A0)) rfl (gDec_at D_X9_reading 2 rfl) ?_
  refine gx_iload_n C 1 (gDec_at D_X9_reading 3 rfl) rfl rfl ?_
  obtain ⟨v2, hv1, hF⟩ := gBind hF
  refine gx_callV1 C (st := []) 1 [.int x1] (m_X5_hasPart w h (is_X8_network (is_X9_now A0)) x1 hv1) gX9_reading_X5_hasPart rfl rfl rfl hy_X5_hasPart (Nat.le_of_ble_eq_true rfl) (Nat.le_of_ble_eq_true rfl) (is_X5_sh (is_X8_network (is_X9_now A0))) rfl rfl rfl (Nat.le_of_ble_eq_true rfl) (gDec_at D_X9_reading 4 rfl) ?_
  refine gx_ifz_ne C 18 (gDec_at D_X9_reading 5 rfl) (by decide) (fun c => ?_) (fun c => ?_)
  · replace hF := gPos c hF
    refine gx_iload_n C 2 (gDec_at D_X9_reading 8 rfl) rfl rfl ?_
    obtain ⟨v4, hv3, hF⟩ := gBind hF
    refine gx_callS1 C (st := []) 1 [.int x2] (m_X9_isHalf w h x2 hv3) gX9_reading_X9_isHalf rfl rfl rfl hy_X9_isHalf (Nat.le_of_ble_eq_true rfl) (Nat.le_of_ble_eq_true rfl) rfl rfl (Nat.le_of_ble_eq_true rfl) (gDec_at D_X9_reading 9 rfl) ?_
    refine gx_ifz_ne C 29 (gDec_at D_X9_reading 10 rfl) (by decide) (fun c => ?_) (fun c => ?_)
    · replace hF := gPos c hF
      refine gx_aload_n C 0 (gDec_at D_X9_reading 13 rfl) rfl rfl ?_
      refine gx_getr C fl_X9_reading_53 (is_X9_sh A0) rfl (gDec_at D_X9_reading 14 rfl) ?_
      refine gx_aload_n C 0 (gDec_at D_X9_reading 15 rfl) rfl rfl ?_
      refine gx_getr C fl_X9_reading_19 (is_X9_sh A0) rfl (gDec_at D_X9_reading 16 rfl) ?_
      refine gx_iload_n C 1 (gDec_at D_X9_reading 17 rfl) rfl rfl ?_
      obtain ⟨v6, hv5, hF⟩ := gBind hF
      refine gx_callV1 C (st := []) 2 [.ref (a0 + 3), .int x1] (m_X0_findReading w h (is_X9_circuit A0) (is_X9_now A0) x1 hv5) gX9_reading_X0_findReading rfl rfl rfl hy_X0_findReading (Nat.le_of_ble_eq_true rfl) (Nat.le_of_ble_eq_true rfl) (is_X0_sh (is_X9_circuit A0)) rfl rfl rfl (Nat.le_of_ble_eq_true rfl) (gDec_at D_X9_reading 18 rfl) ?_
      refine gx_iload_n C 2 (gDec_at D_X9_reading 19 rfl) rfl rfl ?_
      obtain ⟨v8, hv7, hF⟩ := gBind hF
      refine gx_callV1 C (st := []) 1 [.int x2] (m_X2_half w v6.2 (t_X0_findReading (is_X9_circuit A0) (is_X9_now A0) x1 hv5) x2 hv7) gX9_reading_X2_half rfl rfl rfl hy_X2_half (Nat.le_of_ble_eq_true rfl) (Nat.le_of_ble_eq_true rfl) (is_X2_sh (t_X0_findReading (is_X9_circuit A0) (is_X9_now A0) x1 hv5)) rfl rfl rfl (Nat.le_of_ble_eq_true rfl) (gDec_at D_X9_reading 20 rfl) ?_
      obtain rfl := Option.some.inj hF
      exact gx_lret C E (gDec_at D_X9_reading 21 rfl)
    · replace hF := gNeg c hF
      refine gx_ldc2 C (v := (-2)) lc_X9_reading_214 (gDec_at D_X9_reading 11 rfl) ?_
      obtain rfl := Option.some.inj hF
      exact gx_lret C E (gDec_at D_X9_reading 12 rfl)
  · replace hF := gNeg c hF
    refine gx_ldc2 C (v := (-1)) lc_X9_reading_209 (gDec_at D_X9_reading 6 rfl) ?_
    obtain rfl := Option.some.inj hF
    exact gx_lret C E (gDec_at D_X9_reading 7 rfl)
/-! LadderBench.loss -/
def rm_X9_loss : Room := { frames := 6, cells := 0, slots := 0, locals := 154 }
set_option maxRecDepth 20000 in
theorem ggX9_loss_X0_findLoss : GoodIn wsX9_loss wsX0_findLoss := goodIn_r _ [14, 15, 16, 17, 18, 19, 20, 21, 22, 23, 13, 24, 25, 26, 27, 28, 29, 30, 31, 32, 7, 33, 34, 35, 5, 6, 8, 9, 36, 37, 38, 39, 40, 41, 42, 43, 44, 45, 46, 47, 48, 49, 50, 51, 52, 53, 54, 55, 56, 57, 58, 59, 60, 61, 62, 63, 64, 65, 66, 67, 68, 69, 70, 71, 72, 73, 74, 75, 76, 77, 78, 79, 80, 81, 82, 83, 84, 85, 86, 87, 88, 89, 90, 91, 92, 93, 94, 95, 96, 97, 98, 99, 100, 101, 102, 103, 104, 105, 106, 107, 108, 132, 133, 134, 135, 136, 137, 138, 119, 120, 121, 122, 123, 124, 125, 126, 127, 128, 129, 130, 131] (by decide +kernel) (by decide +kernel)
set_option maxRecDepth 20000 in
theorem gX9_loss_X0_findLoss : GoodIn wsX9_loss (wsV RX9 233 RX0 yX0_findLoss wsX0_findLoss) := goodIn_app (goodIn_of _ (by decide +kernel)) ggX9_loss_X0_findLoss
set_option maxRecDepth 20000 in
theorem ggX9_loss_X5_hasPart : GoodIn wsX9_loss wsX5_hasPart := goodIn_r _ [8, 9, 127, 128, 129, 130, 131] (by decide +kernel) (by decide +kernel)
set_option maxRecDepth 20000 in
theorem gX9_loss_X5_hasPart : GoodIn wsX9_loss (wsV RX9 121 RX5 yX5_hasPart wsX5_hasPart) := goodIn_app (goodIn_of _ (by decide +kernel)) ggX9_loss_X5_hasPart
theorem hy_X9_loss : yX9_loss.cls = RX9 ∧ yX9_loss.cls ≠ "java/lang/invoke/MethodHandle" ∧ yX9_loss.cls ≠ "java/lang/invoke/VarHandle" ∧ (parseMethodDescriptor yX9_loss.desc).map (fun d => d.parameters.length) = some 1 := by decide +kernel
set_option maxRecDepth 100000 in
theorem D_X9_loss : gDec cX9_loss [(0, (.aload_n 0, 1)), (1, (.getfield 19, 3)), (4, (.getfield 84, 3)), (7, (.iload_n 1, 1)), (8, (.invokevirtual 121, 3)), (11, (.ifCond .ne 5, 3)), (14, (.iconst (-1), 1)), (15, (.ireturn, 1)), (16, (.aload_n 0, 1)), (17, (.getfield 53, 3)), (20, (.aload_n 0, 1)), (21, (.getfield 19, 3)), (24, (.iload_n 1, 1)), (25, (.invokevirtual 233, 3)), (28, (.ireturn, 1))] = true := by decide +kernel
set_option maxRecDepth 100000 in
theorem in_X9_loss_X8 : ∀ x ∈ u_ws RX8 TX8 8, x ∈ wsX9_loss := by decide +kernel
set_option maxRecDepth 100000 in
theorem in_X9_loss_X9 : ∀ x ∈ u_ws RX9 TX9 10, x ∈ wsX9_loss := by decide +kernel
theorem fl_X9_loss_19 : gF wsX9_loss RX9 19 9 1 := ⟨RX9, TX9, 10, rfl, by decide, in_X9_loss_X9, by decide +kernel⟩
theorem fl_X9_loss_84 : gF wsX9_loss RX9 84 8 0 := ⟨RX8, TX8, 8, rfl, by decide, in_X9_loss_X8, by decide +kernel⟩
theorem fl_X9_loss_53 : gF wsX9_loss RX9 53 9 7 := ⟨RX9, TX9, 10, rfl, by decide, in_X9_loss_X9, by decide +kernel⟩
def f_X9_loss (a0 : Nat) (x1 : Int32) (h : gHp) : Option (Int32 × gHp) := (f_X5_hasPart (a0 + 3 + 1) x1 h).bind fun v2 => if v2 = true then (f_X0_findLoss (a0 + 113) (a0 + 3) x1 h).bind fun v4 => some (v4.1, v4.2) else some ((-1), h)
set_option maxRecDepth 20000 in
set_option maxHeartbeats 4000000 in
theorem m_X9_loss (w : gWd) (h : gHp) {a0 : Nat} (A0 : is_X9 w a0) (x1 : Int32) {o : Int32 × gHp} (hF : f_X9_loss a0 x1 h = some o) : gMet w yX9_loss wsX9_loss rm_X9_loss [.ref a0, .int x1] h (some (.int o.1)) o.2 := by
  refine gMet_of (cc := cX9_loss) (maxL := 2) (ret := (some .int)) (fr := 6) (lo := 154) (own := RX9) [(0, .ref a0), (1, .int x1)] (by decide) rfl rfl (Nat.le_of_ble_eq_true rfl) rfl (Nat.le_refl _) (Nat.le_refl _) (fun g C E => ?_)
  rw [f_X9_loss] at hF
  refine gx_aload_n C 0 (gDec_at D_X9_loss 0 rfl) rfl rfl ?_
  refine gx_getr C fl_X9_loss_19 (is_X9_sh A0) rfl (gDec_at D_X9_loss 1 rfl) ?_
  refine gx_getr C fl_X9_loss_84 (is_X8_sh (is_X9_now A0)) rfl (gDec_at D_X9_loss 2 rfl) ?_
  refine gx_iload_n C 1 (gDec_at D_X9_loss 3 rfl) rfl rfl ?_
  obtain ⟨v2, hv1, hF⟩ := gBind hF
  refine gx_callV1 C (st := []) 1 [.int x1] (m_X5_hasPart w h (is_X8_network (is_X9_now A0)) x1 hv1) gX9_loss_X5_hasPart rfl rfl rfl hy_X5_hasPart (Nat.le_of_ble_eq_true rfl) (Nat.le_of_ble_eq_true rfl) (is_X5_sh (is_X8_network (is_X9_now A0))) rfl rfl rfl (Nat.le_of_ble_eq_true rfl) (gDec_at D_X9_loss 4 rfl) ?_
  refine gx_ifz_ne C 16 (gDec_at D_X9_loss 5 rfl) (by decide) (fun c => ?_) (fun c => ?_)
  · replace hF := gPos c hF
    refine gx_aload_n C 0 (gDec_at D_X9_loss 8 rfl) rfl rfl ?_
    refine gx_getr C fl_X9_loss_53 (is_X9_sh A0) rfl (gDec_at D_X9_loss 9 rfl) ?_
    refine gx_aload_n C 0 (gDec_at D_X9_loss 10 rfl) rfl rfl ?_
    refine gx_getr C fl_X9_loss_19 (is_X9_sh A0) rfl (gDec_at D_X9_loss 11 rfl) ?_
    refine gx_iload_n C 1 (gDec_at D_X9_loss 12 rfl) rfl rfl ?_
    obtain ⟨v4, hv3, hF⟩ := gBind hF
    refine gx_callV1 C (st := []) 2 [.ref (a0 + 3), .int x1] (m_X0_findLoss w h (is_X9_circuit A0) (is_X9_now A0) x1 hv3) gX9_loss_X0_findLoss rfl rfl rfl hy_X0_findLoss (Nat.le_of_ble_eq_true rfl) (Nat.le_of_ble_eq_true rfl) (is_X0_sh (is_X9_circuit A0)) rfl rfl rfl (Nat.le_of_ble_eq_true rfl) (gDec_at D_X9_loss 13 rfl) ?_
    obtain rfl := Option.some.inj hF
    exact gx_iret C E (gDec_at D_X9_loss 14 rfl)
  · replace hF := gNeg c hF
    refine gx_iconst C (v := (-1)) (gDec_at D_X9_loss 6 rfl) (by decide) ?_
    obtain rfl := Option.some.inj hF
    exact gx_iret C E (gDec_at D_X9_loss 7 rfl)
/-! LadderBench.noted -/
def rm_X9_noted : Room := { frames := 0, cells := 0, slots := 0, locals := 0 }
theorem hy_X9_noted : yX9_noted.cls = RX9 ∧ yX9_noted.cls ≠ "java/lang/invoke/MethodHandle" ∧ yX9_noted.cls ≠ "java/lang/invoke/VarHandle" ∧ (parseMethodDescriptor yX9_noted.desc).map (fun d => d.parameters.length) = some 2 := by decide +kernel
set_option maxRecDepth 100000 in
theorem D_X9_noted : gDec cX9_noted [(0, (.iload_n 1, 1)), (1, (.ifCond .lt 12, 3)), (4, (.iload_n 2, 1)), (5, (.ifCond .lt 8, 3)), (8, (.iload_n 2, 1)), (9, (.iconst 2, 1)), (10, (.if_icmp .le 7, 3)), (13, (.ldc2_w 214, 3)), (16, (.lreturn, 1)), (17, (.iload_n 1, 1)), (18, (.aload_n 0, 1)), (19, (.getfield 19, 3)), (22, (.getfield 155, 3)), (25, (.getfield 165, 3)), (28, (.if_icmp .lt 7, 3)), (31, (.ldc2_w 228, 3)), (34, (.lreturn, 1)), (35, (.iload_n 2, 1)), (36, (.iconst 2, 1)), (37, (.if_icmp .ne 17, 3)), (40, (.aload_n 0, 1)), (41, (.getfield 19, 3)), (44, (.getfield 155, 3)), (47, (.getfield 237, 3)), (50, (.iload_n 1, 1)), (51, (.iaload, 1)), (52, (.i2l, 1)), (53, (.lreturn, 1)), (54, (.iload_n 2, 1)), (55, (.ifCond .ne 18, 3)), (58, (.aload_n 0, 1)), (59, (.getfield 19, 3)), (62, (.getfield 155, 3)), (65, (.getfield 240, 3)), (68, (.iload_n 1, 1)), (69, (.laload, 1)), (70, (.goto 15, 3)), (73, (.aload_n 0, 1)), (74, (.getfield 19, 3)), (77, (.getfield 155, 3)), (80, (.getfield 244, 3)), (83, (.iload_n 1, 1)), (84, (.laload, 1)), (85, (.lreturn, 1))] = true := by decide +kernel
set_option maxRecDepth 100000 in
theorem in_X9_noted_X7 : ∀ x ∈ u_ws RX7 TX7 4, x ∈ wsX9_noted := by decide +kernel
set_option maxRecDepth 100000 in
theorem in_X9_noted_X8 : ∀ x ∈ u_ws RX8 TX8 8, x ∈ wsX9_noted := by decide +kernel
set_option maxRecDepth 100000 in
theorem in_X9_noted_X9 : ∀ x ∈ u_ws RX9 TX9 10, x ∈ wsX9_noted := by decide +kernel
theorem lc_X9_noted_214 : Jvm.Cond.constantLong RX9 214 (-2) ∈ wsX9_noted := by decide +kernel
theorem fl_X9_noted_19 : gF wsX9_noted RX9 19 9 1 := ⟨RX9, TX9, 10, rfl, by decide, in_X9_noted_X9, by decide +kernel⟩
theorem fl_X9_noted_155 : gF wsX9_noted RX9 155 8 1 := ⟨RX8, TX8, 8, rfl, by decide, in_X9_noted_X8, by decide +kernel⟩
theorem fl_X9_noted_165 : gF wsX9_noted RX9 165 7 3 := ⟨RX7, TX7, 4, rfl, by decide, in_X9_noted_X7, by decide +kernel⟩
theorem fl_X9_noted_244 : gF wsX9_noted RX9 244 7 1 := ⟨RX7, TX7, 4, rfl, by decide, in_X9_noted_X7, by decide +kernel⟩
theorem fl_X9_noted_240 : gF wsX9_noted RX9 240 7 0 := ⟨RX7, TX7, 4, rfl, by decide, in_X9_noted_X7, by decide +kernel⟩
theorem fl_X9_noted_237 : gF wsX9_noted RX9 237 7 2 := ⟨RX7, TX7, 4, rfl, by decide, in_X9_noted_X7, by decide +kernel⟩
theorem lc_X9_noted_228 : Jvm.Cond.constantLong RX9 228 (-4) ∈ wsX9_noted := by decide +kernel
def f_X9_noted (a0 : Nat) (x1 : Int32) (x2 : Int32) (h : gHp) : Option (Int64) := if x1 < 0 then some (-2) else if x2 < 0 then some (-2) else if x2 ≤ 2 then if x1 < (h.1 (a0 + 3 + 6) 3) then if x2 = 2 then if gIn x1 20 then some ((h.1 (a0 + 3 + 6 + 3) (gN x1)).toInt64) else none else if x2 = 0 then if gIn x1 20 then some (h.2 (a0 + 3 + 6 + 1) (gN x1)) else none else if gIn x1 20 then some (h.2 (a0 + 3 + 6 + 2) (gN x1)) else none else some (-4) else some (-2)
set_option maxRecDepth 20000 in
set_option maxHeartbeats 4000000 in
theorem m_X9_noted (w : gWd) (h : gHp) {a0 : Nat} (A0 : is_X9 w a0) (x1 : Int32) (x2 : Int32) {o : Int64} (hF : f_X9_noted a0 x1 x2 h = some o) : gMet w yX9_noted wsX9_noted rm_X9_noted [.ref a0, .int x1, .int x2] h (some (.long o)) h := by
  refine gMet_of (cc := cX9_noted) (maxL := 3) (ret := (some .long)) (fr := 0) (lo := 0) (own := RX9) [(0, .ref a0), (1, .int x1), (2, .int x2)] (by decide) rfl rfl (Nat.le_of_ble_eq_true rfl) rfl (Nat.le_refl _) (Nat.le_refl _) (fun g C E => ?_)
  rw [f_X9_noted] at hF
  refine gx_iload_n C 1 (gDec_at D_X9_noted 0 rfl) rfl rfl ?_
  refine gx_if_lt C 13 (gDec_at D_X9_noted 1 rfl) (by decide) (fun c => ?_) (fun c => ?_)
  · replace hF := gPos c hF
    refine gx_ldc2 C (v := (-2)) lc_X9_noted_214 (gDec_at D_X9_noted 7 rfl) ?_
    obtain rfl := Option.some.inj hF
    exact gx_lret C E (gDec_at D_X9_noted 8 rfl)
  · replace hF := gNeg c hF
    refine gx_iload_n C 2 (gDec_at D_X9_noted 2 rfl) rfl rfl ?_
    refine gx_if_lt C 13 (gDec_at D_X9_noted 3 rfl) (by decide) (fun c => ?_) (fun c => ?_)
    · replace hF := gPos c hF
      refine gx_ldc2 C (v := (-2)) lc_X9_noted_214 (gDec_at D_X9_noted 7 rfl) ?_
      obtain rfl := Option.some.inj hF
      exact gx_lret C E (gDec_at D_X9_noted 8 rfl)
    · replace hF := gNeg c hF
      refine gx_iload_n C 2 (gDec_at D_X9_noted 4 rfl) rfl rfl ?_
      refine gx_iconst C (v := 2) (gDec_at D_X9_noted 5 rfl) (by decide) ?_
      refine gx_icmp_le C 17 (gDec_at D_X9_noted 6 rfl) (by decide) (fun c => ?_) (fun c => ?_)
      · replace hF := gPos c hF
        refine gx_iload_n C 1 (gDec_at D_X9_noted 9 rfl) rfl rfl ?_
        refine gx_aload_n C 0 (gDec_at D_X9_noted 10 rfl) rfl rfl ?_
        refine gx_getr C fl_X9_noted_19 (is_X9_sh A0) rfl (gDec_at D_X9_noted 11 rfl) ?_
        refine gx_getr C fl_X9_noted_155 (is_X8_sh (is_X9_now A0)) rfl (gDec_at D_X9_noted 12 rfl) ?_
        refine gx_geti C fl_X9_noted_165 (is_X7_sh (is_X8_notes (is_X9_now A0))) rfl (gDec_at D_X9_noted 13 rfl) ?_
        refine gx_icmp_lt C 35 (gDec_at D_X9_noted 14 rfl) (by decide) (fun c => ?_) (fun c => ?_)
        · replace hF := gPos c hF
          refine gx_iload_n C 2 (gDec_at D_X9_noted 17 rfl) rfl rfl ?_
          refine gx_iconst C (v := 2) (gDec_at D_X9_noted 18 rfl) (by decide) ?_
          refine gx_icmp_ne C 54 (gDec_at D_X9_noted 19 rfl) (by decide) (fun c => ?_) (fun c => ?_)
          · replace hF := gNeg c hF
            refine gx_iload_n C 2 (gDec_at D_X9_noted 28 rfl) rfl rfl ?_
            refine gx_if_ne C 73 (gDec_at D_X9_noted 29 rfl) (by decide) (fun c => ?_) (fun c => ?_)
            · replace hF := gNeg c hF
              refine gx_aload_n C 0 (gDec_at D_X9_noted 37 rfl) rfl rfl ?_
              refine gx_getr C fl_X9_noted_19 (is_X9_sh A0) rfl (gDec_at D_X9_noted 38 rfl) ?_
              refine gx_getr C fl_X9_noted_155 (is_X8_sh (is_X9_now A0)) rfl (gDec_at D_X9_noted 39 rfl) ?_
              refine gx_getr C fl_X9_noted_244 (is_X7_sh (is_X8_notes (is_X9_now A0))) rfl (gDec_at D_X9_noted 40 rfl) ?_
              refine gx_iload_n C 1 (gDec_at D_X9_noted 41 rfl) rfl rfl ?_
              obtain ⟨b1, hF⟩ := gGd hF
              refine gx_laload C (is_X7_lower (is_X8_notes (is_X9_now A0))) b1 (gDec_at D_X9_noted 42 rfl) ?_
              obtain rfl := Option.some.inj hF
              exact gx_lret C E (gDec_at D_X9_noted 43 rfl)
            · replace hF := gPos c hF
              refine gx_aload_n C 0 (gDec_at D_X9_noted 30 rfl) rfl rfl ?_
              refine gx_getr C fl_X9_noted_19 (is_X9_sh A0) rfl (gDec_at D_X9_noted 31 rfl) ?_
              refine gx_getr C fl_X9_noted_155 (is_X8_sh (is_X9_now A0)) rfl (gDec_at D_X9_noted 32 rfl) ?_
              refine gx_getr C fl_X9_noted_240 (is_X7_sh (is_X8_notes (is_X9_now A0))) rfl (gDec_at D_X9_noted 33 rfl) ?_
              refine gx_iload_n C 1 (gDec_at D_X9_noted 34 rfl) rfl rfl ?_
              obtain ⟨b2, hF⟩ := gGd hF
              refine gx_laload C (is_X7_upper (is_X8_notes (is_X9_now A0))) b2 (gDec_at D_X9_noted 35 rfl) ?_
              refine gx_goto C 85 (gDec_at D_X9_noted 36 rfl) (by decide) ?_
              obtain rfl := Option.some.inj hF
              exact gx_lret C E (gDec_at D_X9_noted 43 rfl)
          · replace hF := gPos c hF
            refine gx_aload_n C 0 (gDec_at D_X9_noted 20 rfl) rfl rfl ?_
            refine gx_getr C fl_X9_noted_19 (is_X9_sh A0) rfl (gDec_at D_X9_noted 21 rfl) ?_
            refine gx_getr C fl_X9_noted_155 (is_X8_sh (is_X9_now A0)) rfl (gDec_at D_X9_noted 22 rfl) ?_
            refine gx_getr C fl_X9_noted_237 (is_X7_sh (is_X8_notes (is_X9_now A0))) rfl (gDec_at D_X9_noted 23 rfl) ?_
            refine gx_iload_n C 1 (gDec_at D_X9_noted 24 rfl) rfl rfl ?_
            obtain ⟨b3, hF⟩ := gGd hF
            refine gx_iaload C (is_X7_times (is_X8_notes (is_X9_now A0))) b3 (gDec_at D_X9_noted 25 rfl) ?_
            refine gx_i2l C (gDec_at D_X9_noted 26 rfl) ?_
            obtain rfl := Option.some.inj hF
            exact gx_lret C E (gDec_at D_X9_noted 27 rfl)
        · replace hF := gNeg c hF
          refine gx_ldc2 C (v := (-4)) lc_X9_noted_228 (gDec_at D_X9_noted 15 rfl) ?_
          obtain rfl := Option.some.inj hF
          exact gx_lret C E (gDec_at D_X9_noted 16 rfl)
      · replace hF := gNeg c hF
        refine gx_ldc2 C (v := (-2)) lc_X9_noted_214 (gDec_at D_X9_noted 7 rfl) ?_
        obtain rfl := Option.some.inj hF
        exact gx_lret C E (gDec_at D_X9_noted 8 rfl)
/-! LadderBench.solve -/
def rm_X9_solve : Room := { frames := 6, cells := 0, slots := 0, locals := 160 }
set_option maxRecDepth 20000 in
theorem ggX9_solve_X0_solveFor : GoodIn wsX9_solve wsX0_solveFor := goodIn_r _ [33, 34, 35, 36, 37, 38, 39, 40, 41, 32, 42, 43, 44, 45, 46, 16, 47, 48, 49, 50, 51, 52, 53, 54, 55, 56, 57, 58, 59, 60, 61, 20, 21, 22, 23, 24, 25, 26, 27, 28, 62, 63, 64, 65, 66, 67, 68, 69, 70, 71, 72, 73, 74, 75, 76, 77, 78, 79, 80, 81, 82, 83, 84, 85, 86, 87, 88, 89, 90, 91, 92, 93, 94, 95, 96, 97, 98, 99, 100, 101, 116, 117, 118, 119, 120, 121, 122, 123, 124, 125, 126, 127, 128, 131, 132, 133, 134, 135, 129, 130] (by decide +kernel) (by decide +kernel)
set_option maxRecDepth 20000 in
theorem gX9_solve_X0_solveFor : GoodIn wsX9_solve (wsV RX9 250 RX0 yX0_solveFor wsX0_solveFor) := goodIn_app (goodIn_of _ (by decide +kernel)) ggX9_solve_X0_solveFor
set_option maxRecDepth 20000 in
theorem ggX9_solve_X2_half : GoodIn wsX9_solve wsX2_half := goodIn_r _ [105, 24, 25, 129, 130] (by decide +kernel) (by decide +kernel)
set_option maxRecDepth 20000 in
theorem gX9_solve_X2_half : GoodIn wsX9_solve (wsV RX9 224 RX2 yX2_half wsX2_half) := goodIn_app (goodIn_of _ (by decide +kernel)) ggX9_solve_X2_half
set_option maxRecDepth 20000 in
theorem ggX9_solve_X2_put : GoodIn wsX9_solve wsX2_put := goodIn_r _ [23, 24, 25, 26, 27, 22, 28, 129, 130] (by decide +kernel) (by decide +kernel)
set_option maxRecDepth 20000 in
theorem gX9_solve_X2_put : GoodIn wsX9_solve (wsV RX9 247 RX2 yX2_put wsX2_put) := goodIn_app (goodIn_of _ (by decide +kernel)) ggX9_solve_X2_put
set_option maxRecDepth 20000 in
theorem ggX9_solve_X5_hasArm : GoodIn wsX9_solve wsX5_hasArm := goodIn_r _ [17, 18, 124, 125, 126, 127, 128] (by decide +kernel) (by decide +kernel)
set_option maxRecDepth 20000 in
theorem gX9_solve_X5_hasArm : GoodIn wsX9_solve (wsV RX9 110 RX5 yX5_hasArm wsX5_hasArm) := goodIn_app (goodIn_of _ (by decide +kernel)) ggX9_solve_X5_hasArm
set_option maxRecDepth 20000 in
theorem ggX9_solve_X9_indexOfLetter : GoodIn wsX9_solve wsX9_indexOfLetter := goodIn_r _ [12] (by decide +kernel) (by decide +kernel)
set_option maxRecDepth 20000 in
theorem gX9_solve_X9_indexOfLetter : GoodIn wsX9_solve (va_wsS RX9 197 yX9_indexOfLetter wsX9_indexOfLetter) := goodIn_app (goodIn_of _ (by decide +kernel)) ggX9_solve_X9_indexOfLetter
theorem hy_X9_solve : yX9_solve.cls = RX9 ∧ yX9_solve.cls ≠ "java/lang/invoke/MethodHandle" ∧ yX9_solve.cls ≠ "java/lang/invoke/VarHandle" ∧ (parseMethodDescriptor yX9_solve.desc).map (fun d => d.parameters.length) = some 4 := by decide +kernel
set_option maxRecDepth 100000 in
theorem D_X9_solve : gDec cX9_solve [(0, (.iload_n 1, 1)), (1, (.invokestatic 197, 3)), (4, (.istore 5, 2)), (6, (.aload_n 0, 1)), (7, (.getfield 19, 3)), (10, (.getfield 84, 3)), (13, (.iload 5, 2)), (15, (.invokevirtual 110, 3)), (18, (.ifCond .ne 7, 3)), (21, (.ldc2_w 209, 3)), (24, (.lreturn, 1)), (25, (.iload_n 2, 1)), (26, (.ifCond .lt 21, 3)), (29, (.iload_n 2, 1)), (30, (.sipush 9999, 3)), (33, (.if_icmp .gt 14, 3)), (36, (.iload_n 3, 1)), (37, (.iconst 1, 1)), (38, (.if_icmp .lt 9, 3)), (41, (.iload_n 3, 1)), (42, (.bipush 99, 2)), (44, (.if_icmp .le 7, 3)), (47, (.ldc2_w 214, 3)), (50, (.lreturn, 1)), (51, (.iload 4, 2)), (53, (.ifCond .lt 9, 3)), (56, (.iload 4, 2)), (58, (.iconst 2, 1)), (59, (.if_icmp .le 7, 3)), (62, (.ldc2_w 214, 3)), (65, (.lreturn, 1)), (66, (.aload_n 0, 1)), (67, (.getfield 60, 3)), (70, (.iload_n 2, 1)), (71, (.i2l, 1)), (72, (.iload_n 3, 1)), (73, (.i2l, 1)), (74, (.invokevirtual 247, 3)), (77, (.aload_n 0, 1)), (78, (.getfield 53, 3)), (81, (.aload_n 0, 1)), (82, (.getfield 19, 3)), (85, (.aload_n 0, 1)), (86, (.getfield 19, 3)), (89, (.getfield 84, 3)), (92, (.getfield 206, 3)), (95, (.iload 5, 2)), (97, (.iaload, 1)), (98, (.aload_n 0, 1)), (99, (.getfield 60, 3)), (102, (.invokevirtual 250, 3)), (105, (.istore 6, 2)), (107, (.iload 4, 2)), (109, (.ifCond .ne 7, 3)), (112, (.iload 6, 2)), (114, (.i2l, 1)), (115, (.lreturn, 1)), (116, (.iload 6, 2)), (118, (.iconst 1, 1)), (119, (.if_icmp .ne 17, 3)), (122, (.aload_n 0, 1)), (123, (.getfield 60, 3)), (126, (.iload 4, 2)), (128, (.iconst 1, 1)), (129, (.isub, 1)), (130, (.invokevirtual 224, 3)), (133, (.goto 6, 3)), (136, (.ldc2_w 228, 3)), (139, (.lreturn, 1))] = true := by decide +kernel
set_option maxRecDepth 100000 in
theorem in_X9_solve_X5 : ∀ x ∈ u_ws RX5 TX5 5, x ∈ wsX9_solve := by decide +kernel
set_option maxRecDepth 100000 in
theorem in_X9_solve_X8 : ∀ x ∈ u_ws RX8 TX8 8, x ∈ wsX9_solve := by decide +kernel
set_option maxRecDepth 100000 in
theorem in_X9_solve_X9 : ∀ x ∈ u_ws RX9 TX9 10, x ∈ wsX9_solve := by decide +kernel
theorem fl_X9_solve_19 : gF wsX9_solve RX9 19 9 1 := ⟨RX9, TX9, 10, rfl, by decide, in_X9_solve_X9, by decide +kernel⟩
theorem fl_X9_solve_84 : gF wsX9_solve RX9 84 8 0 := ⟨RX8, TX8, 8, rfl, by decide, in_X9_solve_X8, by decide +kernel⟩
theorem lc_X9_solve_214 : Jvm.Cond.constantLong RX9 214 (-2) ∈ wsX9_solve := by decide +kernel
theorem fl_X9_solve_60 : gF wsX9_solve RX9 60 9 8 := ⟨RX9, TX9, 10, rfl, by decide, in_X9_solve_X9, by decide +kernel⟩
theorem fl_X9_solve_53 : gF wsX9_solve RX9 53 9 7 := ⟨RX9, TX9, 10, rfl, by decide, in_X9_solve_X9, by decide +kernel⟩
theorem fl_X9_solve_206 : gF wsX9_solve RX9 206 5 3 := ⟨RX5, TX5, 5, rfl, by decide, in_X9_solve_X5, by decide +kernel⟩
theorem lc_X9_solve_228 : Jvm.Cond.constantLong RX9 228 (-4) ∈ wsX9_solve := by decide +kernel
theorem lc_X9_solve_209 : Jvm.Cond.constantLong RX9 209 (-1) ∈ wsX9_solve := by decide +kernel
def f_X9_solve (a0 : Nat) (x1 : Int32) (x2 : Int32) (x3 : Int32) (x4 : Int32) (h : gHp) : Option (Int64 × gHp) := (f_X9_indexOfLetter x1 h).bind fun v2 => (f_X5_hasArm (a0 + 3 + 1) v2 h).bind fun v4 => if v4 = true then if x2 < 0 then some ((-2), h) else if 9999 < x2 then some ((-2), h) else if x3 < 1 then some ((-2), h) else if x3 ≤ 99 then if x4 < 0 then some ((-2), h) else if x4 ≤ 2 then (f_X2_put (a0 + 141) x2.toInt64 x3.toInt64 h).bind fun v6 => if gIn v2 6 then (f_X0_solveFor (a0 + 113) (a0 + 3) (v6.1 (a0 + 3 + 1 + 4) (gN v2)) (a0 + 141) v6).bind fun v9 => if x4 = 0 then some (v9.1.toInt64, v9.2) else if v9.1 = 1 then (f_X2_half (a0 + 141) (x4 - 1) v9.2).bind fun v11 => some (v11, v9.2) else some ((-4), v9.2) else none else some ((-2), h) else some ((-2), h) else some ((-1), h)
set_option maxRecDepth 20000 in
set_option maxHeartbeats 4000000 in
theorem m_X9_solve (w : gWd) (h : gHp) {a0 : Nat} (A0 : is_X9 w a0) (x1 : Int32) (x2 : Int32) (x3 : Int32) (x4 : Int32) {o : Int64 × gHp} (hF : f_X9_solve a0 x1 x2 x3 x4 h = some o) : gMet w yX9_solve wsX9_solve rm_X9_solve [.ref a0, .int x1, .int x2, .int x3, .int x4] h (some (.long o.1)) o.2 := by
  refine gMet_of (cc := cX9_solve) (maxL := 7) (ret := (some .long)) (fr := 6) (lo := 160) (own := RX9) [(0, .ref a0), (1, .int x1), (2, .int x2), (3, .int x3), (4, .int x4)] (by decide) rfl rfl (Nat.le_of_ble_eq_true rfl) rfl (Nat.le_refl _) (Nat.le_refl _) (fun g C E => ?_)
  rw [f_X9_solve] at hF
  refine gx_iload_n C 1 (gDec_at D_X9_solve 0 rfl) rfl rfl ?_
  obtain ⟨v2, hv1, hF⟩ := gBind hF
  refine gx_callS1 C (st := []) 1 [.int x1] (m_X9_indexOfLetter w h x1 hv1) gX9_solve_X9_indexOfLetter rfl rfl rfl hy_X9_indexOfLetter (Nat.le_of_ble_eq_true rfl) (Nat.le_of_ble_eq_true rfl) rfl rfl (Nat.le_of_ble_eq_true rfl) (gDec_at D_X9_solve 1 rfl) ?_
  refine gx_istore C (lv' := [(5, .int v2), (0, .ref a0), (1, .int x1), (2, .int x2), (3, .int x3), (4, .int x4)]) (gDec_at D_X9_solve 2 rfl) (Nat.le_of_ble_eq_true rfl) rfl ?_
  refine gx_aload_n C 1 (gDec_at D_X9_solve 3 rfl) rfl rfl ?_
  refine gx_getr C fl_X9_solve_19 (is_X9_sh A0) rfl (gDec_at D_X9_solve 4 rfl) ?_
  refine gx_getr C fl_X9_solve_84 (is_X8_sh (is_X9_now A0)) rfl (gDec_at D_X9_solve 5 rfl) ?_
  refine gx_iload C 0 (gDec_at D_X9_solve 6 rfl) rfl ?_
  obtain ⟨v4, hv3, hF⟩ := gBind hF
  refine gx_callV1 C (st := []) 1 [.int v2] (m_X5_hasArm w h (is_X8_network (is_X9_now A0)) v2 hv3) gX9_solve_X5_hasArm rfl rfl rfl hy_X5_hasArm (Nat.le_of_ble_eq_true rfl) (Nat.le_of_ble_eq_true rfl) (is_X5_sh (is_X8_network (is_X9_now A0))) rfl rfl rfl (Nat.le_of_ble_eq_true rfl) (gDec_at D_X9_solve 7 rfl) ?_
  refine gx_ifz_ne C 25 (gDec_at D_X9_solve 8 rfl) (by decide) (fun c => ?_) (fun c => ?_)
  · replace hF := gPos c hF
    refine gx_iload_n C 3 (gDec_at D_X9_solve 11 rfl) rfl rfl ?_
    refine gx_if_lt C 47 (gDec_at D_X9_solve 12 rfl) (by decide) (fun c => ?_) (fun c => ?_)
    · replace hF := gPos c hF
      refine gx_ldc2 C (v := (-2)) lc_X9_solve_214 (gDec_at D_X9_solve 22 rfl) ?_
      obtain rfl := Option.some.inj hF
      exact gx_lret C E (gDec_at D_X9_solve 23 rfl)
    · replace hF := gNeg c hF
      refine gx_iload_n C 3 (gDec_at D_X9_solve 13 rfl) rfl rfl ?_
      refine gx_sipush C (v := 9999) (gDec_at D_X9_solve 14 rfl) (by decide) ?_
      refine gx_icmp_gt C 47 (gDec_at D_X9_solve 15 rfl) (by decide) (fun c => ?_) (fun c => ?_)
      · replace hF := gPos c hF
        refine gx_ldc2 C (v := (-2)) lc_X9_solve_214 (gDec_at D_X9_solve 22 rfl) ?_
        obtain rfl := Option.some.inj hF
        exact gx_lret C E (gDec_at D_X9_solve 23 rfl)
      · replace hF := gNeg c hF
        refine gx_iload_n C 4 (gDec_at D_X9_solve 16 rfl) rfl rfl ?_
        refine gx_iconst C (v := 1) (gDec_at D_X9_solve 17 rfl) (by decide) ?_
        refine gx_icmp_lt C 47 (gDec_at D_X9_solve 18 rfl) (by decide) (fun c => ?_) (fun c => ?_)
        · replace hF := gPos c hF
          refine gx_ldc2 C (v := (-2)) lc_X9_solve_214 (gDec_at D_X9_solve 22 rfl) ?_
          obtain rfl := Option.some.inj hF
          exact gx_lret C E (gDec_at D_X9_solve 23 rfl)
        · replace hF := gNeg c hF
          refine gx_iload_n C 4 (gDec_at D_X9_solve 19 rfl) rfl rfl ?_
          refine gx_bipush C (v := 99) (gDec_at D_X9_solve 20 rfl) (by decide) ?_
          refine gx_icmp_le C 51 (gDec_at D_X9_solve 21 rfl) (by decide) (fun c => ?_) (fun c => ?_)
          · replace hF := gPos c hF
            refine gx_iload C 5 (gDec_at D_X9_solve 24 rfl) rfl ?_
            refine gx_if_lt C 62 (gDec_at D_X9_solve 25 rfl) (by decide) (fun c => ?_) (fun c => ?_)
            · replace hF := gPos c hF
              refine gx_ldc2 C (v := (-2)) lc_X9_solve_214 (gDec_at D_X9_solve 29 rfl) ?_
              obtain rfl := Option.some.inj hF
              exact gx_lret C E (gDec_at D_X9_solve 30 rfl)
            · replace hF := gNeg c hF
              refine gx_iload C 5 (gDec_at D_X9_solve 26 rfl) rfl ?_
              refine gx_iconst C (v := 2) (gDec_at D_X9_solve 27 rfl) (by decide) ?_
              refine gx_icmp_le C 66 (gDec_at D_X9_solve 28 rfl) (by decide) (fun c => ?_) (fun c => ?_)
              · replace hF := gPos c hF
                refine gx_aload_n C 1 (gDec_at D_X9_solve 31 rfl) rfl rfl ?_
                refine gx_getr C fl_X9_solve_60 (is_X9_sh A0) rfl (gDec_at D_X9_solve 32 rfl) ?_
                refine gx_iload_n C 3 (gDec_at D_X9_solve 33 rfl) rfl rfl ?_
                refine gx_i2l C (gDec_at D_X9_solve 34 rfl) ?_
                refine gx_iload_n C 4 (gDec_at D_X9_solve 35 rfl) rfl rfl ?_
                refine gx_i2l C (gDec_at D_X9_solve 36 rfl) ?_
                obtain ⟨v6, hv5, hF⟩ := gBind hF
                refine gx_callV0 C (st := []) 2 [.long x2.toInt64, .long x3.toInt64] (m_X2_put w h (is_X9_wanted A0) x2.toInt64 x3.toInt64 hv5) gX9_solve_X2_put rfl rfl rfl hy_X2_put (Nat.le_of_ble_eq_true rfl) (Nat.le_of_ble_eq_true rfl) (is_X2_sh (is_X9_wanted A0)) rfl rfl rfl (Nat.le_of_ble_eq_true rfl) (gDec_at D_X9_solve 37 rfl) ?_
                refine gx_aload_n C 1 (gDec_at D_X9_solve 38 rfl) rfl rfl ?_
                refine gx_getr C fl_X9_solve_53 (is_X9_sh A0) rfl (gDec_at D_X9_solve 39 rfl) ?_
                refine gx_aload_n C 1 (gDec_at D_X9_solve 40 rfl) rfl rfl ?_
                refine gx_getr C fl_X9_solve_19 (is_X9_sh A0) rfl (gDec_at D_X9_solve 41 rfl) ?_
                refine gx_aload_n C 1 (gDec_at D_X9_solve 42 rfl) rfl rfl ?_
                refine gx_getr C fl_X9_solve_19 (is_X9_sh A0) rfl (gDec_at D_X9_solve 43 rfl) ?_
                refine gx_getr C fl_X9_solve_84 (is_X8_sh (is_X9_now A0)) rfl (gDec_at D_X9_solve 44 rfl) ?_
                refine gx_getr C fl_X9_solve_206 (is_X5_sh (is_X8_network (is_X9_now A0))) rfl (gDec_at D_X9_solve 45 rfl) ?_
                refine gx_iload C 0 (gDec_at D_X9_solve 46 rfl) rfl ?_
                obtain ⟨b7, hF⟩ := gGd hF
                refine gx_iaload C (is_X5_partOfArm (is_X8_network (is_X9_now A0))) b7 (gDec_at D_X9_solve 47 rfl) ?_
                refine gx_aload_n C 1 (gDec_at D_X9_solve 48 rfl) rfl rfl ?_
                refine gx_getr C fl_X9_solve_60 (is_X9_sh A0) rfl (gDec_at D_X9_solve 49 rfl) ?_
                obtain ⟨v9, hv8, hF⟩ := gBind hF
                refine gx_callV1 C (st := []) 3 [.ref (a0 + 3), .int (v6.1 (a0 + 3 + 1 + 4) (gN v2)), .ref (a0 + 141)] (m_X0_solveFor w v6 (is_X9_circuit A0) (is_X9_now A0) (v6.1 (a0 + 3 + 1 + 4) (gN v2)) (is_X9_wanted A0) hv8) gX9_solve_X0_solveFor rfl rfl rfl hy_X0_solveFor (Nat.le_of_ble_eq_true rfl) (Nat.le_of_ble_eq_true rfl) (is_X0_sh (is_X9_circuit A0)) rfl rfl rfl (Nat.le_of_ble_eq_true rfl) (gDec_at D_X9_solve 50 rfl) ?_
                refine gx_istore C (lv' := [(6, .int v9.1), (5, .int v2), (0, .ref a0), (1, .int x1), (2, .int x2), (3, .int x3), (4, .int x4)]) (gDec_at D_X9_solve 51 rfl) (Nat.le_of_ble_eq_true rfl) rfl ?_
                refine gx_iload C 6 (gDec_at D_X9_solve 52 rfl) rfl ?_
                refine gx_if_ne C 116 (gDec_at D_X9_solve 53 rfl) (by decide) (fun c => ?_) (fun c => ?_)
                · replace hF := gNeg c hF
                  refine gx_iload C 0 (gDec_at D_X9_solve 57 rfl) rfl ?_
                  refine gx_iconst C (v := 1) (gDec_at D_X9_solve 58 rfl) (by decide) ?_
                  refine gx_icmp_ne C 136 (gDec_at D_X9_solve 59 rfl) (by decide) (fun c => ?_) (fun c => ?_)
                  · replace hF := gNeg c hF
                    refine gx_ldc2 C (v := (-4)) lc_X9_solve_228 (gDec_at D_X9_solve 67 rfl) ?_
                    obtain rfl := Option.some.inj hF
                    exact gx_lret C E (gDec_at D_X9_solve 68 rfl)
                  · replace hF := gPos c hF
                    refine gx_aload_n C 2 (gDec_at D_X9_solve 60 rfl) rfl rfl ?_
                    refine gx_getr C fl_X9_solve_60 (is_X9_sh A0) rfl (gDec_at D_X9_solve 61 rfl) ?_
                    refine gx_iload C 6 (gDec_at D_X9_solve 62 rfl) rfl ?_
                    refine gx_iconst C (v := 1) (gDec_at D_X9_solve 63 rfl) (by decide) ?_
                    refine gx_isub C (gDec_at D_X9_solve 64 rfl) ?_
                    obtain ⟨v11, hv10, hF⟩ := gBind hF
                    refine gx_callV1 C (st := []) 1 [.int (x4 - 1)] (m_X2_half w v9.2 (is_X9_wanted A0) (x4 - 1) hv10) gX9_solve_X2_half rfl rfl rfl hy_X2_half (Nat.le_of_ble_eq_true rfl) (Nat.le_of_ble_eq_true rfl) (is_X2_sh (is_X9_wanted A0)) rfl rfl rfl (Nat.le_of_ble_eq_true rfl) (gDec_at D_X9_solve 65 rfl) ?_
                    refine gx_goto C 139 (gDec_at D_X9_solve 66 rfl) (by decide) ?_
                    obtain rfl := Option.some.inj hF
                    exact gx_lret C E (gDec_at D_X9_solve 68 rfl)
                · replace hF := gPos c hF
                  refine gx_iload C 0 (gDec_at D_X9_solve 54 rfl) rfl ?_
                  refine gx_i2l C (gDec_at D_X9_solve 55 rfl) ?_
                  obtain rfl := Option.some.inj hF
                  exact gx_lret C E (gDec_at D_X9_solve 56 rfl)
              · replace hF := gNeg c hF
                refine gx_ldc2 C (v := (-2)) lc_X9_solve_214 (gDec_at D_X9_solve 29 rfl) ?_
                obtain rfl := Option.some.inj hF
                exact gx_lret C E (gDec_at D_X9_solve 30 rfl)
          · replace hF := gNeg c hF
            refine gx_ldc2 C (v := (-2)) lc_X9_solve_214 (gDec_at D_X9_solve 22 rfl) ?_
            obtain rfl := Option.some.inj hF
            exact gx_lret C E (gDec_at D_X9_solve 23 rfl)
  · replace hF := gNeg c hF
    refine gx_ldc2 C (v := (-1)) lc_X9_solve_209 (gDec_at D_X9_solve 9 rfl) ?_
    obtain rfl := Option.some.inj hF
    exact gx_lret C E (gDec_at D_X9_solve 10 rfl)
/-! LadderBench.couldBe -/
def rm_X9_couldBe : Room := { frames := 5, cells := 0, slots := 0, locals := 132 }
set_option maxRecDepth 20000 in
theorem ggX9_couldBe_X0_findOhms : GoodIn wsX9_couldBe wsX0_findOhms := goodIn_r _ [49, 50, 51, 52, 53, 54, 55, 56, 57, 12, 58, 32, 59, 60, 61, 62, 35, 63, 64, 65, 48, 66, 67, 68, 69, 70, 71, 72, 73, 74, 75, 76, 77, 78, 79, 80, 81, 82, 83, 84, 85, 86, 87, 88, 89, 90, 91, 92, 93, 94, 95, 96, 97, 98, 99, 100, 101, 102, 117, 118, 119, 120, 121, 122, 123, 124, 130, 131, 132, 133, 134, 125, 126, 127, 128, 129, 139, 140] (by decide +kernel) (by decide +kernel)
set_option maxRecDepth 20000 in
theorem gX9_couldBe_X0_findOhms : GoodIn wsX9_couldBe (wsV RX9 216 RX0 yX0_findOhms wsX0_findOhms) := goodIn_app (goodIn_of _ (by decide +kernel)) ggX9_couldBe_X0_findOhms
set_option maxRecDepth 20000 in
theorem ggX9_couldBe_X2_isSame : GoodIn wsX9_couldBe wsX2_isSame := goodIn_r _ [106, 75, 76, 139, 140] (by decide +kernel) (by decide +kernel)
set_option maxRecDepth 20000 in
theorem gX9_couldBe_X2_isSame : GoodIn wsX9_couldBe (wsV RX9 276 RX2 yX2_isSame wsX2_isSame) := goodIn_app (goodIn_of _ (by decide +kernel)) ggX9_couldBe_X2_isSame
set_option maxRecDepth 20000 in
theorem ggX9_couldBe_X5_hasArm : GoodIn wsX9_couldBe wsX5_hasArm := goodIn_r _ [13, 14, 130, 131, 132, 133, 134] (by decide +kernel) (by decide +kernel)
set_option maxRecDepth 20000 in
theorem gX9_couldBe_X5_hasArm : GoodIn wsX9_couldBe (wsV RX9 110 RX5 yX5_hasArm wsX5_hasArm) := goodIn_app (goodIn_of _ (by decide +kernel)) ggX9_couldBe_X5_hasArm
set_option maxRecDepth 20000 in
theorem ggX9_couldBe_X8_copy : GoodIn wsX9_couldBe wsX8_copy := goodIn_r _ [19, 20, 21, 22, 23, 24, 25, 26, 27, 28, 29, 30, 12, 31, 32, 33, 34, 14, 35, 36, 37, 38, 39, 40, 41, 42, 43, 44, 117, 118, 119, 120, 121, 122, 123, 124, 130, 131, 132, 133, 134, 135, 136, 137, 138] (by decide +kernel) (by decide +kernel)
set_option maxRecDepth 20000 in
theorem gX9_couldBe_X8_copy : GoodIn wsX9_couldBe (wsV RX9 174 RX8 yX8_copy wsX8_copy) := goodIn_app (goodIn_of _ (by decide +kernel)) ggX9_couldBe_X8_copy
theorem hy_X9_couldBe : yX9_couldBe.cls = RX9 ∧ yX9_couldBe.cls ≠ "java/lang/invoke/MethodHandle" ∧ yX9_couldBe.cls ≠ "java/lang/invoke/VarHandle" ∧ (parseMethodDescriptor yX9_couldBe.desc).map (fun d => d.parameters.length) = some 2 := by decide +kernel
set_option maxRecDepth 100000 in
theorem D_X9_couldBe : gDec cX9_couldBe [(0, (.aload_n 0, 1)), (1, (.getfield 19, 3)), (4, (.getfield 84, 3)), (7, (.iload_n 1, 1)), (8, (.invokevirtual 110, 3)), (11, (.ifCond .eq 15, 3)), (14, (.aload_n 0, 1)), (15, (.getfield 19, 3)), (18, (.getfield 203, 3)), (21, (.iload_n 1, 1)), (22, (.iaload, 1)), (23, (.ifCond .eq 5, 3)), (26, (.iconst 0, 1)), (27, (.ireturn, 1)), (28, (.aload_n 0, 1)), (29, (.getfield 26, 3)), (32, (.aload_n 0, 1)), (33, (.getfield 19, 3)), (36, (.invokevirtual 174, 3)), (39, (.aload_n 0, 1)), (40, (.getfield 26, 3)), (43, (.getfield 203, 3)), (46, (.iload_n 1, 1)), (47, (.iload_n 2, 1)), (48, (.iastore, 1)), (49, (.aload_n 0, 1)), (50, (.getfield 53, 3)), (53, (.aload_n 0, 1)), (54, (.getfield 26, 3)), (57, (.iconst (-1), 1)), (58, (.invokevirtual 216, 3)), (61, (.aload_n 0, 1)), (62, (.getfield 53, 3)), (65, (.getfield 220, 3)), (68, (.aload_n 0, 1)), (69, (.getfield 26, 3)), (72, (.getfield 84, 3)), (75, (.getfield 95, 3)), (78, (.iconst 1, 1)), (79, (.isub, 1)), (80, (.aaload, 1)), (81, (.aload_n 0, 1)), (82, (.getfield 60, 3)), (85, (.invokevirtual 276, 3)), (88, (.ireturn, 1))] = true := by decide +kernel
set_option maxRecDepth 100000 in
theorem in_X9_couldBe_X0 : ∀ x ∈ u_ws RX0 TX0 5, x ∈ wsX9_couldBe := by decide +kernel
set_option maxRecDepth 100000 in
theorem in_X9_couldBe_X5 : ∀ x ∈ u_ws RX5 TX5 5, x ∈ wsX9_couldBe := by decide +kernel
set_option maxRecDepth 100000 in
theorem in_X9_couldBe_X8 : ∀ x ∈ u_ws RX8 TX8 8, x ∈ wsX9_couldBe := by decide +kernel
set_option maxRecDepth 100000 in
theorem in_X9_couldBe_X9 : ∀ x ∈ u_ws RX9 TX9 10, x ∈ wsX9_couldBe := by decide +kernel
theorem fl_X9_couldBe_19 : gF wsX9_couldBe RX9 19 9 1 := ⟨RX9, TX9, 10, rfl, by decide, in_X9_couldBe_X9, by decide +kernel⟩
theorem fl_X9_couldBe_84 : gF wsX9_couldBe RX9 84 8 0 := ⟨RX8, TX8, 8, rfl, by decide, in_X9_couldBe_X8, by decide +kernel⟩
theorem fl_X9_couldBe_203 : gF wsX9_couldBe RX9 203 8 3 := ⟨RX8, TX8, 8, rfl, by decide, in_X9_couldBe_X8, by decide +kernel⟩
theorem fl_X9_couldBe_26 : gF wsX9_couldBe RX9 26 9 3 := ⟨RX9, TX9, 10, rfl, by decide, in_X9_couldBe_X9, by decide +kernel⟩
theorem fl_X9_couldBe_53 : gF wsX9_couldBe RX9 53 9 7 := ⟨RX9, TX9, 10, rfl, by decide, in_X9_couldBe_X9, by decide +kernel⟩
theorem fl_X9_couldBe_220 : gF wsX9_couldBe RX9 220 0 0 := ⟨RX0, TX0, 5, rfl, by decide, in_X9_couldBe_X0, by decide +kernel⟩
theorem fl_X9_couldBe_95 : gF wsX9_couldBe RX9 95 5 4 := ⟨RX5, TX5, 5, rfl, by decide, in_X9_couldBe_X5, by decide +kernel⟩
theorem fl_X9_couldBe_60 : gF wsX9_couldBe RX9 60 9 8 := ⟨RX9, TX9, 10, rfl, by decide, in_X9_couldBe_X9, by decide +kernel⟩
def f_X9_couldBe (a0 : Nat) (x1 : Int32) (x2 : Int32) (h : gHp) : Option (Bool × gHp) := (f_X5_hasArm (a0 + 3 + 1) x1 h).bind fun v2 => if v2 = true then if gIn x1 6 then if (h.1 (a0 + 3 + 11) (gN x1)) = 0 then (f_X8_copy (a0 + 29) (a0 + 3) h).bind fun v5 => if gIn x1 6 then (f_X0_findOhms (a0 + 113) (a0 + 29) (-1) (gsI v5 (a0 + 29 + 11) (gN x1) x2)).bind fun v8 => if gIn ((v8.1 (a0 + 29 + 1) 4) - 1) 11 then (f_X2_isSame (a0 + 113 + 6 + 2 * gN ((v8.1 (a0 + 29 + 1) 4) - 1)) (a0 + 141) v8).bind fun v11 => some (v11, v8) else none else none else some (false, h) else none else some (false, h)
set_option maxRecDepth 20000 in
set_option maxHeartbeats 4000000 in
theorem m_X9_couldBe (w : gWd) (h : gHp) {a0 : Nat} (A0 : is_X9 w a0) (x1 : Int32) (x2 : Int32) {o : Bool × gHp} (hF : f_X9_couldBe a0 x1 x2 h = some o) : gMet w yX9_couldBe wsX9_couldBe rm_X9_couldBe [.ref a0, .int x1, .int x2] h (some (.int (gZ o.1))) o.2 := by
  refine gMet_of (cc := cX9_couldBe) (maxL := 3) (ret := (some .boolean)) (fr := 5) (lo := 132) (own := RX9) [(0, .ref a0), (1, .int x1), (2, .int x2)] (by decide) rfl rfl (Nat.le_of_ble_eq_true rfl) rfl (Nat.le_refl _) (Nat.le_refl _) (fun g C E => ?_)
  rw [f_X9_couldBe] at hF
  refine gx_aload_n C 0 (gDec_at D_X9_couldBe 0 rfl) rfl rfl ?_
  refine gx_getr C fl_X9_couldBe_19 (is_X9_sh A0) rfl (gDec_at D_X9_couldBe 1 rfl) ?_
  refine gx_getr C fl_X9_couldBe_84 (is_X8_sh (is_X9_now A0)) rfl (gDec_at D_X9_couldBe 2 rfl) ?_
  refine gx_iload_n C 1 (gDec_at D_X9_couldBe 3 rfl) rfl rfl ?_
  obtain ⟨v2, hv1, hF⟩ := gBind hF
  refine gx_callV1 C (st := []) 1 [.int x1] (m_X5_hasArm w h (is_X8_network (is_X9_now A0)) x1 hv1) gX9_couldBe_X5_hasArm rfl rfl rfl hy_X5_hasArm (Nat.le_of_ble_eq_true rfl) (Nat.le_of_ble_eq_true rfl) (is_X5_sh (is_X8_network (is_X9_now A0))) rfl rfl rfl (Nat.le_of_ble_eq_true rfl) (gDec_at D_X9_couldBe 4 rfl) ?_
  refine gx_ifz_eq C 26 (gDec_at D_X9_couldBe 5 rfl) (by decide) (fun c => ?_) (fun c => ?_)
  · replace hF := gNeg c hF
    refine gx_iconst C (v := 0) (gDec_at D_X9_couldBe 12 rfl) (by decide) ?_
    obtain rfl := Option.some.inj hF
    exact gx_zret (b := false) C E (gDec_at D_X9_couldBe 13 rfl)
  · replace hF := gPos c hF
    refine gx_aload_n C 0 (gDec_at D_X9_couldBe 6 rfl) rfl rfl ?_
    refine gx_getr C fl_X9_couldBe_19 (is_X9_sh A0) rfl (gDec_at D_X9_couldBe 7 rfl) ?_
    refine gx_getr C fl_X9_couldBe_203 (is_X8_sh (is_X9_now A0)) rfl (gDec_at D_X9_couldBe 8 rfl) ?_
    refine gx_iload_n C 1 (gDec_at D_X9_couldBe 9 rfl) rfl rfl ?_
    obtain ⟨b3, hF⟩ := gGd hF
    refine gx_iaload C (is_X8_armState (is_X9_now A0)) b3 (gDec_at D_X9_couldBe 10 rfl) ?_
    refine gx_if_eq C 28 (gDec_at D_X9_couldBe 11 rfl) (by decide) (fun c => ?_) (fun c => ?_)
    · replace hF := gPos c hF
      refine gx_aload_n C 0 (gDec_at D_X9_couldBe 14 rfl) rfl rfl ?_
      refine gx_getr C fl_X9_couldBe_26 (is_X9_sh A0) rfl (gDec_at D_X9_couldBe 15 rfl) ?_
      refine gx_aload_n C 0 (gDec_at D_X9_couldBe 16 rfl) rfl rfl ?_
      refine gx_getr C fl_X9_couldBe_19 (is_X9_sh A0) rfl (gDec_at D_X9_couldBe 17 rfl) ?_
      obtain ⟨v5, hv4, hF⟩ := gBind hF
      refine gx_callV0 C (st := []) 1 [.ref (a0 + 3)] (m_X8_copy w h (is_X9_trial A0) (is_X9_now A0) hv4) gX9_couldBe_X8_copy rfl rfl rfl hy_X8_copy (Nat.le_of_ble_eq_true rfl) (Nat.le_of_ble_eq_true rfl) (is_X8_sh (is_X9_trial A0)) rfl rfl rfl (Nat.le_of_ble_eq_true rfl) (gDec_at D_X9_couldBe 18 rfl) ?_
      refine gx_aload_n C 0 (gDec_at D_X9_couldBe 19 rfl) rfl rfl ?_
      refine gx_getr C fl_X9_couldBe_26 (is_X9_sh A0) rfl (gDec_at D_X9_couldBe 20 rfl) ?_
      refine gx_getr C fl_X9_couldBe_203 (is_X8_sh (is_X9_trial A0)) rfl (gDec_at D_X9_couldBe 21 rfl) ?_
      refine gx_iload_n C 1 (gDec_at D_X9_couldBe 22 rfl) rfl rfl ?_
      refine gx_iload_n C 2 (gDec_at D_X9_couldBe 23 rfl) rfl rfl ?_
      obtain ⟨b6, hF⟩ := gGd hF
      refine gx_iastore C (is_X8_armState (is_X9_trial A0)) b6 (gDec_at D_X9_couldBe 24 rfl) ?_
      refine gx_aload_n C 0 (gDec_at D_X9_couldBe 25 rfl) rfl rfl ?_
      refine gx_getr C fl_X9_couldBe_53 (is_X9_sh A0) rfl (gDec_at D_X9_couldBe 26 rfl) ?_
      refine gx_aload_n C 0 (gDec_at D_X9_couldBe 27 rfl) rfl rfl ?_
      refine gx_getr C fl_X9_couldBe_26 (is_X9_sh A0) rfl (gDec_at D_X9_couldBe 28 rfl) ?_
      refine gx_iconst C (v := (-1)) (gDec_at D_X9_couldBe 29 rfl) (by decide) ?_
      obtain ⟨v8, hv7, hF⟩ := gBind hF
      refine gx_callV0 C (st := []) 2 [.ref (a0 + 29), .int (-1)] (m_X0_findOhms w (gsI v5 (a0 + 29 + 11) (gN x1) x2) (is_X9_circuit A0) (is_X9_trial A0) (-1) hv7) gX9_couldBe_X0_findOhms rfl rfl rfl hy_X0_findOhms (Nat.le_of_ble_eq_true rfl) (Nat.le_of_ble_eq_true rfl) (is_X0_sh (is_X9_circuit A0)) rfl rfl rfl (Nat.le_of_ble_eq_true rfl) (gDec_at D_X9_couldBe 30 rfl) ?_
      refine gx_aload_n C 0 (gDec_at D_X9_couldBe 31 rfl) rfl rfl ?_
      refine gx_getr C fl_X9_couldBe_53 (is_X9_sh A0) rfl (gDec_at D_X9_couldBe 32 rfl) ?_
      refine gx_getr C fl_X9_couldBe_220 (is_X0_sh (is_X9_circuit A0)) rfl (gDec_at D_X9_couldBe 33 rfl) ?_
      refine gx_aload_n C 0 (gDec_at D_X9_couldBe 34 rfl) rfl rfl ?_
      refine gx_getr C fl_X9_couldBe_26 (is_X9_sh A0) rfl (gDec_at D_X9_couldBe 35 rfl) ?_
      refine gx_getr C fl_X9_couldBe_84 (is_X8_sh (is_X9_trial A0)) rfl (gDec_at D_X9_couldBe 36 rfl) ?_
      refine gx_geti C fl_X9_couldBe_95 (is_X5_sh (is_X8_network (is_X9_trial A0))) rfl (gDec_at D_X9_couldBe 37 rfl) ?_
      refine gx_iconst C (v := 1) (gDec_at D_X9_couldBe 38 rfl) (by decide) ?_
      refine gx_isub C (gDec_at D_X9_couldBe 39 rfl) ?_
      obtain ⟨b9, hF⟩ := gGd hF
      refine gx_aaloadFr C (is_X0_ohms (is_X9_circuit A0)) b9 (gDec_at D_X9_couldBe 40 rfl) ?_
      show gX w g 3 v8 _ _ (.ref (a0 + 113 + 6 + 2 * gN ((v8.1 (a0 + 29 + 1) 4) - 1)) :: [])
      refine gx_aload_n C 0 (gDec_at D_X9_couldBe 41 rfl) rfl rfl ?_
      refine gx_getr C fl_X9_couldBe_60 (is_X9_sh A0) rfl (gDec_at D_X9_couldBe 42 rfl) ?_
      obtain ⟨v11, hv10, hF⟩ := gBind hF
      refine gx_callV1 C (st := []) 1 [.ref (a0 + 141)] (m_X2_isSame w v8 (is_X0_ohms_at (is_X9_circuit A0) b9) (is_X9_wanted A0) hv10) gX9_couldBe_X2_isSame rfl rfl rfl hy_X2_isSame (Nat.le_of_ble_eq_true rfl) (Nat.le_of_ble_eq_true rfl) (is_X2_sh (is_X0_ohms_at (is_X9_circuit A0) b9)) rfl rfl rfl (Nat.le_of_ble_eq_true rfl) (gDec_at D_X9_couldBe 43 rfl) ?_
      obtain rfl := Option.some.inj hF
      exact gx_zret (b := v11) C E (gDec_at D_X9_couldBe 44 rfl)
    · replace hF := gNeg c hF
      refine gx_iconst C (v := 0) (gDec_at D_X9_couldBe 12 rfl) (by decide) ?_
      obtain rfl := Option.some.inj hF
      exact gx_zret (b := false) C E (gDec_at D_X9_couldBe 13 rfl)
