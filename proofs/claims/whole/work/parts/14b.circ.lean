/-! LadderBench$Circuit.divideVolts -/
def rm_X0_divideVolts : Room := { frames := 2, cells := 0, slots := 0, locals := 57 }
set_option maxRecDepth 20000 in
theorem ggX0_divideVolts_X0_countInfinite : GoodIn wsX0_divideVolts wsX0_countInfinite := goodIn_r _ [30, 31, 1, 8, 9, 10, 11, 12, 13, 51, 52, 53, 54, 55, 44, 45, 46, 47, 48, 49, 50] (by decide +kernel) (by decide +kernel)
set_option maxRecDepth 20000 in
theorem gX0_divideVolts_X0_countInfinite : GoodIn wsX0_divideVolts (wsV RX0 112 RX0 yX0_countInfinite wsX0_countInfinite) := goodIn_app (goodIn_of _ (by decide +kernel)) ggX0_divideVolts_X0_countInfinite
set_option maxRecDepth 20000 in
theorem ggX0_divideVolts_X2_copy : GoodIn wsX0_divideVolts wsX2_copy := goodIn_r _ [35, 18, 13, 49, 50] (by decide +kernel) (by decide +kernel)
set_option maxRecDepth 20000 in
theorem gX0_divideVolts_X2_copy : GoodIn wsX0_divideVolts (wsV RX0 55 RX2 yX2_copy wsX2_copy) := goodIn_app (goodIn_of _ (by decide +kernel)) ggX0_divideVolts_X2_copy
set_option maxRecDepth 20000 in
theorem ggX0_divideVolts_X2_invert : GoodIn wsX0_divideVolts wsX2_invert := goodIn_r _ [39, 18, 13, 49, 50] (by decide +kernel) (by decide +kernel)
set_option maxRecDepth 20000 in
theorem gX0_divideVolts_X2_invert : GoodIn wsX0_divideVolts (wsV RX0 59 RX2 yX2_invert wsX2_invert) := goodIn_app (goodIn_of _ (by decide +kernel)) ggX0_divideVolts_X2_invert
set_option maxRecDepth 20000 in
theorem ggX0_divideVolts_X2_isInfinite : GoodIn wsX0_divideVolts wsX2_isInfinite := goodIn_r _ [12, 13, 49, 50] (by decide +kernel) (by decide +kernel)
set_option maxRecDepth 20000 in
theorem gX0_divideVolts_X2_isInfinite : GoodIn wsX0_divideVolts (wsV RX0 105 RX2 yX2_isInfinite wsX2_isInfinite) := goodIn_app (goodIn_of _ (by decide +kernel)) ggX0_divideVolts_X2_isInfinite
set_option maxRecDepth 20000 in
theorem ggX0_divideVolts_X2_isZero : GoodIn wsX0_divideVolts wsX2_isZero := goodIn_r _ [17, 18, 49, 50] (by decide +kernel) (by decide +kernel)
set_option maxRecDepth 20000 in
theorem gX0_divideVolts_X2_isZero : GoodIn wsX0_divideVolts (wsV RX0 109 RX2 yX2_isZero wsX2_isZero) := goodIn_app (goodIn_of _ (by decide +kernel)) ggX0_divideVolts_X2_isZero
set_option maxRecDepth 20000 in
theorem ggX0_divideVolts_X2_multiply : GoodIn wsX0_divideVolts wsX2_multiply := goodIn_r _ [43, 18, 13, 23, 24, 11, 25, 49, 50] (by decide +kernel) (by decide +kernel)
set_option maxRecDepth 20000 in
theorem gX0_divideVolts_X2_multiply : GoodIn wsX0_divideVolts (wsV RX0 122 RX2 yX2_multiply wsX2_multiply) := goodIn_app (goodIn_of _ (by decide +kernel)) ggX0_divideVolts_X2_multiply
set_option maxRecDepth 20000 in
theorem ggX0_divideVolts_X2_put : GoodIn wsX0_divideVolts wsX2_put := goodIn_r _ [22, 18, 13, 23, 24, 11, 25, 49, 50] (by decide +kernel) (by decide +kernel)
set_option maxRecDepth 20000 in
theorem gX0_divideVolts_X2_put : GoodIn wsX0_divideVolts (wsV RX0 79 RX2 yX2_put wsX2_put) := goodIn_app (goodIn_of _ (by decide +kernel)) ggX0_divideVolts_X2_put
theorem hy_X0_divideVolts : yX0_divideVolts.cls = RX0 ∧ yX0_divideVolts.cls ≠ "java/lang/invoke/MethodHandle" ∧ yX0_divideVolts.cls ≠ "java/lang/invoke/VarHandle" ∧ (parseMethodDescriptor yX0_divideVolts.desc).map (fun d => d.parameters.length) = some 3 := by decide +kernel
set_option maxRecDepth 100000 in
theorem D_X0_divideVolts : gDec cX0_divideVolts [(0, (.aload_n 0, 1)), (1, (.getfield 11, 3)), (4, (.iload_n 2, 1)), (5, (.aaload, 1)), (6, (.invokevirtual 105, 3)), (9, (.ifCond .eq 19, 3)), (12, (.aload_n 0, 1)), (13, (.getfield 11, 3)), (16, (.iload_n 3, 1)), (17, (.aaload, 1)), (18, (.invokevirtual 105, 3)), (21, (.ifCond .ne 7, 3)), (24, (.iconst 1, 1)), (25, (.goto 4, 3)), (28, (.iconst 0, 1)), (29, (.istore 4, 2)), (31, (.iload 4, 2)), (33, (.ifCond .ne 15, 3)), (36, (.aload_n 0, 1)), (37, (.getfield 11, 3)), (40, (.iload_n 2, 1)), (41, (.aaload, 1)), (42, (.invokevirtual 109, 3)), (45, (.ifCond .eq 15, 3)), (48, (.aload_n 0, 1)), (49, (.getfield 17, 3)), (52, (.iload_n 3, 1)), (53, (.aaload, 1)), (54, (.lconst 0, 1)), (55, (.lconst 1, 1)), (56, (.invokevirtual 79, 3)), (59, (.return_, 1)), (60, (.aload_n 0, 1)), (61, (.getfield 11, 3)), (64, (.iload_n 2, 1)), (65, (.aaload, 1)), (66, (.invokevirtual 105, 3)), (69, (.ifCond .eq 25, 3)), (72, (.aload_n 0, 1)), (73, (.getfield 25, 3)), (76, (.lconst 1, 1)), (77, (.iconst 1, 1)), (78, (.aload_n 0, 1)), (79, (.aload_n 1, 1)), (80, (.iload_n 2, 1)), (81, (.invokevirtual 112, 3)), (84, (.invokestatic 116, 3)), (87, (.i2l, 1)), (88, (.invokevirtual 79, 3)), (91, (.goto 36, 3)), (94, (.aload_n 0, 1)), (95, (.getfield 25, 3)), (98, (.aload_n 0, 1)), (99, (.getfield 11, 3)), (102, (.iload_n 2, 1)), (103, (.aaload, 1)), (104, (.invokevirtual 55, 3)), (107, (.aload_n 0, 1)), (108, (.getfield 25, 3)), (111, (.invokevirtual 59, 3)), (114, (.aload_n 0, 1)), (115, (.getfield 25, 3)), (118, (.aload_n 0, 1)), (119, (.getfield 11, 3)), (122, (.iload_n 3, 1)), (123, (.aaload, 1)), (124, (.invokevirtual 122, 3)), (127, (.aload_n 0, 1)), (128, (.getfield 17, 3)), (131, (.iload_n 3, 1)), (132, (.aaload, 1)), (133, (.aload_n 0, 1)), (134, (.getfield 17, 3)), (137, (.iload_n 2, 1)), (138, (.aaload, 1)), (139, (.invokevirtual 55, 3)), (142, (.aload_n 0, 1)), (143, (.getfield 17, 3)), (146, (.iload_n 3, 1)), (147, (.aaload, 1)), (148, (.aload_n 0, 1)), (149, (.getfield 25, 3)), (152, (.invokevirtual 122, 3)), (155, (.return_, 1))] = true := by decide +kernel
set_option maxRecDepth 100000 in
theorem in_X0_divideVolts_X0 : ∀ x ∈ u_ws RX0 TX0 5, x ∈ wsX0_divideVolts := by decide +kernel
theorem fl_X0_divideVolts_11 : gF wsX0_divideVolts RX0 11 0 0 := ⟨RX0, TX0, 5, rfl, by decide, in_X0_divideVolts_X0, by decide +kernel⟩
theorem fl_X0_divideVolts_17 : gF wsX0_divideVolts RX0 17 0 1 := ⟨RX0, TX0, 5, rfl, by decide, in_X0_divideVolts_X0, by decide +kernel⟩
theorem fl_X0_divideVolts_25 : gF wsX0_divideVolts RX0 25 0 3 := ⟨RX0, TX0, 5, rfl, by decide, in_X0_divideVolts_X0, by decide +kernel⟩
theorem mm_X0_divideVolts_116 : gM4 wsX0_divideVolts RX0 116 Lib.Math.max.name Lib.Math.max.code := by unfold gM4; decide +kernel
def f_X0_divideVolts_48 (a0 : Nat) (x3 : Int32) (h : gHp) : Option (gHp) := if gIn x3 11 then (f_X2_put (a0 + 7 + 2 * gN x3) 0 1 h).bind fun v9 => some v9 else none
set_option maxRecDepth 20000 in
set_option maxHeartbeats 4000000 in
theorem w_X0_divideVolts_48 {w : gWd} {g : gCx} (C : gC w g cX0_divideVolts wsX0_divideVolts RX0 5 2 57) {a0 : Nat} (A0 : is_X0 w a0) (x3 : Int32) (h : gHp)  {o : gHp}  (E : gEn w g none (none) o) (hF : f_X0_divideVolts_48 a0 x3 h = some o) : gX w g 5 h 48 [(0, .ref a0), (3, .int x3)] ([]) := by
  rw [f_X0_divideVolts_48] at hF
  refine gx_aload_n C 0 (gDec_at D_X0_divideVolts 24 rfl) rfl rfl ?_
  refine gx_getr C fl_X0_divideVolts_17 (is_X0_sh A0) rfl (gDec_at D_X0_divideVolts 25 rfl) ?_
  refine gx_iload_n C 1 (gDec_at D_X0_divideVolts 26 rfl) rfl rfl ?_
  obtain ⟨b7, hF⟩ := gGd hF
  refine gx_aaloadFr C (is_X0_volts A0) b7 (gDec_at D_X0_divideVolts 27 rfl) ?_
  show gX w g 5 h _ _ (.ref (a0 + 7 + 2 * gN x3) :: [])
  refine gx_lconst C (v := 0) (gDec_at D_X0_divideVolts 28 rfl) (by decide) ?_
  refine gx_lconst C (v := 1) (gDec_at D_X0_divideVolts 29 rfl) (by decide) ?_
  obtain ⟨v9, hv8, hF⟩ := gBind hF
  refine gx_callV0 C (st := []) 2 [.long 0, .long 1] (m_X2_put w h (is_X0_volts_at A0 b7) 0 1 hv8) gX0_divideVolts_X2_put rfl rfl rfl hy_X2_put (Nat.le_of_ble_eq_true rfl) (Nat.le_of_ble_eq_true rfl) (is_X2_sh (is_X0_volts_at A0 b7)) rfl rfl rfl (Nat.le_of_ble_eq_true rfl) (gDec_at D_X0_divideVolts 30 rfl) ?_
  obtain rfl := Option.some.inj hF
  exact gx_vret C E (gDec_at D_X0_divideVolts 31 rfl)
def f_X0_divideVolts (a0 : Nat) (a1 : Nat) (x2 : Int32) (x3 : Int32) (h : gHp) : Option (gHp) := if gIn x2 11 then (f_X2_isInfinite (a0 + 6 + 2 * gN x2) h).bind fun v3 => (if v3 = true then if gIn x3 11 then (f_X2_isInfinite (a0 + 6 + 2 * gN x3) h).bind fun v40 => if v40 = true then some 0 else some 1 else none else some 0 : Option (Int32)).bind fun v4 => if v4 = 0 then if gIn x2 11 then (f_X2_isZero (a0 + 6 + 2 * gN x2) h).bind fun v12 => if v12 = true then f_X0_divideVolts_48 a0 x3 h else if gIn x2 11 then (f_X2_isInfinite (a0 + 6 + 2 * gN x2) h).bind fun v15 => (if v15 = true then (f_X0_countInfinite a0 a1 x2 h).bind fun v35 => (f_X2_put (a0 + 4) 1 ((if 1 < v35 then v35 else 1).toInt64) h).bind fun v37 => some v37 else if gIn x2 11 then (f_X2_copy (a0 + 4) (a0 + 6 + 2 * gN x2) h).bind fun v28 => (f_X2_invert (a0 + 4) v28).bind fun v30 => if gIn x3 11 then (f_X2_multiply (a0 + 4) (a0 + 6 + 2 * gN x3) v30).bind fun v33 => some v33 else none else none : Option (gHp)).bind fun v16 => if gIn x3 11 then if gIn x2 11 then (f_X2_copy (a0 + 7 + 2 * gN x3) (a0 + 7 + 2 * gN x2) v16).bind fun v22 => if gIn x3 11 then (f_X2_multiply (a0 + 7 + 2 * gN x3) (a0 + 4) v22).bind fun v25 => some v25 else none else none else none else none else none else f_X0_divideVolts_48 a0 x3 h else none
set_option maxRecDepth 20000 in
set_option maxHeartbeats 4000000 in
theorem m_X0_divideVolts (w : gWd) (h : gHp) {a0 : Nat} (A0 : is_X0 w a0) {a1 : Nat} (A1 : is_X5 w a1) (x2 : Int32) (x3 : Int32) {o : gHp} (hF : f_X0_divideVolts a0 a1 x2 x3 h = some o) : gMet w yX0_divideVolts wsX0_divideVolts rm_X0_divideVolts [.ref a0, .ref a1, .int x2, .int x3] h (none) o := by
  refine gMet_of (cc := cX0_divideVolts) (maxL := 5) (ret := none) (fr := 2) (lo := 57) (own := RX0) [(0, .ref a0), (1, .ref a1), (2, .int x2), (3, .int x3)] (by decide) rfl rfl (Nat.le_of_ble_eq_true rfl) rfl (Nat.le_refl _) (Nat.le_refl _) (fun g C E => ?_)
  rw [f_X0_divideVolts] at hF
  refine gx_aload_n C 0 (gDec_at D_X0_divideVolts 0 rfl) rfl rfl ?_
  refine gx_getr C fl_X0_divideVolts_11 (is_X0_sh A0) rfl (gDec_at D_X0_divideVolts 1 rfl) ?_
  refine gx_iload_n C 2 (gDec_at D_X0_divideVolts 2 rfl) rfl rfl ?_
  obtain ⟨b1, hF⟩ := gGd hF
  refine gx_aaloadFr C (is_X0_ohms A0) b1 (gDec_at D_X0_divideVolts 3 rfl) ?_
  show gX w g 5 h _ _ (.ref (a0 + 6 + 2 * gN x2) :: [])
  obtain ⟨v3, hv2, hF⟩ := gBind hF
  refine gx_callV1 C (st := []) 0 [] (m_X2_isInfinite w h (is_X0_ohms_at A0 b1) hv2) gX0_divideVolts_X2_isInfinite rfl rfl rfl hy_X2_isInfinite (Nat.le_of_ble_eq_true rfl) (Nat.le_of_ble_eq_true rfl) (is_X2_sh (is_X0_ohms_at A0 b1)) rfl rfl rfl (Nat.le_of_ble_eq_true rfl) (gDec_at D_X0_divideVolts 4 rfl) ?_
  obtain ⟨v4, hv5, hF⟩ := gBind hF
  have k6 : gX w g 5 h 29 [(0, .ref a0), (1, .ref a1), (2, .int x2), (3, .int x3)] (.int v4 :: []) := by
    refine gx_istore C (lv' := [(4, .int v4), (0, .ref a0), (1, .ref a1), (2, .int x2), (3, .int x3)]) (gDec_at D_X0_divideVolts 15 rfl) (Nat.le_of_ble_eq_true rfl) rfl ?_
    refine gx_iload C 0 (gDec_at D_X0_divideVolts 16 rfl) rfl ?_
    refine gx_if_ne C 48 (gDec_at D_X0_divideVolts 17 rfl) (by decide) (fun c => ?_) (fun c => ?_)
    · replace hF := gNeg c hF
      exact gx_sub [1, 4] rfl (w_X0_divideVolts_48 C A0 x3 h   E hF)
    · replace hF := gPos c hF
      refine gx_aload_n C 1 (gDec_at D_X0_divideVolts 18 rfl) rfl rfl ?_
      refine gx_getr C fl_X0_divideVolts_11 (is_X0_sh A0) rfl (gDec_at D_X0_divideVolts 19 rfl) ?_
      refine gx_iload_n C 3 (gDec_at D_X0_divideVolts 20 rfl) rfl rfl ?_
      obtain ⟨b10, hF⟩ := gGd hF
      refine gx_aaloadFr C (is_X0_ohms A0) b10 (gDec_at D_X0_divideVolts 21 rfl) ?_
      show gX w g 5 h _ _ (.ref (a0 + 6 + 2 * gN x2) :: [])
      obtain ⟨v12, hv11, hF⟩ := gBind hF
      refine gx_callV1 C (st := []) 0 [] (m_X2_isZero w h (is_X0_ohms_at A0 b10) hv11) gX0_divideVolts_X2_isZero rfl rfl rfl hy_X2_isZero (Nat.le_of_ble_eq_true rfl) (Nat.le_of_ble_eq_true rfl) (is_X2_sh (is_X0_ohms_at A0 b10)) rfl rfl rfl (Nat.le_of_ble_eq_true rfl) (gDec_at D_X0_divideVolts 22 rfl) ?_
      refine gx_ifz_eq C 60 (gDec_at D_X0_divideVolts 23 rfl) (by decide) (fun c => ?_) (fun c => ?_)
      · replace hF := gNeg c hF
        refine gx_aload_n C 1 (gDec_at D_X0_divideVolts 32 rfl) rfl rfl ?_
        refine gx_getr C fl_X0_divideVolts_11 (is_X0_sh A0) rfl (gDec_at D_X0_divideVolts 33 rfl) ?_
        refine gx_iload_n C 3 (gDec_at D_X0_divideVolts 34 rfl) rfl rfl ?_
        obtain ⟨b13, hF⟩ := gGd hF
        refine gx_aaloadFr C (is_X0_ohms A0) b13 (gDec_at D_X0_divideVolts 35 rfl) ?_
        show gX w g 5 h _ _ (.ref (a0 + 6 + 2 * gN x2) :: [])
        obtain ⟨v15, hv14, hF⟩ := gBind hF
        refine gx_callV1 C (st := []) 0 [] (m_X2_isInfinite w h (is_X0_ohms_at A0 b13) hv14) gX0_divideVolts_X2_isInfinite rfl rfl rfl hy_X2_isInfinite (Nat.le_of_ble_eq_true rfl) (Nat.le_of_ble_eq_true rfl) (is_X2_sh (is_X0_ohms_at A0 b13)) rfl rfl rfl (Nat.le_of_ble_eq_true rfl) (gDec_at D_X0_divideVolts 36 rfl) ?_
        obtain ⟨v16, hv17, hF⟩ := gBind hF
        have k18 : gX w g 5 v16 127 [(0, .ref a0), (2, .int x2), (3, .int x3)] ([]) := by
          refine gx_aload_n C 0 (gDec_at D_X0_divideVolts 67 rfl) rfl rfl ?_
          refine gx_getr C fl_X0_divideVolts_17 (is_X0_sh A0) rfl (gDec_at D_X0_divideVolts 68 rfl) ?_
          refine gx_iload_n C 2 (gDec_at D_X0_divideVolts 69 rfl) rfl rfl ?_
          obtain ⟨b19, hF⟩ := gGd hF
          refine gx_aaloadFr C (is_X0_volts A0) b19 (gDec_at D_X0_divideVolts 70 rfl) ?_
          show gX w g 5 v16 _ _ (.ref (a0 + 7 + 2 * gN x3) :: [])
          refine gx_aload_n C 0 (gDec_at D_X0_divideVolts 71 rfl) rfl rfl ?_
          refine gx_getr C fl_X0_divideVolts_17 (is_X0_sh A0) rfl (gDec_at D_X0_divideVolts 72 rfl) ?_
          refine gx_iload_n C 1 (gDec_at D_X0_divideVolts 73 rfl) rfl rfl ?_
          obtain ⟨b20, hF⟩ := gGd hF
          refine gx_aaloadFr C (is_X0_volts A0) b20 (gDec_at D_X0_divideVolts 74 rfl) ?_
          show gX w g 5 v16 _ _ (.ref (a0 + 7 + 2 * gN x2) :: .ref (a0 + 7 + 2 * gN x3) :: [])
          obtain ⟨v22, hv21, hF⟩ := gBind hF
          refine gx_callV0 C (st := []) 1 [.ref (a0 + 7 + 2 * gN x2)] (m_X2_copy w v16 (is_X0_volts_at A0 b19) (is_X0_volts_at A0 b20) hv21) gX0_divideVolts_X2_copy rfl rfl rfl hy_X2_copy (Nat.le_of_ble_eq_true rfl) (Nat.le_of_ble_eq_true rfl) (is_X2_sh (is_X0_volts_at A0 b19)) rfl rfl rfl (Nat.le_of_ble_eq_true rfl) (gDec_at D_X0_divideVolts 75 rfl) ?_
          refine gx_aload_n C 0 (gDec_at D_X0_divideVolts 76 rfl) rfl rfl ?_
          refine gx_getr C fl_X0_divideVolts_17 (is_X0_sh A0) rfl (gDec_at D_X0_divideVolts 77 rfl) ?_
          refine gx_iload_n C 2 (gDec_at D_X0_divideVolts 78 rfl) rfl rfl ?_
          obtain ⟨b23, hF⟩ := gGd hF
          refine gx_aaloadFr C (is_X0_volts A0) b23 (gDec_at D_X0_divideVolts 79 rfl) ?_
          show gX w g 5 v22 _ _ (.ref (a0 + 7 + 2 * gN x3) :: [])
          refine gx_aload_n C 0 (gDec_at D_X0_divideVolts 80 rfl) rfl rfl ?_
          refine gx_getr C fl_X0_divideVolts_25 (is_X0_sh A0) rfl (gDec_at D_X0_divideVolts 81 rfl) ?_
          obtain ⟨v25, hv24, hF⟩ := gBind hF
          refine gx_callV0 C (st := []) 1 [.ref (a0 + 4)] (m_X2_multiply w v22 (is_X0_volts_at A0 b23) (is_X0_share A0) hv24) gX0_divideVolts_X2_multiply rfl rfl rfl hy_X2_multiply (Nat.le_of_ble_eq_true rfl) (Nat.le_of_ble_eq_true rfl) (is_X2_sh (is_X0_volts_at A0 b23)) rfl rfl rfl (Nat.le_of_ble_eq_true rfl) (gDec_at D_X0_divideVolts 82 rfl) ?_
          obtain rfl := Option.some.inj hF
          exact gx_vret C E (gDec_at D_X0_divideVolts 83 rfl)
        replace hF := hv17
        refine gx_ifz_eq C 94 (gDec_at D_X0_divideVolts 37 rfl) (by decide) (fun c => ?_) (fun c => ?_)
        · replace hF := gNeg c hF
          refine gx_aload_n C 1 (gDec_at D_X0_divideVolts 50 rfl) rfl rfl ?_
          refine gx_getr C fl_X0_divideVolts_25 (is_X0_sh A0) rfl (gDec_at D_X0_divideVolts 51 rfl) ?_
          refine gx_aload_n C 1 (gDec_at D_X0_divideVolts 52 rfl) rfl rfl ?_
          refine gx_getr C fl_X0_divideVolts_11 (is_X0_sh A0) rfl (gDec_at D_X0_divideVolts 53 rfl) ?_
          refine gx_iload_n C 3 (gDec_at D_X0_divideVolts 54 rfl) rfl rfl ?_
          obtain ⟨b26, hF⟩ := gGd hF
          refine gx_aaloadFr C (is_X0_ohms A0) b26 (gDec_at D_X0_divideVolts 55 rfl) ?_
          show gX w g 5 h _ _ (.ref (a0 + 6 + 2 * gN x2) :: .ref (a0 + 4) :: [])
          obtain ⟨v28, hv27, hF⟩ := gBind hF
          refine gx_callV0 C (st := []) 1 [.ref (a0 + 6 + 2 * gN x2)] (m_X2_copy w h (is_X0_share A0) (is_X0_ohms_at A0 b26) hv27) gX0_divideVolts_X2_copy rfl rfl rfl hy_X2_copy (Nat.le_of_ble_eq_true rfl) (Nat.le_of_ble_eq_true rfl) (is_X2_sh (is_X0_share A0)) rfl rfl rfl (Nat.le_of_ble_eq_true rfl) (gDec_at D_X0_divideVolts 56 rfl) ?_
          refine gx_aload_n C 1 (gDec_at D_X0_divideVolts 57 rfl) rfl rfl ?_
          refine gx_getr C fl_X0_divideVolts_25 (is_X0_sh A0) rfl (gDec_at D_X0_divideVolts 58 rfl) ?_
          obtain ⟨v30, hv29, hF⟩ := gBind hF
          refine gx_callV0 C (st := []) 0 [] (m_X2_invert w v28 (is_X0_share A0) hv29) gX0_divideVolts_X2_invert rfl rfl rfl hy_X2_invert (Nat.le_of_ble_eq_true rfl) (Nat.le_of_ble_eq_true rfl) (is_X2_sh (is_X0_share A0)) rfl rfl rfl (Nat.le_of_ble_eq_true rfl) (gDec_at D_X0_divideVolts 59 rfl) ?_
          refine gx_aload_n C 1 (gDec_at D_X0_divideVolts 60 rfl) rfl rfl ?_
          refine gx_getr C fl_X0_divideVolts_25 (is_X0_sh A0) rfl (gDec_at D_X0_divideVolts 61 rfl) ?_
          refine gx_aload_n C 1 (gDec_at D_X0_divideVolts 62 rfl) rfl rfl ?_
          refine gx_getr C fl_X0_divideVolts_11 (is_X0_sh A0) rfl (gDec_at D_X0_divideVolts 63 rfl) ?_
          refine gx_iload_n C 4 (gDec_at D_X0_divideVolts 64 rfl) rfl rfl ?_
          obtain ⟨b31, hF⟩ := gGd hF
          refine gx_aaloadFr C (is_X0_ohms A0) b31 (gDec_at D_X0_divideVolts 65 rfl) ?_
          show gX w g 5 v30 _ _ (.ref (a0 + 6 + 2 * gN x3) :: .ref (a0 + 4) :: [])
          obtain ⟨v33, hv32, hF⟩ := gBind hF
          refine gx_callV0 C (st := []) 1 [.ref (a0 + 6 + 2 * gN x3)] (m_X2_multiply w v30 (is_X0_share A0) (is_X0_ohms_at A0 b31) hv32) gX0_divideVolts_X2_multiply rfl rfl rfl hy_X2_multiply (Nat.le_of_ble_eq_true rfl) (Nat.le_of_ble_eq_true rfl) (is_X2_sh (is_X0_share A0)) rfl rfl rfl (Nat.le_of_ble_eq_true rfl) (gDec_at D_X0_divideVolts 66 rfl) ?_
          obtain rfl := Option.some.inj hF
          exact gx_sub [1, 3, 4] rfl k18
        · replace hF := gPos c hF
          refine gx_aload_n C 1 (gDec_at D_X0_divideVolts 38 rfl) rfl rfl ?_
          refine gx_getr C fl_X0_divideVolts_25 (is_X0_sh A0) rfl (gDec_at D_X0_divideVolts 39 rfl) ?_
          refine gx_lconst C (v := 1) (gDec_at D_X0_divideVolts 40 rfl) (by decide) ?_
          refine gx_iconst C (v := 1) (gDec_at D_X0_divideVolts 41 rfl) (by decide) ?_
          refine gx_aload_n C 1 (gDec_at D_X0_divideVolts 42 rfl) rfl rfl ?_
          refine gx_aload_n C 2 (gDec_at D_X0_divideVolts 43 rfl) rfl rfl ?_
          refine gx_iload_n C 3 (gDec_at D_X0_divideVolts 44 rfl) rfl rfl ?_
          obtain ⟨v35, hv34, hF⟩ := gBind hF
          refine gx_callV1 C (st := .int 1 :: .long 1 :: .ref (a0 + 4) :: []) 2 [.ref a1, .int x2] (m_X0_countInfinite w h A0 A1 x2 hv34) gX0_divideVolts_X0_countInfinite rfl rfl rfl hy_X0_countInfinite (Nat.le_of_ble_eq_true rfl) (Nat.le_of_ble_eq_true rfl) (is_X0_sh A0) rfl rfl rfl (Nat.le_of_ble_eq_true rfl) (gDec_at D_X0_divideVolts 45 rfl) ?_
          refine gx_mmax C mm_X0_divideVolts_116 (Nat.le_of_ble_eq_true rfl) (Nat.le_of_ble_eq_true rfl) (Nat.le_of_ble_eq_true rfl) (gDec_at D_X0_divideVolts 46 rfl) ?_
          refine gx_i2l C (gDec_at D_X0_divideVolts 47 rfl) ?_
          obtain ⟨v37, hv36, hF⟩ := gBind hF
          refine gx_callV0 C (st := []) 2 [.long 1, .long ((if 1 < v35 then v35 else 1).toInt64)] (m_X2_put w h (is_X0_share A0) 1 ((if 1 < v35 then v35 else 1).toInt64) hv36) gX0_divideVolts_X2_put rfl rfl rfl hy_X2_put (Nat.le_of_ble_eq_true rfl) (Nat.le_of_ble_eq_true rfl) (is_X2_sh (is_X0_share A0)) rfl rfl rfl (Nat.le_of_ble_eq_true rfl) (gDec_at D_X0_divideVolts 48 rfl) ?_
          refine gx_goto C 127 (gDec_at D_X0_divideVolts 49 rfl) (by decide) ?_
          obtain rfl := Option.some.inj hF
          exact gx_sub [1, 3, 4] rfl k18
      · replace hF := gPos c hF
        exact gx_sub [1, 4] rfl (w_X0_divideVolts_48 C A0 x3 h   E hF)
  replace hF := hv5
  refine gx_ifz_eq C 28 (gDec_at D_X0_divideVolts 5 rfl) (by decide) (fun c => ?_) (fun c => ?_)
  · replace hF := gNeg c hF
    refine gx_iconst C (v := 0) (gDec_at D_X0_divideVolts 14 rfl) (by decide) ?_
    obtain rfl := Option.some.inj hF
    exact gx_sub [0, 1, 2, 3] rfl k6
  · replace hF := gPos c hF
    refine gx_aload_n C 0 (gDec_at D_X0_divideVolts 6 rfl) rfl rfl ?_
    refine gx_getr C fl_X0_divideVolts_11 (is_X0_sh A0) rfl (gDec_at D_X0_divideVolts 7 rfl) ?_
    refine gx_iload_n C 3 (gDec_at D_X0_divideVolts 8 rfl) rfl rfl ?_
    obtain ⟨b38, hF⟩ := gGd hF
    refine gx_aaloadFr C (is_X0_ohms A0) b38 (gDec_at D_X0_divideVolts 9 rfl) ?_
    show gX w g 5 h _ _ (.ref (a0 + 6 + 2 * gN x3) :: [])
    obtain ⟨v40, hv39, hF⟩ := gBind hF
    refine gx_callV1 C (st := []) 0 [] (m_X2_isInfinite w h (is_X0_ohms_at A0 b38) hv39) gX0_divideVolts_X2_isInfinite rfl rfl rfl hy_X2_isInfinite (Nat.le_of_ble_eq_true rfl) (Nat.le_of_ble_eq_true rfl) (is_X2_sh (is_X0_ohms_at A0 b38)) rfl rfl rfl (Nat.le_of_ble_eq_true rfl) (gDec_at D_X0_divideVolts 10 rfl) ?_
    refine gx_ifz_ne C 28 (gDec_at D_X0_divideVolts 11 rfl) (by decide) (fun c => ?_) (fun c => ?_)
    · replace hF := gPos c hF
      refine gx_iconst C (v := 0) (gDec_at D_X0_divideVolts 14 rfl) (by decide) ?_
      obtain rfl := Option.some.inj hF
      exact gx_sub [0, 1, 2, 3] rfl k6
    · replace hF := gNeg c hF
      refine gx_iconst C (v := 1) (gDec_at D_X0_divideVolts 12 rfl) (by decide) ?_
      refine gx_goto C 29 (gDec_at D_X0_divideVolts 13 rfl) (by decide) ?_
      obtain rfl := Option.some.inj hF
      exact gx_sub [0, 1, 2, 3] rfl k6
/-! LadderBench$Circuit.findVolts -/
def rm_X0_findVolts : Room := { frames := 3, cells := 0, slots := 0, locals := 81 }
set_option maxRecDepth 20000 in
theorem ggX0_findVolts_X0_divideVolts : GoodIn wsX0_findVolts wsX0_divideVolts := goodIn_r _ [36, 37, 4, 38, 39, 40, 41, 42, 43, 44, 45, 15, 46, 18, 47, 48, 49, 50, 17, 12, 13, 14, 16, 19, 20, 21, 51, 52, 53, 35, 54, 3, 28, 29, 30, 31, 55, 56, 57, 58, 59, 60, 61, 62, 76, 77, 78, 79, 80, 81, 82, 71, 72, 73, 74, 75] (by decide +kernel) (by decide +kernel)
set_option maxRecDepth 20000 in
theorem gX0_findVolts_X0_divideVolts : GoodIn wsX0_findVolts (wsV RX0 102 RX0 yX0_divideVolts wsX0_divideVolts) := goodIn_app (goodIn_of _ (by decide +kernel)) ggX0_findVolts_X0_divideVolts
set_option maxRecDepth 20000 in
theorem ggX0_findVolts_X2_copy : GoodIn wsX0_findVolts wsX2_copy := goodIn_r _ [31, 17, 18, 81, 82] (by decide +kernel) (by decide +kernel)
set_option maxRecDepth 20000 in
theorem gX0_findVolts_X2_copy : GoodIn wsX0_findVolts (wsV RX0 55 RX2 yX2_copy wsX2_copy) := goodIn_app (goodIn_of _ (by decide +kernel)) ggX0_findVolts_X2_copy
set_option maxRecDepth 20000 in
theorem ggX0_findVolts_X2_put : GoodIn wsX0_findVolts wsX2_put := goodIn_r _ [16, 17, 18, 19, 20, 15, 21, 81, 82] (by decide +kernel) (by decide +kernel)
set_option maxRecDepth 20000 in
theorem gX0_findVolts_X2_put : GoodIn wsX0_findVolts (wsV RX0 79 RX2 yX2_put wsX2_put) := goodIn_app (goodIn_of _ (by decide +kernel)) ggX0_findVolts_X2_put
set_option maxRecDepth 20000 in
theorem ggX0_findVolts_X5_hasPart : GoodIn wsX0_findVolts wsX5_hasPart := goodIn_r _ [10, 11, 71, 72, 73, 74, 75] (by decide +kernel) (by decide +kernel)
set_option maxRecDepth 20000 in
theorem gX0_findVolts_X5_hasPart : GoodIn wsX0_findVolts (wsV RX0 95 RX5 yX5_hasPart wsX5_hasPart) := goodIn_app (goodIn_of _ (by decide +kernel)) ggX0_findVolts_X5_hasPart
set_option maxRecDepth 20000 in
theorem ggX0_findVolts_X5_isKind : GoodIn wsX0_findVolts wsX5_isKind := goodIn_r _ [25, 26, 27, 7, 8, 9, 10, 11, 71, 72, 73, 74, 75] (by decide +kernel) (by decide +kernel)
set_option maxRecDepth 20000 in
theorem gX0_findVolts_X5_isKind : GoodIn wsX0_findVolts (wsV RX0 43 RX5 yX5_isKind wsX5_isKind) := goodIn_app (goodIn_of _ (by decide +kernel)) ggX0_findVolts_X5_isKind
theorem hy_X0_findVolts : yX0_findVolts.cls = RX0 ∧ yX0_findVolts.cls ≠ "java/lang/invoke/MethodHandle" ∧ yX0_findVolts.cls ≠ "java/lang/invoke/VarHandle" ∧ (parseMethodDescriptor yX0_findVolts.desc).map (fun d => d.parameters.length) = some 2 := by decide +kernel
set_option maxRecDepth 100000 in
theorem D_X0_findVolts : gDec cX0_findVolts [(0, (.aload_n 1, 1)), (1, (.getfield 31, 3)), (4, (.astore_n 3, 1)), (5, (.aload_n 3, 1)), (6, (.getfield 37, 3)), (9, (.iconst 1, 1)), (10, (.isub, 1)), (11, (.istore 4, 2)), (13, (.iload 4, 2)), (15, (.iload_n 2, 1)), (16, (.if_icmp .lt 85, 3)), (19, (.aload_n 3, 1)), (20, (.getfield 83, 3)), (23, (.iload 4, 2)), (25, (.iaload, 1)), (26, (.istore 5, 2)), (28, (.aload_n 3, 1)), (29, (.iload 5, 2)), (31, (.invokevirtual 95, 3)), (34, (.ifCond .ne 22, 3)), (37, (.aload_n 0, 1)), (38, (.getfield 17, 3)), (41, (.iload 4, 2)), (43, (.aaload, 1)), (44, (.aload_n 1, 1)), (45, (.getfield 99, 3)), (48, (.i2l, 1)), (49, (.lconst 1, 1)), (50, (.invokevirtual 79, 3)), (53, (.goto 42, 3)), (56, (.aload_n 3, 1)), (57, (.iload 5, 2)), (59, (.iconst 2, 1)), (60, (.invokevirtual 43, 3)), (63, (.ifCond .eq 23, 3)), (66, (.aload_n 0, 1)), (67, (.getfield 17, 3)), (70, (.iload 4, 2)), (72, (.aaload, 1)), (73, (.aload_n 0, 1)), (74, (.getfield 17, 3)), (77, (.iload 5, 2)), (79, (.aaload, 1)), (80, (.invokevirtual 55, 3)), (83, (.goto 12, 3)), (86, (.aload_n 0, 1)), (87, (.aload_n 3, 1)), (88, (.iload 5, 2)), (90, (.iload 4, 2)), (92, (.invokevirtual 102, 3)), (95, (.iinc 4 (-1), 3)), (98, (.goto (-85), 3)), (101, (.return_, 1))] = true := by decide +kernel
set_option maxRecDepth 100000 in
theorem in_X0_findVolts_X0 : ∀ x ∈ u_ws RX0 TX0 5, x ∈ wsX0_findVolts := by decide +kernel
set_option maxRecDepth 100000 in
theorem in_X0_findVolts_X5 : ∀ x ∈ u_ws RX5 TX5 5, x ∈ wsX0_findVolts := by decide +kernel
set_option maxRecDepth 100000 in
theorem in_X0_findVolts_X8 : ∀ x ∈ u_ws RX8 TX8 8, x ∈ wsX0_findVolts := by decide +kernel
theorem fl_X0_findVolts_31 : gF wsX0_findVolts RX0 31 8 0 := ⟨RX8, TX8, 8, rfl, by decide, in_X0_findVolts_X8, by decide +kernel⟩
theorem fl_X0_findVolts_37 : gF wsX0_findVolts RX0 37 5 4 := ⟨RX5, TX5, 5, rfl, by decide, in_X0_findVolts_X5, by decide +kernel⟩
theorem fl_X0_findVolts_83 : gF wsX0_findVolts RX0 83 5 1 := ⟨RX5, TX5, 5, rfl, by decide, in_X0_findVolts_X5, by decide +kernel⟩
theorem fl_X0_findVolts_17 : gF wsX0_findVolts RX0 17 0 1 := ⟨RX0, TX0, 5, rfl, by decide, in_X0_findVolts_X0, by decide +kernel⟩
theorem fl_X0_findVolts_99 : gF wsX0_findVolts RX0 99 8 5 := ⟨RX8, TX8, 8, rfl, by decide, in_X0_findVolts_X8, by decide +kernel⟩
def f_X0_findVolts_13 (a0 : Nat) (a1 : Nat) (x2 : Int32) (a3 : Nat) : Nat → Int32 → gHp → Option (gHp)
  | 0, _, _ => none
  | n + 1, x4, h => if x4 < x2 then some h else if gIn x4 11 then (f_X5_hasPart a3 (h.1 (a3 + 2) (gN x4)) h).bind fun v3 => if v3 = true then (f_X5_isKind a3 (h.1 (a3 + 2) (gN x4)) 2 h).bind fun v5 => if v5 = true then if gIn x4 11 then if gIn (h.1 (a3 + 2) (gN x4)) 11 then (f_X2_copy (a0 + 7 + 2 * gN x4) (a0 + 7 + 2 * gN (h.1 (a3 + 2) (gN x4))) h).bind fun v11 => f_X0_findVolts_13 a0 a1 x2 a3 n (x4 + (-1)) v11 else none else none else (f_X0_divideVolts a0 a3 (h.1 (a3 + 2) (gN x4)) x4 h).bind fun v7 => f_X0_findVolts_13 a0 a1 x2 a3 n (x4 + (-1)) v7 else if gIn x4 11 then (f_X2_put (a0 + 7 + 2 * gN x4) ((h.1 a1 5).toInt64) 1 h).bind fun v14 => f_X0_findVolts_13 a0 a1 x2 a3 n (x4 + (-1)) v14 else none else none
set_option maxRecDepth 20000 in
set_option maxHeartbeats 4000000 in
theorem w_X0_findVolts_13 {w : gWd} {g : gCx} (C : gC w g cX0_findVolts wsX0_findVolts RX0 6 3 81) {a0 : Nat} (A0 : is_X0 w a0) {a1 : Nat} (A1 : is_X8 w a1) (x2 : Int32) {a3 : Nat} (A3 : is_X5 w a3)  {o : gHp} (hk : gX w g 6 o 101 [] []) : ∀ (n : Nat) (x4 : Int32) (h : gHp), f_X0_findVolts_13 a0 a1 x2 a3 n x4 h = some o → gX w g 6 h 13 [(0, .ref a0), (1, .ref a1), (2, .int x2), (3, .ref a3), (4, .int x4)] [] := by
  intro n
  induction n with
  | zero => intro _ _ hF; cases hF
  | succ n ih =>
    intro x4 h hF
    rw [f_X0_findVolts_13] at hF
    refine gx_iload C 4 (gDec_at D_X0_findVolts 8 rfl) rfl ?_
    refine gx_iload_n C 2 (gDec_at D_X0_findVolts 9 rfl) rfl rfl ?_
    refine gx_icmp_lt C 101 (gDec_at D_X0_findVolts 10 rfl) (by decide) (fun c => ?_) (fun c => ?_)
    · replace hF := gPos c hF
      obtain rfl := Option.some.inj hF
      exact gx_sub [] rfl hk
    · replace hF := gNeg c hF
      refine gx_aload_n C 3 (gDec_at D_X0_findVolts 11 rfl) rfl rfl ?_
      refine gx_getr C fl_X0_findVolts_83 (is_X5_sh A3) rfl (gDec_at D_X0_findVolts 12 rfl) ?_
      refine gx_iload C 4 (gDec_at D_X0_findVolts 13 rfl) rfl ?_
      obtain ⟨b1, hF⟩ := gGd hF
      refine gx_iaload C (is_X5_around A3) b1 (gDec_at D_X0_findVolts 14 rfl) ?_
      refine gx_istore C (lv' := [(5, .int (h.1 (a3 + 2) (gN x4))), (0, .ref a0), (1, .ref a1), (2, .int x2), (3, .ref a3), (4, .int x4)]) (gDec_at D_X0_findVolts 15 rfl) (Nat.le_of_ble_eq_true rfl) rfl ?_
      refine gx_aload_n C 4 (gDec_at D_X0_findVolts 16 rfl) rfl rfl ?_
      refine gx_iload C 0 (gDec_at D_X0_findVolts 17 rfl) rfl ?_
      obtain ⟨v3, hv2, hF⟩ := gBind hF
      refine gx_callV1 C (st := []) 1 [.int (h.1 (a3 + 2) (gN x4))] (m_X5_hasPart w h A3 (h.1 (a3 + 2) (gN x4)) hv2) gX0_findVolts_X5_hasPart rfl rfl rfl hy_X5_hasPart (Nat.le_of_ble_eq_true rfl) (Nat.le_of_ble_eq_true rfl) (is_X5_sh A3) rfl rfl rfl (Nat.le_of_ble_eq_true rfl) (gDec_at D_X0_findVolts 18 rfl) ?_
      refine gx_ifz_ne C 56 (gDec_at D_X0_findVolts 19 rfl) (by decide) (fun c => ?_) (fun c => ?_)
      · replace hF := gPos c hF
        refine gx_aload_n C 4 (gDec_at D_X0_findVolts 30 rfl) rfl rfl ?_
        refine gx_iload C 0 (gDec_at D_X0_findVolts 31 rfl) rfl ?_
        refine gx_iconst C (v := 2) (gDec_at D_X0_findVolts 32 rfl) (by decide) ?_
        obtain ⟨v5, hv4, hF⟩ := gBind hF
        refine gx_callV1 C (st := []) 2 [.int (h.1 (a3 + 2) (gN x4)), .int 2] (m_X5_isKind w h A3 (h.1 (a3 + 2) (gN x4)) 2 hv4) gX0_findVolts_X5_isKind rfl rfl rfl hy_X5_isKind (Nat.le_of_ble_eq_true rfl) (Nat.le_of_ble_eq_true rfl) (is_X5_sh A3) rfl rfl rfl (Nat.le_of_ble_eq_true rfl) (gDec_at D_X0_findVolts 33 rfl) ?_
        refine gx_ifz_eq C 86 (gDec_at D_X0_findVolts 34 rfl) (by decide) (fun c => ?_) (fun c => ?_)
        · replace hF := gNeg c hF
          refine gx_aload_n C 1 (gDec_at D_X0_findVolts 45 rfl) rfl rfl ?_
          refine gx_aload_n C 4 (gDec_at D_X0_findVolts 46 rfl) rfl rfl ?_
          refine gx_iload C 0 (gDec_at D_X0_findVolts 47 rfl) rfl ?_
          refine gx_iload C 5 (gDec_at D_X0_findVolts 48 rfl) rfl ?_
          obtain ⟨v7, hv6, hF⟩ := gBind hF
          refine gx_callV0 C (st := []) 3 [.ref a3, .int (h.1 (a3 + 2) (gN x4)), .int x4] (m_X0_divideVolts w h A0 A3 (h.1 (a3 + 2) (gN x4)) x4 hv6) gX0_findVolts_X0_divideVolts rfl rfl rfl hy_X0_divideVolts (Nat.le_of_ble_eq_true rfl) (Nat.le_of_ble_eq_true rfl) (is_X0_sh A0) rfl rfl rfl (Nat.le_of_ble_eq_true rfl) (gDec_at D_X0_findVolts 49 rfl) ?_
          refine gx_iinc C (j := 5) (v := x4 + (-1)) (lv' := [(4, .int (x4 + (-1))), (5, .int (h.1 (a3 + 2) (gN x4))), (0, .ref a0), (1, .ref a1), (2, .int x2), (3, .ref a3)]) (gDec_at D_X0_findVolts 50 rfl) rfl (by rfl) (Nat.le_of_ble_eq_true rfl) rfl ?_
          refine gx_goto C 13 (gDec_at D_X0_findVolts 51 rfl) (by decide) ?_
          exact gx_sub [2, 3, 4, 5, 0] rfl (ih (x4 + (-1)) v7 hF)
        · replace hF := gPos c hF
          refine gx_aload_n C 1 (gDec_at D_X0_findVolts 35 rfl) rfl rfl ?_
          refine gx_getr C fl_X0_findVolts_17 (is_X0_sh A0) rfl (gDec_at D_X0_findVolts 36 rfl) ?_
          refine gx_iload C 5 (gDec_at D_X0_findVolts 37 rfl) rfl ?_
          obtain ⟨b8, hF⟩ := gGd hF
          refine gx_aaloadFr C (is_X0_volts A0) b8 (gDec_at D_X0_findVolts 38 rfl) ?_
          show gX w g 6 h _ _ (.ref (a0 + 7 + 2 * gN x4) :: [])
          refine gx_aload_n C 1 (gDec_at D_X0_findVolts 39 rfl) rfl rfl ?_
          refine gx_getr C fl_X0_findVolts_17 (is_X0_sh A0) rfl (gDec_at D_X0_findVolts 40 rfl) ?_
          refine gx_iload C 0 (gDec_at D_X0_findVolts 41 rfl) rfl ?_
          obtain ⟨b9, hF⟩ := gGd hF
          refine gx_aaloadFr C (is_X0_volts A0) b9 (gDec_at D_X0_findVolts 42 rfl) ?_
          show gX w g 6 h _ _ (.ref (a0 + 7 + 2 * gN (h.1 (a3 + 2) (gN x4))) :: .ref (a0 + 7 + 2 * gN x4) :: [])
          obtain ⟨v11, hv10, hF⟩ := gBind hF
          refine gx_callV0 C (st := []) 1 [.ref (a0 + 7 + 2 * gN (h.1 (a3 + 2) (gN x4)))] (m_X2_copy w h (is_X0_volts_at A0 b8) (is_X0_volts_at A0 b9) hv10) gX0_findVolts_X2_copy rfl rfl rfl hy_X2_copy (Nat.le_of_ble_eq_true rfl) (Nat.le_of_ble_eq_true rfl) (is_X2_sh (is_X0_volts_at A0 b8)) rfl rfl rfl (Nat.le_of_ble_eq_true rfl) (gDec_at D_X0_findVolts 43 rfl) ?_
          refine gx_goto C 95 (gDec_at D_X0_findVolts 44 rfl) (by decide) ?_
          refine gx_iinc C (j := 5) (v := x4 + (-1)) (lv' := [(4, .int (x4 + (-1))), (5, .int (h.1 (a3 + 2) (gN x4))), (0, .ref a0), (1, .ref a1), (2, .int x2), (3, .ref a3)]) (gDec_at D_X0_findVolts 50 rfl) rfl (by rfl) (Nat.le_of_ble_eq_true rfl) rfl ?_
          refine gx_goto C 13 (gDec_at D_X0_findVolts 51 rfl) (by decide) ?_
          exact gx_sub [2, 3, 4, 5, 0] rfl (ih (x4 + (-1)) v11 hF)
      · replace hF := gNeg c hF
        refine gx_aload_n C 1 (gDec_at D_X0_findVolts 20 rfl) rfl rfl ?_
        refine gx_getr C fl_X0_findVolts_17 (is_X0_sh A0) rfl (gDec_at D_X0_findVolts 21 rfl) ?_
        refine gx_iload C 5 (gDec_at D_X0_findVolts 22 rfl) rfl ?_
        obtain ⟨b12, hF⟩ := gGd hF
        refine gx_aaloadFr C (is_X0_volts A0) b12 (gDec_at D_X0_findVolts 23 rfl) ?_
        show gX w g 6 h _ _ (.ref (a0 + 7 + 2 * gN x4) :: [])
        refine gx_aload_n C 2 (gDec_at D_X0_findVolts 24 rfl) rfl rfl ?_
        refine gx_geti C fl_X0_findVolts_99 (is_X8_sh A1) rfl (gDec_at D_X0_findVolts 25 rfl) ?_
        refine gx_i2l C (gDec_at D_X0_findVolts 26 rfl) ?_
        refine gx_lconst C (v := 1) (gDec_at D_X0_findVolts 27 rfl) (by decide) ?_
        obtain ⟨v14, hv13, hF⟩ := gBind hF
        refine gx_callV0 C (st := []) 2 [.long ((h.1 a1 5).toInt64), .long 1] (m_X2_put w h (is_X0_volts_at A0 b12) ((h.1 a1 5).toInt64) 1 hv13) gX0_findVolts_X2_put rfl rfl rfl hy_X2_put (Nat.le_of_ble_eq_true rfl) (Nat.le_of_ble_eq_true rfl) (is_X2_sh (is_X0_volts_at A0 b12)) rfl rfl rfl (Nat.le_of_ble_eq_true rfl) (gDec_at D_X0_findVolts 28 rfl) ?_
        refine gx_goto C 95 (gDec_at D_X0_findVolts 29 rfl) (by decide) ?_
        refine gx_iinc C (j := 5) (v := x4 + (-1)) (lv' := [(4, .int (x4 + (-1))), (5, .int (h.1 (a3 + 2) (gN x4))), (0, .ref a0), (1, .ref a1), (2, .int x2), (3, .ref a3)]) (gDec_at D_X0_findVolts 50 rfl) rfl (by rfl) (Nat.le_of_ble_eq_true rfl) rfl ?_
        refine gx_goto C 13 (gDec_at D_X0_findVolts 51 rfl) (by decide) ?_
        exact gx_sub [2, 3, 4, 5, 0] rfl (ih (x4 + (-1)) v14 hF)
def f_X0_findVolts (a0 : Nat) (a1 : Nat) (x2 : Int32) (h : gHp) : Option (gHp) := (f_X0_findVolts_13 a0 a1 x2 (a1 + 1) gFuel ((h.1 (a1 + 1) 4) - 1) h).bind fun v15 => some v15
set_option maxRecDepth 20000 in
set_option maxHeartbeats 4000000 in
theorem m_X0_findVolts (w : gWd) (h : gHp) {a0 : Nat} (A0 : is_X0 w a0) {a1 : Nat} (A1 : is_X8 w a1) (x2 : Int32) {o : gHp} (hF : f_X0_findVolts a0 a1 x2 h = some o) : gMet w yX0_findVolts wsX0_findVolts rm_X0_findVolts [.ref a0, .ref a1, .int x2] h (none) o := by
  refine gMet_of (cc := cX0_findVolts) (maxL := 6) (ret := none) (fr := 3) (lo := 81) (own := RX0) [(0, .ref a0), (1, .ref a1), (2, .int x2)] (by decide) rfl rfl (Nat.le_of_ble_eq_true rfl) rfl (Nat.le_refl _) (Nat.le_refl _) (fun g C E => ?_)
  rw [f_X0_findVolts] at hF
  refine gx_aload_n C 1 (gDec_at D_X0_findVolts 0 rfl) rfl rfl ?_
  refine gx_getr C fl_X0_findVolts_31 (is_X8_sh A1) rfl (gDec_at D_X0_findVolts 1 rfl) ?_
  refine gx_astore_n C (lv' := [(3, .ref (a1 + 1)), (0, .ref a0), (1, .ref a1), (2, .int x2)]) (gDec_at D_X0_findVolts 2 rfl) rfl (Nat.le_of_ble_eq_true rfl) rfl ?_
  refine gx_aload_n C 0 (gDec_at D_X0_findVolts 3 rfl) rfl rfl ?_
  refine gx_geti C fl_X0_findVolts_37 (is_X5_sh (is_X8_network A1)) rfl (gDec_at D_X0_findVolts 4 rfl) ?_
  refine gx_iconst C (v := 1) (gDec_at D_X0_findVolts 5 rfl) (by decide) ?_
  refine gx_isub C (gDec_at D_X0_findVolts 6 rfl) ?_
  refine gx_istore C (lv' := [(4, .int ((h.1 (a1 + 1) 4) - 1)), (3, .ref (a1 + 1)), (0, .ref a0), (1, .ref a1), (2, .int x2)]) (gDec_at D_X0_findVolts 7 rfl) (Nat.le_of_ble_eq_true rfl) rfl ?_
  obtain ⟨v15, hv16, hF⟩ := gBind hF
  have k17 : gX w g 6 v15 101 [] [] := by
    obtain rfl := Option.some.inj hF
    exact gx_vret C E (gDec_at D_X0_findVolts 52 rfl)
  exact gx_sub [2, 3, 4, 1, 0] rfl (w_X0_findVolts_13 C A0 A1 x2 (is_X8_network A1) k17 gFuel ((h.1 (a1 + 1) 4) - 1) h hv16)
/-! LadderBench$Circuit.findReading -/
def rm_X0_findReading : Room := { frames := 5, cells := 0, slots := 0, locals := 132 }
set_option maxRecDepth 20000 in
theorem ggX0_findReading_X0_findOhms : GoodIn wsX0_findReading wsX0_findOhms := goodIn_r _ [6, 7, 8, 9, 10, 11, 12, 13, 14, 15, 16, 17, 18, 19, 20, 21, 22, 23, 24, 25, 5, 26, 27, 28, 29, 30, 31, 32, 33, 34, 35, 36, 37, 38, 39, 40, 41, 42, 43, 44, 45, 46, 47, 48, 49, 50, 51, 52, 53, 54, 55, 56, 57, 58, 59, 60, 61, 62, 98, 99, 100, 101, 102, 103, 104, 105, 106, 107, 108, 109, 110, 93, 94, 95, 96, 97, 111, 112] (by decide +kernel) (by decide +kernel)
set_option maxRecDepth 20000 in
theorem gX0_findReading_X0_findOhms : GoodIn wsX0_findReading (wsV RX0 89 RX0 yX0_findOhms wsX0_findOhms) := goodIn_app (goodIn_of _ (by decide +kernel)) ggX0_findReading_X0_findOhms
set_option maxRecDepth 20000 in
theorem ggX0_findReading_X0_findVolts : GoodIn wsX0_findReading wsX0_findVolts := goodIn_r _ [66, 7, 8, 44, 1, 67, 68, 19, 20, 15, 21, 22, 30, 31, 32, 33, 34, 35, 36, 37, 38, 39, 12, 13, 14, 16, 17, 18, 46, 47, 48, 49, 69, 70, 71, 5, 72, 9, 45, 73, 74, 75, 76, 77, 78, 79, 80, 81, 82, 83, 84, 85, 86, 87, 88, 50, 51, 52, 53, 89, 90, 91, 92, 98, 99, 100, 101, 102, 103, 104, 105, 106, 107, 108, 109, 110, 93, 94, 95, 96, 97, 111, 112] (by decide +kernel) (by decide +kernel)
set_option maxRecDepth 20000 in
theorem gX0_findReading_X0_findVolts : GoodIn wsX0_findReading (wsV RX0 92 RX0 yX0_findVolts wsX0_findVolts) := goodIn_app (goodIn_of _ (by decide +kernel)) ggX0_findReading_X0_findVolts
theorem hy_X0_findReading : yX0_findReading.cls = RX0 ∧ yX0_findReading.cls ≠ "java/lang/invoke/MethodHandle" ∧ yX0_findReading.cls ≠ "java/lang/invoke/VarHandle" ∧ (parseMethodDescriptor yX0_findReading.desc).map (fun d => d.parameters.length) = some 2 := by decide +kernel
set_option maxRecDepth 100000 in
theorem D_X0_findReading : gDec cX0_findReading [(0, (.aload_n 0, 1)), (1, (.aload_n 1, 1)), (2, (.iload_n 2, 1)), (3, (.invokevirtual 89, 3)), (6, (.aload_n 0, 1)), (7, (.aload_n 1, 1)), (8, (.iload_n 2, 1)), (9, (.invokevirtual 92, 3)), (12, (.aload_n 0, 1)), (13, (.getfield 17, 3)), (16, (.iload_n 2, 1)), (17, (.aaload, 1)), (18, (.areturn, 1))] = true := by decide +kernel
set_option maxRecDepth 100000 in
theorem in_X0_findReading_X0 : ∀ x ∈ u_ws RX0 TX0 5, x ∈ wsX0_findReading := by decide +kernel
theorem fl_X0_findReading_17 : gF wsX0_findReading RX0 17 0 1 := ⟨RX0, TX0, 5, rfl, by decide, in_X0_findReading_X0, by decide +kernel⟩
def f_X0_findReading (a0 : Nat) (a1 : Nat) (x2 : Int32) (h : gHp) : Option (Nat × gHp) := (f_X0_findOhms a0 a1 x2 h).bind fun v2 => (f_X0_findVolts a0 a1 x2 v2).bind fun v4 => if gIn x2 11 then some (a0 + 7 + 2 * gN x2, v4) else none
set_option maxRecDepth 20000 in
set_option maxHeartbeats 4000000 in
theorem m_X0_findReading (w : gWd) (h : gHp) {a0 : Nat} (A0 : is_X0 w a0) {a1 : Nat} (A1 : is_X8 w a1) (x2 : Int32) {o : Nat × gHp} (hF : f_X0_findReading a0 a1 x2 h = some o) : gMet w yX0_findReading wsX0_findReading rm_X0_findReading [.ref a0, .ref a1, .int x2] h (some (.ref o.1)) o.2 := by
  refine gMet_of (cc := cX0_findReading) (maxL := 3) (ret := (some (.object "LadderBench$Fraction"))) (fr := 5) (lo := 132) (own := RX0) [(0, .ref a0), (1, .ref a1), (2, .int x2)] (by decide) rfl rfl (Nat.le_of_ble_eq_true rfl) rfl (Nat.le_refl _) (Nat.le_refl _) (fun g C E => ?_)
  rw [f_X0_findReading] at hF
  refine gx_aload_n C 0 (gDec_at D_X0_findReading 0 rfl) rfl rfl ?_
  refine gx_aload_n C 1 (gDec_at D_X0_findReading 1 rfl) rfl rfl ?_
  refine gx_iload_n C 2 (gDec_at D_X0_findReading 2 rfl) rfl rfl ?_
  obtain ⟨v2, hv1, hF⟩ := gBind hF
  refine gx_callV0 C (st := []) 2 [.ref a1, .int x2] (m_X0_findOhms w h A0 A1 x2 hv1) gX0_findReading_X0_findOhms rfl rfl rfl hy_X0_findOhms (Nat.le_of_ble_eq_true rfl) (Nat.le_of_ble_eq_true rfl) (is_X0_sh A0) rfl rfl rfl (Nat.le_of_ble_eq_true rfl) (gDec_at D_X0_findReading 3 rfl) ?_
  refine gx_aload_n C 0 (gDec_at D_X0_findReading 4 rfl) rfl rfl ?_
  refine gx_aload_n C 1 (gDec_at D_X0_findReading 5 rfl) rfl rfl ?_
  refine gx_iload_n C 2 (gDec_at D_X0_findReading 6 rfl) rfl rfl ?_
  obtain ⟨v4, hv3, hF⟩ := gBind hF
  refine gx_callV0 C (st := []) 2 [.ref a1, .int x2] (m_X0_findVolts w v2 A0 A1 x2 hv3) gX0_findReading_X0_findVolts rfl rfl rfl hy_X0_findVolts (Nat.le_of_ble_eq_true rfl) (Nat.le_of_ble_eq_true rfl) (is_X0_sh A0) rfl rfl rfl (Nat.le_of_ble_eq_true rfl) (gDec_at D_X0_findReading 7 rfl) ?_
  refine gx_aload_n C 0 (gDec_at D_X0_findReading 8 rfl) rfl rfl ?_
  refine gx_getr C fl_X0_findReading_17 (is_X0_sh A0) rfl (gDec_at D_X0_findReading 9 rfl) ?_
  refine gx_iload_n C 2 (gDec_at D_X0_findReading 10 rfl) rfl rfl ?_
  obtain ⟨b5, hF⟩ := gGd hF
  refine gx_aaloadFr C (is_X0_volts A0) b5 (gDec_at D_X0_findReading 11 rfl) ?_
  show gX w g 3 v4 _ _ (.ref (a0 + 7 + 2 * gN x2) :: [])
  obtain rfl := Option.some.inj hF
  exact gx_aret C (Or.inl ⟨_, rfl⟩) E (gDec_at D_X0_findReading 12 rfl)
theorem t_X0_findReading {w : gWd} {a0 : Nat} (A0 : is_X0 w a0) {a1 : Nat} (A1 : is_X8 w a1) (x2 : Int32) {h : gHp} {o : Nat × gHp} (hF : f_X0_findReading a0 a1 x2 h = some o) : is_X2 w o.1 := by
  rw [f_X0_findReading] at hF
  obtain ⟨v, hv, hF⟩ := gBind hF
  obtain ⟨v', hv', hF⟩ := gBind hF
  obtain ⟨b, hF⟩ := gGd hF
  cases hF
  exact is_X0_volts_at A0 b
/-! LadderBench$Circuit.findVoltage -/
def rm_X0_findVoltage : Room := { frames := 5, cells := 0, slots := 0, locals := 132 }
set_option maxRecDepth 20000 in
theorem ggX0_findVoltage_X0_findOhms : GoodIn wsX0_findVoltage wsX0_findOhms := goodIn_r _ [6, 7, 8, 9, 10, 11, 12, 13, 14, 15, 16, 17, 18, 19, 20, 21, 22, 23, 24, 25, 5, 26, 27, 28, 29, 30, 31, 32, 33, 34, 35, 36, 37, 38, 39, 40, 41, 42, 43, 44, 45, 46, 47, 48, 49, 50, 51, 52, 53, 54, 55, 56, 57, 58, 59, 60, 61, 62, 98, 99, 100, 101, 102, 103, 104, 105, 106, 107, 108, 109, 110, 93, 94, 95, 96, 97, 111, 112] (by decide +kernel) (by decide +kernel)
set_option maxRecDepth 20000 in
theorem gX0_findVoltage_X0_findOhms : GoodIn wsX0_findVoltage (wsV RX0 89 RX0 yX0_findOhms wsX0_findOhms) := goodIn_app (goodIn_of _ (by decide +kernel)) ggX0_findVoltage_X0_findOhms
set_option maxRecDepth 20000 in
theorem ggX0_findVoltage_X0_findVolts : GoodIn wsX0_findVoltage wsX0_findVolts := goodIn_r _ [66, 7, 8, 44, 1, 67, 68, 19, 20, 15, 21, 22, 30, 31, 32, 33, 34, 35, 36, 37, 38, 39, 12, 13, 14, 16, 17, 18, 46, 47, 48, 49, 69, 70, 71, 5, 72, 9, 45, 73, 74, 75, 76, 77, 78, 79, 80, 81, 82, 83, 84, 85, 86, 87, 88, 50, 51, 52, 53, 89, 90, 91, 92, 98, 99, 100, 101, 102, 103, 104, 105, 106, 107, 108, 109, 110, 93, 94, 95, 96, 97, 111, 112] (by decide +kernel) (by decide +kernel)
set_option maxRecDepth 20000 in
theorem gX0_findVoltage_X0_findVolts : GoodIn wsX0_findVoltage (wsV RX0 92 RX0 yX0_findVolts wsX0_findVolts) := goodIn_app (goodIn_of _ (by decide +kernel)) ggX0_findVoltage_X0_findVolts
theorem hy_X0_findVoltage : yX0_findVoltage.cls = RX0 ∧ yX0_findVoltage.cls ≠ "java/lang/invoke/MethodHandle" ∧ yX0_findVoltage.cls ≠ "java/lang/invoke/VarHandle" ∧ (parseMethodDescriptor yX0_findVoltage.desc).map (fun d => d.parameters.length) = some 2 := by decide +kernel
set_option maxRecDepth 100000 in
theorem D_X0_findVoltage : gDec cX0_findVoltage [(0, (.aload_n 0, 1)), (1, (.aload_n 1, 1)), (2, (.iconst (-1), 1)), (3, (.invokevirtual 89, 3)), (6, (.aload_n 0, 1)), (7, (.aload_n 1, 1)), (8, (.iload_n 2, 1)), (9, (.invokevirtual 92, 3)), (12, (.aload_n 0, 1)), (13, (.getfield 17, 3)), (16, (.iload_n 2, 1)), (17, (.aaload, 1)), (18, (.areturn, 1))] = true := by decide +kernel
set_option maxRecDepth 100000 in
theorem in_X0_findVoltage_X0 : ∀ x ∈ u_ws RX0 TX0 5, x ∈ wsX0_findVoltage := by decide +kernel
theorem fl_X0_findVoltage_17 : gF wsX0_findVoltage RX0 17 0 1 := ⟨RX0, TX0, 5, rfl, by decide, in_X0_findVoltage_X0, by decide +kernel⟩
def f_X0_findVoltage (a0 : Nat) (a1 : Nat) (x2 : Int32) (h : gHp) : Option (Nat × gHp) := (f_X0_findOhms a0 a1 (-1) h).bind fun v2 => (f_X0_findVolts a0 a1 x2 v2).bind fun v4 => if gIn x2 11 then some (a0 + 7 + 2 * gN x2, v4) else none
set_option maxRecDepth 20000 in
set_option maxHeartbeats 4000000 in
theorem m_X0_findVoltage (w : gWd) (h : gHp) {a0 : Nat} (A0 : is_X0 w a0) {a1 : Nat} (A1 : is_X8 w a1) (x2 : Int32) {o : Nat × gHp} (hF : f_X0_findVoltage a0 a1 x2 h = some o) : gMet w yX0_findVoltage wsX0_findVoltage rm_X0_findVoltage [.ref a0, .ref a1, .int x2] h (some (.ref o.1)) o.2 := by
  refine gMet_of (cc := cX0_findVoltage) (maxL := 3) (ret := (some (.object "LadderBench$Fraction"))) (fr := 5) (lo := 132) (own := RX0) [(0, .ref a0), (1, .ref a1), (2, .int x2)] (by decide) rfl rfl (Nat.le_of_ble_eq_true rfl) rfl (Nat.le_refl _) (Nat.le_refl _) (fun g C E => ?_)
  rw [f_X0_findVoltage] at hF
  refine gx_aload_n C 0 (gDec_at D_X0_findVoltage 0 rfl) rfl rfl ?_
  refine gx_aload_n C 1 (gDec_at D_X0_findVoltage 1 rfl) rfl rfl ?_
  refine gx_iconst C (v := (-1)) (gDec_at D_X0_findVoltage 2 rfl) (by decide) ?_
  obtain ⟨v2, hv1, hF⟩ := gBind hF
  refine gx_callV0 C (st := []) 2 [.ref a1, .int (-1)] (m_X0_findOhms w h A0 A1 (-1) hv1) gX0_findVoltage_X0_findOhms rfl rfl rfl hy_X0_findOhms (Nat.le_of_ble_eq_true rfl) (Nat.le_of_ble_eq_true rfl) (is_X0_sh A0) rfl rfl rfl (Nat.le_of_ble_eq_true rfl) (gDec_at D_X0_findVoltage 3 rfl) ?_
  refine gx_aload_n C 0 (gDec_at D_X0_findVoltage 4 rfl) rfl rfl ?_
  refine gx_aload_n C 1 (gDec_at D_X0_findVoltage 5 rfl) rfl rfl ?_
  refine gx_iload_n C 2 (gDec_at D_X0_findVoltage 6 rfl) rfl rfl ?_
  obtain ⟨v4, hv3, hF⟩ := gBind hF
  refine gx_callV0 C (st := []) 2 [.ref a1, .int x2] (m_X0_findVolts w v2 A0 A1 x2 hv3) gX0_findVoltage_X0_findVolts rfl rfl rfl hy_X0_findVolts (Nat.le_of_ble_eq_true rfl) (Nat.le_of_ble_eq_true rfl) (is_X0_sh A0) rfl rfl rfl (Nat.le_of_ble_eq_true rfl) (gDec_at D_X0_findVoltage 7 rfl) ?_
  refine gx_aload_n C 0 (gDec_at D_X0_findVoltage 8 rfl) rfl rfl ?_
  refine gx_getr C fl_X0_findVoltage_17 (is_X0_sh A0) rfl (gDec_at D_X0_findVoltage 9 rfl) ?_
  refine gx_iload_n C 2 (gDec_at D_X0_findVoltage 10 rfl) rfl rfl ?_
  obtain ⟨b5, hF⟩ := gGd hF
  refine gx_aaloadFr C (is_X0_volts A0) b5 (gDec_at D_X0_findVoltage 11 rfl) ?_
  show gX w g 3 v4 _ _ (.ref (a0 + 7 + 2 * gN x2) :: [])
  obtain rfl := Option.some.inj hF
  exact gx_aret C (Or.inl ⟨_, rfl⟩) E (gDec_at D_X0_findVoltage 12 rfl)
theorem t_X0_findVoltage {w : gWd} {a0 : Nat} (A0 : is_X0 w a0) {a1 : Nat} (A1 : is_X8 w a1) (x2 : Int32) {h : gHp} {o : Nat × gHp} (hF : f_X0_findVoltage a0 a1 x2 h = some o) : is_X2 w o.1 := by
  rw [f_X0_findVoltage] at hF
  obtain ⟨v, hv, hF⟩ := gBind hF
  obtain ⟨v', hv', hF⟩ := gBind hF
  obtain ⟨b, hF⟩ := gGd hF
  cases hF
  exact is_X0_volts_at A0 b
/-! LadderBench$Circuit.findLoss -/
def rm_X0_findLoss : Room := { frames := 5, cells := 0, slots := 0, locals := 132 }
set_option maxRecDepth 20000 in
theorem ggX0_findLoss_J9_floorDiv_f86c9 : GoodIn wsX0_findLoss wsJ9_floorDiv_f86c9 := goodIn_r _ [100] (by decide +kernel) (by decide +kernel)
set_option maxRecDepth 20000 in
theorem gX0_findLoss_J9_floorDiv_f86c9 : GoodIn wsX0_findLoss (va_wsS RX0 134 yJ9_floorDiv_f86c9 wsJ9_floorDiv_f86c9) := goodIn_app (goodIn_of _ (by decide +kernel)) ggX0_findLoss_J9_floorDiv_f86c9
set_option maxRecDepth 20000 in
theorem ggX0_findLoss_X0_findOhms : GoodIn wsX0_findLoss wsX0_findOhms := goodIn_r _ [11, 12, 13, 14, 15, 16, 17, 18, 19, 20, 21, 22, 23, 24, 25, 26, 27, 28, 29, 30, 10, 31, 32, 33, 34, 35, 36, 37, 38, 39, 40, 41, 42, 43, 44, 45, 46, 47, 48, 49, 3, 50, 51, 52, 53, 54, 55, 56, 57, 58, 59, 60, 61, 62, 63, 64, 65, 66, 108, 109, 110, 111, 112, 113, 114, 115, 116, 117, 118, 119, 120, 101, 102, 103, 104, 105, 106, 107] (by decide +kernel) (by decide +kernel)
set_option maxRecDepth 20000 in
theorem gX0_findLoss_X0_findOhms : GoodIn wsX0_findLoss (wsV RX0 89 RX0 yX0_findOhms wsX0_findOhms) := goodIn_app (goodIn_of _ (by decide +kernel)) ggX0_findLoss_X0_findOhms
set_option maxRecDepth 20000 in
theorem ggX0_findLoss_X0_findVolts : GoodIn wsX0_findLoss wsX0_findVolts := goodIn_r _ [70, 12, 13, 49, 2, 71, 72, 24, 25, 20, 26, 27, 35, 36, 37, 38, 39, 40, 41, 42, 43, 44, 17, 18, 19, 21, 22, 23, 50, 51, 52, 53, 73, 74, 75, 10, 76, 14, 3, 77, 78, 79, 80, 81, 82, 83, 84, 85, 86, 87, 88, 89, 90, 91, 92, 54, 55, 56, 57, 93, 94, 95, 96, 108, 109, 110, 111, 112, 113, 114, 115, 116, 117, 118, 119, 120, 101, 102, 103, 104, 105, 106, 107] (by decide +kernel) (by decide +kernel)
set_option maxRecDepth 20000 in
theorem gX0_findLoss_X0_findVolts : GoodIn wsX0_findLoss (wsV RX0 92 RX0 yX0_findVolts wsX0_findVolts) := goodIn_app (goodIn_of _ (by decide +kernel)) ggX0_findLoss_X0_findVolts
set_option maxRecDepth 20000 in
theorem ggX0_findLoss_X2_copy : GoodIn wsX0_findLoss wsX2_copy := goodIn_r _ [53, 40, 41, 106, 107] (by decide +kernel) (by decide +kernel)
set_option maxRecDepth 20000 in
theorem gX0_findLoss_X2_copy : GoodIn wsX0_findLoss (wsV RX0 55 RX2 yX2_copy wsX2_copy) := goodIn_app (goodIn_of _ (by decide +kernel)) ggX0_findLoss_X2_copy
set_option maxRecDepth 20000 in
theorem ggX0_findLoss_X2_invert : GoodIn wsX0_findLoss wsX2_invert := goodIn_r _ [57, 40, 41, 106, 107] (by decide +kernel) (by decide +kernel)
set_option maxRecDepth 20000 in
theorem gX0_findLoss_X2_invert : GoodIn wsX0_findLoss (wsV RX0 59 RX2 yX2_invert wsX2_invert) := goodIn_app (goodIn_of _ (by decide +kernel)) ggX0_findLoss_X2_invert
set_option maxRecDepth 20000 in
theorem ggX0_findLoss_X2_isZero : GoodIn wsX0_findLoss wsX2_isZero := goodIn_r _ [88, 40, 106, 107] (by decide +kernel) (by decide +kernel)
set_option maxRecDepth 20000 in
theorem gX0_findLoss_X2_isZero : GoodIn wsX0_findLoss (wsV RX0 109 RX2 yX2_isZero wsX2_isZero) := goodIn_app (goodIn_of _ (by decide +kernel)) ggX0_findLoss_X2_isZero
set_option maxRecDepth 20000 in
theorem ggX0_findLoss_X2_multiply : GoodIn wsX0_findLoss wsX2_multiply := goodIn_r _ [96, 40, 41, 42, 43, 38, 44, 106, 107] (by decide +kernel) (by decide +kernel)
set_option maxRecDepth 20000 in
theorem gX0_findLoss_X2_multiply : GoodIn wsX0_findLoss (wsV RX0 122 RX2 yX2_multiply wsX2_multiply) := goodIn_app (goodIn_of _ (by decide +kernel)) ggX0_findLoss_X2_multiply
theorem hy_X0_findLoss : yX0_findLoss.cls = RX0 ∧ yX0_findLoss.cls ≠ "java/lang/invoke/MethodHandle" ∧ yX0_findLoss.cls ≠ "java/lang/invoke/VarHandle" ∧ (parseMethodDescriptor yX0_findLoss.desc).map (fun d => d.parameters.length) = some 2 := by decide +kernel
set_option maxRecDepth 100000 in
theorem D_X0_findLoss : gDec cX0_findLoss [(0, (.aload_n 0, 1)), (1, (.aload_n 1, 1)), (2, (.iconst (-1), 1)), (3, (.invokevirtual 89, 3)), (6, (.aload_n 0, 1)), (7, (.aload_n 1, 1)), (8, (.iload_n 2, 1)), (9, (.invokevirtual 92, 3)), (12, (.aload_n 0, 1)), (13, (.getfield 28, 3)), (16, (.aload_n 0, 1)), (17, (.getfield 17, 3)), (20, (.iload_n 2, 1)), (21, (.aaload, 1)), (22, (.invokevirtual 55, 3)), (25, (.aload_n 0, 1)), (26, (.getfield 28, 3)), (29, (.invokevirtual 109, 3)), (32, (.ifCond .eq 5, 3)), (35, (.iconst 0, 1)), (36, (.ireturn, 1)), (37, (.aload_n 0, 1)), (38, (.aload_n 1, 1)), (39, (.iload_n 2, 1)), (40, (.invokevirtual 89, 3)), (43, (.aload_n 0, 1)), (44, (.aload_n 1, 1)), (45, (.iload_n 2, 1)), (46, (.invokevirtual 92, 3)), (49, (.aload_n 0, 1)), (50, (.getfield 25, 3)), (53, (.aload_n 0, 1)), (54, (.getfield 17, 3)), (57, (.iload_n 2, 1)), (58, (.aaload, 1)), (59, (.invokevirtual 55, 3)), (62, (.aload_n 0, 1)), (63, (.getfield 28, 3)), (66, (.invokevirtual 59, 3)), (69, (.aload_n 0, 1)), (70, (.getfield 25, 3)), (73, (.aload_n 0, 1)), (74, (.getfield 28, 3)), (77, (.invokevirtual 122, 3)), (80, (.aload_n 0, 1)), (81, (.getfield 25, 3)), (84, (.getfield 125, 3)), (87, (.lconst 1, 1)), (88, (.lcmp, 1)), (89, (.ifCond .ge 5, 3)), (92, (.iconst 0, 1)), (93, (.ireturn, 1)), (94, (.ldc2_w 129, 3)), (97, (.aload_n 0, 1)), (98, (.getfield 25, 3)), (101, (.getfield 125, 3)), (104, (.aload_n 0, 1)), (105, (.getfield 25, 3)), (108, (.getfield 131, 3)), (111, (.lsub, 1)), (112, (.lmul, 1)), (113, (.aload_n 0, 1)), (114, (.getfield 25, 3)), (117, (.getfield 125, 3)), (120, (.invokestatic 134, 3)), (123, (.l2i, 1)), (124, (.ireturn, 1))] = true := by decide +kernel
set_option maxRecDepth 100000 in
theorem in_X0_findLoss_X0 : ∀ x ∈ u_ws RX0 TX0 5, x ∈ wsX0_findLoss := by decide +kernel
set_option maxRecDepth 100000 in
theorem in_X0_findLoss_X2 : ∀ x ∈ u_ws RX2 TX2 2, x ∈ wsX0_findLoss := by decide +kernel
theorem fl_X0_findLoss_28 : gF wsX0_findLoss RX0 28 0 4 := ⟨RX0, TX0, 5, rfl, by decide, in_X0_findLoss_X0, by decide +kernel⟩
theorem fl_X0_findLoss_17 : gF wsX0_findLoss RX0 17 0 1 := ⟨RX0, TX0, 5, rfl, by decide, in_X0_findLoss_X0, by decide +kernel⟩
theorem fl_X0_findLoss_25 : gF wsX0_findLoss RX0 25 0 3 := ⟨RX0, TX0, 5, rfl, by decide, in_X0_findLoss_X0, by decide +kernel⟩
theorem fl_X0_findLoss_125 : gF wsX0_findLoss RX0 125 2 1 := ⟨RX2, TX2, 2, rfl, by decide, in_X0_findLoss_X2, by decide +kernel⟩
theorem lc_X0_findLoss_129 : Jvm.Cond.constantLong RX0 129 1000 ∈ wsX0_findLoss := by decide +kernel
theorem fl_X0_findLoss_131 : gF wsX0_findLoss RX0 131 2 0 := ⟨RX2, TX2, 2, rfl, by decide, in_X0_findLoss_X2, by decide +kernel⟩
def f_X0_findLoss (a0 : Nat) (a1 : Nat) (x2 : Int32) (h : gHp) : Option (Int32 × gHp) := (f_X0_findOhms a0 a1 (-1) h).bind fun v2 => (f_X0_findVolts a0 a1 x2 v2).bind fun v4 => if gIn x2 11 then (f_X2_copy (a0 + 5) (a0 + 7 + 2 * gN x2) v4).bind fun v7 => (f_X2_isZero (a0 + 5) v7).bind fun v9 => if v9 = true then some (0, v7) else (f_X0_findOhms a0 a1 x2 v7).bind fun v11 => (f_X0_findVolts a0 a1 x2 v11).bind fun v13 => if gIn x2 11 then (f_X2_copy (a0 + 4) (a0 + 7 + 2 * gN x2) v13).bind fun v16 => (f_X2_invert (a0 + 5) v16).bind fun v18 => (f_X2_multiply (a0 + 4) (a0 + 5) v18).bind fun v20 => if 1 ≤ (v20.2 (a0 + 4) 1) then (f_J9_floorDiv_f86c9 (1000 * ((v20.2 (a0 + 4) 1) - (v20.2 (a0 + 4) 0))) (v20.2 (a0 + 4) 1) v20).bind fun v22 => some (v22.toInt32, v20) else some (0, v20) else none else none
set_option maxRecDepth 20000 in
set_option maxHeartbeats 4000000 in
theorem m_X0_findLoss (w : gWd) (h : gHp) {a0 : Nat} (A0 : is_X0 w a0) {a1 : Nat} (A1 : is_X8 w a1) (x2 : Int32) {o : Int32 × gHp} (hF : f_X0_findLoss a0 a1 x2 h = some o) : gMet w yX0_findLoss wsX0_findLoss rm_X0_findLoss [.ref a0, .ref a1, .int x2] h (some (.int o.1)) o.2 := by
  refine gMet_of (cc := cX0_findLoss) (maxL := 3) (ret := (some .int)) (fr := 5) (lo := 132) (own := RX0) [(0, .ref a0), (1, .ref a1), (2, .int x2)] (by decide) rfl rfl (Nat.le_of_ble_eq_true rfl) rfl (Nat.le_refl _) (Nat.le_refl _) (fun g C E => ?_)
  rw [f_X0_findLoss] at hF
  refine gx_aload_n C 0 (gDec_at D_X0_findLoss 0 rfl) rfl rfl ?_
  refine gx_aload_n C 1 (gDec_at D_X0_findLoss 1 rfl) rfl rfl ?_
  refine gx_iconst C (v := (-1)) (gDec_at D_X0_findLoss 2 rfl) (by decide) ?_
  obtain ⟨v2, hv1, hF⟩ := gBind hF
  refine gx_callV0 C (st := []) 2 [.ref a1, .int (-1)] (m_X0_findOhms w h A0 A1 (-1) hv1) gX0_findLoss_X0_findOhms rfl rfl rfl hy_X0_findOhms (Nat.le_of_ble_eq_true rfl) (Nat.le_of_ble_eq_true rfl) (is_X0_sh A0) rfl rfl rfl (Nat.le_of_ble_eq_true rfl) (gDec_at D_X0_findLoss 3 rfl) ?_
  refine gx_aload_n C 0 (gDec_at D_X0_findLoss 4 rfl) rfl rfl ?_
  refine gx_aload_n C 1 (gDec_at D_X0_findLoss 5 rfl) rfl rfl ?_
  refine gx_iload_n C 2 (gDec_at D_X0_findLoss 6 rfl) rfl rfl ?_
  obtain ⟨v4, hv3, hF⟩ := gBind hF
  refine gx_callV0 C (st := []) 2 [.ref a1, .int x2] (m_X0_findVolts w v2 A0 A1 x2 hv3) gX0_findLoss_X0_findVolts rfl rfl rfl hy_X0_findVolts (Nat.le_of_ble_eq_true rfl) (Nat.le_of_ble_eq_true rfl) (is_X0_sh A0) rfl rfl rfl (Nat.le_of_ble_eq_true rfl) (gDec_at D_X0_findLoss 7 rfl) ?_
  refine gx_aload_n C 0 (gDec_at D_X0_findLoss 8 rfl) rfl rfl ?_
  refine gx_getr C fl_X0_findLoss_28 (is_X0_sh A0) rfl (gDec_at D_X0_findLoss 9 rfl) ?_
  refine gx_aload_n C 0 (gDec_at D_X0_findLoss 10 rfl) rfl rfl ?_
  refine gx_getr C fl_X0_findLoss_17 (is_X0_sh A0) rfl (gDec_at D_X0_findLoss 11 rfl) ?_
  refine gx_iload_n C 2 (gDec_at D_X0_findLoss 12 rfl) rfl rfl ?_
  obtain ⟨b5, hF⟩ := gGd hF
  refine gx_aaloadFr C (is_X0_volts A0) b5 (gDec_at D_X0_findLoss 13 rfl) ?_
  show gX w g 3 v4 _ _ (.ref (a0 + 7 + 2 * gN x2) :: .ref (a0 + 5) :: [])
  obtain ⟨v7, hv6, hF⟩ := gBind hF
  refine gx_callV0 C (st := []) 1 [.ref (a0 + 7 + 2 * gN x2)] (m_X2_copy w v4 (is_X0_unloaded A0) (is_X0_volts_at A0 b5) hv6) gX0_findLoss_X2_copy rfl rfl rfl hy_X2_copy (Nat.le_of_ble_eq_true rfl) (Nat.le_of_ble_eq_true rfl) (is_X2_sh (is_X0_unloaded A0)) rfl rfl rfl (Nat.le_of_ble_eq_true rfl) (gDec_at D_X0_findLoss 14 rfl) ?_
  refine gx_aload_n C 0 (gDec_at D_X0_findLoss 15 rfl) rfl rfl ?_
  refine gx_getr C fl_X0_findLoss_28 (is_X0_sh A0) rfl (gDec_at D_X0_findLoss 16 rfl) ?_
  obtain ⟨v9, hv8, hF⟩ := gBind hF
  refine gx_callV1 C (st := []) 0 [] (m_X2_isZero w v7 (is_X0_unloaded A0) hv8) gX0_findLoss_X2_isZero rfl rfl rfl hy_X2_isZero (Nat.le_of_ble_eq_true rfl) (Nat.le_of_ble_eq_true rfl) (is_X2_sh (is_X0_unloaded A0)) rfl rfl rfl (Nat.le_of_ble_eq_true rfl) (gDec_at D_X0_findLoss 17 rfl) ?_
  refine gx_ifz_eq C 37 (gDec_at D_X0_findLoss 18 rfl) (by decide) (fun c => ?_) (fun c => ?_)
  · replace hF := gNeg c hF
    refine gx_aload_n C 0 (gDec_at D_X0_findLoss 21 rfl) rfl rfl ?_
    refine gx_aload_n C 1 (gDec_at D_X0_findLoss 22 rfl) rfl rfl ?_
    refine gx_iload_n C 2 (gDec_at D_X0_findLoss 23 rfl) rfl rfl ?_
    obtain ⟨v11, hv10, hF⟩ := gBind hF
    refine gx_callV0 C (st := []) 2 [.ref a1, .int x2] (m_X0_findOhms w v7 A0 A1 x2 hv10) gX0_findLoss_X0_findOhms rfl rfl rfl hy_X0_findOhms (Nat.le_of_ble_eq_true rfl) (Nat.le_of_ble_eq_true rfl) (is_X0_sh A0) rfl rfl rfl (Nat.le_of_ble_eq_true rfl) (gDec_at D_X0_findLoss 24 rfl) ?_
    refine gx_aload_n C 0 (gDec_at D_X0_findLoss 25 rfl) rfl rfl ?_
    refine gx_aload_n C 1 (gDec_at D_X0_findLoss 26 rfl) rfl rfl ?_
    refine gx_iload_n C 2 (gDec_at D_X0_findLoss 27 rfl) rfl rfl ?_
    obtain ⟨v13, hv12, hF⟩ := gBind hF
    refine gx_callV0 C (st := []) 2 [.ref a1, .int x2] (m_X0_findVolts w v11 A0 A1 x2 hv12) gX0_findLoss_X0_findVolts rfl rfl rfl hy_X0_findVolts (Nat.le_of_ble_eq_true rfl) (Nat.le_of_ble_eq_true rfl) (is_X0_sh A0) rfl rfl rfl (Nat.le_of_ble_eq_true rfl) (gDec_at D_X0_findLoss 28 rfl) ?_
    refine gx_aload_n C 0 (gDec_at D_X0_findLoss 29 rfl) rfl rfl ?_
    refine gx_getr C fl_X0_findLoss_25 (is_X0_sh A0) rfl (gDec_at D_X0_findLoss 30 rfl) ?_
    refine gx_aload_n C 0 (gDec_at D_X0_findLoss 31 rfl) rfl rfl ?_
    refine gx_getr C fl_X0_findLoss_17 (is_X0_sh A0) rfl (gDec_at D_X0_findLoss 32 rfl) ?_
    refine gx_iload_n C 2 (gDec_at D_X0_findLoss 33 rfl) rfl rfl ?_
    obtain ⟨b14, hF⟩ := gGd hF
    refine gx_aaloadFr C (is_X0_volts A0) b14 (gDec_at D_X0_findLoss 34 rfl) ?_
    show gX w g 3 v13 _ _ (.ref (a0 + 7 + 2 * gN x2) :: .ref (a0 + 4) :: [])
    obtain ⟨v16, hv15, hF⟩ := gBind hF
    refine gx_callV0 C (st := []) 1 [.ref (a0 + 7 + 2 * gN x2)] (m_X2_copy w v13 (is_X0_share A0) (is_X0_volts_at A0 b14) hv15) gX0_findLoss_X2_copy rfl rfl rfl hy_X2_copy (Nat.le_of_ble_eq_true rfl) (Nat.le_of_ble_eq_true rfl) (is_X2_sh (is_X0_share A0)) rfl rfl rfl (Nat.le_of_ble_eq_true rfl) (gDec_at D_X0_findLoss 35 rfl) ?_
    refine gx_aload_n C 0 (gDec_at D_X0_findLoss 36 rfl) rfl rfl ?_
    refine gx_getr C fl_X0_findLoss_28 (is_X0_sh A0) rfl (gDec_at D_X0_findLoss 37 rfl) ?_
    obtain ⟨v18, hv17, hF⟩ := gBind hF
    refine gx_callV0 C (st := []) 0 [] (m_X2_invert w v16 (is_X0_unloaded A0) hv17) gX0_findLoss_X2_invert rfl rfl rfl hy_X2_invert (Nat.le_of_ble_eq_true rfl) (Nat.le_of_ble_eq_true rfl) (is_X2_sh (is_X0_unloaded A0)) rfl rfl rfl (Nat.le_of_ble_eq_true rfl) (gDec_at D_X0_findLoss 38 rfl) ?_
    refine gx_aload_n C 0 (gDec_at D_X0_findLoss 39 rfl) rfl rfl ?_
    refine gx_getr C fl_X0_findLoss_25 (is_X0_sh A0) rfl (gDec_at D_X0_findLoss 40 rfl) ?_
    refine gx_aload_n C 0 (gDec_at D_X0_findLoss 41 rfl) rfl rfl ?_
    refine gx_getr C fl_X0_findLoss_28 (is_X0_sh A0) rfl (gDec_at D_X0_findLoss 42 rfl) ?_
    obtain ⟨v20, hv19, hF⟩ := gBind hF
    refine gx_callV0 C (st := []) 1 [.ref (a0 + 5)] (m_X2_multiply w v18 (is_X0_share A0) (is_X0_unloaded A0) hv19) gX0_findLoss_X2_multiply rfl rfl rfl hy_X2_multiply (Nat.le_of_ble_eq_true rfl) (Nat.le_of_ble_eq_true rfl) (is_X2_sh (is_X0_share A0)) rfl rfl rfl (Nat.le_of_ble_eq_true rfl) (gDec_at D_X0_findLoss 43 rfl) ?_
    refine gx_aload_n C 0 (gDec_at D_X0_findLoss 44 rfl) rfl rfl ?_
    refine gx_getr C fl_X0_findLoss_25 (is_X0_sh A0) rfl (gDec_at D_X0_findLoss 45 rfl) ?_
    refine gx_getl C fl_X0_findLoss_125 (is_X2_sh (is_X0_share A0)) rfl (gDec_at D_X0_findLoss 46 rfl) ?_
    refine gx_lconst C (v := 1) (gDec_at D_X0_findLoss 47 rfl) (by decide) ?_
    refine gx_lcmp_ge C 94 (gDec_at D_X0_findLoss 48 rfl) (gDec_at D_X0_findLoss 49 rfl) (by decide) (fun c => ?_) (fun c => ?_)
    · replace hF := gPos c hF
      refine gx_ldc2 C (v := 1000) lc_X0_findLoss_129 (gDec_at D_X0_findLoss 52 rfl) ?_
      refine gx_aload_n C 0 (gDec_at D_X0_findLoss 53 rfl) rfl rfl ?_
      refine gx_getr C fl_X0_findLoss_25 (is_X0_sh A0) rfl (gDec_at D_X0_findLoss 54 rfl) ?_
      refine gx_getl C fl_X0_findLoss_125 (is_X2_sh (is_X0_share A0)) rfl (gDec_at D_X0_findLoss 55 rfl) ?_
      refine gx_aload_n C 0 (gDec_at D_X0_findLoss 56 rfl) rfl rfl ?_
      refine gx_getr C fl_X0_findLoss_25 (is_X0_sh A0) rfl (gDec_at D_X0_findLoss 57 rfl) ?_
      refine gx_getl C fl_X0_findLoss_131 (is_X2_sh (is_X0_share A0)) rfl (gDec_at D_X0_findLoss 58 rfl) ?_
      refine gx_lsub C (gDec_at D_X0_findLoss 59 rfl) ?_
      refine gx_lmul C (gDec_at D_X0_findLoss 60 rfl) ?_
      refine gx_aload_n C 0 (gDec_at D_X0_findLoss 61 rfl) rfl rfl ?_
      refine gx_getr C fl_X0_findLoss_25 (is_X0_sh A0) rfl (gDec_at D_X0_findLoss 62 rfl) ?_
      refine gx_getl C fl_X0_findLoss_125 (is_X2_sh (is_X0_share A0)) rfl (gDec_at D_X0_findLoss 63 rfl) ?_
      obtain ⟨v22, hv21, hF⟩ := gBind hF
      refine gx_callS1 C (st := []) 2 [.long (1000 * ((v20.2 (a0 + 4) 1) - (v20.2 (a0 + 4) 0))), .long (v20.2 (a0 + 4) 1)] (m_J9_floorDiv_f86c9 w v20 (1000 * ((v20.2 (a0 + 4) 1) - (v20.2 (a0 + 4) 0))) (v20.2 (a0 + 4) 1) hv21) gX0_findLoss_J9_floorDiv_f86c9 rfl rfl rfl hy_J9_floorDiv_f86c9 (Nat.le_of_ble_eq_true rfl) (Nat.le_of_ble_eq_true rfl) rfl rfl (Nat.le_of_ble_eq_true rfl) (gDec_at D_X0_findLoss 64 rfl) ?_
      refine gx_l2i C (gDec_at D_X0_findLoss 65 rfl) ?_
      obtain rfl := Option.some.inj hF
      exact gx_iret C E (gDec_at D_X0_findLoss 66 rfl)
    · replace hF := gNeg c hF
      refine gx_iconst C (v := 0) (gDec_at D_X0_findLoss 50 rfl) (by decide) ?_
      obtain rfl := Option.some.inj hF
      exact gx_iret C E (gDec_at D_X0_findLoss 51 rfl)
  · replace hF := gPos c hF
    refine gx_iconst C (v := 0) (gDec_at D_X0_findLoss 19 rfl) (by decide) ?_
    obtain rfl := Option.some.inj hF
    exact gx_iret C E (gDec_at D_X0_findLoss 20 rfl)
