/-! LadderBench$Circuit.takeOthersOff -/
def rm_X0_takeOthersOff : Room := { frames := 4, cells := 0, slots := 0, locals := 108 }
set_option maxRecDepth 20000 in
theorem ggX0_takeOthersOff_X0_addUp : GoodIn wsX0_takeOthersOff wsX0_addUp := goodIn_r _ [8, 2, 1, 9, 10, 11, 12, 13, 14, 15, 16, 17, 18, 19, 20, 21, 22, 23, 24, 25, 26, 27, 28, 29, 30, 31, 32, 33, 34, 35, 36, 37, 38, 39, 40, 41, 42, 43, 44, 50, 51, 52, 53, 54, 45, 46, 47, 48, 49, 55, 56] (by decide +kernel) (by decide +kernel)
set_option maxRecDepth 20000 in
theorem gX0_takeOthersOff_X0_addUp : GoodIn wsX0_takeOthersOff (wsV RX0 51 RX0 yX0_addUp wsX0_addUp) := goodIn_app (goodIn_of _ (by decide +kernel)) ggX0_takeOthersOff_X0_addUp
set_option maxRecDepth 20000 in
theorem ggX0_takeOthersOff_X2_add : GoodIn wsX0_takeOthersOff wsX2_add := goodIn_r _ [43, 17, 16, 44, 12, 13, 14, 15, 18, 19, 20, 55, 56] (by decide +kernel) (by decide +kernel)
set_option maxRecDepth 20000 in
theorem gX0_takeOthersOff_X2_add : GoodIn wsX0_takeOthersOff (wsV RX0 86 RX2 yX2_add wsX2_add) := goodIn_app (goodIn_of _ (by decide +kernel)) ggX0_takeOthersOff_X2_add
set_option maxRecDepth 20000 in
theorem ggX0_takeOthersOff_X2_invert : GoodIn wsX0_takeOthersOff wsX2_invert := goodIn_r _ [39, 16, 17, 55, 56] (by decide +kernel) (by decide +kernel)
set_option maxRecDepth 20000 in
theorem gX0_takeOthersOff_X2_invert : GoodIn wsX0_takeOthersOff (wsV RX0 59 RX2 yX2_invert wsX2_invert) := goodIn_app (goodIn_of _ (by decide +kernel)) ggX0_takeOthersOff_X2_invert
set_option maxRecDepth 20000 in
theorem ggX0_takeOthersOff_X5_isKind : GoodIn wsX0_takeOthersOff wsX5_isKind := goodIn_r _ [29, 30, 31, 32, 33, 28, 34, 35, 45, 46, 47, 48, 49] (by decide +kernel) (by decide +kernel)
set_option maxRecDepth 20000 in
theorem gX0_takeOthersOff_X5_isKind : GoodIn wsX0_takeOthersOff (wsV RX0 43 RX5 yX5_isKind wsX5_isKind) := goodIn_app (goodIn_of _ (by decide +kernel)) ggX0_takeOthersOff_X5_isKind
theorem hy_X0_takeOthersOff : yX0_takeOthersOff.cls = RX0 ∧ yX0_takeOthersOff.cls ≠ "java/lang/invoke/MethodHandle" ∧ yX0_takeOthersOff.cls ≠ "java/lang/invoke/VarHandle" ∧ (parseMethodDescriptor yX0_takeOthersOff.desc).map (fun d => d.parameters.length) = some 3 := by decide +kernel
set_option maxRecDepth 100000 in
theorem D_X0_takeOthersOff : gDec cX0_takeOthersOff [(0, (.aload_n 1, 1)), (1, (.getfield 83, 3)), (4, (.iload_n 2, 1)), (5, (.iaload, 1)), (6, (.istore 4, 2)), (8, (.aload_n 0, 1)), (9, (.aload_n 1, 1)), (10, (.iload 4, 2)), (12, (.iload_n 2, 1)), (13, (.invokevirtual 51, 3)), (16, (.aload_n 1, 1)), (17, (.iload 4, 2)), (19, (.iconst 1, 1)), (20, (.invokevirtual 43, 3)), (23, (.ifCond .eq 27, 3)), (26, (.aload_n 3, 1)), (27, (.aload_n 0, 1)), (28, (.getfield 21, 3)), (31, (.iconst (-1), 1)), (32, (.invokevirtual 86, 3)), (35, (.aload_n 3, 1)), (36, (.getfield 131, 3)), (39, (.lconst 0, 1)), (40, (.lcmp, 1)), (41, (.ifCond .lt 7, 3)), (44, (.iconst 1, 1)), (45, (.goto 4, 3)), (48, (.iconst 0, 1)), (49, (.ireturn, 1)), (50, (.aload_n 3, 1)), (51, (.invokevirtual 59, 3)), (54, (.aload_n 3, 1)), (55, (.aload_n 0, 1)), (56, (.getfield 21, 3)), (59, (.iconst (-1), 1)), (60, (.invokevirtual 86, 3)), (63, (.aload_n 3, 1)), (64, (.getfield 131, 3)), (67, (.lconst 0, 1)), (68, (.lcmp, 1)), (69, (.ifCond .le 7, 3)), (72, (.iconst 1, 1)), (73, (.goto 4, 3)), (76, (.iconst 0, 1)), (77, (.istore 5, 2)), (79, (.aload_n 3, 1)), (80, (.invokevirtual 59, 3)), (83, (.iload 5, 2)), (85, (.ireturn, 1))] = true := by decide +kernel
set_option maxRecDepth 100000 in
theorem in_X0_takeOthersOff_X0 : ∀ x ∈ u_ws RX0 TX0 5, x ∈ wsX0_takeOthersOff := by decide +kernel
set_option maxRecDepth 100000 in
theorem in_X0_takeOthersOff_X2 : ∀ x ∈ u_ws RX2 TX2 2, x ∈ wsX0_takeOthersOff := by decide +kernel
set_option maxRecDepth 100000 in
theorem in_X0_takeOthersOff_X5 : ∀ x ∈ u_ws RX5 TX5 5, x ∈ wsX0_takeOthersOff := by decide +kernel
theorem fl_X0_takeOthersOff_83 : gF wsX0_takeOthersOff RX0 83 5 1 := ⟨RX5, TX5, 5, rfl, by decide, in_X0_takeOthersOff_X5, by decide +kernel⟩
theorem fl_X0_takeOthersOff_21 : gF wsX0_takeOthersOff RX0 21 0 2 := ⟨RX0, TX0, 5, rfl, by decide, in_X0_takeOthersOff_X0, by decide +kernel⟩
theorem fl_X0_takeOthersOff_131 : gF wsX0_takeOthersOff RX0 131 2 0 := ⟨RX2, TX2, 2, rfl, by decide, in_X0_takeOthersOff_X2, by decide +kernel⟩
def f_X0_takeOthersOff (a0 : Nat) (a1 : Nat) (x2 : Int32) (a3 : Nat) (h : gHp) : Option (Bool × gHp) := if gIn x2 11 then (f_X0_addUp a0 a1 (h.1 (a1 + 2) (gN x2)) x2 h).bind fun v3 => (f_X5_isKind a1 (h.1 (a1 + 2) (gN x2)) 1 v3).bind fun v5 => if v5 = true then (f_X2_add a3 (a0 + 3) (-1) v3).bind fun v15 => if (v15.2 a3 0) < 0 then some (false, v15) else some (true, v15) else (f_X2_invert a3 v3).bind fun v7 => (f_X2_add a3 (a0 + 3) (-1) v7).bind fun v9 => if (v9.2 a3 0) ≤ 0 then (f_X2_invert a3 v9).bind fun v11 => some (false, v11) else (f_X2_invert a3 v9).bind fun v13 => some (true, v13) else none
set_option maxRecDepth 20000 in
set_option maxHeartbeats 4000000 in
theorem m_X0_takeOthersOff (w : gWd) (h : gHp) {a0 : Nat} (A0 : is_X0 w a0) {a1 : Nat} (A1 : is_X5 w a1) (x2 : Int32) {a3 : Nat} (A3 : is_X2 w a3) {o : Bool × gHp} (hF : f_X0_takeOthersOff a0 a1 x2 a3 h = some o) : gMet w yX0_takeOthersOff wsX0_takeOthersOff rm_X0_takeOthersOff [.ref a0, .ref a1, .int x2, .ref a3] h (some (.int (gZ o.1))) o.2 := by
  refine gMet_of (cc := cX0_takeOthersOff) (maxL := 6) (ret := (some .boolean)) (fr := 4) (lo := 108) (own := RX0) [(0, .ref a0), (1, .ref a1), (2, .int x2), (3, .ref a3)] (by decide) rfl rfl (Nat.le_of_ble_eq_true rfl) rfl (Nat.le_refl _) (Nat.le_refl _) (fun g C E => ?_)
  rw [f_X0_takeOthersOff] at hF
  refine gx_aload_n C 1 (gDec_at D_X0_takeOthersOff 0 rfl) rfl rfl ?_
  refine gx_getr C fl_X0_takeOthersOff_83 (is_X5_sh A1) rfl (gDec_at D_X0_takeOthersOff 1 rfl) ?_
  refine gx_iload_n C 2 (gDec_at D_X0_takeOthersOff 2 rfl) rfl rfl ?_
  obtain ⟨b1, hF⟩ := gGd hF
  refine gx_iaload C (is_X5_around A1) b1 (gDec_at D_X0_takeOthersOff 3 rfl) ?_
  refine gx_istore C (lv' := [(4, .int (h.1 (a1 + 2) (gN x2))), (0, .ref a0), (1, .ref a1), (2, .int x2), (3, .ref a3)]) (gDec_at D_X0_takeOthersOff 4 rfl) (Nat.le_of_ble_eq_true rfl) rfl ?_
  refine gx_aload_n C 1 (gDec_at D_X0_takeOthersOff 5 rfl) rfl rfl ?_
  refine gx_aload_n C 2 (gDec_at D_X0_takeOthersOff 6 rfl) rfl rfl ?_
  refine gx_iload C 0 (gDec_at D_X0_takeOthersOff 7 rfl) rfl ?_
  refine gx_iload_n C 3 (gDec_at D_X0_takeOthersOff 8 rfl) rfl rfl ?_
  obtain ⟨v3, hv2, hF⟩ := gBind hF
  refine gx_callV0 C (st := []) 3 [.ref a1, .int (h.1 (a1 + 2) (gN x2)), .int x2] (m_X0_addUp w h A0 A1 (h.1 (a1 + 2) (gN x2)) x2 hv2) gX0_takeOthersOff_X0_addUp rfl rfl rfl hy_X0_addUp (Nat.le_of_ble_eq_true rfl) (Nat.le_of_ble_eq_true rfl) (is_X0_sh A0) rfl rfl rfl (Nat.le_of_ble_eq_true rfl) (gDec_at D_X0_takeOthersOff 9 rfl) ?_
  refine gx_aload_n C 2 (gDec_at D_X0_takeOthersOff 10 rfl) rfl rfl ?_
  refine gx_iload C 0 (gDec_at D_X0_takeOthersOff 11 rfl) rfl ?_
  refine gx_iconst C (v := 1) (gDec_at D_X0_takeOthersOff 12 rfl) (by decide) ?_
  obtain ⟨v5, hv4, hF⟩ := gBind hF
  refine gx_callV1 C (st := []) 2 [.int (h.1 (a1 + 2) (gN x2)), .int 1] (m_X5_isKind w v3 A1 (h.1 (a1 + 2) (gN x2)) 1 hv4) gX0_takeOthersOff_X5_isKind rfl rfl rfl hy_X5_isKind (Nat.le_of_ble_eq_true rfl) (Nat.le_of_ble_eq_true rfl) (is_X5_sh A1) rfl rfl rfl (Nat.le_of_ble_eq_true rfl) (gDec_at D_X0_takeOthersOff 13 rfl) ?_
  refine gx_ifz_eq C 50 (gDec_at D_X0_takeOthersOff 14 rfl) (by decide) (fun c => ?_) (fun c => ?_)
  · replace hF := gNeg c hF
    refine gx_aload_n C 4 (gDec_at D_X0_takeOthersOff 29 rfl) rfl rfl ?_
    obtain ⟨v7, hv6, hF⟩ := gBind hF
    refine gx_callV0 C (st := []) 0 [] (m_X2_invert w v3 A3 hv6) gX0_takeOthersOff_X2_invert rfl rfl rfl hy_X2_invert (Nat.le_of_ble_eq_true rfl) (Nat.le_of_ble_eq_true rfl) (is_X2_sh A3) rfl rfl rfl (Nat.le_of_ble_eq_true rfl) (gDec_at D_X0_takeOthersOff 30 rfl) ?_
    refine gx_aload_n C 4 (gDec_at D_X0_takeOthersOff 31 rfl) rfl rfl ?_
    refine gx_aload_n C 1 (gDec_at D_X0_takeOthersOff 32 rfl) rfl rfl ?_
    refine gx_getr C fl_X0_takeOthersOff_21 (is_X0_sh A0) rfl (gDec_at D_X0_takeOthersOff 33 rfl) ?_
    refine gx_iconst C (v := (-1)) (gDec_at D_X0_takeOthersOff 34 rfl) (by decide) ?_
    obtain ⟨v9, hv8, hF⟩ := gBind hF
    refine gx_callV0 C (st := []) 2 [.ref (a0 + 3), .int (-1)] (m_X2_add w v7 A3 (is_X0_sum A0) (-1) hv8) gX0_takeOthersOff_X2_add rfl rfl rfl hy_X2_add (Nat.le_of_ble_eq_true rfl) (Nat.le_of_ble_eq_true rfl) (is_X2_sh A3) rfl rfl rfl (Nat.le_of_ble_eq_true rfl) (gDec_at D_X0_takeOthersOff 35 rfl) ?_
    refine gx_aload_n C 4 (gDec_at D_X0_takeOthersOff 36 rfl) rfl rfl ?_
    refine gx_getl C fl_X0_takeOthersOff_131 (is_X2_sh A3) rfl (gDec_at D_X0_takeOthersOff 37 rfl) ?_
    refine gx_lconst C (v := 0) (gDec_at D_X0_takeOthersOff 38 rfl) (by decide) ?_
    refine gx_lcmp_le C 76 (gDec_at D_X0_takeOthersOff 39 rfl) (gDec_at D_X0_takeOthersOff 40 rfl) (by decide) (fun c => ?_) (fun c => ?_)
    · replace hF := gPos c hF
      refine gx_iconst C (v := 0) (gDec_at D_X0_takeOthersOff 43 rfl) (by decide) ?_
      refine gx_istore C (lv' := [(5, .int 0), (4, .int (h.1 (a1 + 2) (gN x2))), (0, .ref a0), (1, .ref a1), (2, .int x2), (3, .ref a3)]) (gDec_at D_X0_takeOthersOff 44 rfl) (Nat.le_of_ble_eq_true rfl) rfl ?_
      refine gx_aload_n C 5 (gDec_at D_X0_takeOthersOff 45 rfl) rfl rfl ?_
      obtain ⟨v11, hv10, hF⟩ := gBind hF
      refine gx_callV0 C (st := []) 0 [] (m_X2_invert w v9 A3 hv10) gX0_takeOthersOff_X2_invert rfl rfl rfl hy_X2_invert (Nat.le_of_ble_eq_true rfl) (Nat.le_of_ble_eq_true rfl) (is_X2_sh A3) rfl rfl rfl (Nat.le_of_ble_eq_true rfl) (gDec_at D_X0_takeOthersOff 46 rfl) ?_
      refine gx_iload C 0 (gDec_at D_X0_takeOthersOff 47 rfl) rfl ?_
      obtain rfl := Option.some.inj hF
      exact gx_zret (b := false) C E (gDec_at D_X0_takeOthersOff 48 rfl)
    · replace hF := gNeg c hF
      refine gx_iconst C (v := 1) (gDec_at D_X0_takeOthersOff 41 rfl) (by decide) ?_
      refine gx_goto C 77 (gDec_at D_X0_takeOthersOff 42 rfl) (by decide) ?_
      refine gx_istore C (lv' := [(5, .int 1), (4, .int (h.1 (a1 + 2) (gN x2))), (0, .ref a0), (1, .ref a1), (2, .int x2), (3, .ref a3)]) (gDec_at D_X0_takeOthersOff 44 rfl) (Nat.le_of_ble_eq_true rfl) rfl ?_
      refine gx_aload_n C 5 (gDec_at D_X0_takeOthersOff 45 rfl) rfl rfl ?_
      obtain ⟨v13, hv12, hF⟩ := gBind hF
      refine gx_callV0 C (st := []) 0 [] (m_X2_invert w v9 A3 hv12) gX0_takeOthersOff_X2_invert rfl rfl rfl hy_X2_invert (Nat.le_of_ble_eq_true rfl) (Nat.le_of_ble_eq_true rfl) (is_X2_sh A3) rfl rfl rfl (Nat.le_of_ble_eq_true rfl) (gDec_at D_X0_takeOthersOff 46 rfl) ?_
      refine gx_iload C 0 (gDec_at D_X0_takeOthersOff 47 rfl) rfl ?_
      obtain rfl := Option.some.inj hF
      exact gx_zret (b := true) C E (gDec_at D_X0_takeOthersOff 48 rfl)
  · replace hF := gPos c hF
    refine gx_aload_n C 4 (gDec_at D_X0_takeOthersOff 15 rfl) rfl rfl ?_
    refine gx_aload_n C 1 (gDec_at D_X0_takeOthersOff 16 rfl) rfl rfl ?_
    refine gx_getr C fl_X0_takeOthersOff_21 (is_X0_sh A0) rfl (gDec_at D_X0_takeOthersOff 17 rfl) ?_
    refine gx_iconst C (v := (-1)) (gDec_at D_X0_takeOthersOff 18 rfl) (by decide) ?_
    obtain ⟨v15, hv14, hF⟩ := gBind hF
    refine gx_callV0 C (st := []) 2 [.ref (a0 + 3), .int (-1)] (m_X2_add w v3 A3 (is_X0_sum A0) (-1) hv14) gX0_takeOthersOff_X2_add rfl rfl rfl hy_X2_add (Nat.le_of_ble_eq_true rfl) (Nat.le_of_ble_eq_true rfl) (is_X2_sh A3) rfl rfl rfl (Nat.le_of_ble_eq_true rfl) (gDec_at D_X0_takeOthersOff 19 rfl) ?_
    refine gx_aload_n C 4 (gDec_at D_X0_takeOthersOff 20 rfl) rfl rfl ?_
    refine gx_getl C fl_X0_takeOthersOff_131 (is_X2_sh A3) rfl (gDec_at D_X0_takeOthersOff 21 rfl) ?_
    refine gx_lconst C (v := 0) (gDec_at D_X0_takeOthersOff 22 rfl) (by decide) ?_
    refine gx_lcmp_lt C 48 (gDec_at D_X0_takeOthersOff 23 rfl) (gDec_at D_X0_takeOthersOff 24 rfl) (by decide) (fun c => ?_) (fun c => ?_)
    · replace hF := gPos c hF
      refine gx_iconst C (v := 0) (gDec_at D_X0_takeOthersOff 27 rfl) (by decide) ?_
      obtain rfl := Option.some.inj hF
      exact gx_zret (b := false) C E (gDec_at D_X0_takeOthersOff 28 rfl)
    · replace hF := gNeg c hF
      refine gx_iconst C (v := 1) (gDec_at D_X0_takeOthersOff 25 rfl) (by decide) ?_
      refine gx_goto C 49 (gDec_at D_X0_takeOthersOff 26 rfl) (by decide) ?_
      obtain rfl := Option.some.inj hF
      exact gx_zret (b := true) C E (gDec_at D_X0_takeOthersOff 28 rfl)
/-! LadderBench$Circuit.solveFor -/
def rm_X0_solveFor : Room := { frames := 5, cells := 0, slots := 0, locals := 133 }
set_option maxRecDepth 20000 in
theorem ggX0_solveFor_X0_addUp : GoodIn wsX0_solveFor wsX0_addUp := goodIn_r _ [43, 4, 3, 44, 5, 30, 31, 32, 33, 34, 35, 36, 37, 38, 39, 45, 46, 47, 48, 12, 13, 14, 15, 16, 17, 18, 19, 20, 21, 22, 49, 50, 51, 52, 53, 54, 55, 56, 57, 93, 94, 95, 96, 97, 88, 89, 90, 91, 92, 98, 99] (by decide +kernel) (by decide +kernel)
set_option maxRecDepth 20000 in
theorem gX0_solveFor_X0_addUp : GoodIn wsX0_solveFor (wsV RX0 51 RX0 yX0_addUp wsX0_addUp) := goodIn_app (goodIn_of _ (by decide +kernel)) ggX0_solveFor_X0_addUp
set_option maxRecDepth 20000 in
theorem ggX0_solveFor_X0_findOhms : GoodIn wsX0_solveFor wsX0_findOhms := goodIn_r _ [10, 1, 2, 5, 4, 11, 12, 13, 14, 15, 16, 17, 18, 19, 20, 21, 22, 23, 24, 25, 9, 26, 27, 28, 29, 30, 31, 32, 33, 34, 35, 36, 37, 38, 39, 40, 41, 42, 43, 3, 44, 45, 46, 47, 48, 49, 50, 51, 52, 53, 54, 55, 56, 57, 58, 59, 60, 61, 80, 81, 82, 83, 84, 85, 86, 87, 88, 89, 90, 91, 92, 93, 94, 95, 96, 97, 98, 99] (by decide +kernel) (by decide +kernel)
set_option maxRecDepth 20000 in
theorem gX0_solveFor_X0_findOhms : GoodIn wsX0_solveFor (wsV RX0 89 RX0 yX0_findOhms wsX0_findOhms) := goodIn_app (goodIn_of _ (by decide +kernel)) ggX0_solveFor_X0_findOhms
set_option maxRecDepth 20000 in
theorem ggX0_solveFor_X0_takeOthersOff : GoodIn wsX0_solveFor wsX0_takeOthersOff := goodIn_r _ [78, 3, 4, 79, 40, 41, 42, 9, 43, 44, 5, 30, 31, 32, 33, 34, 35, 36, 37, 38, 39, 45, 46, 47, 48, 12, 13, 14, 15, 16, 17, 18, 19, 20, 21, 22, 49, 50, 51, 52, 53, 54, 55, 56, 57, 88, 89, 90, 91, 92, 93, 94, 95, 96, 97, 98, 99] (by decide +kernel) (by decide +kernel)
set_option maxRecDepth 20000 in
theorem gX0_solveFor_X0_takeOthersOff : GoodIn wsX0_solveFor (wsV RX0 146 RX0 yX0_takeOthersOff wsX0_takeOthersOff) := goodIn_app (goodIn_of _ (by decide +kernel)) ggX0_solveFor_X0_takeOthersOff
set_option maxRecDepth 20000 in
theorem ggX0_solveFor_X2_isInfinite : GoodIn wsX0_solveFor wsX2_isInfinite := goodIn_r _ [70, 36, 98, 99] (by decide +kernel) (by decide +kernel)
set_option maxRecDepth 20000 in
theorem gX0_solveFor_X2_isInfinite : GoodIn wsX0_solveFor (wsV RX0 105 RX2 yX2_isInfinite wsX2_isInfinite) := goodIn_app (goodIn_of _ (by decide +kernel)) ggX0_solveFor_X2_isInfinite
set_option maxRecDepth 20000 in
theorem ggX0_solveFor_X2_isSame : GoodIn wsX0_solveFor wsX2_isSame := goodIn_r _ [74, 35, 36, 98, 99] (by decide +kernel) (by decide +kernel)
set_option maxRecDepth 20000 in
theorem gX0_solveFor_X2_isSame : GoodIn wsX0_solveFor (wsV RX0 142 RX2 yX2_isSame wsX2_isSame) := goodIn_app (goodIn_of _ (by decide +kernel)) ggX0_solveFor_X2_isSame
set_option maxRecDepth 20000 in
theorem ggX0_solveFor_X5_findWayUp : GoodIn wsX0_solveFor wsX5_findWayUp := goodIn_r _ [65, 66, 18, 19, 20, 15, 21, 22, 88, 89, 90, 91, 92] (by decide +kernel) (by decide +kernel)
set_option maxRecDepth 20000 in
theorem gX0_solveFor_X5_findWayUp : GoodIn wsX0_solveFor (wsV RX0 138 RX5 yX5_findWayUp wsX5_findWayUp) := goodIn_app (goodIn_of _ (by decide +kernel)) ggX0_solveFor_X5_findWayUp
theorem hy_X0_solveFor : yX0_solveFor.cls = RX0 ∧ yX0_solveFor.cls ≠ "java/lang/invoke/MethodHandle" ∧ yX0_solveFor.cls ≠ "java/lang/invoke/VarHandle" ∧ (parseMethodDescriptor yX0_solveFor.desc).map (fun d => d.parameters.length) = some 3 := by decide +kernel
set_option maxRecDepth 100000 in
theorem D_X0_solveFor : gDec cX0_solveFor [(0, (.aload_n 1, 1)), (1, (.getfield 31, 3)), (4, (.astore 4, 2)), (6, (.aload_n 0, 1)), (7, (.aload_n 1, 1)), (8, (.iconst (-1), 1)), (9, (.invokevirtual 89, 3)), (12, (.aload 4, 2)), (14, (.iload_n 2, 1)), (15, (.invokevirtual 138, 3)), (18, (.istore 5, 2)), (20, (.aload 4, 2)), (22, (.getfield 37, 3)), (25, (.iconst 1, 1)), (26, (.isub, 1)), (27, (.istore 6, 2)), (29, (.iload 6, 2)), (31, (.iconst 1, 1)), (32, (.isub, 1)), (33, (.istore 7, 2)), (35, (.iload 7, 2)), (37, (.iload_n 2, 1)), (38, (.if_icmp .lt 66, 3)), (41, (.iload 5, 2)), (43, (.iload 7, 2)), (45, (.ishr, 1)), (46, (.iconst 1, 1)), (47, (.iand, 1)), (48, (.iconst 1, 1)), (49, (.if_icmp .ne 49, 3)), (52, (.aload_n 0, 1)), (53, (.aload 4, 2)), (55, (.aload 4, 2)), (57, (.getfield 83, 3)), (60, (.iload 7, 2)), (62, (.iaload, 1)), (63, (.iload 7, 2)), (65, (.invokevirtual 51, 3)), (68, (.aload_n 0, 1)), (69, (.getfield 21, 3)), (72, (.invokevirtual 105, 3)), (75, (.ifCond .eq 23, 3)), (78, (.aload_n 3, 1)), (79, (.aload_n 0, 1)), (80, (.getfield 11, 3)), (83, (.iload 6, 2)), (85, (.aaload, 1)), (86, (.invokevirtual 142, 3)), (89, (.ifCond .eq 7, 3)), (92, (.iconst 2, 1)), (93, (.goto 4, 3)), (96, (.iconst 0, 1)), (97, (.ireturn, 1)), (98, (.iinc 7 (-1), 3)), (101, (.goto (-66), 3)), (104, (.iload 6, 2)), (106, (.iconst 1, 1)), (107, (.isub, 1)), (108, (.istore 7, 2)), (110, (.iload 7, 2)), (112, (.iload_n 2, 1)), (113, (.if_icmp .lt 34, 3)), (116, (.iload 5, 2)), (118, (.iload 7, 2)), (120, (.ishr, 1)), (121, (.iconst 1, 1)), (122, (.iand, 1)), (123, (.iconst 1, 1)), (124, (.if_icmp .ne 17, 3)), (127, (.aload_n 0, 1)), (128, (.aload 4, 2)), (130, (.iload 7, 2)), (132, (.aload_n 3, 1)), (133, (.invokevirtual 146, 3)), (136, (.ifCond .ne 5, 3)), (139, (.iconst 0, 1)), (140, (.ireturn, 1)), (141, (.iinc 7 (-1), 3)), (144, (.goto (-34), 3)), (147, (.iconst 1, 1)), (148, (.ireturn, 1))] = true := by decide +kernel
set_option maxRecDepth 100000 in
theorem in_X0_solveFor_X0 : ∀ x ∈ u_ws RX0 TX0 5, x ∈ wsX0_solveFor := by decide +kernel
set_option maxRecDepth 100000 in
theorem in_X0_solveFor_X5 : ∀ x ∈ u_ws RX5 TX5 5, x ∈ wsX0_solveFor := by decide +kernel
set_option maxRecDepth 100000 in
theorem in_X0_solveFor_X8 : ∀ x ∈ u_ws RX8 TX8 8, x ∈ wsX0_solveFor := by decide +kernel
theorem fl_X0_solveFor_31 : gF wsX0_solveFor RX0 31 8 0 := ⟨RX8, TX8, 8, rfl, by decide, in_X0_solveFor_X8, by decide +kernel⟩
theorem fl_X0_solveFor_37 : gF wsX0_solveFor RX0 37 5 4 := ⟨RX5, TX5, 5, rfl, by decide, in_X0_solveFor_X5, by decide +kernel⟩
theorem fl_X0_solveFor_83 : gF wsX0_solveFor RX0 83 5 1 := ⟨RX5, TX5, 5, rfl, by decide, in_X0_solveFor_X5, by decide +kernel⟩
theorem fl_X0_solveFor_21 : gF wsX0_solveFor RX0 21 0 2 := ⟨RX0, TX0, 5, rfl, by decide, in_X0_solveFor_X0, by decide +kernel⟩
theorem fl_X0_solveFor_11 : gF wsX0_solveFor RX0 11 0 0 := ⟨RX0, TX0, 5, rfl, by decide, in_X0_solveFor_X0, by decide +kernel⟩
def f_X0_solveFor_110 (a0 : Nat) (x2 : Int32) (a3 : Nat) (a4 : Nat) (x5 : Int32) : Nat → Int32 → gHp → Option (Int32 × gHp)
  | 0, _, _ => none
  | n + 1, x7, h => if x7 < x2 then some (1, h) else if ((x5 >>> (x7 &&& 31)) &&& 1) = 1 then (f_X0_takeOthersOff a0 a4 x7 a3 h).bind fun v6 => if v6.1 = true then f_X0_solveFor_110 a0 x2 a3 a4 x5 n (x7 + (-1)) v6.2 else some (0, v6.2) else f_X0_solveFor_110 a0 x2 a3 a4 x5 n (x7 + (-1)) h
set_option maxRecDepth 20000 in
set_option maxHeartbeats 4000000 in
theorem w_X0_solveFor_110 {w : gWd} {g : gCx} (C : gC w g cX0_solveFor wsX0_solveFor RX0 8 5 133) {a0 : Nat} (A0 : is_X0 w a0) (x2 : Int32) {a3 : Nat} (A3 : is_X2 w a3) {a4 : Nat} (A4 : is_X5 w a4) (x5 : Int32)  {o : Int32 × gHp} (E : gEn w g (some .int) (some (.int o.1)) o.2) : ∀ (n : Nat) (x7 : Int32) (h : gHp), f_X0_solveFor_110 a0 x2 a3 a4 x5 n x7 h = some o → gX w g 8 h 110 [(0, .ref a0), (2, .int x2), (3, .ref a3), (4, .ref a4), (5, .int x5), (7, .int x7)] [] := by
  intro n
  induction n with
  | zero => intro _ _ hF; cases hF
  | succ n ih =>
    intro x7 h hF
    rw [f_X0_solveFor_110] at hF
    refine gx_iload C 5 (gDec_at D_X0_solveFor 59 rfl) rfl ?_
    refine gx_iload_n C 1 (gDec_at D_X0_solveFor 60 rfl) rfl rfl ?_
    refine gx_icmp_lt C 147 (gDec_at D_X0_solveFor 61 rfl) (by decide) (fun c => ?_) (fun c => ?_)
    · replace hF := gPos c hF
      refine gx_iconst C (v := 1) (gDec_at D_X0_solveFor 79 rfl) (by decide) ?_
      obtain rfl := Option.some.inj hF
      exact gx_iret C E (gDec_at D_X0_solveFor 80 rfl)
    · replace hF := gNeg c hF
      refine gx_iload C 4 (gDec_at D_X0_solveFor 62 rfl) rfl ?_
      refine gx_iload C 5 (gDec_at D_X0_solveFor 63 rfl) rfl ?_
      refine gx_ishr C (gDec_at D_X0_solveFor 64 rfl) ?_
      refine gx_iconst C (v := 1) (gDec_at D_X0_solveFor 65 rfl) (by decide) ?_
      refine gx_iand C (gDec_at D_X0_solveFor 66 rfl) ?_
      refine gx_iconst C (v := 1) (gDec_at D_X0_solveFor 67 rfl) (by decide) ?_
      refine gx_icmp_ne C 141 (gDec_at D_X0_solveFor 68 rfl) (by decide) (fun c => ?_) (fun c => ?_)
      · replace hF := gNeg c hF
        refine gx_iinc C (j := 5) (v := x7 + (-1)) (lv' := [(7, .int (x7 + (-1))), (0, .ref a0), (2, .int x2), (3, .ref a3), (4, .ref a4), (5, .int x5)]) (gDec_at D_X0_solveFor 77 rfl) rfl (by rfl) (Nat.le_of_ble_eq_true rfl) rfl ?_
        refine gx_goto C 110 (gDec_at D_X0_solveFor 78 rfl) (by decide) ?_
        exact gx_sub [1, 2, 3, 4, 5, 0] rfl (ih (x7 + (-1)) h hF)
      · replace hF := gPos c hF
        refine gx_aload_n C 0 (gDec_at D_X0_solveFor 69 rfl) rfl rfl ?_
        refine gx_aload C 3 (gDec_at D_X0_solveFor 70 rfl) rfl ?_
        refine gx_iload C 5 (gDec_at D_X0_solveFor 71 rfl) rfl ?_
        refine gx_aload_n C 2 (gDec_at D_X0_solveFor 72 rfl) rfl rfl ?_
        obtain ⟨v6, hv5, hF⟩ := gBind hF
        refine gx_callV1 C (st := []) 3 [.ref a4, .int x7, .ref a3] (m_X0_takeOthersOff w h A0 A4 x7 A3 hv5) gX0_solveFor_X0_takeOthersOff rfl rfl rfl hy_X0_takeOthersOff (Nat.le_of_ble_eq_true rfl) (Nat.le_of_ble_eq_true rfl) (is_X0_sh A0) rfl rfl rfl (Nat.le_of_ble_eq_true rfl) (gDec_at D_X0_solveFor 73 rfl) ?_
        refine gx_ifz_ne C 141 (gDec_at D_X0_solveFor 74 rfl) (by decide) (fun c => ?_) (fun c => ?_)
        · replace hF := gPos c hF
          refine gx_iinc C (j := 5) (v := x7 + (-1)) (lv' := [(7, .int (x7 + (-1))), (0, .ref a0), (2, .int x2), (3, .ref a3), (4, .ref a4), (5, .int x5)]) (gDec_at D_X0_solveFor 77 rfl) rfl (by rfl) (Nat.le_of_ble_eq_true rfl) rfl ?_
          refine gx_goto C 110 (gDec_at D_X0_solveFor 78 rfl) (by decide) ?_
          exact gx_sub [1, 2, 3, 4, 5, 0] rfl (ih (x7 + (-1)) v6.2 hF)
        · replace hF := gNeg c hF
          refine gx_iconst C (v := 0) (gDec_at D_X0_solveFor 75 rfl) (by decide) ?_
          obtain rfl := Option.some.inj hF
          exact gx_iret C E (gDec_at D_X0_solveFor 76 rfl)
def f_X0_solveFor_35 (a0 : Nat) (x2 : Int32) (a3 : Nat) (a4 : Nat) (x5 : Int32) (x6 : Int32) : Nat → Int32 → gHp → Option (Int32 × gHp)
  | 0, _, _ => none
  | n + 1, x7, h => if x7 < x2 then f_X0_solveFor_110 a0 x2 a3 a4 x5 gFuel (x6 - 1) h else if ((x5 >>> (x7 &&& 31)) &&& 1) = 1 then if gIn x7 11 then (f_X0_addUp a0 a4 (h.1 (a4 + 2) (gN x7)) x7 h).bind fun v9 => (f_X2_isInfinite (a0 + 3) v9).bind fun v11 => if v11 = true then if gIn x6 11 then (f_X2_isSame a3 (a0 + 6 + 2 * gN x6) v9).bind fun v14 => if v14 = true then some (2, v9) else some (0, v9) else none else f_X0_solveFor_35 a0 x2 a3 a4 x5 x6 n (x7 + (-1)) v9 else none else f_X0_solveFor_35 a0 x2 a3 a4 x5 x6 n (x7 + (-1)) h
set_option maxRecDepth 20000 in
set_option maxHeartbeats 4000000 in
theorem w_X0_solveFor_35 {w : gWd} {g : gCx} (C : gC w g cX0_solveFor wsX0_solveFor RX0 8 5 133) {a0 : Nat} (A0 : is_X0 w a0) (x2 : Int32) {a3 : Nat} (A3 : is_X2 w a3) {a4 : Nat} (A4 : is_X5 w a4) (x5 : Int32) (x6 : Int32)  {o : Int32 × gHp} (E : gEn w g (some .int) (some (.int o.1)) o.2) : ∀ (n : Nat) (x7 : Int32) (h : gHp), f_X0_solveFor_35 a0 x2 a3 a4 x5 x6 n x7 h = some o → gX w g 8 h 35 [(0, .ref a0), (2, .int x2), (3, .ref a3), (4, .ref a4), (5, .int x5), (6, .int x6), (7, .int x7)] [] := by
  intro n
  induction n with
  | zero => intro _ _ hF; cases hF
  | succ n ih =>
    intro x7 h hF
    rw [f_X0_solveFor_35] at hF
    refine gx_iload C 6 (gDec_at D_X0_solveFor 20 rfl) rfl ?_
    refine gx_iload_n C 1 (gDec_at D_X0_solveFor 21 rfl) rfl rfl ?_
    refine gx_icmp_lt C 104 (gDec_at D_X0_solveFor 22 rfl) (by decide) (fun c => ?_) (fun c => ?_)
    · replace hF := gPos c hF
      refine gx_iload C 5 (gDec_at D_X0_solveFor 55 rfl) rfl ?_
      refine gx_iconst C (v := 1) (gDec_at D_X0_solveFor 56 rfl) (by decide) ?_
      refine gx_isub C (gDec_at D_X0_solveFor 57 rfl) ?_
      refine gx_istore C (lv' := [(7, .int (x6 - 1)), (0, .ref a0), (2, .int x2), (3, .ref a3), (4, .ref a4), (5, .int x5), (6, .int x6)]) (gDec_at D_X0_solveFor 58 rfl) (Nat.le_of_ble_eq_true rfl) rfl ?_
      exact gx_sub [1, 2, 3, 4, 5, 0] rfl (w_X0_solveFor_110 C A0 x2 A3 A4 x5   E gFuel (x6 - 1) h hF)
    · replace hF := gNeg c hF
      refine gx_iload C 4 (gDec_at D_X0_solveFor 23 rfl) rfl ?_
      refine gx_iload C 6 (gDec_at D_X0_solveFor 24 rfl) rfl ?_
      refine gx_ishr C (gDec_at D_X0_solveFor 25 rfl) ?_
      refine gx_iconst C (v := 1) (gDec_at D_X0_solveFor 26 rfl) (by decide) ?_
      refine gx_iand C (gDec_at D_X0_solveFor 27 rfl) ?_
      refine gx_iconst C (v := 1) (gDec_at D_X0_solveFor 28 rfl) (by decide) ?_
      refine gx_icmp_ne C 98 (gDec_at D_X0_solveFor 29 rfl) (by decide) (fun c => ?_) (fun c => ?_)
      · replace hF := gNeg c hF
        refine gx_iinc C (j := 6) (v := x7 + (-1)) (lv' := [(7, .int (x7 + (-1))), (0, .ref a0), (2, .int x2), (3, .ref a3), (4, .ref a4), (5, .int x5), (6, .int x6)]) (gDec_at D_X0_solveFor 53 rfl) rfl (by rfl) (Nat.le_of_ble_eq_true rfl) rfl ?_
        refine gx_goto C 35 (gDec_at D_X0_solveFor 54 rfl) (by decide) ?_
        exact gx_sub [1, 2, 3, 4, 5, 6, 0] rfl (ih (x7 + (-1)) h hF)
      · replace hF := gPos c hF
        refine gx_aload_n C 0 (gDec_at D_X0_solveFor 30 rfl) rfl rfl ?_
        refine gx_aload C 3 (gDec_at D_X0_solveFor 31 rfl) rfl ?_
        refine gx_aload C 3 (gDec_at D_X0_solveFor 32 rfl) rfl ?_
        refine gx_getr C fl_X0_solveFor_83 (is_X5_sh A4) rfl (gDec_at D_X0_solveFor 33 rfl) ?_
        refine gx_iload C 6 (gDec_at D_X0_solveFor 34 rfl) rfl ?_
        obtain ⟨b7, hF⟩ := gGd hF
        refine gx_iaload C (is_X5_around A4) b7 (gDec_at D_X0_solveFor 35 rfl) ?_
        refine gx_iload C 6 (gDec_at D_X0_solveFor 36 rfl) rfl ?_
        obtain ⟨v9, hv8, hF⟩ := gBind hF
        refine gx_callV0 C (st := []) 3 [.ref a4, .int (h.1 (a4 + 2) (gN x7)), .int x7] (m_X0_addUp w h A0 A4 (h.1 (a4 + 2) (gN x7)) x7 hv8) gX0_solveFor_X0_addUp rfl rfl rfl hy_X0_addUp (Nat.le_of_ble_eq_true rfl) (Nat.le_of_ble_eq_true rfl) (is_X0_sh A0) rfl rfl rfl (Nat.le_of_ble_eq_true rfl) (gDec_at D_X0_solveFor 37 rfl) ?_
        refine gx_aload_n C 0 (gDec_at D_X0_solveFor 38 rfl) rfl rfl ?_
        refine gx_getr C fl_X0_solveFor_21 (is_X0_sh A0) rfl (gDec_at D_X0_solveFor 39 rfl) ?_
        obtain ⟨v11, hv10, hF⟩ := gBind hF
        refine gx_callV1 C (st := []) 0 [] (m_X2_isInfinite w v9 (is_X0_sum A0) hv10) gX0_solveFor_X2_isInfinite rfl rfl rfl hy_X2_isInfinite (Nat.le_of_ble_eq_true rfl) (Nat.le_of_ble_eq_true rfl) (is_X2_sh (is_X0_sum A0)) rfl rfl rfl (Nat.le_of_ble_eq_true rfl) (gDec_at D_X0_solveFor 40 rfl) ?_
        refine gx_ifz_eq C 98 (gDec_at D_X0_solveFor 41 rfl) (by decide) (fun c => ?_) (fun c => ?_)
        · replace hF := gNeg c hF
          refine gx_iinc C (j := 6) (v := x7 + (-1)) (lv' := [(7, .int (x7 + (-1))), (0, .ref a0), (2, .int x2), (3, .ref a3), (4, .ref a4), (5, .int x5), (6, .int x6)]) (gDec_at D_X0_solveFor 53 rfl) rfl (by rfl) (Nat.le_of_ble_eq_true rfl) rfl ?_
          refine gx_goto C 35 (gDec_at D_X0_solveFor 54 rfl) (by decide) ?_
          exact gx_sub [1, 2, 3, 4, 5, 6, 0] rfl (ih (x7 + (-1)) v9 hF)
        · replace hF := gPos c hF
          refine gx_aload_n C 2 (gDec_at D_X0_solveFor 42 rfl) rfl rfl ?_
          refine gx_aload_n C 0 (gDec_at D_X0_solveFor 43 rfl) rfl rfl ?_
          refine gx_getr C fl_X0_solveFor_11 (is_X0_sh A0) rfl (gDec_at D_X0_solveFor 44 rfl) ?_
          refine gx_iload C 5 (gDec_at D_X0_solveFor 45 rfl) rfl ?_
          obtain ⟨b12, hF⟩ := gGd hF
          refine gx_aaloadFr C (is_X0_ohms A0) b12 (gDec_at D_X0_solveFor 46 rfl) ?_
          show gX w g 8 v9 _ _ (.ref (a0 + 6 + 2 * gN x6) :: .ref a3 :: [])
          obtain ⟨v14, hv13, hF⟩ := gBind hF
          refine gx_callV1 C (st := []) 1 [.ref (a0 + 6 + 2 * gN x6)] (m_X2_isSame w v9 A3 (is_X0_ohms_at A0 b12) hv13) gX0_solveFor_X2_isSame rfl rfl rfl hy_X2_isSame (Nat.le_of_ble_eq_true rfl) (Nat.le_of_ble_eq_true rfl) (is_X2_sh A3) rfl rfl rfl (Nat.le_of_ble_eq_true rfl) (gDec_at D_X0_solveFor 47 rfl) ?_
          refine gx_ifz_eq C 96 (gDec_at D_X0_solveFor 48 rfl) (by decide) (fun c => ?_) (fun c => ?_)
          · replace hF := gNeg c hF
            refine gx_iconst C (v := 0) (gDec_at D_X0_solveFor 51 rfl) (by decide) ?_
            obtain rfl := Option.some.inj hF
            exact gx_iret C E (gDec_at D_X0_solveFor 52 rfl)
          · replace hF := gPos c hF
            refine gx_iconst C (v := 2) (gDec_at D_X0_solveFor 49 rfl) (by decide) ?_
            refine gx_goto C 97 (gDec_at D_X0_solveFor 50 rfl) (by decide) ?_
            obtain rfl := Option.some.inj hF
            exact gx_iret C E (gDec_at D_X0_solveFor 52 rfl)
def f_X0_solveFor (a0 : Nat) (a1 : Nat) (x2 : Int32) (a3 : Nat) (h : gHp) : Option (Int32 × gHp) := (f_X0_findOhms a0 a1 (-1) h).bind fun v2 => (f_X5_findWayUp (a1 + 1) x2 v2).bind fun v4 => f_X0_solveFor_35 a0 x2 a3 (a1 + 1) v4 ((v2.1 (a1 + 1) 4) - 1) gFuel (((v2.1 (a1 + 1) 4) - 1) - 1) v2
set_option maxRecDepth 20000 in
set_option maxHeartbeats 4000000 in
theorem m_X0_solveFor (w : gWd) (h : gHp) {a0 : Nat} (A0 : is_X0 w a0) {a1 : Nat} (A1 : is_X8 w a1) (x2 : Int32) {a3 : Nat} (A3 : is_X2 w a3) {o : Int32 × gHp} (hF : f_X0_solveFor a0 a1 x2 a3 h = some o) : gMet w yX0_solveFor wsX0_solveFor rm_X0_solveFor [.ref a0, .ref a1, .int x2, .ref a3] h (some (.int o.1)) o.2 := by
  refine gMet_of (cc := cX0_solveFor) (maxL := 8) (ret := (some .int)) (fr := 5) (lo := 133) (own := RX0) [(0, .ref a0), (1, .ref a1), (2, .int x2), (3, .ref a3)] (by decide) rfl rfl (Nat.le_of_ble_eq_true rfl) rfl (Nat.le_refl _) (Nat.le_refl _) (fun g C E => ?_)
  rw [f_X0_solveFor] at hF
  refine gx_aload_n C 1 (gDec_at D_X0_solveFor 0 rfl) rfl rfl ?_
  refine gx_getr C fl_X0_solveFor_31 (is_X8_sh A1) rfl (gDec_at D_X0_solveFor 1 rfl) ?_
  refine gx_astore C (lv' := [(4, .ref (a1 + 1)), (0, .ref a0), (1, .ref a1), (2, .int x2), (3, .ref a3)]) (gDec_at D_X0_solveFor 2 rfl) (Nat.le_of_ble_eq_true rfl) rfl ?_
  refine gx_aload_n C 1 (gDec_at D_X0_solveFor 3 rfl) rfl rfl ?_
  refine gx_aload_n C 2 (gDec_at D_X0_solveFor 4 rfl) rfl rfl ?_
  refine gx_iconst C (v := (-1)) (gDec_at D_X0_solveFor 5 rfl) (by decide) ?_
  obtain ⟨v2, hv1, hF⟩ := gBind hF
  refine gx_callV0 C (st := []) 2 [.ref a1, .int (-1)] (m_X0_findOhms w h A0 A1 (-1) hv1) gX0_solveFor_X0_findOhms rfl rfl rfl hy_X0_findOhms (Nat.le_of_ble_eq_true rfl) (Nat.le_of_ble_eq_true rfl) (is_X0_sh A0) rfl rfl rfl (Nat.le_of_ble_eq_true rfl) (gDec_at D_X0_solveFor 6 rfl) ?_
  refine gx_aload C 0 (gDec_at D_X0_solveFor 7 rfl) rfl ?_
  refine gx_iload_n C 3 (gDec_at D_X0_solveFor 8 rfl) rfl rfl ?_
  obtain ⟨v4, hv3, hF⟩ := gBind hF
  refine gx_callV1 C (st := []) 1 [.int x2] (m_X5_findWayUp w v2 (is_X8_network A1) x2 hv3) gX0_solveFor_X5_findWayUp rfl rfl rfl hy_X5_findWayUp (Nat.le_of_ble_eq_true rfl) (Nat.le_of_ble_eq_true rfl) (is_X5_sh (is_X8_network A1)) rfl rfl rfl (Nat.le_of_ble_eq_true rfl) (gDec_at D_X0_solveFor 9 rfl) ?_
  refine gx_istore C (lv' := [(5, .int v4), (4, .ref (a1 + 1)), (0, .ref a0), (1, .ref a1), (2, .int x2), (3, .ref a3)]) (gDec_at D_X0_solveFor 10 rfl) (Nat.le_of_ble_eq_true rfl) rfl ?_
  refine gx_aload C 1 (gDec_at D_X0_solveFor 11 rfl) rfl ?_
  refine gx_geti C fl_X0_solveFor_37 (is_X5_sh (is_X8_network A1)) rfl (gDec_at D_X0_solveFor 12 rfl) ?_
  refine gx_iconst C (v := 1) (gDec_at D_X0_solveFor 13 rfl) (by decide) ?_
  refine gx_isub C (gDec_at D_X0_solveFor 14 rfl) ?_
  refine gx_istore C (lv' := [(6, .int ((v2.1 (a1 + 1) 4) - 1)), (5, .int v4), (4, .ref (a1 + 1)), (0, .ref a0), (1, .ref a1), (2, .int x2), (3, .ref a3)]) (gDec_at D_X0_solveFor 15 rfl) (Nat.le_of_ble_eq_true rfl) rfl ?_
  refine gx_iload C 0 (gDec_at D_X0_solveFor 16 rfl) rfl ?_
  refine gx_iconst C (v := 1) (gDec_at D_X0_solveFor 17 rfl) (by decide) ?_
  refine gx_isub C (gDec_at D_X0_solveFor 18 rfl) ?_
  refine gx_istore C (lv' := [(7, .int (((v2.1 (a1 + 1) 4) - 1) - 1)), (6, .int ((v2.1 (a1 + 1) 4) - 1)), (5, .int v4), (4, .ref (a1 + 1)), (0, .ref a0), (1, .ref a1), (2, .int x2), (3, .ref a3)]) (gDec_at D_X0_solveFor 19 rfl) (Nat.le_of_ble_eq_true rfl) rfl ?_
  exact gx_sub [4, 6, 7, 3, 2, 1, 0] rfl (w_X0_solveFor_35 C A0 x2 A3 (is_X8_network A1) v4 ((v2.1 (a1 + 1) 4) - 1)   E gFuel (((v2.1 (a1 + 1) 4) - 1) - 1) v2 hF)
