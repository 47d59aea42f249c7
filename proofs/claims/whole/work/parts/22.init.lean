/-! the constructor of LadderBench -/
def rm_X9_init : Room := { frames := 4, cells := 141, slots := 1329, locals := 82 }
set_option maxRecDepth 20000 in
theorem ggX9_init_X0_init : GoodIn wsX9_init wsX0_init := goodIn_r _ [99, 100, 2, 3, 101, 102, 103, 31, 32, 104, 105, 106, 107, 108, 109, 110, 111, 141, 142, 143, 144, 145, 146, 147] (by decide +kernel) (by decide +kernel)
set_option maxRecDepth 20000 in
theorem gX9_init_X0_init : GoodIn wsX9_init (wsX0_init) := ggX9_init_X0_init
set_option maxRecDepth 20000 in
theorem ggX9_init_X1_init : GoodIn wsX9_init wsX1_init := goodIn_r _ [92, 93, 2, 3, 94, 95, 96, 138, 139, 140] (by decide +kernel) (by decide +kernel)
set_option maxRecDepth 20000 in
theorem gX9_init_X1_init_n45 : GoodIn wsX9_init (wsX1_init) := ggX9_init_X1_init
set_option maxRecDepth 20000 in
theorem ggX9_init_X2_init : GoodIn wsX9_init wsX2_init := goodIn_r _ [108, 109, 2, 3, 110, 111, 146, 147] (by decide +kernel) (by decide +kernel)
set_option maxRecDepth 20000 in
theorem gX9_init_X2_init_n59 : GoodIn wsX9_init (wsX2_init) := ggX9_init_X2_init
set_option maxRecDepth 20000 in
theorem ggX9_init_X3_init : GoodIn wsX9_init wsX3_init := goodIn_r _ [79, 80, 2, 3, 81, 82, 83, 84, 9, 10, 41, 42, 43, 44, 45, 46, 47, 48, 49, 50, 51, 52, 53, 54, 55, 56, 57, 58, 59, 60, 61, 62, 63, 64, 65, 66, 67, 68, 69, 70, 71, 72, 73, 74, 75, 76, 132, 133, 134, 124, 125, 126, 127, 128, 129, 130, 131, 148, 149, 150, 151, 152, 153, 154, 155, 156] (by decide +kernel) (by decide +kernel)
set_option maxRecDepth 20000 in
theorem gX9_init_X3_init : GoodIn wsX9_init (wsX3_init) := ggX9_init_X3_init
set_option maxRecDepth 20000 in
theorem ggX9_init_X4_init : GoodIn wsX9_init wsX4_init := goodIn_r _ [36, 37, 2, 3, 38, 39, 40, 112, 113] (by decide +kernel) (by decide +kernel)
set_option maxRecDepth 20000 in
theorem gX9_init_X4_init_n9 : GoodIn wsX9_init (wsX4_init) := ggX9_init_X4_init
set_option maxRecDepth 20000 in
theorem ggX9_init_X6_init : GoodIn wsX9_init wsX6_init := goodIn_r _ [86, 87, 2, 3, 52, 88, 89, 90, 135, 136, 137] (by decide +kernel) (by decide +kernel)
set_option maxRecDepth 20000 in
theorem gX9_init_X6_init_n38 : GoodIn wsX9_init (wsX6_init) := ggX9_init_X6_init
set_option maxRecDepth 20000 in
theorem ggX9_init_X8_init : GoodIn wsX9_init wsX8_init := goodIn_r _ [42, 43, 2, 3, 44, 45, 46, 47, 48, 49, 50, 51, 52, 53, 54, 55, 56, 57, 58, 59, 60, 61, 62, 63, 64, 65, 66, 67, 68, 69, 70, 71, 72, 73, 74, 75, 76, 148, 149, 150, 151, 152, 124, 125, 126, 127, 128, 129, 130, 131, 153, 154, 155, 156] (by decide +kernel) (by decide +kernel)
set_option maxRecDepth 20000 in
theorem gX9_init_X8_init_n18 : GoodIn wsX9_init (wsX8_init) := ggX9_init_X8_init
theorem hy_X9_init : yX9_init.cls ≠ "java/lang/invoke/MethodHandle" ∧ yX9_init.cls ≠ "java/lang/invoke/VarHandle" ∧ (parseMethodDescriptor yX9_init.desc).map (fun d => d.parameters.length) = some 0 := by decide +kernel
set_option maxRecDepth 100000 in
theorem D_X9_init : gDec cX9_init [(0, (.aload_n 0, 1)), (1, (.invokespecial 1, 3)), (4, (.aload_n 0, 1)), (5, (.new 7, 3)), (8, (.dup, 1)), (9, (.invokespecial 9, 3)), (12, (.putfield 10, 3)), (15, (.aload_n 0, 1)), (16, (.new 16, 3)), (19, (.dup, 1)), (20, (.invokespecial 18, 3)), (23, (.putfield 19, 3)), (26, (.aload_n 0, 1)), (27, (.new 16, 3)), (30, (.dup, 1)), (31, (.invokespecial 18, 3)), (34, (.putfield 23, 3)), (37, (.aload_n 0, 1)), (38, (.new 16, 3)), (41, (.dup, 1)), (42, (.invokespecial 18, 3)), (45, (.putfield 26, 3)), (48, (.aload_n 0, 1)), (49, (.new 29, 3)), (52, (.dup, 1)), (53, (.invokespecial 31, 3)), (56, (.putfield 32, 3)), (59, (.aload_n 0, 1)), (60, (.new 36, 3)), (63, (.dup, 1)), (64, (.invokespecial 38, 3)), (67, (.putfield 39, 3)), (70, (.aload_n 0, 1)), (71, (.new 43, 3)), (74, (.dup, 1)), (75, (.invokespecial 45, 3)), (78, (.putfield 46, 3)), (81, (.aload_n 0, 1)), (82, (.new 50, 3)), (85, (.dup, 1)), (86, (.invokespecial 52, 3)), (89, (.putfield 53, 3)), (92, (.aload_n 0, 1)), (93, (.new 57, 3)), (96, (.dup, 1)), (97, (.invokespecial 59, 3)), (100, (.putfield 60, 3)), (103, (.aload_n 0, 1)), (104, (.iconst 0, 1)), (105, (.putfield 64, 3)), (108, (.return_, 1))] = true := by decide +kernel
set_option maxRecDepth 100000 in
theorem in_X9_init_X0 : ∀ x ∈ u_ws RX0 TX0 5, x ∈ wsX9_init := by decide +kernel
set_option maxRecDepth 100000 in
theorem in_X9_init_X1 : ∀ x ∈ u_ws RX1 TX1 3, x ∈ wsX9_init := by decide +kernel
set_option maxRecDepth 100000 in
theorem in_X9_init_X2 : ∀ x ∈ u_ws RX2 TX2 2, x ∈ wsX9_init := by decide +kernel
set_option maxRecDepth 100000 in
theorem in_X9_init_X3 : ∀ x ∈ u_ws RX3 TX3 3, x ∈ wsX9_init := by decide +kernel
set_option maxRecDepth 100000 in
theorem in_X9_init_X4 : ∀ x ∈ u_ws RX4 TX4 2, x ∈ wsX9_init := by decide +kernel
set_option maxRecDepth 100000 in
theorem in_X9_init_X6 : ∀ x ∈ u_ws RX6 TX6 3, x ∈ wsX9_init := by decide +kernel
set_option maxRecDepth 100000 in
theorem in_X9_init_X8 : ∀ x ∈ u_ws RX8 TX8 8, x ∈ wsX9_init := by decide +kernel
set_option maxRecDepth 100000 in
theorem in_X9_init_X9 : ∀ x ∈ u_ws RX9 TX9 10, x ∈ wsX9_init := by decide +kernel
theorem ob_X9_init_1 : Cond.methodLink RX9 1 objectInit ∈ wsX9_init ∧ Cond.instanceMethod objectInit ∈ wsX9_init ∧ Cond.code objectInit ⟨#[0xb1]⟩ 1 none ∈ wsX9_init := by decide +kernel
theorem nw_X9_init_7 : Cond.classLink RX9 7 RX4 ∈ wsX9_init ∧ Cond.instantiable RX4 2 ∈ wsX9_init ∧ Cond.initialized RX4 ∈ wsX9_init := by decide +kernel
theorem ci_X9_init_9 : Cond.methodLinkNest RX9 9 yX4_init "LadderBench" ∈ gNestL ∧ Cond.initialized yX4_init.cls ∈ wsX9_init ∧ Cond.instanceMethod yX4_init ∈ wsX9_init := by decide +kernel
theorem fk_X9_init_10 : Cond.fieldLink RX9 10 (TX9 0).1 (TX9 0).2.1 (TX9 0).2.2.1 ∈ wsX9_init := by decide +kernel
theorem nw_X9_init_16 : Cond.classLink RX9 16 RX8 ∈ wsX9_init ∧ Cond.instantiable RX8 8 ∈ wsX9_init ∧ Cond.initialized RX8 ∈ wsX9_init := by decide +kernel
theorem ci_X9_init_18 : Cond.methodLinkNest RX9 18 yX8_init "LadderBench" ∈ gNestL ∧ Cond.initialized yX8_init.cls ∈ wsX9_init ∧ Cond.instanceMethod yX8_init ∈ wsX9_init := by decide +kernel
theorem fk_X9_init_19 : Cond.fieldLink RX9 19 (TX9 1).1 (TX9 1).2.1 (TX9 1).2.2.1 ∈ wsX9_init := by decide +kernel
theorem fk_X9_init_23 : Cond.fieldLink RX9 23 (TX9 2).1 (TX9 2).2.1 (TX9 2).2.2.1 ∈ wsX9_init := by decide +kernel
theorem fk_X9_init_26 : Cond.fieldLink RX9 26 (TX9 3).1 (TX9 3).2.1 (TX9 3).2.2.1 ∈ wsX9_init := by decide +kernel
theorem nw_X9_init_29 : Cond.classLink RX9 29 RX3 ∈ wsX9_init ∧ Cond.instantiable RX3 3 ∈ wsX9_init ∧ Cond.initialized RX3 ∈ wsX9_init := by decide +kernel
theorem ci_X9_init_31 : Cond.methodLink RX9 31 yX3_init ∈ wsX9_init ∧ Cond.initialized yX3_init.cls ∈ wsX9_init ∧ Cond.instanceMethod yX3_init ∈ wsX9_init := by decide +kernel
theorem fk_X9_init_32 : Cond.fieldLink RX9 32 (TX9 4).1 (TX9 4).2.1 (TX9 4).2.2.1 ∈ wsX9_init := by decide +kernel
theorem nw_X9_init_36 : Cond.classLink RX9 36 RX6 ∈ wsX9_init ∧ Cond.instantiable RX6 3 ∈ wsX9_init ∧ Cond.initialized RX6 ∈ wsX9_init := by decide +kernel
theorem ci_X9_init_38 : Cond.methodLinkNest RX9 38 yX6_init "LadderBench" ∈ gNestL ∧ Cond.initialized yX6_init.cls ∈ wsX9_init ∧ Cond.instanceMethod yX6_init ∈ wsX9_init := by decide +kernel
theorem fk_X9_init_39 : Cond.fieldLink RX9 39 (TX9 5).1 (TX9 5).2.1 (TX9 5).2.2.1 ∈ wsX9_init := by decide +kernel
theorem nw_X9_init_43 : Cond.classLink RX9 43 RX1 ∈ wsX9_init ∧ Cond.instantiable RX1 3 ∈ wsX9_init ∧ Cond.initialized RX1 ∈ wsX9_init := by decide +kernel
theorem ci_X9_init_45 : Cond.methodLinkNest RX9 45 yX1_init "LadderBench" ∈ gNestL ∧ Cond.initialized yX1_init.cls ∈ wsX9_init ∧ Cond.instanceMethod yX1_init ∈ wsX9_init := by decide +kernel
theorem fk_X9_init_46 : Cond.fieldLink RX9 46 (TX9 6).1 (TX9 6).2.1 (TX9 6).2.2.1 ∈ wsX9_init := by decide +kernel
theorem nw_X9_init_50 : Cond.classLink RX9 50 RX0 ∈ wsX9_init ∧ Cond.instantiable RX0 5 ∈ wsX9_init ∧ Cond.initialized RX0 ∈ wsX9_init := by decide +kernel
theorem ci_X9_init_52 : Cond.methodLink RX9 52 yX0_init ∈ wsX9_init ∧ Cond.initialized yX0_init.cls ∈ wsX9_init ∧ Cond.instanceMethod yX0_init ∈ wsX9_init := by decide +kernel
theorem fk_X9_init_53 : Cond.fieldLink RX9 53 (TX9 7).1 (TX9 7).2.1 (TX9 7).2.2.1 ∈ wsX9_init := by decide +kernel
theorem nw_X9_init_57 : Cond.classLink RX9 57 RX2 ∈ wsX9_init ∧ Cond.instantiable RX2 2 ∈ wsX9_init ∧ Cond.initialized RX2 ∈ wsX9_init := by decide +kernel
theorem ci_X9_init_59 : Cond.methodLinkNest RX9 59 yX2_init "LadderBench" ∈ gNestL ∧ Cond.initialized yX2_init.cls ∈ wsX9_init ∧ Cond.instanceMethod yX2_init ∈ wsX9_init := by decide +kernel
theorem fk_X9_init_60 : Cond.fieldLink RX9 60 (TX9 8).1 (TX9 8).2.1 (TX9 8).2.2.1 ∈ wsX9_init := by decide +kernel
theorem fk_X9_init_64 : Cond.fieldLink RX9 64 (TX9 9).1 (TX9 9).2.1 (TX9 9).2.2.1 ∈ wsX9_init := by decide +kernel
set_option maxRecDepth 100000 in
set_option maxHeartbeats 40000000 in
theorem m_X9_init (w : gWd) (hT : gHp) {a : Nat} (A : is_X9 w a) (I : in_X9 hT a) (pic : gPic) (hp0 : pic a = some (.inr (9, [.null, .null, .null, .null, .null, .null, .null, .null, .null, .int 0]))) : gMetI w hT yX9_init wsX9_init rm_X9_init a 142 141 1329 pic := by
  refine gMetI_of (cc := cX9_init) (maxL := 1) (fr := 4) (lo := 82) (Rc := 141) (Rs := 1329) (own := RX9) (by decide) rfl rfl rfl (by decide) (Nat.le_refl _) (Nat.le_refl _) (Nat.le_refl _) (Nat.le_refl _) (fun g C Cy hI E => ?_)
  refine gy_aload_n C 0 (gDec_at D_X9_init 0 rfl) rfl rfl ?_
  refine gy_objInit C Cy ob_X9_init_1 (by decide) (by decide) (Nat.le_of_ble_eq_true rfl) (gDec_at D_X9_init 1 rfl) ?_
  refine gy_aload_n C 0 (gDec_at D_X9_init 2 rfl) rfl rfl ?_
  refine gy_new C Cy (fs := [.null, .int 0]) (ci := 4) rfl in_X9_init_X4 tyX4_ok nw_X9_init_7 (by intro j hj; match j, hj with | 0, _ => rfl | 1, _ => rfl | j + 2, hj => exact absurd hj (by omega)) (by decide) (by decide) (gDec_at D_X9_init 3 rfl) ?_
  refine gy_dup C (gDec_at D_X9_init 4 rfl) rfl ?_
  refine gy_callIN C Cy (m_X4_init w hT (is_X9_text A) (in_X9_text I) _ (gPu_eq)) rfl (by omega) gX9_init_X4_init_n9 ci_X9_init_9.1 rfl rfl rfl ci_X9_init_9.2.1 ci_X9_init_9.2.2 rfl hy_X4_init (by decide) (by decide) (by decide) (by decide) (Nat.le_of_ble_eq_true rfl) (gDec_at D_X9_init 5 rfl) ?_
  refine gy_putF C Cy hI (v := .ref (a + 1)) (ty0 := tyX9) (ty := (tyX9 0)) (i := 0) (Cn := RX9) (T := TX9) (N := 10) rfl (by decide) in_X9_init_X9 fk_X9_init_10 tyX9_ok nmX9 rfl (by decide +kernel) rfl rfl (by omega) (gFin_at (by omega) (gPu_at (by omega) (hp0))) (Nat.le_of_ble_eq_true rfl) rfl (gDec_at D_X9_init 6 rfl) ?_
  refine gy_aload_n C 0 (gDec_at D_X9_init 7 rfl) rfl rfl ?_
  refine gy_new C Cy (fs := [.null, .null, .null, .null, .null, .int 0, .int 0, .int 0]) (ci := 8) rfl in_X9_init_X8 tyX8_ok nw_X9_init_16 (by intro j hj; match j, hj with | 0, _ => rfl | 1, _ => rfl | 2, _ => rfl | 3, _ => rfl | 4, _ => rfl | 5, _ => rfl | 6, _ => rfl | 7, _ => rfl | j + 8, hj => exact absurd hj (by omega)) (by decide) (by decide) (gDec_at D_X9_init 8 rfl) ?_
  refine gy_dup C (gDec_at D_X9_init 9 rfl) rfl ?_
  refine gy_callIN C Cy (m_X8_init w hT (is_X9_now A) (in_X9_now I) _ (gPu_eq)) rfl (by omega) gX9_init_X8_init_n18 ci_X9_init_18.1 rfl rfl rfl ci_X9_init_18.2.1 ci_X9_init_18.2.2 rfl hy_X8_init (by decide) (by decide) (by decide) (by decide) (Nat.le_of_ble_eq_true rfl) (gDec_at D_X9_init 10 rfl) ?_
  refine gy_putF C Cy hI (v := .ref (a + 3)) (ty0 := tyX9) (ty := (tyX9 1)) (i := 1) (Cn := RX9) (T := TX9) (N := 10) rfl (by decide) in_X9_init_X9 fk_X9_init_19 tyX9_ok nmX9 rfl (by decide +kernel) rfl rfl (by omega) (gFin_at (by omega) (gPu_at (by omega) (gPu_eq))) (Nat.le_of_ble_eq_true rfl) rfl (gDec_at D_X9_init 11 rfl) ?_
  refine gy_aload_n C 0 (gDec_at D_X9_init 12 rfl) rfl rfl ?_
  refine gy_new C Cy (fs := [.null, .null, .null, .null, .null, .int 0, .int 0, .int 0]) (ci := 8) rfl in_X9_init_X8 tyX8_ok nw_X9_init_16 (by intro j hj; match j, hj with | 0, _ => rfl | 1, _ => rfl | 2, _ => rfl | 3, _ => rfl | 4, _ => rfl | 5, _ => rfl | 6, _ => rfl | 7, _ => rfl | j + 8, hj => exact absurd hj (by omega)) (by decide) (by decide) (gDec_at D_X9_init 13 rfl) ?_
  refine gy_dup C (gDec_at D_X9_init 14 rfl) rfl ?_
  refine gy_callIN C Cy (m_X8_init w hT (is_X9_snapshot A) (in_X9_snapshot I) _ (gPu_eq)) rfl (by omega) gX9_init_X8_init_n18 ci_X9_init_18.1 rfl rfl rfl ci_X9_init_18.2.1 ci_X9_init_18.2.2 rfl hy_X8_init (by decide) (by decide) (by decide) (by decide) (Nat.le_of_ble_eq_true rfl) (gDec_at D_X9_init 15 rfl) ?_
  refine gy_putF C Cy hI (v := .ref (a + 16)) (ty0 := tyX9) (ty := (tyX9 2)) (i := 2) (Cn := RX9) (T := TX9) (N := 10) rfl (by decide) in_X9_init_X9 fk_X9_init_23 tyX9_ok nmX9 rfl (by decide +kernel) rfl rfl (by omega) (gFin_at (by omega) (gPu_at (by omega) (gPu_eq))) (Nat.le_of_ble_eq_true rfl) rfl (gDec_at D_X9_init 16 rfl) ?_
  refine gy_aload_n C 0 (gDec_at D_X9_init 17 rfl) rfl rfl ?_
  refine gy_new C Cy (fs := [.null, .null, .null, .null, .null, .int 0, .int 0, .int 0]) (ci := 8) rfl in_X9_init_X8 tyX8_ok nw_X9_init_16 (by intro j hj; match j, hj with | 0, _ => rfl | 1, _ => rfl | 2, _ => rfl | 3, _ => rfl | 4, _ => rfl | 5, _ => rfl | 6, _ => rfl | 7, _ => rfl | j + 8, hj => exact absurd hj (by omega)) (by decide) (by decide) (gDec_at D_X9_init 18 rfl) ?_
  refine gy_dup C (gDec_at D_X9_init 19 rfl) rfl ?_
  refine gy_callIN C Cy (m_X8_init w hT (is_X9_trial A) (in_X9_trial I) _ (gPu_eq)) rfl (by omega) gX9_init_X8_init_n18 ci_X9_init_18.1 rfl rfl rfl ci_X9_init_18.2.1 ci_X9_init_18.2.2 rfl hy_X8_init (by decide) (by decide) (by decide) (by decide) (Nat.le_of_ble_eq_true rfl) (gDec_at D_X9_init 20 rfl) ?_
  refine gy_putF C Cy hI (v := .ref (a + 29)) (ty0 := tyX9) (ty := (tyX9 3)) (i := 3) (Cn := RX9) (T := TX9) (N := 10) rfl (by decide) in_X9_init_X9 fk_X9_init_26 tyX9_ok nmX9 rfl (by decide +kernel) rfl rfl (by omega) (gFin_at (by omega) (gPu_at (by omega) (gPu_eq))) (Nat.le_of_ble_eq_true rfl) rfl (gDec_at D_X9_init 21 rfl) ?_
  refine gy_aload_n C 0 (gDec_at D_X9_init 22 rfl) rfl rfl ?_
  refine gy_new C Cy (fs := [.null, .int 0, .int 0]) (ci := 3) rfl in_X9_init_X3 tyX3_ok nw_X9_init_29 (by intro j hj; match j, hj with | 0, _ => rfl | 1, _ => rfl | 2, _ => rfl | j + 3, hj => exact absurd hj (by omega)) (by decide) (by decide) (gDec_at D_X9_init 23 rfl) ?_
  refine gy_dup C (gDec_at D_X9_init 24 rfl) rfl ?_
  refine gy_callI C Cy (m_X3_init w hT (is_X9_history A) (in_X9_history I) _ (gPu_eq)) rfl (by omega) gX9_init_X3_init ci_X9_init_31.1 rfl rfl rfl ci_X9_init_31.2.1 ci_X9_init_31.2.2 rfl hy_X3_init (by decide) (by decide) (by decide) (by decide) (Nat.le_of_ble_eq_true rfl) (gDec_at D_X9_init 25 rfl) ?_
  refine gy_putF C Cy hI (v := .ref (a + 42)) (ty0 := tyX9) (ty := (tyX9 4)) (i := 4) (Cn := RX9) (T := TX9) (N := 10) rfl (by decide) in_X9_init_X9 fk_X9_init_32 tyX9_ok nmX9 rfl (by decide +kernel) rfl rfl (by omega) (gFin_at (by omega) (gPu_at (by omega) (gPu_eq))) (Nat.le_of_ble_eq_true rfl) rfl (gDec_at D_X9_init 26 rfl) ?_
  refine gy_aload_n C 0 (gDec_at D_X9_init 27 rfl) rfl rfl ?_
  refine gy_new C Cy (fs := [.null, .null, .int 0]) (ci := 6) rfl in_X9_init_X6 tyX6_ok nw_X9_init_36 (by intro j hj; match j, hj with | 0, _ => rfl | 1, _ => rfl | 2, _ => rfl | j + 3, hj => exact absurd hj (by omega)) (by decide) (by decide) (gDec_at D_X9_init 28 rfl) ?_
  refine gy_dup C (gDec_at D_X9_init 29 rfl) rfl ?_
  refine gy_callIN C Cy (m_X6_init w hT (is_X9_reader A) (in_X9_reader I) _ (gPu_eq)) rfl (by omega) gX9_init_X6_init_n38 ci_X9_init_38.1 rfl rfl rfl ci_X9_init_38.2.1 ci_X9_init_38.2.2 rfl hy_X6_init (by decide) (by decide) (by decide) (by decide) (Nat.le_of_ble_eq_true rfl) (gDec_at D_X9_init 30 rfl) ?_
  refine gy_putF C Cy hI (v := .ref (a + 109)) (ty0 := tyX9) (ty := (tyX9 5)) (i := 5) (Cn := RX9) (T := TX9) (N := 10) rfl (by decide) in_X9_init_X9 fk_X9_init_39 tyX9_ok nmX9 rfl (by decide +kernel) rfl rfl (by omega) (gFin_at (by omega) (gPu_at (by omega) (gPu_eq))) (Nat.le_of_ble_eq_true rfl) rfl (gDec_at D_X9_init 31 rfl) ?_
  refine gy_aload_n C 0 (gDec_at D_X9_init 32 rfl) rfl rfl ?_
  refine gy_new C Cy (fs := [.int 0, .int 0, .int 0]) (ci := 1) rfl in_X9_init_X1 tyX1_ok nw_X9_init_43 (by intro j hj; match j, hj with | 0, _ => rfl | 1, _ => rfl | 2, _ => rfl | j + 3, hj => exact absurd hj (by omega)) (by decide) (by decide) (gDec_at D_X9_init 33 rfl) ?_
  refine gy_dup C (gDec_at D_X9_init 34 rfl) rfl ?_
  refine gy_callIN C Cy (m_X1_init w hT (is_X9_command A) (in_X9_command I) _ (gPu_eq)) rfl (by omega) gX9_init_X1_init_n45 ci_X9_init_45.1 rfl rfl rfl ci_X9_init_45.2.1 ci_X9_init_45.2.2 rfl hy_X1_init (by decide) (by decide) (by decide) (by decide) (Nat.le_of_ble_eq_true rfl) (gDec_at D_X9_init 35 rfl) ?_
  refine gy_putF C Cy hI (v := .ref (a + 112)) (ty0 := tyX9) (ty := (tyX9 6)) (i := 6) (Cn := RX9) (T := TX9) (N := 10) rfl (by decide) in_X9_init_X9 fk_X9_init_46 tyX9_ok nmX9 rfl (by decide +kernel) rfl rfl (by omega) (gFin_at (by omega) (gPu_at (by omega) (gPu_eq))) (Nat.le_of_ble_eq_true rfl) rfl (gDec_at D_X9_init 36 rfl) ?_
  refine gy_aload_n C 0 (gDec_at D_X9_init 37 rfl) rfl rfl ?_
  refine gy_new C Cy (fs := [.null, .null, .null, .null, .null]) (ci := 0) rfl in_X9_init_X0 tyX0_ok nw_X9_init_50 (by intro j hj; match j, hj with | 0, _ => rfl | 1, _ => rfl | 2, _ => rfl | 3, _ => rfl | 4, _ => rfl | j + 5, hj => exact absurd hj (by omega)) (by decide) (by decide) (gDec_at D_X9_init 38 rfl) ?_
  refine gy_dup C (gDec_at D_X9_init 39 rfl) rfl ?_
  refine gy_callI C Cy (m_X0_init w hT (is_X9_circuit A) (in_X9_circuit I) _ (gPu_eq)) rfl (by omega) gX9_init_X0_init ci_X9_init_52.1 rfl rfl rfl ci_X9_init_52.2.1 ci_X9_init_52.2.2 rfl hy_X0_init (by decide) (by decide) (by decide) (by decide) (Nat.le_of_ble_eq_true rfl) (gDec_at D_X9_init 40 rfl) ?_
  refine gy_putF C Cy hI (v := .ref (a + 113)) (ty0 := tyX9) (ty := (tyX9 7)) (i := 7) (Cn := RX9) (T := TX9) (N := 10) rfl (by decide) in_X9_init_X9 fk_X9_init_53 tyX9_ok nmX9 rfl (by decide +kernel) rfl rfl (by omega) (gFin_at (by omega) (gPu_at (by omega) (gPu_eq))) (Nat.le_of_ble_eq_true rfl) rfl (gDec_at D_X9_init 41 rfl) ?_
  refine gy_aload_n C 0 (gDec_at D_X9_init 42 rfl) rfl rfl ?_
  refine gy_new C Cy (fs := [.long 0, .long 0]) (ci := 2) rfl in_X9_init_X2 tyX2_ok nw_X9_init_57 (by intro j hj; match j, hj with | 0, _ => rfl | 1, _ => rfl | j + 2, hj => exact absurd hj (by omega)) (by decide) (by decide) (gDec_at D_X9_init 43 rfl) ?_
  refine gy_dup C (gDec_at D_X9_init 44 rfl) rfl ?_
  refine gy_callIN C Cy (m_X2_init w hT (is_X9_wanted A) (in_X9_wanted I) _ (gPu_eq)) rfl (by omega) gX9_init_X2_init_n59 ci_X9_init_59.1 rfl rfl rfl ci_X9_init_59.2.1 ci_X9_init_59.2.2 rfl hy_X2_init (by decide) (by decide) (by decide) (by decide) (Nat.le_of_ble_eq_true rfl) (gDec_at D_X9_init 45 rfl) ?_
  refine gy_putF C Cy hI (v := .ref (a + 141)) (ty0 := tyX9) (ty := (tyX9 8)) (i := 8) (Cn := RX9) (T := TX9) (N := 10) rfl (by decide) in_X9_init_X9 fk_X9_init_60 tyX9_ok nmX9 rfl (by decide +kernel) rfl rfl (by omega) (gFin_at (by omega) (gPu_at (by omega) (gPu_eq))) (Nat.le_of_ble_eq_true rfl) rfl (gDec_at D_X9_init 46 rfl) ?_
  refine gy_aload_n C 0 (gDec_at D_X9_init 47 rfl) rfl rfl ?_
  refine gy_iconst C (v := 0) (gDec_at D_X9_init 48 rfl) (by decide) ?_
  refine gy_put C Cy (v := .int 0) (ty0 := tyX9) (ty := .boolean) (i := 9) (Cn := RX9) (T := TX9) (N := 10) rfl (by decide) in_X9_init_X9 fk_X9_init_64 tyX9_ok nmX9 rfl (by decide +kernel) rfl rfl (by omega) (gPu_eq) (Nat.le_of_ble_eq_true rfl) (gDec_at D_X9_init 49 rfl) ?_
  refine gy_vret C E rfl (fun H0 hH q e hq => ?_) (gDec_at D_X9_init 50 rfl)
  unfold gFin at hq
  by_cases c : a ≤ q ∧ q < a + 142
  · rw [if_pos c] at hq
    by_cases c0 : q = a
    · subst c0
      rw [is_X9_sh A] at hq
      cases hq
      refine ⟨(hH _ _ (gPu_eq)).1, ?_⟩
      have h9 := (hH _ _ (gPu_eq)).2
      simp only [gE, gVs, gV, in_X9_hasSnapshot I]
      exact h9
    by_cases c1 : a + 1 ≤ q ∧ q < a + 3
    · exact hH q e (gPu_at (by omega) (gPu_at (by omega) (gFin_at (by omega) (gPu_at (by omega) (gPu_at (by omega) (gFin_at (by omega) (gPu_at (by omega) (gPu_at (by omega) (gFin_at (by omega) (gPu_at (by omega) (gPu_at (by omega) (gFin_at (by omega) (gPu_at (by omega) (gPu_at (by omega) (gFin_at (by omega) (gPu_at (by omega) (gPu_at (by omega) (gFin_at (by omega) (gPu_at (by omega) (gPu_at (by omega) (gFin_at (by omega) (gPu_at (by omega) (gPu_at (by omega) (gFin_at (by omega) (gPu_at (by omega) (gPu_at (by omega) (gFin_is c1 hq)))))))))))))))))))))))))))
    by_cases c3 : a + 3 ≤ q ∧ q < a + 16
    · exact hH q e (gPu_at (by omega) (gPu_at (by omega) (gFin_at (by omega) (gPu_at (by omega) (gPu_at (by omega) (gFin_at (by omega) (gPu_at (by omega) (gPu_at (by omega) (gFin_at (by omega) (gPu_at (by omega) (gPu_at (by omega) (gFin_at (by omega) (gPu_at (by omega) (gPu_at (by omega) (gFin_at (by omega) (gPu_at (by omega) (gPu_at (by omega) (gFin_at (by omega) (gPu_at (by omega) (gPu_at (by omega) (gFin_at (by omega) (gPu_at (by omega) (gPu_at (by omega) (gFin_is c3 hq))))))))))))))))))))))))
    by_cases c16 : a + 16 ≤ q ∧ q < a + 29
    · exact hH q e (gPu_at (by omega) (gPu_at (by omega) (gFin_at (by omega) (gPu_at (by omega) (gPu_at (by omega) (gFin_at (by omega) (gPu_at (by omega) (gPu_at (by omega) (gFin_at (by omega) (gPu_at (by omega) (gPu_at (by omega) (gFin_at (by omega) (gPu_at (by omega) (gPu_at (by omega) (gFin_at (by omega) (gPu_at (by omega) (gPu_at (by omega) (gFin_at (by omega) (gPu_at (by omega) (gPu_at (by omega) (gFin_is c16 hq)))))))))))))))))))))
    by_cases c29 : a + 29 ≤ q ∧ q < a + 42
    · exact hH q e (gPu_at (by omega) (gPu_at (by omega) (gFin_at (by omega) (gPu_at (by omega) (gPu_at (by omega) (gFin_at (by omega) (gPu_at (by omega) (gPu_at (by omega) (gFin_at (by omega) (gPu_at (by omega) (gPu_at (by omega) (gFin_at (by omega) (gPu_at (by omega) (gPu_at (by omega) (gFin_at (by omega) (gPu_at (by omega) (gPu_at (by omega) (gFin_is c29 hq))))))))))))))))))
    by_cases c42 : a + 42 ≤ q ∧ q < a + 109
    · exact hH q e (gPu_at (by omega) (gPu_at (by omega) (gFin_at (by omega) (gPu_at (by omega) (gPu_at (by omega) (gFin_at (by omega) (gPu_at (by omega) (gPu_at (by omega) (gFin_at (by omega) (gPu_at (by omega) (gPu_at (by omega) (gFin_at (by omega) (gPu_at (by omega) (gPu_at (by omega) (gFin_is c42 hq)))))))))))))))
    by_cases c109 : a + 109 ≤ q ∧ q < a + 112
    · exact hH q e (gPu_at (by omega) (gPu_at (by omega) (gFin_at (by omega) (gPu_at (by omega) (gPu_at (by omega) (gFin_at (by omega) (gPu_at (by omega) (gPu_at (by omega) (gFin_at (by omega) (gPu_at (by omega) (gPu_at (by omega) (gFin_is c109 hq))))))))))))
    by_cases c112 : a + 112 ≤ q ∧ q < a + 113
    · exact hH q e (gPu_at (by omega) (gPu_at (by omega) (gFin_at (by omega) (gPu_at (by omega) (gPu_at (by omega) (gFin_at (by omega) (gPu_at (by omega) (gPu_at (by omega) (gFin_is c112 hq)))))))))
    by_cases c113 : a + 113 ≤ q ∧ q < a + 141
    · exact hH q e (gPu_at (by omega) (gPu_at (by omega) (gFin_at (by omega) (gPu_at (by omega) (gPu_at (by omega) (gFin_is c113 hq))))))
    by_cases c141 : a + 141 ≤ q ∧ q < a + 142
    · exact hH q e (gPu_at (by omega) (gPu_at (by omega) (gFin_is c141 hq)))
    exact absurd c (by omega)
  · rw [if_neg c] at hq
    exact hH q e (gPu_at (by omega) (gPu_at (by omega) (gFin_at (by omega) (gPu_at (by omega) (gPu_at (by omega) (gFin_at (by omega) (gPu_at (by omega) (gPu_at (by omega) (gFin_at (by omega) (gPu_at (by omega) (gPu_at (by omega) (gFin_at (by omega) (gPu_at (by omega) (gPu_at (by omega) (gFin_at (by omega) (gPu_at (by omega) (gPu_at (by omega) (gFin_at (by omega) (gPu_at (by omega) (gPu_at (by omega) (gFin_at (by omega) (gPu_at (by omega) (gPu_at (by omega) (gFin_at (by omega) (gPu_at (by omega) (gPu_at (by omega) (gFin_at (by omega) (gPu_at (by omega) (hq)))))))))))))))))))))))))))))
/-! the constructor of LadderBenchModel -/
def rm_X10_init : Room := { frames := 1, cells := 12, slots := 1227, locals := 20 }
theorem hy_X10_init : yX10_init.cls ≠ "java/lang/invoke/MethodHandle" ∧ yX10_init.cls ≠ "java/lang/invoke/VarHandle" ∧ (parseMethodDescriptor yX10_init.desc).map (fun d => d.parameters.length) = some 0 := by decide +kernel
set_option maxRecDepth 100000 in
theorem D_X10_init : gDec cX10_init [(0, (.aload_n 0, 1)), (1, (.invokespecial 1, 3)), (4, (.aload_n 0, 1)), (5, (.sipush 141, 3)), (8, (.newarray .long, 2)), (10, (.putfield 7, 3)), (13, (.aload_n 0, 1)), (14, (.sipush 705, 3)), (17, (.newarray .long, 2)), (19, (.putfield 13, 3)), (22, (.aload_n 0, 1)), (23, (.sipush 141, 3)), (26, (.newarray .long, 2)), (28, (.putfield 16, 3)), (31, (.aload_n 0, 1)), (32, (.bipush 40, 2)), (34, (.newarray .char, 2)), (36, (.putfield 19, 3)), (39, (.aload_n 0, 1)), (40, (.bipush 60, 2)), (42, (.newarray .int, 2)), (44, (.putfield 23, 3)), (47, (.aload_n 0, 1)), (48, (.bipush 12, 2)), (50, (.newarray .int, 2)), (52, (.putfield 27, 3)), (55, (.aload_n 0, 1)), (56, (.bipush 42, 2)), (58, (.newarray .int, 2)), (60, (.putfield 30, 3)), (63, (.aload_n 0, 1)), (64, (.bipush 42, 2)), (66, (.newarray .int, 2)), (68, (.putfield 33, 3)), (71, (.aload_n 0, 1)), (72, (.bipush 11, 2)), (74, (.newarray .long, 2)), (76, (.putfield 36, 3)), (79, (.aload_n 0, 1)), (80, (.bipush 11, 2)), (82, (.newarray .long, 2)), (84, (.putfield 39, 3)), (87, (.aload_n 0, 1)), (88, (.bipush 11, 2)), (90, (.newarray .long, 2)), (92, (.putfield 42, 3)), (95, (.aload_n 0, 1)), (96, (.bipush 11, 2)), (98, (.newarray .long, 2)), (100, (.putfield 45, 3)), (103, (.aload_n 0, 1)), (104, (.getfield 7, 3)), (107, (.iconst 1, 1)), (108, (.ldc2_w 48, 3)), (111, (.lastore, 1)), (112, (.aload_n 0, 1)), (113, (.getfield 7, 3)), (116, (.iconst 2, 1)), (117, (.ldc2_w 50, 3)), (120, (.lastore, 1)), (121, (.return_, 1))] = true := by decide +kernel
set_option maxRecDepth 100000 in
theorem in_X10_init_X10 : ∀ x ∈ u_ws RX10 TX10 26, x ∈ wsX10_init := by decide +kernel
theorem ob_X10_init_1 : Cond.methodLink RX10 1 objectInit ∈ wsX10_init ∧ Cond.instanceMethod objectInit ∈ wsX10_init ∧ Cond.code objectInit ⟨#[0xb1]⟩ 1 none ∈ wsX10_init := by decide +kernel
theorem ac_X10_init_J : Cond.arrayClass .long ∈ wsX10_init := by decide +kernel
theorem fk_X10_init_7 : Cond.fieldLink RX10 7 (TX10 0).1 (TX10 0).2.1 (TX10 0).2.2.1 ∈ wsX10_init := by decide +kernel
theorem fk_X10_init_13 : Cond.fieldLink RX10 13 (TX10 1).1 (TX10 1).2.1 (TX10 1).2.2.1 ∈ wsX10_init := by decide +kernel
theorem fk_X10_init_16 : Cond.fieldLink RX10 16 (TX10 3).1 (TX10 3).2.1 (TX10 3).2.2.1 ∈ wsX10_init := by decide +kernel
theorem ac_X10_init_C : Cond.arrayClass .char ∈ wsX10_init := by decide +kernel
theorem fk_X10_init_19 : Cond.fieldLink RX10 19 (TX10 6).1 (TX10 6).2.1 (TX10 6).2.2.1 ∈ wsX10_init := by decide +kernel
theorem ac_X10_init_I : Cond.arrayClass .int ∈ wsX10_init := by decide +kernel
theorem fk_X10_init_23 : Cond.fieldLink RX10 23 (TX10 9).1 (TX10 9).2.1 (TX10 9).2.2.1 ∈ wsX10_init := by decide +kernel
theorem fk_X10_init_27 : Cond.fieldLink RX10 27 (TX10 10).1 (TX10 10).2.1 (TX10 10).2.2.1 ∈ wsX10_init := by decide +kernel
theorem fk_X10_init_30 : Cond.fieldLink RX10 30 (TX10 12).1 (TX10 12).2.1 (TX10 12).2.2.1 ∈ wsX10_init := by decide +kernel
theorem fk_X10_init_33 : Cond.fieldLink RX10 33 (TX10 13).1 (TX10 13).2.1 (TX10 13).2.2.1 ∈ wsX10_init := by decide +kernel
theorem fk_X10_init_36 : Cond.fieldLink RX10 36 (TX10 19).1 (TX10 19).2.1 (TX10 19).2.2.1 ∈ wsX10_init := by decide +kernel
theorem fk_X10_init_39 : Cond.fieldLink RX10 39 (TX10 20).1 (TX10 20).2.1 (TX10 20).2.2.1 ∈ wsX10_init := by decide +kernel
theorem fk_X10_init_42 : Cond.fieldLink RX10 42 (TX10 24).1 (TX10 24).2.1 (TX10 24).2.2.1 ∈ wsX10_init := by decide +kernel
theorem fk_X10_init_45 : Cond.fieldLink RX10 45 (TX10 25).1 (TX10 25).2.1 (TX10 25).2.2.1 ∈ wsX10_init := by decide +kernel
theorem fl_X10_init_7 : gF wsX10_init RX10 7 10 0 := ⟨RX10, TX10, 26, rfl, by decide, in_X10_init_X10, by decide +kernel⟩
theorem lc_X10_init_48 : Jvm.Cond.constantLong RX10 48 12 ∈ wsX10_init := by decide +kernel
theorem lc_X10_init_50 : Jvm.Cond.constantLong RX10 50 100 ∈ wsX10_init := by decide +kernel
set_option maxRecDepth 100000 in
set_option maxHeartbeats 40000000 in
theorem m_X10_init (w : gWd) (hT : gHp) {a : Nat} (A : is_X10 w a) (I : in_X10 hT a) (pic : gPic) (hp0 : pic a = some (.inr (10, [.null, .null, .int 0, .null, .int 0, .int 0, .null, .int 0, .int 0, .null, .null, .int 0, .null, .null, .int 0, .int 0, .int 0, .long 0, .long 0, .null, .null, .long 0, .long 0, .int 0, .null, .null]))) : gMetI w hT yX10_init wsX10_init rm_X10_init a 13 12 1227 pic := by
  refine gMetI_of (cc := cX10_init) (maxL := 1) (fr := 1) (lo := 20) (Rc := 12) (Rs := 1227) (own := RX10) (by decide) rfl rfl rfl (by decide) (Nat.le_refl _) (Nat.le_refl _) (Nat.le_refl _) (Nat.le_refl _) (fun g C Cy hI E => ?_)
  refine gy_aload_n C 0 (gDec_at D_X10_init 0 rfl) rfl rfl ?_
  refine gy_objInit C Cy ob_X10_init_1 (by decide) (by decide) (Nat.le_of_ble_eq_true rfl) (gDec_at D_X10_init 1 rfl) ?_
  refine gy_aload_n C 0 (gDec_at D_X10_init 2 rfl) rfl rfl ?_
  refine gy_sipush C (v := 141) (gDec_at D_X10_init 3 rfl) (by decide) ?_
  refine gy_newarrJ C Cy (N := 141) ac_X10_init_J (by decide) (by decide) (by decide) (by decide) (by decide) (gDec_at D_X10_init 4 rfl) ?_
  refine gy_putF C Cy hI (v := .ref (a + 1)) (ty0 := tyX10) (ty := (tyX10 0)) (i := 0) (Cn := RX10) (T := TX10) (N := 26) rfl (by decide) in_X10_init_X10 fk_X10_init_7 tyX10_ok nmX10 rfl (by decide +kernel) rfl rfl (by omega) (gPu_at (by omega) (hp0)) (Nat.le_of_ble_eq_true rfl) rfl (gDec_at D_X10_init 5 rfl) ?_
  refine gy_aload_n C 0 (gDec_at D_X10_init 6 rfl) rfl rfl ?_
  refine gy_sipush C (v := 705) (gDec_at D_X10_init 7 rfl) (by decide) ?_
  refine gy_newarrJ C Cy (N := 705) ac_X10_init_J (by decide) (by decide) (by decide) (by decide) (by decide) (gDec_at D_X10_init 8 rfl) ?_
  refine gy_putF C Cy hI (v := .ref (a + 2)) (ty0 := tyX10) (ty := (tyX10 1)) (i := 1) (Cn := RX10) (T := TX10) (N := 26) rfl (by decide) in_X10_init_X10 fk_X10_init_13 tyX10_ok nmX10 rfl (by decide +kernel) rfl rfl (by omega) (gPu_at (by omega) (gPu_eq)) (Nat.le_of_ble_eq_true rfl) rfl (gDec_at D_X10_init 9 rfl) ?_
  refine gy_aload_n C 0 (gDec_at D_X10_init 10 rfl) rfl rfl ?_
  refine gy_sipush C (v := 141) (gDec_at D_X10_init 11 rfl) (by decide) ?_
  refine gy_newarrJ C Cy (N := 141) ac_X10_init_J (by decide) (by decide) (by decide) (by decide) (by decide) (gDec_at D_X10_init 12 rfl) ?_
  refine gy_putF C Cy hI (v := .ref (a + 3)) (ty0 := tyX10) (ty := (tyX10 3)) (i := 3) (Cn := RX10) (T := TX10) (N := 26) rfl (by decide) in_X10_init_X10 fk_X10_init_16 tyX10_ok nmX10 rfl (by decide +kernel) rfl rfl (by omega) (gPu_at (by omega) (gPu_eq)) (Nat.le_of_ble_eq_true rfl) rfl (gDec_at D_X10_init 13 rfl) ?_
  refine gy_aload_n C 0 (gDec_at D_X10_init 14 rfl) rfl rfl ?_
  refine gy_bipush C (v := 40) (gDec_at D_X10_init 15 rfl) (by decide) ?_
  refine gy_newarrC C Cy (N := 40) ac_X10_init_C (by decide) (by decide) (by decide) (by decide) (by decide) (gDec_at D_X10_init 16 rfl) ?_
  refine gy_putF C Cy hI (v := .ref (a + 4)) (ty0 := tyX10) (ty := (tyX10 6)) (i := 6) (Cn := RX10) (T := TX10) (N := 26) rfl (by decide) in_X10_init_X10 fk_X10_init_19 tyX10_ok nmX10 rfl (by decide +kernel) rfl rfl (by omega) (gPu_at (by omega) (gPu_eq)) (Nat.le_of_ble_eq_true rfl) rfl (gDec_at D_X10_init 17 rfl) ?_
  refine gy_aload_n C 0 (gDec_at D_X10_init 18 rfl) rfl rfl ?_
  refine gy_bipush C (v := 60) (gDec_at D_X10_init 19 rfl) (by decide) ?_
  refine gy_newarrI C Cy (N := 60) ac_X10_init_I (by decide) (by decide) (by decide) (by decide) (by decide) (gDec_at D_X10_init 20 rfl) ?_
  refine gy_putF C Cy hI (v := .ref (a + 5)) (ty0 := tyX10) (ty := (tyX10 9)) (i := 9) (Cn := RX10) (T := TX10) (N := 26) rfl (by decide) in_X10_init_X10 fk_X10_init_23 tyX10_ok nmX10 rfl (by decide +kernel) rfl rfl (by omega) (gPu_at (by omega) (gPu_eq)) (Nat.le_of_ble_eq_true rfl) rfl (gDec_at D_X10_init 21 rfl) ?_
  refine gy_aload_n C 0 (gDec_at D_X10_init 22 rfl) rfl rfl ?_
  refine gy_bipush C (v := 12) (gDec_at D_X10_init 23 rfl) (by decide) ?_
  refine gy_newarrI C Cy (N := 12) ac_X10_init_I (by decide) (by decide) (by decide) (by decide) (by decide) (gDec_at D_X10_init 24 rfl) ?_
  refine gy_putF C Cy hI (v := .ref (a + 6)) (ty0 := tyX10) (ty := (tyX10 10)) (i := 10) (Cn := RX10) (T := TX10) (N := 26) rfl (by decide) in_X10_init_X10 fk_X10_init_27 tyX10_ok nmX10 rfl (by decide +kernel) rfl rfl (by omega) (gPu_at (by omega) (gPu_eq)) (Nat.le_of_ble_eq_true rfl) rfl (gDec_at D_X10_init 25 rfl) ?_
  refine gy_aload_n C 0 (gDec_at D_X10_init 26 rfl) rfl rfl ?_
  refine gy_bipush C (v := 42) (gDec_at D_X10_init 27 rfl) (by decide) ?_
  refine gy_newarrI C Cy (N := 42) ac_X10_init_I (by decide) (by decide) (by decide) (by decide) (by decide) (gDec_at D_X10_init 28 rfl) ?_
  refine gy_putF C Cy hI (v := .ref (a + 7)) (ty0 := tyX10) (ty := (tyX10 12)) (i := 12) (Cn := RX10) (T := TX10) (N := 26) rfl (by decide) in_X10_init_X10 fk_X10_init_30 tyX10_ok nmX10 rfl (by decide +kernel) rfl rfl (by omega) (gPu_at (by omega) (gPu_eq)) (Nat.le_of_ble_eq_true rfl) rfl (gDec_at D_X10_init 29 rfl) ?_
  refine gy_aload_n C 0 (gDec_at D_X10_init 30 rfl) rfl rfl ?_
  refine gy_bipush C (v := 42) (gDec_at D_X10_init 31 rfl) (by decide) ?_
  refine gy_newarrI C Cy (N := 42) ac_X10_init_I (by decide) (by decide) (by decide) (by decide) (by decide) (gDec_at D_X10_init 32 rfl) ?_
  refine gy_putF C Cy hI (v := .ref (a + 8)) (ty0 := tyX10) (ty := (tyX10 13)) (i := 13) (Cn := RX10) (T := TX10) (N := 26) rfl (by decide) in_X10_init_X10 fk_X10_init_33 tyX10_ok nmX10 rfl (by decide +kernel) rfl rfl (by omega) (gPu_at (by omega) (gPu_eq)) (Nat.le_of_ble_eq_true rfl) rfl (gDec_at D_X10_init 33 rfl) ?_
  refine gy_aload_n C 0 (gDec_at D_X10_init 34 rfl) rfl rfl ?_
  refine gy_bipush C (v := 11) (gDec_at D_X10_init 35 rfl) (by decide) ?_
  refine gy_newarrJ C Cy (N := 11) ac_X10_init_J (by decide) (by decide) (by decide) (by decide) (by decide) (gDec_at D_X10_init 36 rfl) ?_
  refine gy_putF C Cy hI (v := .ref (a + 9)) (ty0 := tyX10) (ty := (tyX10 19)) (i := 19) (Cn := RX10) (T := TX10) (N := 26) rfl (by decide) in_X10_init_X10 fk_X10_init_36 tyX10_ok nmX10 rfl (by decide +kernel) rfl rfl (by omega) (gPu_at (by omega) (gPu_eq)) (Nat.le_of_ble_eq_true rfl) rfl (gDec_at D_X10_init 37 rfl) ?_
  refine gy_aload_n C 0 (gDec_at D_X10_init 38 rfl) rfl rfl ?_
  refine gy_bipush C (v := 11) (gDec_at D_X10_init 39 rfl) (by decide) ?_
  refine gy_newarrJ C Cy (N := 11) ac_X10_init_J (by decide) (by decide) (by decide) (by decide) (by decide) (gDec_at D_X10_init 40 rfl) ?_
  refine gy_putF C Cy hI (v := .ref (a + 10)) (ty0 := tyX10) (ty := (tyX10 20)) (i := 20) (Cn := RX10) (T := TX10) (N := 26) rfl (by decide) in_X10_init_X10 fk_X10_init_39 tyX10_ok nmX10 rfl (by decide +kernel) rfl rfl (by omega) (gPu_at (by omega) (gPu_eq)) (Nat.le_of_ble_eq_true rfl) rfl (gDec_at D_X10_init 41 rfl) ?_
  refine gy_aload_n C 0 (gDec_at D_X10_init 42 rfl) rfl rfl ?_
  refine gy_bipush C (v := 11) (gDec_at D_X10_init 43 rfl) (by decide) ?_
  refine gy_newarrJ C Cy (N := 11) ac_X10_init_J (by decide) (by decide) (by decide) (by decide) (by decide) (gDec_at D_X10_init 44 rfl) ?_
  refine gy_putF C Cy hI (v := .ref (a + 11)) (ty0 := tyX10) (ty := (tyX10 24)) (i := 24) (Cn := RX10) (T := TX10) (N := 26) rfl (by decide) in_X10_init_X10 fk_X10_init_42 tyX10_ok nmX10 rfl (by decide +kernel) rfl rfl (by omega) (gPu_at (by omega) (gPu_eq)) (Nat.le_of_ble_eq_true rfl) rfl (gDec_at D_X10_init 45 rfl) ?_
  refine gy_aload_n C 0 (gDec_at D_X10_init 46 rfl) rfl rfl ?_
  refine gy_bipush C (v := 11) (gDec_at D_X10_init 47 rfl) (by decide) ?_
  refine gy_newarrJ C Cy (N := 11) ac_X10_init_J (by decide) (by decide) (by decide) (by decide) (by decide) (gDec_at D_X10_init 48 rfl) ?_
  refine gy_putF C Cy hI (v := .ref (a + 12)) (ty0 := tyX10) (ty := (tyX10 25)) (i := 25) (Cn := RX10) (T := TX10) (N := 26) rfl (by decide) in_X10_init_X10 fk_X10_init_45 tyX10_ok nmX10 rfl (by decide +kernel) rfl rfl (by omega) (gPu_at (by omega) (gPu_eq)) (Nat.le_of_ble_eq_true rfl) rfl (gDec_at D_X10_init 49 rfl) ?_
  refine gy_aload_n C 0 (gDec_at D_X10_init 50 rfl) rfl rfl ?_
  refine gy_get C Cy fl_X10_init_7 (gPu_eq) rfl (gDec_at D_X10_init 51 rfl) ?_
  refine gy_iconst C (v := 1) (gDec_at D_X10_init 52 rfl) (by decide) ?_
  refine gy_ldc2 C (v := 12) lc_X10_init_48 (gDec_at D_X10_init 53 rfl) ?_
  refine gy_lastore C Cy (by omega) (gPu_at (by omega) (gPu_at (by omega) (gPu_at (by omega) (gPu_at (by omega) (gPu_at (by omega) (gPu_at (by omega) (gPu_at (by omega) (gPu_at (by omega) (gPu_at (by omega) (gPu_at (by omega) (gPu_at (by omega) (gPu_at (by omega) (gPu_at (by omega) (gPu_at (by omega) (gPu_at (by omega) (gPu_at (by omega) (gPu_at (by omega) (gPu_at (by omega) (gPu_at (by omega) (gPu_at (by omega) (gPu_at (by omega) (gPu_at (by omega) (gPu_at (by omega) (gPu_eq)))))))))))))))))))))))) (by decide) (gDec_at D_X10_init 54 rfl) ?_
  refine gy_aload_n C 0 (gDec_at D_X10_init 55 rfl) rfl rfl ?_
  refine gy_get C Cy fl_X10_init_7 (gPu_at (by omega) (gPu_eq)) rfl (gDec_at D_X10_init 56 rfl) ?_
  refine gy_iconst C (v := 2) (gDec_at D_X10_init 57 rfl) (by decide) ?_
  refine gy_ldc2 C (v := 100) lc_X10_init_50 (gDec_at D_X10_init 58 rfl) ?_
  refine gy_lastore C Cy (by omega) (gPu_eq) (by decide) (gDec_at D_X10_init 59 rfl) ?_
  refine gy_vret C E rfl (fun H0 hH q e hq => ?_) (gDec_at D_X10_init 60 rfl)
  unfold gFin at hq
  by_cases c : a ≤ q ∧ q < a + 13
  · rw [if_pos c] at hq
    by_cases c0 : q = a
    · subst c0
      rw [is_X10_sh A] at hq
      cases hq
      refine ⟨(hH _ _ (gPu_at (by omega) (gPu_at (by omega) (gPu_eq)))).1, ?_⟩
      have h9 := (hH _ _ (gPu_at (by omega) (gPu_at (by omega) (gPu_eq)))).2
      simp only [gE, gVs, gV, in_X10_kept I, in_X10_isFilled I, in_X10_typed I, in_X10_at I, in_X10_readParts I, in_X10_piled I, in_X10_readWord I, in_X10_readArm I, in_X10_readNumber I, in_X10_up I, in_X10_low I, in_X10_letsUp I, in_X10_letsLow I, in_X10_isShort I]
      exact h9
    by_cases c1 : q = a + 1
    · subst c1
      rw [is_X10_now A] at hq
      cases hq
      refine ⟨(hH _ _ (gPu_eq)).1, ?_⟩
      have h9 := (hH _ _ (gPu_eq)).2
      simp only [gE]
      rw [in_X10_now I]
      exact h9
    by_cases c2 : q = a + 2
    · subst c2
      rw [is_X10_history A] at hq
      cases hq
      refine ⟨(hH _ _ (gPu_at (by omega) (gPu_at (by omega) (gPu_at (by omega) (gPu_at (by omega) (gPu_at (by omega) (gPu_at (by omega) (gPu_at (by omega) (gPu_at (by omega) (gPu_at (by omega) (gPu_at (by omega) (gPu_at (by omega) (gPu_at (by omega) (gPu_at (by omega) (gPu_at (by omega) (gPu_at (by omega) (gPu_at (by omega) (gPu_at (by omega) (gPu_at (by omega) (gPu_at (by omega) (gPu_at (by omega) (gPu_at (by omega) (gPu_at (by omega) (gPu_at (by omega) (gPu_eq))))))))))))))))))))))))).1, ?_⟩
      have h9 := (hH _ _ (gPu_at (by omega) (gPu_at (by omega) (gPu_at (by omega) (gPu_at (by omega) (gPu_at (by omega) (gPu_at (by omega) (gPu_at (by omega) (gPu_at (by omega) (gPu_at (by omega) (gPu_at (by omega) (gPu_at (by omega) (gPu_at (by omega) (gPu_at (by omega) (gPu_at (by omega) (gPu_at (by omega) (gPu_at (by omega) (gPu_at (by omega) (gPu_at (by omega) (gPu_at (by omega) (gPu_at (by omega) (gPu_at (by omega) (gPu_at (by omega) (gPu_at (by omega) (gPu_eq))))))))))))))))))))))))).2
      simp only [gE]
      rw [in_X10_history I]
      exact h9
    by_cases c3 : q = a + 3
    · subst c3
      rw [is_X10_slot A] at hq
      cases hq
      refine ⟨(hH _ _ (gPu_at (by omega) (gPu_at (by omega) (gPu_at (by omega) (gPu_at (by omega) (gPu_at (by omega) (gPu_at (by omega) (gPu_at (by omega) (gPu_at (by omega) (gPu_at (by omega) (gPu_at (by omega) (gPu_at (by omega) (gPu_at (by omega) (gPu_at (by omega) (gPu_at (by omega) (gPu_at (by omega) (gPu_at (by omega) (gPu_at (by omega) (gPu_at (by omega) (gPu_at (by omega) (gPu_at (by omega) (gPu_at (by omega) (gPu_eq))))))))))))))))))))))).1, ?_⟩
      have h9 := (hH _ _ (gPu_at (by omega) (gPu_at (by omega) (gPu_at (by omega) (gPu_at (by omega) (gPu_at (by omega) (gPu_at (by omega) (gPu_at (by omega) (gPu_at (by omega) (gPu_at (by omega) (gPu_at (by omega) (gPu_at (by omega) (gPu_at (by omega) (gPu_at (by omega) (gPu_at (by omega) (gPu_at (by omega) (gPu_at (by omega) (gPu_at (by omega) (gPu_at (by omega) (gPu_at (by omega) (gPu_at (by omega) (gPu_at (by omega) (gPu_eq))))))))))))))))))))))).2
      simp only [gE]
      rw [in_X10_slot I]
      exact h9
    by_cases c4 : q = a + 4
    · subst c4
      rw [is_X10_text A] at hq
      cases hq
      refine ⟨(hH _ _ (gPu_at (by omega) (gPu_at (by omega) (gPu_at (by omega) (gPu_at (by omega) (gPu_at (by omega) (gPu_at (by omega) (gPu_at (by omega) (gPu_at (by omega) (gPu_at (by omega) (gPu_at (by omega) (gPu_at (by omega) (gPu_at (by omega) (gPu_at (by omega) (gPu_at (by omega) (gPu_at (by omega) (gPu_at (by omega) (gPu_at (by omega) (gPu_at (by omega) (gPu_at (by omega) (gPu_eq))))))))))))))))))))).1, ?_⟩
      have h9 := (hH _ _ (gPu_at (by omega) (gPu_at (by omega) (gPu_at (by omega) (gPu_at (by omega) (gPu_at (by omega) (gPu_at (by omega) (gPu_at (by omega) (gPu_at (by omega) (gPu_at (by omega) (gPu_at (by omega) (gPu_at (by omega) (gPu_at (by omega) (gPu_at (by omega) (gPu_at (by omega) (gPu_at (by omega) (gPu_at (by omega) (gPu_at (by omega) (gPu_at (by omega) (gPu_at (by omega) (gPu_eq))))))))))))))))))))).2
      simp only [gE]
      rw [in_X10_text I]
      exact h9
    by_cases c5 : q = a + 5
    · subst c5
      rw [is_X10_read A] at hq
      cases hq
      refine ⟨(hH _ _ (gPu_at (by omega) (gPu_at (by omega) (gPu_at (by omega) (gPu_at (by omega) (gPu_at (by omega) (gPu_at (by omega) (gPu_at (by omega) (gPu_at (by omega) (gPu_at (by omega) (gPu_at (by omega) (gPu_at (by omega) (gPu_at (by omega) (gPu_at (by omega) (gPu_at (by omega) (gPu_at (by omega) (gPu_at (by omega) (gPu_at (by omega) (gPu_eq))))))))))))))))))).1, ?_⟩
      have h9 := (hH _ _ (gPu_at (by omega) (gPu_at (by omega) (gPu_at (by omega) (gPu_at (by omega) (gPu_at (by omega) (gPu_at (by omega) (gPu_at (by omega) (gPu_at (by omega) (gPu_at (by omega) (gPu_at (by omega) (gPu_at (by omega) (gPu_at (by omega) (gPu_at (by omega) (gPu_at (by omega) (gPu_at (by omega) (gPu_at (by omega) (gPu_at (by omega) (gPu_eq))))))))))))))))))).2
      simp only [gE]
      rw [in_X10_read I]
      exact h9
    by_cases c6 : q = a + 6
    · subst c6
      rw [is_X10_pile A] at hq
      cases hq
      refine ⟨(hH _ _ (gPu_at (by omega) (gPu_at (by omega) (gPu_at (by omega) (gPu_at (by omega) (gPu_at (by omega) (gPu_at (by omega) (gPu_at (by omega) (gPu_at (by omega) (gPu_at (by omega) (gPu_at (by omega) (gPu_at (by omega) (gPu_at (by omega) (gPu_at (by omega) (gPu_at (by omega) (gPu_at (by omega) (gPu_eq))))))))))))))))).1, ?_⟩
      have h9 := (hH _ _ (gPu_at (by omega) (gPu_at (by omega) (gPu_at (by omega) (gPu_at (by omega) (gPu_at (by omega) (gPu_at (by omega) (gPu_at (by omega) (gPu_at (by omega) (gPu_at (by omega) (gPu_at (by omega) (gPu_at (by omega) (gPu_at (by omega) (gPu_at (by omega) (gPu_at (by omega) (gPu_at (by omega) (gPu_eq))))))))))))))))).2
      simp only [gE]
      rw [in_X10_pile I]
      exact h9
    by_cases c7 : q = a + 7
    · subst c7
      rw [is_X10_pieces A] at hq
      cases hq
      refine ⟨(hH _ _ (gPu_at (by omega) (gPu_at (by omega) (gPu_at (by omega) (gPu_at (by omega) (gPu_at (by omega) (gPu_at (by omega) (gPu_at (by omega) (gPu_at (by omega) (gPu_at (by omega) (gPu_at (by omega) (gPu_at (by omega) (gPu_at (by omega) (gPu_at (by omega) (gPu_eq))))))))))))))).1, ?_⟩
      have h9 := (hH _ _ (gPu_at (by omega) (gPu_at (by omega) (gPu_at (by omega) (gPu_at (by omega) (gPu_at (by omega) (gPu_at (by omega) (gPu_at (by omega) (gPu_at (by omega) (gPu_at (by omega) (gPu_at (by omega) (gPu_at (by omega) (gPu_at (by omega) (gPu_at (by omega) (gPu_eq))))))))))))))).2
      simp only [gE]
      rw [in_X10_pieces I]
      exact h9
    by_cases c8 : q = a + 8
    · subst c8
      rw [is_X10_links A] at hq
      cases hq
      refine ⟨(hH _ _ (gPu_at (by omega) (gPu_at (by omega) (gPu_at (by omega) (gPu_at (by omega) (gPu_at (by omega) (gPu_at (by omega) (gPu_at (by omega) (gPu_at (by omega) (gPu_at (by omega) (gPu_at (by omega) (gPu_at (by omega) (gPu_eq))))))))))))).1, ?_⟩
      have h9 := (hH _ _ (gPu_at (by omega) (gPu_at (by omega) (gPu_at (by omega) (gPu_at (by omega) (gPu_at (by omega) (gPu_at (by omega) (gPu_at (by omega) (gPu_at (by omega) (gPu_at (by omega) (gPu_at (by omega) (gPu_at (by omega) (gPu_eq))))))))))))).2
      simp only [gE]
      rw [in_X10_links I]
      exact h9
    by_cases c9 : q = a + 9
    · subst c9
      rw [is_X10_upper A] at hq
      cases hq
      refine ⟨(hH _ _ (gPu_at (by omega) (gPu_at (by omega) (gPu_at (by omega) (gPu_at (by omega) (gPu_at (by omega) (gPu_at (by omega) (gPu_at (by omega) (gPu_at (by omega) (gPu_at (by omega) (gPu_eq))))))))))).1, ?_⟩
      have h9 := (hH _ _ (gPu_at (by omega) (gPu_at (by omega) (gPu_at (by omega) (gPu_at (by omega) (gPu_at (by omega) (gPu_at (by omega) (gPu_at (by omega) (gPu_at (by omega) (gPu_at (by omega) (gPu_eq))))))))))).2
      simp only [gE]
      rw [in_X10_upper I]
      exact h9
    by_cases c10 : q = a + 10
    · subst c10
      rw [is_X10_lower A] at hq
      cases hq
      refine ⟨(hH _ _ (gPu_at (by omega) (gPu_at (by omega) (gPu_at (by omega) (gPu_at (by omega) (gPu_at (by omega) (gPu_at (by omega) (gPu_at (by omega) (gPu_eq))))))))).1, ?_⟩
      have h9 := (hH _ _ (gPu_at (by omega) (gPu_at (by omega) (gPu_at (by omega) (gPu_at (by omega) (gPu_at (by omega) (gPu_at (by omega) (gPu_at (by omega) (gPu_eq))))))))).2
      simp only [gE]
      rw [in_X10_lower I]
      exact h9
    by_cases c11 : q = a + 11
    · subst c11
      rw [is_X10_voltUp A] at hq
      cases hq
      refine ⟨(hH _ _ (gPu_at (by omega) (gPu_at (by omega) (gPu_at (by omega) (gPu_at (by omega) (gPu_at (by omega) (gPu_eq))))))).1, ?_⟩
      have h9 := (hH _ _ (gPu_at (by omega) (gPu_at (by omega) (gPu_at (by omega) (gPu_at (by omega) (gPu_at (by omega) (gPu_eq))))))).2
      simp only [gE]
      rw [in_X10_voltUp I]
      exact h9
    by_cases c12 : q = a + 12
    · subst c12
      rw [is_X10_voltLow A] at hq
      cases hq
      refine ⟨(hH _ _ (gPu_at (by omega) (gPu_at (by omega) (gPu_at (by omega) (gPu_eq))))).1, ?_⟩
      have h9 := (hH _ _ (gPu_at (by omega) (gPu_at (by omega) (gPu_at (by omega) (gPu_eq))))).2
      simp only [gE]
      rw [in_X10_voltLow I]
      exact h9
    exact absurd c (by omega)
  · rw [if_neg c] at hq
    exact hH q e (gPu_at (by omega) (gPu_at (by omega) (gPu_at (by omega) (gPu_at (by omega) (gPu_at (by omega) (gPu_at (by omega) (gPu_at (by omega) (gPu_at (by omega) (gPu_at (by omega) (gPu_at (by omega) (gPu_at (by omega) (gPu_at (by omega) (gPu_at (by omega) (gPu_at (by omega) (gPu_at (by omega) (gPu_at (by omega) (gPu_at (by omega) (gPu_at (by omega) (gPu_at (by omega) (gPu_at (by omega) (gPu_at (by omega) (gPu_at (by omega) (gPu_at (by omega) (gPu_at (by omega) (gPu_at (by omega) (gPu_at (by omega) (hq)))))))))))))))))))))))))))
