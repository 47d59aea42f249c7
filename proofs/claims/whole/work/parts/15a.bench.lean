/-! LadderBench.type -/
def rm_X9_type : Room := { frames := 1, cells := 0, slots := 0, locals := 21 }
set_option maxRecDepth 20000 in
theorem ggX9_type_X4_append : GoodIn wsX9_type wsX4_append := goodIn_r _ [7, 8, 9, 20, 21] (by decide +kernel) (by decide +kernel)
set_option maxRecDepth 20000 in
theorem gX9_type_X4_append : GoodIn wsX9_type (wsV RX9 72 RX4 yX4_append wsX4_append) := goodIn_app (goodIn_of _ (by decide +kernel)) ggX9_type_X4_append
theorem hy_X9_type : yX9_type.cls = RX9 ∧ yX9_type.cls ≠ "java/lang/invoke/MethodHandle" ∧ yX9_type.cls ≠ "java/lang/invoke/VarHandle" ∧ (parseMethodDescriptor yX9_type.desc).map (fun d => d.parameters.length) = some 1 := by decide +kernel
set_option maxRecDepth 100000 in
theorem D_X9_type : gDec cX9_type [(0, (.aload_n 0, 1)), (1, (.getfield 10, 3)), (4, (.getfield 68, 3)), (7, (.bipush 40, 2)), (9, (.if_icmp .lt 6, 3)), (12, (.bipush (-3), 2)), (14, (.ireturn, 1)), (15, (.aload_n 0, 1)), (16, (.getfield 10, 3)), (19, (.iload_n 1, 1)), (20, (.invokevirtual 72, 3)), (23, (.aload_n 0, 1)), (24, (.getfield 10, 3)), (27, (.getfield 68, 3)), (30, (.ireturn, 1))] = true := by decide +kernel
set_option maxRecDepth 100000 in
theorem in_X9_type_X4 : ∀ x ∈ u_ws RX4 TX4 2, x ∈ wsX9_type := by decide +kernel
set_option maxRecDepth 100000 in
theorem in_X9_type_X9 : ∀ x ∈ u_ws RX9 TX9 10, x ∈ wsX9_type := by decide +kernel
theorem fl_X9_type_10 : gF wsX9_type RX9 10 9 0 := ⟨RX9, TX9, 10, rfl, by decide, in_X9_type_X9, by decide +kernel⟩
theorem fl_X9_type_68 : gF wsX9_type RX9 68 4 1 := ⟨RX4, TX4, 2, rfl, by decide, in_X9_type_X4, by decide +kernel⟩
def f_X9_type (a0 : Nat) (x1 : Int32) (h : gHp) : Option (Int32 × gHp) := if (h.1 (a0 + 1) 1) < 40 then (f_X4_append (a0 + 1) x1 h).bind fun v2 => some (v2.1 (a0 + 1) 1, v2) else some ((-3), h)
set_option maxRecDepth 20000 in
set_option maxHeartbeats 4000000 in
theorem m_X9_type (w : gWd) (h : gHp) {a0 : Nat} (A0 : is_X9 w a0) (x1 : Int32) {o : Int32 × gHp} (hF : f_X9_type a0 x1 h = some o) : gMet w yX9_type wsX9_type rm_X9_type [.ref a0, .int x1] h (some (.int o.1)) o.2 := by
  refine gMet_of (cc := cX9_type) (maxL := 2) (ret := (some .int)) (fr := 1) (lo := 21) (own := RX9) [(0, .ref a0), (1, .int x1)] (by decide) rfl rfl (Nat.le_of_ble_eq_true rfl) rfl (Nat.le_refl _) (Nat.le_refl _) (fun g C E => ?_)
  rw [f_X9_type] at hF
  refine gx_aload_n C 0 (gDec_at D_X9_type 0 rfl) rfl rfl ?_
  refine gx_getr C fl_X9_type_10 (is_X9_sh A0) rfl (gDec_at D_X9_type 1 rfl) ?_
  refine gx_geti C fl_X9_type_68 (is_X4_sh (is_X9_text A0)) rfl (gDec_at D_X9_type 2 rfl) ?_
  refine gx_bipush C (v := 40) (gDec_at D_X9_type 3 rfl) (by decide) ?_
  refine gx_icmp_lt C 15 (gDec_at D_X9_type 4 rfl) (by decide) (fun c => ?_) (fun c => ?_)
  · replace hF := gPos c hF
    refine gx_aload_n C 0 (gDec_at D_X9_type 7 rfl) rfl rfl ?_
    refine gx_getr C fl_X9_type_10 (is_X9_sh A0) rfl (gDec_at D_X9_type 8 rfl) ?_
    refine gx_iload_n C 1 (gDec_at D_X9_type 9 rfl) rfl rfl ?_
    obtain ⟨v2, hv1, hF⟩ := gBind hF
    refine gx_callV0 C (st := []) 1 [.int x1] (m_X4_append w h (is_X9_text A0) x1 hv1) gX9_type_X4_append rfl rfl rfl hy_X4_append (Nat.le_of_ble_eq_true rfl) (Nat.le_of_ble_eq_true rfl) (is_X4_sh (is_X9_text A0)) rfl rfl rfl (Nat.le_of_ble_eq_true rfl) (gDec_at D_X9_type 10 rfl) ?_
    refine gx_aload_n C 0 (gDec_at D_X9_type 11 rfl) rfl rfl ?_
    refine gx_getr C fl_X9_type_10 (is_X9_sh A0) rfl (gDec_at D_X9_type 12 rfl) ?_
    refine gx_geti C fl_X9_type_68 (is_X4_sh (is_X9_text A0)) rfl (gDec_at D_X9_type 13 rfl) ?_
    obtain rfl := Option.some.inj hF
    exact gx_iret C E (gDec_at D_X9_type 14 rfl)
  · replace hF := gNeg c hF
    refine gx_bipush C (v := (-3)) (gDec_at D_X9_type 5 rfl) (by decide) ?_
    obtain rfl := Option.some.inj hF
    exact gx_iret C E (gDec_at D_X9_type 6 rfl)
/-! LadderBench.clearText -/
def rm_X9_clearText : Room := { frames := 0, cells := 0, slots := 0, locals := 0 }
theorem hy_X9_clearText : yX9_clearText.cls = RX9 ∧ yX9_clearText.cls ≠ "java/lang/invoke/MethodHandle" ∧ yX9_clearText.cls ≠ "java/lang/invoke/VarHandle" ∧ (parseMethodDescriptor yX9_clearText.desc).map (fun d => d.parameters.length) = some 0 := by decide +kernel
set_option maxRecDepth 100000 in
theorem D_X9_clearText : gDec cX9_clearText [(0, (.aload_n 0, 1)), (1, (.getfield 10, 3)), (4, (.getfield 68, 3)), (7, (.istore_n 1, 1)), (8, (.aload_n 0, 1)), (9, (.getfield 10, 3)), (12, (.iconst 0, 1)), (13, (.putfield 68, 3)), (16, (.iload_n 1, 1)), (17, (.ireturn, 1))] = true := by decide +kernel
set_option maxRecDepth 100000 in
theorem in_X9_clearText_X4 : ∀ x ∈ u_ws RX4 TX4 2, x ∈ wsX9_clearText := by decide +kernel
set_option maxRecDepth 100000 in
theorem in_X9_clearText_X9 : ∀ x ∈ u_ws RX9 TX9 10, x ∈ wsX9_clearText := by decide +kernel
theorem fl_X9_clearText_10 : gF wsX9_clearText RX9 10 9 0 := ⟨RX9, TX9, 10, rfl, by decide, in_X9_clearText_X9, by decide +kernel⟩
theorem fl_X9_clearText_68 : gF wsX9_clearText RX9 68 4 1 := ⟨RX4, TX4, 2, rfl, by decide, in_X9_clearText_X4, by decide +kernel⟩
theorem flw_X9_clearText_68 : gFw wsX9_clearText RX9 68 4 1 .int := ⟨RX4, TX4, 2, tyX4, rfl, by decide, in_X9_clearText_X4, by decide +kernel, tyX4_ok, nmX4, rfl, by decide +kernel⟩
def f_X9_clearText (a0 : Nat) (h : gHp) : Option (Int32 × gHp) := some (h.1 (a0 + 1) 1, gsI h (a0 + 1) 1 0)
set_option maxRecDepth 20000 in
set_option maxHeartbeats 4000000 in
theorem m_X9_clearText (w : gWd) (h : gHp) {a0 : Nat} (A0 : is_X9 w a0) {o : Int32 × gHp} (hF : f_X9_clearText a0 h = some o) : gMet w yX9_clearText wsX9_clearText rm_X9_clearText [.ref a0] h (some (.int o.1)) o.2 := by
  refine gMet_of (cc := cX9_clearText) (maxL := 2) (ret := (some .int)) (fr := 0) (lo := 0) (own := RX9) [(0, .ref a0)] (by decide) rfl rfl (Nat.le_of_ble_eq_true rfl) rfl (Nat.le_refl _) (Nat.le_refl _) (fun g C E => ?_)
  rw [f_X9_clearText] at hF
  refine gx_aload_n C 0 (gDec_at D_X9_clearText 0 rfl) rfl rfl ?_
  refine gx_getr C fl_X9_clearText_10 (is_X9_sh A0) rfl (gDec_at D_X9_clearText 1 rfl) ?_
  refine gx_geti C fl_X9_clearText_68 (is_X4_sh (is_X9_text A0)) rfl (gDec_at D_X9_clearText 2 rfl) ?_
  refine gx_istore_n C (lv' := [(1, .int (h.1 (a0 + 1) 1)), (0, .ref a0)]) (gDec_at D_X9_clearText 3 rfl) rfl (Nat.le_of_ble_eq_true rfl) rfl ?_
  refine gx_aload_n C 1 (gDec_at D_X9_clearText 4 rfl) rfl rfl ?_
  refine gx_getr C fl_X9_clearText_10 (is_X9_sh A0) rfl (gDec_at D_X9_clearText 5 rfl) ?_
  refine gx_iconst C (v := 0) (gDec_at D_X9_clearText 6 rfl) (by decide) ?_
  refine gx_putI C flw_X9_clearText_68 (is_X4_sh (is_X9_text A0)) rfl rfl rfl (gDec_at D_X9_clearText 7 rfl) ?_
  refine gx_iload_n C 0 (gDec_at D_X9_clearText 8 rfl) rfl rfl ?_
  obtain rfl := Option.some.inj hF
  exact gx_iret C E (gDec_at D_X9_clearText 9 rfl)
/-! LadderBench.readNetwork -/
def rm_X9_readNetwork : Room := { frames := 6, cells := 0, slots := 0, locals := 133 }
set_option maxRecDepth 20000 in
theorem ggX9_readNetwork_X3_record : GoodIn wsX9_readNetwork wsX3_record := goodIn_r _ [21, 22, 23, 24, 25, 26, 27, 28, 29, 30, 31, 32, 33, 34, 35, 36, 37, 38, 39, 40, 41, 42, 43, 44, 45, 46, 47, 48, 49, 50, 51, 52, 53, 54, 55, 56, 138, 139, 140, 123, 124, 125, 126, 127, 128, 129, 130, 131, 132, 133, 134, 135, 141, 142, 143, 144] (by decide +kernel) (by decide +kernel)
set_option maxRecDepth 20000 in
theorem gX9_readNetwork_X3_record : GoodIn wsX9_readNetwork (wsV RX9 80 RX3 yX3_record wsX3_record) := goodIn_app (goodIn_of _ (by decide +kernel)) ggX9_readNetwork_X3_record
set_option maxRecDepth 20000 in
theorem ggX9_readNetwork_X6_build : GoodIn wsX9_readNetwork wsX6_build := goodIn_r _ [60, 61, 12, 13, 62, 63, 64, 41, 65, 47, 46, 66, 67, 68, 10, 69, 70, 71, 72, 73, 74, 75, 76, 77, 78, 79, 80, 81, 82, 83, 84, 85, 86, 87, 44, 88, 89, 90, 91, 92, 93, 94, 95, 96, 97, 98, 43, 45, 14, 15, 16, 99, 100, 101, 102, 145, 146, 147, 136, 137, 131, 132, 133, 134, 135] (by decide +kernel) (by decide +kernel)
set_option maxRecDepth 20000 in
theorem gX9_readNetwork_X6_build : GoodIn wsX9_readNetwork (wsV RX9 88 RX6 yX6_build wsX6_build) := goodIn_app (goodIn_of _ (by decide +kernel)) ggX9_readNetwork_X6_build
set_option maxRecDepth 20000 in
theorem ggX9_readNetwork_X6_findFault : GoodIn wsX9_readNetwork wsX6_findFault := goodIn_r _ [11, 12, 13, 14, 15, 16, 136, 137] (by decide +kernel) (by decide +kernel)
set_option maxRecDepth 20000 in
theorem gX9_readNetwork_X6_findFault : GoodIn wsX9_readNetwork (wsV RX9 76 RX6 yX6_findFault wsX6_findFault) := goodIn_app (goodIn_of _ (by decide +kernel)) ggX9_readNetwork_X6_findFault
set_option maxRecDepth 20000 in
theorem ggX9_readNetwork_X8_resetArms : GoodIn wsX9_readNetwork wsX8_resetArms := goodIn_r _ [106, 32, 33, 107, 108, 109, 28, 110, 30, 111, 34, 112, 123, 124, 125, 126, 127, 128, 129, 130, 131, 132, 133, 134, 135] (by decide +kernel) (by decide +kernel)
set_option maxRecDepth 20000 in
theorem gX9_readNetwork_X8_resetArms : GoodIn wsX9_readNetwork (wsV RX9 92 RX8 yX8_resetArms wsX8_resetArms) := goodIn_app (goodIn_of _ (by decide +kernel)) ggX9_readNetwork_X8_resetArms
theorem hy_X9_readNetwork : yX9_readNetwork.cls = RX9 ∧ yX9_readNetwork.cls ≠ "java/lang/invoke/MethodHandle" ∧ yX9_readNetwork.cls ≠ "java/lang/invoke/VarHandle" ∧ (parseMethodDescriptor yX9_readNetwork.desc).map (fun d => d.parameters.length) = some 0 := by decide +kernel
set_option maxRecDepth 100000 in
theorem D_X9_readNetwork : gDec cX9_readNetwork [(0, (.aload_n 0, 1)), (1, (.getfield 39, 3)), (4, (.aload_n 0, 1)), (5, (.getfield 10, 3)), (8, (.invokevirtual 76, 3)), (11, (.istore_n 1, 1)), (12, (.iload_n 1, 1)), (13, (.iconst (-1), 1)), (14, (.if_icmp .eq 8, 3)), (17, (.bipush (-100), 2)), (19, (.iload_n 1, 1)), (20, (.isub, 1)), (21, (.ireturn, 1)), (22, (.aload_n 0, 1)), (23, (.getfield 32, 3)), (26, (.aload_n 0, 1)), (27, (.getfield 19, 3)), (30, (.invokevirtual 80, 3)), (33, (.aload_n 0, 1)), (34, (.getfield 39, 3)), (37, (.aload_n 0, 1)), (38, (.getfield 10, 3)), (41, (.aload_n 0, 1)), (42, (.getfield 19, 3)), (45, (.getfield 84, 3)), (48, (.invokevirtual 88, 3)), (51, (.aload_n 0, 1)), (52, (.getfield 19, 3)), (55, (.invokevirtual 92, 3)), (58, (.aload_n 0, 1)), (59, (.getfield 19, 3)), (62, (.getfield 84, 3)), (65, (.getfield 95, 3)), (68, (.ireturn, 1))] = true := by decide +kernel
set_option maxRecDepth 100000 in
theorem in_X9_readNetwork_X5 : ∀ x ∈ u_ws RX5 TX5 5, x ∈ wsX9_readNetwork := by decide +kernel
set_option maxRecDepth 100000 in
theorem in_X9_readNetwork_X8 : ∀ x ∈ u_ws RX8 TX8 8, x ∈ wsX9_readNetwork := by decide +kernel
set_option maxRecDepth 100000 in
theorem in_X9_readNetwork_X9 : ∀ x ∈ u_ws RX9 TX9 10, x ∈ wsX9_readNetwork := by decide +kernel
theorem fl_X9_readNetwork_39 : gF wsX9_readNetwork RX9 39 9 5 := ⟨RX9, TX9, 10, rfl, by decide, in_X9_readNetwork_X9, by decide +kernel⟩
theorem fl_X9_readNetwork_10 : gF wsX9_readNetwork RX9 10 9 0 := ⟨RX9, TX9, 10, rfl, by decide, in_X9_readNetwork_X9, by decide +kernel⟩
theorem fl_X9_readNetwork_32 : gF wsX9_readNetwork RX9 32 9 4 := ⟨RX9, TX9, 10, rfl, by decide, in_X9_readNetwork_X9, by decide +kernel⟩
theorem fl_X9_readNetwork_19 : gF wsX9_readNetwork RX9 19 9 1 := ⟨RX9, TX9, 10, rfl, by decide, in_X9_readNetwork_X9, by decide +kernel⟩
theorem fl_X9_readNetwork_84 : gF wsX9_readNetwork RX9 84 8 0 := ⟨RX8, TX8, 8, rfl, by decide, in_X9_readNetwork_X8, by decide +kernel⟩
theorem fl_X9_readNetwork_95 : gF wsX9_readNetwork RX9 95 5 4 := ⟨RX5, TX5, 5, rfl, by decide, in_X9_readNetwork_X5, by decide +kernel⟩
def f_X9_readNetwork (a0 : Nat) (h : gHp) : Option (Int32 × gHp) := (f_X6_findFault (a0 + 109) (a0 + 1) h).bind fun v2 => if v2 = (-1) then (f_X3_record (a0 + 42) (a0 + 3) h).bind fun v4 => (f_X6_build (a0 + 109) (a0 + 1) (a0 + 3 + 1) v4).bind fun v6 => (f_X8_resetArms (a0 + 3) v6).bind fun v8 => some (v8.1 (a0 + 3 + 1) 4, v8) else some ((-100) - v2, h)
set_option maxRecDepth 20000 in
set_option maxHeartbeats 4000000 in
theorem m_X9_readNetwork (w : gWd) (h : gHp) {a0 : Nat} (A0 : is_X9 w a0) {o : Int32 × gHp} (hF : f_X9_readNetwork a0 h = some o) : gMet w yX9_readNetwork wsX9_readNetwork rm_X9_readNetwork [.ref a0] h (some (.int o.1)) o.2 := by
  refine gMet_of (cc := cX9_readNetwork) (maxL := 2) (ret := (some .int)) (fr := 6) (lo := 133) (own := RX9) [(0, .ref a0)] (by decide) rfl rfl (Nat.le_of_ble_eq_true rfl) rfl (Nat.le_refl _) (Nat.le_refl _) (fun g C E => ?_)
  rw [f_X9_readNetwork] at hF
  refine gx_aload_n C 0 (gDec_at D_X9_readNetwork 0 rfl) rfl rfl ?_
  refine gx_getr C fl_X9_readNetwork_39 (is_X9_sh A0) rfl (gDec_at D_X9_readNetwork 1 rfl) ?_
  refine gx_aload_n C 0 (gDec_at D_X9_readNetwork 2 rfl) rfl rfl ?_
  refine gx_getr C fl_X9_readNetwork_10 (is_X9_sh A0) rfl (gDec_at D_X9_readNetwork 3 rfl) ?_
  obtain ⟨v2, hv1, hF⟩ := gBind hF
  refine gx_callV1 C (st := []) 1 [.ref (a0 + 1)] (m_X6_findFault w h (is_X9_reader A0) (is_X9_text A0) hv1) gX9_readNetwork_X6_findFault rfl rfl rfl hy_X6_findFault (Nat.le_of_ble_eq_true rfl) (Nat.le_of_ble_eq_true rfl) (is_X6_sh (is_X9_reader A0)) rfl rfl rfl (Nat.le_of_ble_eq_true rfl) (gDec_at D_X9_readNetwork 4 rfl) ?_
  refine gx_istore_n C (lv' := [(1, .int v2), (0, .ref a0)]) (gDec_at D_X9_readNetwork 5 rfl) rfl (Nat.le_of_ble_eq_true rfl) rfl ?_
  refine gx_iload_n C 0 (gDec_at D_X9_readNetwork 6 rfl) rfl rfl ?_
  refine gx_iconst C (v := (-1)) (gDec_at D_X9_readNetwork 7 rfl) (by decide) ?_
  refine gx_icmp_eq C 22 (gDec_at D_X9_readNetwork 8 rfl) (by decide) (fun c => ?_) (fun c => ?_)
  · replace hF := gPos c hF
    refine gx_aload_n C 1 (gDec_at D_X9_readNetwork 13 rfl) rfl rfl ?_
    refine gx_getr C fl_X9_readNetwork_32 (is_X9_sh A0) rfl (gDec_at D_X9_readNetwork 14 rfl) ?_
    refine gx_aload_n C 1 (gDec_at D_X9_readNetwork 15 rfl) rfl rfl ?_
    refine gx_getr C fl_X9_readNetwork_19 (is_X9_sh A0) rfl (gDec_at D_X9_readNetwork 16 rfl) ?_
    obtain ⟨v4, hv3, hF⟩ := gBind hF
    refine gx_callV0 C (st := []) 1 [.ref (a0 + 3)] (m_X3_record w h (is_X9_history A0) (is_X9_now A0) hv3) gX9_readNetwork_X3_record rfl rfl rfl hy_X3_record (Nat.le_of_ble_eq_true rfl) (Nat.le_of_ble_eq_true rfl) (is_X3_sh (is_X9_history A0)) rfl rfl rfl (Nat.le_of_ble_eq_true rfl) (gDec_at D_X9_readNetwork 17 rfl) ?_
    refine gx_aload_n C 1 (gDec_at D_X9_readNetwork 18 rfl) rfl rfl ?_
    refine gx_getr C fl_X9_readNetwork_39 (is_X9_sh A0) rfl (gDec_at D_X9_readNetwork 19 rfl) ?_
    refine gx_aload_n C 1 (gDec_at D_X9_readNetwork 20 rfl) rfl rfl ?_
    refine gx_getr C fl_X9_readNetwork_10 (is_X9_sh A0) rfl (gDec_at D_X9_readNetwork 21 rfl) ?_
    refine gx_aload_n C 1 (gDec_at D_X9_readNetwork 22 rfl) rfl rfl ?_
    refine gx_getr C fl_X9_readNetwork_19 (is_X9_sh A0) rfl (gDec_at D_X9_readNetwork 23 rfl) ?_
    refine gx_getr C fl_X9_readNetwork_84 (is_X8_sh (is_X9_now A0)) rfl (gDec_at D_X9_readNetwork 24 rfl) ?_
    obtain ⟨v6, hv5, hF⟩ := gBind hF
    refine gx_callV0 C (st := []) 2 [.ref (a0 + 1), .ref (a0 + 3 + 1)] (m_X6_build w v4 (is_X9_reader A0) (is_X9_text A0) (is_X8_network (is_X9_now A0)) hv5) gX9_readNetwork_X6_build rfl rfl rfl hy_X6_build (Nat.le_of_ble_eq_true rfl) (Nat.le_of_ble_eq_true rfl) (is_X6_sh (is_X9_reader A0)) rfl rfl rfl (Nat.le_of_ble_eq_true rfl) (gDec_at D_X9_readNetwork 25 rfl) ?_
    refine gx_aload_n C 1 (gDec_at D_X9_readNetwork 26 rfl) rfl rfl ?_
    refine gx_getr C fl_X9_readNetwork_19 (is_X9_sh A0) rfl (gDec_at D_X9_readNetwork 27 rfl) ?_
    obtain ⟨v8, hv7, hF⟩ := gBind hF
    refine gx_callV0 C (st := []) 0 [] (m_X8_resetArms w v6 (is_X9_now A0) hv7) gX9_readNetwork_X8_resetArms rfl rfl rfl hy_X8_resetArms (Nat.le_of_ble_eq_true rfl) (Nat.le_of_ble_eq_true rfl) (is_X8_sh (is_X9_now A0)) rfl rfl rfl (Nat.le_of_ble_eq_true rfl) (gDec_at D_X9_readNetwork 28 rfl) ?_
    refine gx_aload_n C 1 (gDec_at D_X9_readNetwork 29 rfl) rfl rfl ?_
    refine gx_getr C fl_X9_readNetwork_19 (is_X9_sh A0) rfl (gDec_at D_X9_readNetwork 30 rfl) ?_
    refine gx_getr C fl_X9_readNetwork_84 (is_X8_sh (is_X9_now A0)) rfl (gDec_at D_X9_readNetwork 31 rfl) ?_
    refine gx_geti C fl_X9_readNetwork_95 (is_X5_sh (is_X8_network (is_X9_now A0))) rfl (gDec_at D_X9_readNetwork 32 rfl) ?_
    obtain rfl := Option.some.inj hF
    exact gx_iret C E (gDec_at D_X9_readNetwork 33 rfl)
  · replace hF := gNeg c hF
    refine gx_bipush C (v := (-100)) (gDec_at D_X9_readNetwork 9 rfl) (by decide) ?_
    refine gx_iload_n C 0 (gDec_at D_X9_readNetwork 10 rfl) rfl rfl ?_
    refine gx_isub C (gDec_at D_X9_readNetwork 11 rfl) ?_
    obtain rfl := Option.some.inj hF
    exact gx_iret C E (gDec_at D_X9_readNetwork 12 rfl)
/-! LadderBench.perform -/
def rm_X9_perform : Room := { frames := 7, cells := 0, slots := 0, locals := 152 }
set_option maxRecDepth 20000 in
theorem ggX9_perform_X1_changeIn : GoodIn wsX9_perform wsX1_changeIn := goodIn_r _ [154, 12, 19, 20, 110, 109, 111, 112, 155, 156, 157, 124, 158, 128, 129, 159, 160, 161, 162, 126, 163, 130, 164, 183, 184, 185, 175, 176, 177, 178, 179, 180, 181, 182, 188, 189, 190, 191, 192] (by decide +kernel) (by decide +kernel)
set_option maxRecDepth 20000 in
theorem gX9_perform_X1_changeIn : GoodIn wsX9_perform (wsV RX9 118 RX1 yX1_changeIn wsX1_changeIn) := goodIn_app (goodIn_of _ (by decide +kernel)) ggX9_perform_X1_changeIn
set_option maxRecDepth 20000 in
theorem ggX9_perform_X1_isDoneIn : GoodIn wsX9_perform wsX1_isDoneIn := goodIn_r _ [108, 12, 109, 19, 20, 110, 111, 112, 183, 184, 185, 175, 176, 177, 178, 179, 180, 181, 182] (by decide +kernel) (by decide +kernel)
set_option maxRecDepth 20000 in
theorem gX9_perform_X1_isDoneIn : GoodIn wsX9_perform (wsV RX9 114 RX1 yX1_isDoneIn wsX1_isDoneIn) := goodIn_app (goodIn_of _ (by decide +kernel)) ggX9_perform_X1_isDoneIn
set_option maxRecDepth 20000 in
theorem ggX9_perform_X1_read : GoodIn wsX9_perform wsX1_read := goodIn_r _ [11, 12, 13, 14, 15, 16, 17, 18, 19, 20, 21, 22, 23, 24, 25, 26, 27, 28, 29, 10, 30, 31, 32, 33, 34, 35, 36, 37, 38, 39, 40, 41, 42, 43, 44, 45, 46, 47, 48, 49, 50, 51, 52, 53, 54, 55, 56, 57, 58, 59, 60, 61, 62, 63, 64, 65, 66, 67, 68, 69, 70, 71, 72, 73, 74, 75, 76, 77, 78, 79, 80, 81, 82, 83, 84, 85, 86, 87, 88, 89, 90, 91, 92, 93, 94, 95, 96, 97, 183, 184, 185, 186, 187] (by decide +kernel) (by decide +kernel)
set_option maxRecDepth 20000 in
theorem gX9_perform_X1_read : GoodIn wsX9_perform (wsV RX9 100 RX1 yX1_read wsX1_read) := goodIn_app (goodIn_of _ (by decide +kernel)) ggX9_perform_X1_read
set_option maxRecDepth 20000 in
theorem ggX9_perform_X1_takesLetter : GoodIn wsX9_perform wsX1_takesLetter := goodIn_r _ [87, 12, 183, 184, 185] (by decide +kernel) (by decide +kernel)
set_option maxRecDepth 20000 in
theorem gX9_perform_X1_takesLetter : GoodIn wsX9_perform (wsV RX9 103 RX1 yX1_takesLetter wsX1_takesLetter) := goodIn_app (goodIn_of _ (by decide +kernel)) ggX9_perform_X1_takesLetter
set_option maxRecDepth 20000 in
theorem ggX9_perform_X3_record : GoodIn wsX9_perform wsX3_record := goodIn_r _ [117, 118, 119, 120, 121, 122, 123, 124, 125, 126, 127, 128, 129, 130, 131, 132, 133, 134, 135, 136, 102, 137, 138, 139, 140, 104, 141, 142, 143, 144, 145, 146, 147, 148, 149, 150, 193, 194, 195, 175, 176, 177, 178, 179, 180, 181, 182, 188, 189, 190, 191, 192, 196, 197, 198, 199] (by decide +kernel) (by decide +kernel)
set_option maxRecDepth 20000 in
theorem gX9_perform_X3_record : GoodIn wsX9_perform (wsV RX9 80 RX3 yX3_record wsX3_record) := goodIn_app (goodIn_of _ (by decide +kernel)) ggX9_perform_X3_record
set_option maxRecDepth 20000 in
theorem ggX9_perform_X5_hasArm : GoodIn wsX9_perform wsX5_hasArm := goodIn_r _ [103, 104, 188, 189, 190, 191, 192] (by decide +kernel) (by decide +kernel)
set_option maxRecDepth 20000 in
theorem gX9_perform_X5_hasArm : GoodIn wsX9_perform (wsV RX9 110 RX5 yX5_hasArm wsX5_hasArm) := goodIn_app (goodIn_of _ (by decide +kernel)) ggX9_perform_X5_hasArm
theorem hy_X9_perform : yX9_perform.cls = RX9 ∧ yX9_perform.cls ≠ "java/lang/invoke/MethodHandle" ∧ yX9_perform.cls ≠ "java/lang/invoke/VarHandle" ∧ (parseMethodDescriptor yX9_perform.desc).map (fun d => d.parameters.length) = some 0 := by decide +kernel
set_option maxRecDepth 100000 in
theorem D_X9_perform : gDec cX9_perform [(0, (.aload_n 0, 1)), (1, (.getfield 46, 3)), (4, (.aload_n 0, 1)), (5, (.getfield 10, 3)), (8, (.invokevirtual 100, 3)), (11, (.istore_n 1, 1)), (12, (.iload_n 1, 1)), (13, (.iconst (-1), 1)), (14, (.if_icmp .eq 8, 3)), (17, (.bipush (-100), 2)), (19, (.iload_n 1, 1)), (20, (.isub, 1)), (21, (.ireturn, 1)), (22, (.aload_n 0, 1)), (23, (.getfield 46, 3)), (26, (.invokevirtual 103, 3)), (29, (.ifCond .eq 25, 3)), (32, (.aload_n 0, 1)), (33, (.getfield 19, 3)), (36, (.getfield 84, 3)), (39, (.aload_n 0, 1)), (40, (.getfield 46, 3)), (43, (.getfield 107, 3)), (46, (.invokevirtual 110, 3)), (49, (.ifCond .ne 5, 3)), (52, (.iconst (-1), 1)), (53, (.ireturn, 1)), (54, (.aload_n 0, 1)), (55, (.getfield 46, 3)), (58, (.aload_n 0, 1)), (59, (.getfield 19, 3)), (62, (.invokevirtual 114, 3)), (65, (.ifCond .eq 6, 3)), (68, (.bipush (-4), 2)), (70, (.ireturn, 1)), (71, (.aload_n 0, 1)), (72, (.getfield 32, 3)), (75, (.aload_n 0, 1)), (76, (.getfield 19, 3)), (79, (.invokevirtual 80, 3)), (82, (.aload_n 0, 1)), (83, (.getfield 46, 3)), (86, (.aload_n 0, 1)), (87, (.getfield 19, 3)), (90, (.invokevirtual 118, 3)), (93, (.iconst 1, 1)), (94, (.ireturn, 1))] = true := by decide +kernel
set_option maxRecDepth 100000 in
theorem in_X9_perform_X1 : ∀ x ∈ u_ws RX1 TX1 3, x ∈ wsX9_perform := by decide +kernel
set_option maxRecDepth 100000 in
theorem in_X9_perform_X8 : ∀ x ∈ u_ws RX8 TX8 8, x ∈ wsX9_perform := by decide +kernel
set_option maxRecDepth 100000 in
theorem in_X9_perform_X9 : ∀ x ∈ u_ws RX9 TX9 10, x ∈ wsX9_perform := by decide +kernel
theorem fl_X9_perform_46 : gF wsX9_perform RX9 46 9 6 := ⟨RX9, TX9, 10, rfl, by decide, in_X9_perform_X9, by decide +kernel⟩
theorem fl_X9_perform_10 : gF wsX9_perform RX9 10 9 0 := ⟨RX9, TX9, 10, rfl, by decide, in_X9_perform_X9, by decide +kernel⟩
theorem fl_X9_perform_19 : gF wsX9_perform RX9 19 9 1 := ⟨RX9, TX9, 10, rfl, by decide, in_X9_perform_X9, by decide +kernel⟩
theorem fl_X9_perform_32 : gF wsX9_perform RX9 32 9 4 := ⟨RX9, TX9, 10, rfl, by decide, in_X9_perform_X9, by decide +kernel⟩
theorem fl_X9_perform_84 : gF wsX9_perform RX9 84 8 0 := ⟨RX8, TX8, 8, rfl, by decide, in_X9_perform_X8, by decide +kernel⟩
theorem fl_X9_perform_107 : gF wsX9_perform RX9 107 1 2 := ⟨RX1, TX1, 3, rfl, by decide, in_X9_perform_X1, by decide +kernel⟩
def f_X9_perform_54 (a0 : Nat) (h : gHp) : Option (Int32 × gHp) := (f_X1_isDoneIn (a0 + 112) (a0 + 3) h).bind fun v6 => if v6 = true then some ((-4), h) else (f_X3_record (a0 + 42) (a0 + 3) h).bind fun v8 => (f_X1_changeIn (a0 + 112) (a0 + 3) v8).bind fun v10 => some (1, v10)
set_option maxRecDepth 20000 in
set_option maxHeartbeats 4000000 in
theorem w_X9_perform_54 {w : gWd} {g : gCx} (C : gC w g cX9_perform wsX9_perform RX9 2 7 152) {a0 : Nat} (A0 : is_X9 w a0) (h : gHp)  {o : Int32 × gHp}  (E : gEn w g (some .int) (some (.int o.1)) o.2) (hF : f_X9_perform_54 a0 h = some o) : gX w g 2 h 54 [(0, .ref a0)] ([]) := by
  rw [f_X9_perform_54] at hF
  refine gx_aload_n C 0 (gDec_at D_X9_perform 27 rfl) rfl rfl ?_
  refine gx_getr C fl_X9_perform_46 (is_X9_sh A0) rfl (gDec_at D_X9_perform 28 rfl) ?_
  refine gx_aload_n C 0 (gDec_at D_X9_perform 29 rfl) rfl rfl ?_
  refine gx_getr C fl_X9_perform_19 (is_X9_sh A0) rfl (gDec_at D_X9_perform 30 rfl) ?_
  obtain ⟨v6, hv5, hF⟩ := gBind hF
  refine gx_callV1 C (st := []) 1 [.ref (a0 + 3)] (m_X1_isDoneIn w h (is_X9_command A0) (is_X9_now A0) hv5) gX9_perform_X1_isDoneIn rfl rfl rfl hy_X1_isDoneIn (Nat.le_of_ble_eq_true rfl) (Nat.le_of_ble_eq_true rfl) (is_X1_sh (is_X9_command A0)) rfl rfl rfl (Nat.le_of_ble_eq_true rfl) (gDec_at D_X9_perform 31 rfl) ?_
  refine gx_ifz_eq C 71 (gDec_at D_X9_perform 32 rfl) (by decide) (fun c => ?_) (fun c => ?_)
  · replace hF := gNeg c hF
    refine gx_aload_n C 0 (gDec_at D_X9_perform 35 rfl) rfl rfl ?_
    refine gx_getr C fl_X9_perform_32 (is_X9_sh A0) rfl (gDec_at D_X9_perform 36 rfl) ?_
    refine gx_aload_n C 0 (gDec_at D_X9_perform 37 rfl) rfl rfl ?_
    refine gx_getr C fl_X9_perform_19 (is_X9_sh A0) rfl (gDec_at D_X9_perform 38 rfl) ?_
    obtain ⟨v8, hv7, hF⟩ := gBind hF
    refine gx_callV0 C (st := []) 1 [.ref (a0 + 3)] (m_X3_record w h (is_X9_history A0) (is_X9_now A0) hv7) gX9_perform_X3_record rfl rfl rfl hy_X3_record (Nat.le_of_ble_eq_true rfl) (Nat.le_of_ble_eq_true rfl) (is_X3_sh (is_X9_history A0)) rfl rfl rfl (Nat.le_of_ble_eq_true rfl) (gDec_at D_X9_perform 39 rfl) ?_
    refine gx_aload_n C 0 (gDec_at D_X9_perform 40 rfl) rfl rfl ?_
    refine gx_getr C fl_X9_perform_46 (is_X9_sh A0) rfl (gDec_at D_X9_perform 41 rfl) ?_
    refine gx_aload_n C 0 (gDec_at D_X9_perform 42 rfl) rfl rfl ?_
    refine gx_getr C fl_X9_perform_19 (is_X9_sh A0) rfl (gDec_at D_X9_perform 43 rfl) ?_
    obtain ⟨v10, hv9, hF⟩ := gBind hF
    refine gx_callV0 C (st := []) 1 [.ref (a0 + 3)] (m_X1_changeIn w v8 (is_X9_command A0) (is_X9_now A0) hv9) gX9_perform_X1_changeIn rfl rfl rfl hy_X1_changeIn (Nat.le_of_ble_eq_true rfl) (Nat.le_of_ble_eq_true rfl) (is_X1_sh (is_X9_command A0)) rfl rfl rfl (Nat.le_of_ble_eq_true rfl) (gDec_at D_X9_perform 44 rfl) ?_
    refine gx_iconst C (v := 1) (gDec_at D_X9_perform 45 rfl) (by decide) ?_
    obtain rfl := Option.some.inj hF
    exact gx_iret C E (gDec_at D_X9_perform 46 rfl)
  · replace hF := gPos c hF
    refine gx_bipush C (v := (-4)) (gDec_at D_X9_perform 33 rfl) (by decide) ?_
    obtain rfl := Option.some.inj hF
    exact gx_iret C E (gDec_at D_X9_perform 34 rfl)
def f_X9_perform (a0 : Nat) (h : gHp) : Option (Int32 × gHp) := (f_X1_read (a0 + 112) (a0 + 1) h).bind fun v2 => if v2.1 = (-1) then (f_X1_takesLetter (a0 + 112) v2.2).bind fun v4 => if v4 = true then (f_X5_hasArm (a0 + 3 + 1) (v2.2.1 (a0 + 112) 2) v2.2).bind fun v12 => if v12 = true then f_X9_perform_54 a0 v2.2 else some ((-1), v2.2) else f_X9_perform_54 a0 v2.2 else some ((-100) - v2.1, v2.2)
set_option maxRecDepth 20000 in
set_option maxHeartbeats 4000000 in
theorem m_X9_perform (w : gWd) (h : gHp) {a0 : Nat} (A0 : is_X9 w a0) {o : Int32 × gHp} (hF : f_X9_perform a0 h = some o) : gMet w yX9_perform wsX9_perform rm_X9_perform [.ref a0] h (some (.int o.1)) o.2 := by
  refine gMet_of (cc := cX9_perform) (maxL := 2) (ret := (some .int)) (fr := 7) (lo := 152) (own := RX9) [(0, .ref a0)] (by decide) rfl rfl (Nat.le_of_ble_eq_true rfl) rfl (Nat.le_refl _) (Nat.le_refl _) (fun g C E => ?_)
  rw [f_X9_perform] at hF
  refine gx_aload_n C 0 (gDec_at D_X9_perform 0 rfl) rfl rfl ?_
  refine gx_getr C fl_X9_perform_46 (is_X9_sh A0) rfl (gDec_at D_X9_perform 1 rfl) ?_
  refine gx_aload_n C 0 (gDec_at D_X9_perform 2 rfl) rfl rfl ?_
  refine gx_getr C fl_X9_perform_10 (is_X9_sh A0) rfl (gDec_at D_X9_perform 3 rfl) ?_
  obtain ⟨v2, hv1, hF⟩ := gBind hF
  refine gx_callV1 C (st := []) 1 [.ref (a0 + 1)] (m_X1_read w h (is_X9_command A0) (is_X9_text A0) hv1) gX9_perform_X1_read rfl rfl rfl hy_X1_read (Nat.le_of_ble_eq_true rfl) (Nat.le_of_ble_eq_true rfl) (is_X1_sh (is_X9_command A0)) rfl rfl rfl (Nat.le_of_ble_eq_true rfl) (gDec_at D_X9_perform 4 rfl) ?_
  refine gx_istore_n C (lv' := [(1, .int v2.1), (0, .ref a0)]) (gDec_at D_X9_perform 5 rfl) rfl (Nat.le_of_ble_eq_true rfl) rfl ?_
  refine gx_iload_n C 0 (gDec_at D_X9_perform 6 rfl) rfl rfl ?_
  refine gx_iconst C (v := (-1)) (gDec_at D_X9_perform 7 rfl) (by decide) ?_
  refine gx_icmp_eq C 22 (gDec_at D_X9_perform 8 rfl) (by decide) (fun c => ?_) (fun c => ?_)
  · replace hF := gPos c hF
    refine gx_aload_n C 1 (gDec_at D_X9_perform 13 rfl) rfl rfl ?_
    refine gx_getr C fl_X9_perform_46 (is_X9_sh A0) rfl (gDec_at D_X9_perform 14 rfl) ?_
    obtain ⟨v4, hv3, hF⟩ := gBind hF
    refine gx_callV1 C (st := []) 0 [] (m_X1_takesLetter w v2.2 (is_X9_command A0) hv3) gX9_perform_X1_takesLetter rfl rfl rfl hy_X1_takesLetter (Nat.le_of_ble_eq_true rfl) (Nat.le_of_ble_eq_true rfl) (is_X1_sh (is_X9_command A0)) rfl rfl rfl (Nat.le_of_ble_eq_true rfl) (gDec_at D_X9_perform 15 rfl) ?_
    refine gx_ifz_eq C 54 (gDec_at D_X9_perform 16 rfl) (by decide) (fun c => ?_) (fun c => ?_)
    · replace hF := gNeg c hF
      exact gx_sub [1] rfl (w_X9_perform_54 C A0 v2.2   E hF)
    · replace hF := gPos c hF
      refine gx_aload_n C 1 (gDec_at D_X9_perform 17 rfl) rfl rfl ?_
      refine gx_getr C fl_X9_perform_19 (is_X9_sh A0) rfl (gDec_at D_X9_perform 18 rfl) ?_
      refine gx_getr C fl_X9_perform_84 (is_X8_sh (is_X9_now A0)) rfl (gDec_at D_X9_perform 19 rfl) ?_
      refine gx_aload_n C 1 (gDec_at D_X9_perform 20 rfl) rfl rfl ?_
      refine gx_getr C fl_X9_perform_46 (is_X9_sh A0) rfl (gDec_at D_X9_perform 21 rfl) ?_
      refine gx_geti C fl_X9_perform_107 (is_X1_sh (is_X9_command A0)) rfl (gDec_at D_X9_perform 22 rfl) ?_
      obtain ⟨v12, hv11, hF⟩ := gBind hF
      refine gx_callV1 C (st := []) 1 [.int (v2.2.1 (a0 + 112) 2)] (m_X5_hasArm w v2.2 (is_X8_network (is_X9_now A0)) (v2.2.1 (a0 + 112) 2) hv11) gX9_perform_X5_hasArm rfl rfl rfl hy_X5_hasArm (Nat.le_of_ble_eq_true rfl) (Nat.le_of_ble_eq_true rfl) (is_X5_sh (is_X8_network (is_X9_now A0))) rfl rfl rfl (Nat.le_of_ble_eq_true rfl) (gDec_at D_X9_perform 23 rfl) ?_
      refine gx_ifz_ne C 54 (gDec_at D_X9_perform 24 rfl) (by decide) (fun c => ?_) (fun c => ?_)
      · replace hF := gPos c hF
        exact gx_sub [1] rfl (w_X9_perform_54 C A0 v2.2   E hF)
      · replace hF := gNeg c hF
        refine gx_iconst C (v := (-1)) (gDec_at D_X9_perform 25 rfl) (by decide) ?_
        obtain rfl := Option.some.inj hF
        exact gx_iret C E (gDec_at D_X9_perform 26 rfl)
  · replace hF := gNeg c hF
    refine gx_bipush C (v := (-100)) (gDec_at D_X9_perform 9 rfl) (by decide) ?_
    refine gx_iload_n C 0 (gDec_at D_X9_perform 10 rfl) rfl rfl ?_
    refine gx_isub C (gDec_at D_X9_perform 11 rfl) ?_
    obtain rfl := Option.some.inj hF
    exact gx_iret C E (gDec_at D_X9_perform 12 rfl)
/-! LadderBench.fold -/
def rm_X9_fold : Room := { frames := 3, cells := 0, slots := 0, locals := 65 }
set_option maxRecDepth 20000 in
theorem ggX9_fold_X3_record : GoodIn wsX9_fold wsX3_record := goodIn_r _ [23, 24, 25, 26, 27, 28, 29, 14, 30, 16, 31, 32, 33, 18, 34, 35, 36, 37, 38, 39, 8, 40, 41, 42, 43, 44, 10, 45, 46, 47, 48, 49, 50, 51, 52, 53, 86, 87, 88, 73, 74, 75, 76, 77, 78, 79, 80, 81, 82, 83, 84, 85, 89, 90, 91, 92] (by decide +kernel) (by decide +kernel)
set_option maxRecDepth 20000 in
theorem gX9_fold_X3_record : GoodIn wsX9_fold (wsV RX9 80 RX3 yX3_record wsX3_record) := goodIn_app (goodIn_of _ (by decide +kernel)) ggX9_fold_X3_record
set_option maxRecDepth 20000 in
theorem ggX9_fold_X5_hasPart : GoodIn wsX9_fold wsX5_hasPart := goodIn_r _ [9, 10, 81, 82, 83, 84, 85] (by decide +kernel) (by decide +kernel)
set_option maxRecDepth 20000 in
theorem gX9_fold_X5_hasPart : GoodIn wsX9_fold (wsV RX9 121 RX5 yX5_hasPart wsX5_hasPart) := goodIn_app (goodIn_of _ (by decide +kernel)) ggX9_fold_X5_hasPart
set_option maxRecDepth 20000 in
theorem ggX9_fold_X8_countUnfolded : GoodIn wsX9_fold wsX8_countUnfolded := goodIn_r _ [61, 16, 62, 18, 73, 74, 75, 76, 77, 78, 79, 80, 81, 82, 83, 84, 85] (by decide +kernel) (by decide +kernel)
set_option maxRecDepth 20000 in
theorem gX9_fold_X8_countUnfolded : GoodIn wsX9_fold (wsV RX9 135 RX8 yX8_countUnfolded wsX8_countUnfolded) := goodIn_app (goodIn_of _ (by decide +kernel)) ggX9_fold_X8_countUnfolded
set_option maxRecDepth 20000 in
theorem ggX9_fold_X8_foldOne : GoodIn wsX9_fold wsX8_foldOne := goodIn_r _ [57, 18, 36, 73, 74, 75, 76, 77, 78, 79, 80] (by decide +kernel) (by decide +kernel)
set_option maxRecDepth 20000 in
theorem gX9_fold_X8_foldOne : GoodIn wsX9_fold (wsV RX9 131 RX8 yX8_foldOne wsX8_foldOne) := goodIn_app (goodIn_of _ (by decide +kernel)) ggX9_fold_X8_foldOne
set_option maxRecDepth 20000 in
theorem ggX9_fold_X8_hasFoldedParts : GoodIn wsX9_fold wsX8_hasFoldedParts := goodIn_r _ [15, 16, 17, 18, 73, 74, 75, 76, 77, 78, 79, 80, 81, 82, 83, 84, 85] (by decide +kernel) (by decide +kernel)
set_option maxRecDepth 20000 in
theorem gX9_fold_X8_hasFoldedParts : GoodIn wsX9_fold (wsV RX9 124 RX8 yX8_hasFoldedParts wsX8_hasFoldedParts) := goodIn_app (goodIn_of _ (by decide +kernel)) ggX9_fold_X8_hasFoldedParts
theorem hy_X9_fold : yX9_fold.cls = RX9 ∧ yX9_fold.cls ≠ "java/lang/invoke/MethodHandle" ∧ yX9_fold.cls ≠ "java/lang/invoke/VarHandle" ∧ (parseMethodDescriptor yX9_fold.desc).map (fun d => d.parameters.length) = some 1 := by decide +kernel
set_option maxRecDepth 100000 in
theorem D_X9_fold : gDec cX9_fold [(0, (.aload_n 0, 1)), (1, (.getfield 19, 3)), (4, (.getfield 84, 3)), (7, (.iload_n 1, 1)), (8, (.invokevirtual 121, 3)), (11, (.ifCond .ne 5, 3)), (14, (.iconst (-1), 1)), (15, (.ireturn, 1)), (16, (.aload_n 0, 1)), (17, (.getfield 19, 3)), (20, (.iload_n 1, 1)), (21, (.invokevirtual 124, 3)), (24, (.ifCond .ne 6, 3)), (27, (.bipush (-3), 2)), (29, (.ireturn, 1)), (30, (.aload_n 0, 1)), (31, (.getfield 19, 3)), (34, (.getfield 127, 3)), (37, (.iload_n 1, 1)), (38, (.baload, 1)), (39, (.ifCond .eq 6, 3)), (42, (.bipush (-4), 2)), (44, (.ireturn, 1)), (45, (.aload_n 0, 1)), (46, (.getfield 32, 3)), (49, (.aload_n 0, 1)), (50, (.getfield 19, 3)), (53, (.invokevirtual 80, 3)), (56, (.aload_n 0, 1)), (57, (.getfield 19, 3)), (60, (.iload_n 1, 1)), (61, (.invokevirtual 131, 3)), (64, (.aload_n 0, 1)), (65, (.getfield 19, 3)), (68, (.invokevirtual 135, 3)), (71, (.ireturn, 1))] = true := by decide +kernel
set_option maxRecDepth 100000 in
theorem in_X9_fold_X8 : ∀ x ∈ u_ws RX8 TX8 8, x ∈ wsX9_fold := by decide +kernel
set_option maxRecDepth 100000 in
theorem in_X9_fold_X9 : ∀ x ∈ u_ws RX9 TX9 10, x ∈ wsX9_fold := by decide +kernel
theorem fl_X9_fold_19 : gF wsX9_fold RX9 19 9 1 := ⟨RX9, TX9, 10, rfl, by decide, in_X9_fold_X9, by decide +kernel⟩
theorem fl_X9_fold_84 : gF wsX9_fold RX9 84 8 0 := ⟨RX8, TX8, 8, rfl, by decide, in_X9_fold_X8, by decide +kernel⟩
theorem fl_X9_fold_127 : gF wsX9_fold RX9 127 8 4 := ⟨RX8, TX8, 8, rfl, by decide, in_X9_fold_X8, by decide +kernel⟩
theorem fl_X9_fold_32 : gF wsX9_fold RX9 32 9 4 := ⟨RX9, TX9, 10, rfl, by decide, in_X9_fold_X9, by decide +kernel⟩
def f_X9_fold (a0 : Nat) (x1 : Int32) (h : gHp) : Option (Int32 × gHp) := (f_X5_hasPart (a0 + 3 + 1) x1 h).bind fun v2 => if v2 = true then (f_X8_hasFoldedParts (a0 + 3) x1 h).bind fun v4 => if v4 = true then if gIn x1 11 then if (h.1 (a0 + 3 + 12) (gN x1)) = 0 then (f_X3_record (a0 + 42) (a0 + 3) h).bind fun v7 => (f_X8_foldOne (a0 + 3) x1 v7).bind fun v9 => (f_X8_countUnfolded (a0 + 3) v9).bind fun v11 => some (v11, v9) else some ((-4), h) else none else some ((-3), h) else some ((-1), h)
set_option maxRecDepth 20000 in
set_option maxHeartbeats 4000000 in
theorem m_X9_fold (w : gWd) (h : gHp) {a0 : Nat} (A0 : is_X9 w a0) (x1 : Int32) {o : Int32 × gHp} (hF : f_X9_fold a0 x1 h = some o) : gMet w yX9_fold wsX9_fold rm_X9_fold [.ref a0, .int x1] h (some (.int o.1)) o.2 := by
  refine gMet_of (cc := cX9_fold) (maxL := 2) (ret := (some .int)) (fr := 3) (lo := 65) (own := RX9) [(0, .ref a0), (1, .int x1)] (by decide) rfl rfl (Nat.le_of_ble_eq_true rfl) rfl (Nat.le_refl _) (Nat.le_refl _) (fun g C E => ?_)
  rw [f_X9_fold] at hF
  refine gx_aload_n C 0 (gDec_at D_X9_fold 0 rfl) rfl rfl ?_
  refine gx_getr C fl_X9_fold_19 (is_X9_sh A0) rfl (gDec_at D_X9_fold 1 rfl) ?_
  refine gx_getr C fl_X9_fold_84 (is_X8_sh (is_X9_now A0)) rfl (gDec_at D_X9_fold 2 rfl) ?_
  refine gx_iload_n C 1 (gDec_at D_X9_fold 3 rfl) rfl rfl ?_
  obtain ⟨v2, hv1, hF⟩ := gBind hF
  refine gx_callV1 C (st := []) 1 [.int x1] (m_X5_hasPart w h (is_X8_network (is_X9_now A0)) x1 hv1) gX9_fold_X5_hasPart rfl rfl rfl hy_X5_hasPart (Nat.le_of_ble_eq_true rfl) (Nat.le_of_ble_eq_true rfl) (is_X5_sh (is_X8_network (is_X9_now A0))) rfl rfl rfl (Nat.le_of_ble_eq_true rfl) (gDec_at D_X9_fold 4 rfl) ?_
  refine gx_ifz_ne C 16 (gDec_at D_X9_fold 5 rfl) (by decide) (fun c => ?_) (fun c => ?_)
  · replace hF := gPos c hF
    refine gx_aload_n C 0 (gDec_at D_X9_fold 8 rfl) rfl rfl ?_
    refine gx_getr C fl_X9_fold_19 (is_X9_sh A0) rfl (gDec_at D_X9_fold 9 rfl) ?_
    refine gx_iload_n C 1 (gDec_at D_X9_fold 10 rfl) rfl rfl ?_
    obtain ⟨v4, hv3, hF⟩ := gBind hF
    refine gx_callV1 C (st := []) 1 [.int x1] (m_X8_hasFoldedParts w h (is_X9_now A0) x1 hv3) gX9_fold_X8_hasFoldedParts rfl rfl rfl hy_X8_hasFoldedParts (Nat.le_of_ble_eq_true rfl) (Nat.le_of_ble_eq_true rfl) (is_X8_sh (is_X9_now A0)) rfl rfl rfl (Nat.le_of_ble_eq_true rfl) (gDec_at D_X9_fold 11 rfl) ?_
    refine gx_ifz_ne C 30 (gDec_at D_X9_fold 12 rfl) (by decide) (fun c => ?_) (fun c => ?_)
    · replace hF := gPos c hF
      refine gx_aload_n C 0 (gDec_at D_X9_fold 15 rfl) rfl rfl ?_
      refine gx_getr C fl_X9_fold_19 (is_X9_sh A0) rfl (gDec_at D_X9_fold 16 rfl) ?_
      refine gx_getr C fl_X9_fold_127 (is_X8_sh (is_X9_now A0)) rfl (gDec_at D_X9_fold 17 rfl) ?_
      refine gx_iload_n C 1 (gDec_at D_X9_fold 18 rfl) rfl rfl ?_
      obtain ⟨b5, hF⟩ := gGd hF
      refine gx_zaload C (is_X8_isFolded (is_X9_now A0)) b5 (gDec_at D_X9_fold 19 rfl) ?_
      refine gx_if_eq C 45 (gDec_at D_X9_fold 20 rfl) (by decide) (fun c => ?_) (fun c => ?_)
      · replace hF := gPos c hF
        refine gx_aload_n C 0 (gDec_at D_X9_fold 23 rfl) rfl rfl ?_
        refine gx_getr C fl_X9_fold_32 (is_X9_sh A0) rfl (gDec_at D_X9_fold 24 rfl) ?_
        refine gx_aload_n C 0 (gDec_at D_X9_fold 25 rfl) rfl rfl ?_
        refine gx_getr C fl_X9_fold_19 (is_X9_sh A0) rfl (gDec_at D_X9_fold 26 rfl) ?_
        obtain ⟨v7, hv6, hF⟩ := gBind hF
        refine gx_callV0 C (st := []) 1 [.ref (a0 + 3)] (m_X3_record w h (is_X9_history A0) (is_X9_now A0) hv6) gX9_fold_X3_record rfl rfl rfl hy_X3_record (Nat.le_of_ble_eq_true rfl) (Nat.le_of_ble_eq_true rfl) (is_X3_sh (is_X9_history A0)) rfl rfl rfl (Nat.le_of_ble_eq_true rfl) (gDec_at D_X9_fold 27 rfl) ?_
        refine gx_aload_n C 0 (gDec_at D_X9_fold 28 rfl) rfl rfl ?_
        refine gx_getr C fl_X9_fold_19 (is_X9_sh A0) rfl (gDec_at D_X9_fold 29 rfl) ?_
        refine gx_iload_n C 1 (gDec_at D_X9_fold 30 rfl) rfl rfl ?_
        obtain ⟨v9, hv8, hF⟩ := gBind hF
        refine gx_callV0 C (st := []) 1 [.int x1] (m_X8_foldOne w v7 (is_X9_now A0) x1 hv8) gX9_fold_X8_foldOne rfl rfl rfl hy_X8_foldOne (Nat.le_of_ble_eq_true rfl) (Nat.le_of_ble_eq_true rfl) (is_X8_sh (is_X9_now A0)) rfl rfl rfl (Nat.le_of_ble_eq_true rfl) (gDec_at D_X9_fold 31 rfl) ?_
        refine gx_aload_n C 0 (gDec_at D_X9_fold 32 rfl) rfl rfl ?_
        refine gx_getr C fl_X9_fold_19 (is_X9_sh A0) rfl (gDec_at D_X9_fold 33 rfl) ?_
        obtain ⟨v11, hv10, hF⟩ := gBind hF
        refine gx_callV1 C (st := []) 0 [] (m_X8_countUnfolded w v9 (is_X9_now A0) hv10) gX9_fold_X8_countUnfolded rfl rfl rfl hy_X8_countUnfolded (Nat.le_of_ble_eq_true rfl) (Nat.le_of_ble_eq_true rfl) (is_X8_sh (is_X9_now A0)) rfl rfl rfl (Nat.le_of_ble_eq_true rfl) (gDec_at D_X9_fold 34 rfl) ?_
        obtain rfl := Option.some.inj hF
        exact gx_iret C E (gDec_at D_X9_fold 35 rfl)
      · replace hF := gNeg c hF
        refine gx_bipush C (v := (-4)) (gDec_at D_X9_fold 21 rfl) (by decide) ?_
        obtain rfl := Option.some.inj hF
        exact gx_iret C E (gDec_at D_X9_fold 22 rfl)
    · replace hF := gNeg c hF
      refine gx_bipush C (v := (-3)) (gDec_at D_X9_fold 13 rfl) (by decide) ?_
      obtain rfl := Option.some.inj hF
      exact gx_iret C E (gDec_at D_X9_fold 14 rfl)
  · replace hF := gNeg c hF
    refine gx_iconst C (v := (-1)) (gDec_at D_X9_fold 6 rfl) (by decide) ?_
    obtain rfl := Option.some.inj hF
    exact gx_iret C E (gDec_at D_X9_fold 7 rfl)
/-! LadderBench.foldAll -/
def rm_X9_foldAll : Room := { frames := 3, cells := 0, slots := 0, locals := 66 }
set_option maxRecDepth 20000 in
theorem ggX9_foldAll_X3_record : GoodIn wsX9_foldAll wsX3_record := goodIn_r _ [24, 25, 26, 27, 28, 29, 30, 6, 31, 8, 32, 33, 34, 14, 35, 36, 37, 38, 39, 40, 41, 42, 43, 44, 45, 46, 47, 48, 49, 50, 51, 52, 53, 54, 55, 56, 84, 85, 86, 71, 72, 73, 74, 75, 76, 77, 78, 79, 80, 81, 82, 83, 87, 88, 89, 90] (by decide +kernel) (by decide +kernel)
set_option maxRecDepth 20000 in
theorem gX9_foldAll_X3_record : GoodIn wsX9_foldAll (wsV RX9 80 RX3 yX3_record wsX3_record) := goodIn_app (goodIn_of _ (by decide +kernel)) ggX9_foldAll_X3_record
set_option maxRecDepth 20000 in
theorem ggX9_foldAll_X8_findFoldable : GoodIn wsX9_foldAll wsX8_findFoldable := goodIn_r _ [7, 8, 9, 10, 11, 12, 6, 13, 14, 15, 16, 17, 18, 19, 71, 72, 73, 74, 75, 76, 77, 78, 79, 80, 81, 82, 83] (by decide +kernel) (by decide +kernel)
set_option maxRecDepth 20000 in
theorem gX9_foldAll_X8_findFoldable : GoodIn wsX9_foldAll (wsV RX9 139 RX8 yX8_findFoldable wsX8_findFoldable) := goodIn_app (goodIn_of _ (by decide +kernel)) ggX9_foldAll_X8_findFoldable
set_option maxRecDepth 20000 in
theorem ggX9_foldAll_X8_foldOne : GoodIn wsX9_foldAll wsX8_foldOne := goodIn_r _ [60, 14, 37, 71, 72, 73, 74, 75, 76, 77, 78] (by decide +kernel) (by decide +kernel)
set_option maxRecDepth 20000 in
theorem gX9_foldAll_X8_foldOne : GoodIn wsX9_foldAll (wsV RX9 131 RX8 yX8_foldOne wsX8_foldOne) := goodIn_app (goodIn_of _ (by decide +kernel)) ggX9_foldAll_X8_foldOne
theorem hy_X9_foldAll : yX9_foldAll.cls = RX9 ∧ yX9_foldAll.cls ≠ "java/lang/invoke/MethodHandle" ∧ yX9_foldAll.cls ≠ "java/lang/invoke/VarHandle" ∧ (parseMethodDescriptor yX9_foldAll.desc).map (fun d => d.parameters.length) = some 1 := by decide +kernel
set_option maxRecDepth 100000 in
theorem D_X9_foldAll : gDec cX9_foldAll [(0, (.aload_n 0, 1)), (1, (.getfield 19, 3)), (4, (.iload_n 1, 1)), (5, (.invokevirtual 139, 3)), (8, (.istore_n 2, 1)), (9, (.iload_n 2, 1)), (10, (.iconst (-1), 1)), (11, (.if_icmp .ne 6, 3)), (14, (.bipush (-4), 2)), (16, (.ireturn, 1)), (17, (.aload_n 0, 1)), (18, (.getfield 32, 3)), (21, (.aload_n 0, 1)), (22, (.getfield 19, 3)), (25, (.invokevirtual 80, 3)), (28, (.iconst 0, 1)), (29, (.istore_n 3, 1)), (30, (.iconst 0, 1)), (31, (.istore 4, 2)), (33, (.iload 4, 2)), (35, (.bipush 11, 2)), (37, (.if_icmp .ge 34, 3)), (40, (.iload_n 2, 1)), (41, (.iconst (-1), 1)), (42, (.if_icmp .eq 29, 3)), (45, (.aload_n 0, 1)), (46, (.getfield 19, 3)), (49, (.iload_n 2, 1)), (50, (.invokevirtual 131, 3)), (53, (.iinc 3 1, 3)), (56, (.aload_n 0, 1)), (57, (.getfield 19, 3)), (60, (.iload_n 1, 1)), (61, (.invokevirtual 139, 3)), (64, (.istore_n 2, 1)), (65, (.iinc 4 1, 3)), (68, (.goto (-35), 3)), (71, (.iload_n 3, 1)), (72, (.ireturn, 1))] = true := by decide +kernel
set_option maxRecDepth 100000 in
theorem in_X9_foldAll_X9 : ∀ x ∈ u_ws RX9 TX9 10, x ∈ wsX9_foldAll := by decide +kernel
theorem fl_X9_foldAll_19 : gF wsX9_foldAll RX9 19 9 1 := ⟨RX9, TX9, 10, rfl, by decide, in_X9_foldAll_X9, by decide +kernel⟩
theorem fl_X9_foldAll_32 : gF wsX9_foldAll RX9 32 9 4 := ⟨RX9, TX9, 10, rfl, by decide, in_X9_foldAll_X9, by decide +kernel⟩
def f_X9_foldAll_33 (a0 : Nat) (x1 : Int32) : Nat → Int32 → Int32 → Int32 → gHp → Option (Int32 × gHp)
  | 0, _, _, _, _ => none
  | n + 1, x2, x3, x4, h => if 11 ≤ x4 then some (x3, h) else if x2 = (-1) then some (x3, h) else (f_X8_foldOne (a0 + 3) x2 h).bind fun v6 => (f_X8_findFoldable (a0 + 3) x1 v6).bind fun v8 => f_X9_foldAll_33 a0 x1 n v8 (x3 + 1) (x4 + 1) v6
set_option maxRecDepth 20000 in
set_option maxHeartbeats 4000000 in
theorem w_X9_foldAll_33 {w : gWd} {g : gCx} (C : gC w g cX9_foldAll wsX9_foldAll RX9 5 3 66) {a0 : Nat} (A0 : is_X9 w a0) (x1 : Int32)  {o : Int32 × gHp} (hk : gX w g 5 o.2 71 [(3, .int o.1)] []) : ∀ (n : Nat) (x2 : Int32) (x3 : Int32) (x4 : Int32) (h : gHp), f_X9_foldAll_33 a0 x1 n x2 x3 x4 h = some o → gX w g 5 h 33 [(0, .ref a0), (1, .int x1), (2, .int x2), (3, .int x3), (4, .int x4)] [] := by
  intro n
  induction n with
  | zero => intro _ _ _ _ hF; cases hF
  | succ n ih =>
    intro x2 x3 x4 h hF
    rw [f_X9_foldAll_33] at hF
    refine gx_iload C 4 (gDec_at D_X9_foldAll 19 rfl) rfl ?_
    refine gx_bipush C (v := 11) (gDec_at D_X9_foldAll 20 rfl) (by decide) ?_
    refine gx_icmp_ge C 71 (gDec_at D_X9_foldAll 21 rfl) (by decide) (fun c => ?_) (fun c => ?_)
    · replace hF := gPos c hF
      obtain rfl := Option.some.inj hF
      exact gx_sub [3] rfl hk
    · replace hF := gNeg c hF
      refine gx_iload_n C 2 (gDec_at D_X9_foldAll 22 rfl) rfl rfl ?_
      refine gx_iconst C (v := (-1)) (gDec_at D_X9_foldAll 23 rfl) (by decide) ?_
      refine gx_icmp_eq C 71 (gDec_at D_X9_foldAll 24 rfl) (by decide) (fun c => ?_) (fun c => ?_)
      · replace hF := gPos c hF
        obtain rfl := Option.some.inj hF
        exact gx_sub [3] rfl hk
      · replace hF := gNeg c hF
        refine gx_aload_n C 0 (gDec_at D_X9_foldAll 25 rfl) rfl rfl ?_
        refine gx_getr C fl_X9_foldAll_19 (is_X9_sh A0) rfl (gDec_at D_X9_foldAll 26 rfl) ?_
        refine gx_iload_n C 2 (gDec_at D_X9_foldAll 27 rfl) rfl rfl ?_
        obtain ⟨v6, hv5, hF⟩ := gBind hF
        refine gx_callV0 C (st := []) 1 [.int x2] (m_X8_foldOne w h (is_X9_now A0) x2 hv5) gX9_foldAll_X8_foldOne rfl rfl rfl hy_X8_foldOne (Nat.le_of_ble_eq_true rfl) (Nat.le_of_ble_eq_true rfl) (is_X8_sh (is_X9_now A0)) rfl rfl rfl (Nat.le_of_ble_eq_true rfl) (gDec_at D_X9_foldAll 28 rfl) ?_
        refine gx_iinc C (j := 3) (v := x3 + 1) (lv' := [(3, .int (x3 + 1)), (0, .ref a0), (1, .int x1), (2, .int x2), (4, .int x4)]) (gDec_at D_X9_foldAll 29 rfl) rfl (by rfl) (Nat.le_of_ble_eq_true rfl) rfl ?_
        refine gx_aload_n C 1 (gDec_at D_X9_foldAll 30 rfl) rfl rfl ?_
        refine gx_getr C fl_X9_foldAll_19 (is_X9_sh A0) rfl (gDec_at D_X9_foldAll 31 rfl) ?_
        refine gx_iload_n C 2 (gDec_at D_X9_foldAll 32 rfl) rfl rfl ?_
        obtain ⟨v8, hv7, hF⟩ := gBind hF
        refine gx_callV1 C (st := []) 1 [.int x1] (m_X8_findFoldable w v6 (is_X9_now A0) x1 hv7) gX9_foldAll_X8_findFoldable rfl rfl rfl hy_X8_findFoldable (Nat.le_of_ble_eq_true rfl) (Nat.le_of_ble_eq_true rfl) (is_X8_sh (is_X9_now A0)) rfl rfl rfl (Nat.le_of_ble_eq_true rfl) (gDec_at D_X9_foldAll 33 rfl) ?_
        refine gx_istore_n C (lv' := [(2, .int v8), (3, .int (x3 + 1)), (0, .ref a0), (1, .int x1), (4, .int x4)]) (gDec_at D_X9_foldAll 34 rfl) rfl (Nat.le_of_ble_eq_true rfl) rfl ?_
        refine gx_iinc C (j := 4) (v := x4 + 1) (lv' := [(4, .int (x4 + 1)), (2, .int v8), (3, .int (x3 + 1)), (0, .ref a0), (1, .int x1)]) (gDec_at D_X9_foldAll 35 rfl) rfl (by rfl) (Nat.le_of_ble_eq_true rfl) rfl ?_
        refine gx_goto C 33 (gDec_at D_X9_foldAll 36 rfl) (by decide) ?_
        exact gx_sub [3, 4, 1, 2, 0] rfl (ih v8 (x3 + 1) (x4 + 1) v6 hF)
def f_X9_foldAll (a0 : Nat) (x1 : Int32) (h : gHp) : Option (Int32 × gHp) := (f_X8_findFoldable (a0 + 3) x1 h).bind fun v2 => if v2 = (-1) then some ((-4), h) else (f_X3_record (a0 + 42) (a0 + 3) h).bind fun v4 => (f_X9_foldAll_33 a0 x1 gFuel v2 0 0 v4).bind fun v9 => some (v9.1, v9.2)
set_option maxRecDepth 20000 in
set_option maxHeartbeats 4000000 in
theorem m_X9_foldAll (w : gWd) (h : gHp) {a0 : Nat} (A0 : is_X9 w a0) (x1 : Int32) {o : Int32 × gHp} (hF : f_X9_foldAll a0 x1 h = some o) : gMet w yX9_foldAll wsX9_foldAll rm_X9_foldAll [.ref a0, .int x1] h (some (.int o.1)) o.2 := by
  refine gMet_of (cc := cX9_foldAll) (maxL := 5) (ret := (some .int)) (fr := 3) (lo := 66) (own := RX9) [(0, .ref a0), (1, .int x1)] (by decide) rfl rfl (Nat.le_of_ble_eq_true rfl) rfl (Nat.le_refl _) (Nat.le_refl _) (fun g C E => ?_)
  rw [f_X9_foldAll] at hF
  refine gx_aload_n C 0 (gDec_at D_X9_foldAll 0 rfl) rfl rfl ?_
  refine gx_getr C fl_X9_foldAll_19 (is_X9_sh A0) rfl (gDec_at D_X9_foldAll 1 rfl) ?_
  refine gx_iload_n C 1 (gDec_at D_X9_foldAll 2 rfl) rfl rfl ?_
  obtain ⟨v2, hv1, hF⟩ := gBind hF
  refine gx_callV1 C (st := []) 1 [.int x1] (m_X8_findFoldable w h (is_X9_now A0) x1 hv1) gX9_foldAll_X8_findFoldable rfl rfl rfl hy_X8_findFoldable (Nat.le_of_ble_eq_true rfl) (Nat.le_of_ble_eq_true rfl) (is_X8_sh (is_X9_now A0)) rfl rfl rfl (Nat.le_of_ble_eq_true rfl) (gDec_at D_X9_foldAll 3 rfl) ?_
  refine gx_istore_n C (lv' := [(2, .int v2), (0, .ref a0), (1, .int x1)]) (gDec_at D_X9_foldAll 4 rfl) rfl (Nat.le_of_ble_eq_true rfl) rfl ?_
  refine gx_iload_n C 0 (gDec_at D_X9_foldAll 5 rfl) rfl rfl ?_
  refine gx_iconst C (v := (-1)) (gDec_at D_X9_foldAll 6 rfl) (by decide) ?_
  refine gx_icmp_ne C 17 (gDec_at D_X9_foldAll 7 rfl) (by decide) (fun c => ?_) (fun c => ?_)
  · replace hF := gNeg c hF
    refine gx_aload_n C 1 (gDec_at D_X9_foldAll 10 rfl) rfl rfl ?_
    refine gx_getr C fl_X9_foldAll_32 (is_X9_sh A0) rfl (gDec_at D_X9_foldAll 11 rfl) ?_
    refine gx_aload_n C 1 (gDec_at D_X9_foldAll 12 rfl) rfl rfl ?_
    refine gx_getr C fl_X9_foldAll_19 (is_X9_sh A0) rfl (gDec_at D_X9_foldAll 13 rfl) ?_
    obtain ⟨v4, hv3, hF⟩ := gBind hF
    refine gx_callV0 C (st := []) 1 [.ref (a0 + 3)] (m_X3_record w h (is_X9_history A0) (is_X9_now A0) hv3) gX9_foldAll_X3_record rfl rfl rfl hy_X3_record (Nat.le_of_ble_eq_true rfl) (Nat.le_of_ble_eq_true rfl) (is_X3_sh (is_X9_history A0)) rfl rfl rfl (Nat.le_of_ble_eq_true rfl) (gDec_at D_X9_foldAll 14 rfl) ?_
    refine gx_iconst C (v := 0) (gDec_at D_X9_foldAll 15 rfl) (by decide) ?_
    refine gx_istore_n C (lv' := [(3, .int 0), (2, .int v2), (0, .ref a0), (1, .int x1)]) (gDec_at D_X9_foldAll 16 rfl) rfl (Nat.le_of_ble_eq_true rfl) rfl ?_
    refine gx_iconst C (v := 0) (gDec_at D_X9_foldAll 17 rfl) (by decide) ?_
    refine gx_istore C (lv' := [(4, .int 0), (3, .int 0), (2, .int v2), (0, .ref a0), (1, .int x1)]) (gDec_at D_X9_foldAll 18 rfl) (Nat.le_of_ble_eq_true rfl) rfl ?_
    obtain ⟨v9, hv10, hF⟩ := gBind hF
    have k11 : gX w g 5 v9.2 71 [(3, .int v9.1)] [] := by
      refine gx_iload_n C 0 (gDec_at D_X9_foldAll 37 rfl) rfl rfl ?_
      obtain rfl := Option.some.inj hF
      exact gx_iret C E (gDec_at D_X9_foldAll 38 rfl)
    exact gx_sub [3, 4, 2, 1, 0] rfl (w_X9_foldAll_33 C A0 x1 k11 gFuel v2 0 0 v4 hv10)
  · replace hF := gPos c hF
    refine gx_bipush C (v := (-4)) (gDec_at D_X9_foldAll 8 rfl) (by decide) ?_
    obtain rfl := Option.some.inj hF
    exact gx_iret C E (gDec_at D_X9_foldAll 9 rfl)
/-! LadderBench.unfold -/
def rm_X9_unfold : Room := { frames := 3, cells := 0, slots := 0, locals := 69 }
set_option maxRecDepth 20000 in
theorem ggX9_unfold_X3_record : GoodIn wsX9_unfold wsX3_record := goodIn_r _ [16, 17, 18, 19, 20, 21, 22, 23, 24, 25, 26, 27, 28, 29, 30, 31, 32, 33, 34, 35, 9, 36, 37, 38, 39, 40, 11, 41, 42, 43, 44, 45, 46, 47, 48, 49, 83, 84, 85, 70, 71, 72, 73, 74, 75, 76, 77, 78, 79, 80, 81, 82, 86, 87, 88, 89] (by decide +kernel) (by decide +kernel)
set_option maxRecDepth 20000 in
theorem gX9_unfold_X3_record : GoodIn wsX9_unfold (wsV RX9 80 RX3 yX3_record wsX3_record) := goodIn_app (goodIn_of _ (by decide +kernel)) ggX9_unfold_X3_record
set_option maxRecDepth 20000 in
theorem ggX9_unfold_X5_hasPart : GoodIn wsX9_unfold wsX5_hasPart := goodIn_r _ [10, 11, 78, 79, 80, 81, 82] (by decide +kernel) (by decide +kernel)
set_option maxRecDepth 20000 in
theorem gX9_unfold_X5_hasPart : GoodIn wsX9_unfold (wsV RX9 121 RX5 yX5_hasPart wsX5_hasPart) := goodIn_app (goodIn_of _ (by decide +kernel)) ggX9_unfold_X5_hasPart
set_option maxRecDepth 20000 in
theorem ggX9_unfold_X8_unfoldFrom : GoodIn wsX9_unfold wsX8_unfoldFrom := goodIn_r _ [53, 25, 54, 29, 55, 56, 57, 9, 58, 38, 59, 7, 8, 10, 11, 70, 71, 72, 73, 74, 75, 76, 77, 78, 79, 80, 81, 82] (by decide +kernel) (by decide +kernel)
set_option maxRecDepth 20000 in
theorem gX9_unfold_X8_unfoldFrom : GoodIn wsX9_unfold (wsV RX9 147 RX8 yX8_unfoldFrom wsX8_unfoldFrom) := goodIn_app (goodIn_of _ (by decide +kernel)) ggX9_unfold_X8_unfoldFrom
theorem hy_X9_unfold : yX9_unfold.cls = RX9 ∧ yX9_unfold.cls ≠ "java/lang/invoke/MethodHandle" ∧ yX9_unfold.cls ≠ "java/lang/invoke/VarHandle" ∧ (parseMethodDescriptor yX9_unfold.desc).map (fun d => d.parameters.length) = some 1 := by decide +kernel
set_option maxRecDepth 100000 in
theorem D_X9_unfold : gDec cX9_unfold [(0, (.aload_n 0, 1)), (1, (.getfield 19, 3)), (4, (.getfield 84, 3)), (7, (.iload_n 1, 1)), (8, (.invokevirtual 121, 3)), (11, (.ifCond .ne 5, 3)), (14, (.iconst (-1), 1)), (15, (.ireturn, 1)), (16, (.aload_n 0, 1)), (17, (.getfield 19, 3)), (20, (.getfield 84, 3)), (23, (.getfield 143, 3)), (26, (.iload_n 1, 1)), (27, (.iaload, 1)), (28, (.ifCond .ne 6, 3)), (31, (.bipush (-3), 2)), (33, (.ireturn, 1)), (34, (.aload_n 0, 1)), (35, (.getfield 19, 3)), (38, (.getfield 127, 3)), (41, (.iload_n 1, 1)), (42, (.baload, 1)), (43, (.ifCond .ne 6, 3)), (46, (.bipush (-4), 2)), (48, (.ireturn, 1)), (49, (.aload_n 0, 1)), (50, (.getfield 32, 3)), (53, (.aload_n 0, 1)), (54, (.getfield 19, 3)), (57, (.invokevirtual 80, 3)), (60, (.aload_n 0, 1)), (61, (.getfield 19, 3)), (64, (.iload_n 1, 1)), (65, (.invokevirtual 147, 3)), (68, (.ireturn, 1))] = true := by decide +kernel
set_option maxRecDepth 100000 in
theorem in_X9_unfold_X5 : ∀ x ∈ u_ws RX5 TX5 5, x ∈ wsX9_unfold := by decide +kernel
set_option maxRecDepth 100000 in
theorem in_X9_unfold_X8 : ∀ x ∈ u_ws RX8 TX8 8, x ∈ wsX9_unfold := by decide +kernel
set_option maxRecDepth 100000 in
theorem in_X9_unfold_X9 : ∀ x ∈ u_ws RX9 TX9 10, x ∈ wsX9_unfold := by decide +kernel
theorem fl_X9_unfold_19 : gF wsX9_unfold RX9 19 9 1 := ⟨RX9, TX9, 10, rfl, by decide, in_X9_unfold_X9, by decide +kernel⟩
theorem fl_X9_unfold_84 : gF wsX9_unfold RX9 84 8 0 := ⟨RX8, TX8, 8, rfl, by decide, in_X9_unfold_X8, by decide +kernel⟩
theorem fl_X9_unfold_143 : gF wsX9_unfold RX9 143 5 0 := ⟨RX5, TX5, 5, rfl, by decide, in_X9_unfold_X5, by decide +kernel⟩
theorem fl_X9_unfold_127 : gF wsX9_unfold RX9 127 8 4 := ⟨RX8, TX8, 8, rfl, by decide, in_X9_unfold_X8, by decide +kernel⟩
theorem fl_X9_unfold_32 : gF wsX9_unfold RX9 32 9 4 := ⟨RX9, TX9, 10, rfl, by decide, in_X9_unfold_X9, by decide +kernel⟩
def f_X9_unfold (a0 : Nat) (x1 : Int32) (h : gHp) : Option (Int32 × gHp) := (f_X5_hasPart (a0 + 3 + 1) x1 h).bind fun v2 => if v2 = true then if gIn x1 11 then if (h.1 (a0 + 3 + 1 + 1) (gN x1)) = 0 then some ((-3), h) else if gIn x1 11 then if (h.1 (a0 + 3 + 12) (gN x1)) = 0 then some ((-4), h) else (f_X3_record (a0 + 42) (a0 + 3) h).bind fun v6 => (f_X8_unfoldFrom (a0 + 3) x1 v6).bind fun v8 => some (v8.1, v8.2) else none else none else some ((-1), h)
set_option maxRecDepth 20000 in
set_option maxHeartbeats 4000000 in
theorem m_X9_unfold (w : gWd) (h : gHp) {a0 : Nat} (A0 : is_X9 w a0) (x1 : Int32) {o : Int32 × gHp} (hF : f_X9_unfold a0 x1 h = some o) : gMet w yX9_unfold wsX9_unfold rm_X9_unfold [.ref a0, .int x1] h (some (.int o.1)) o.2 := by
  refine gMet_of (cc := cX9_unfold) (maxL := 2) (ret := (some .int)) (fr := 3) (lo := 69) (own := RX9) [(0, .ref a0), (1, .int x1)] (by decide) rfl rfl (Nat.le_of_ble_eq_true rfl) rfl (Nat.le_refl _) (Nat.le_refl _) (fun g C E => ?_)
  rw [f_X9_unfold] at hF
  refine gx_aload_n C 0 (gDec_at D_X9_unfold 0 rfl) rfl rfl ?_
  refine gx_getr C fl_X9_unfold_19 (is_X9_sh A0) rfl (gDec_at D_X9_unfold 1 rfl) ?_
  refine gx_getr C fl_X9_unfold_84 (is_X8_sh (is_X9_now A0)) rfl (gDec_at D_X9_unfold 2 rfl) ?_
  refine gx_iload_n C 1 (gDec_at D_X9_unfold 3 rfl) rfl rfl ?_
  obtain ⟨v2, hv1, hF⟩ := gBind hF
  refine gx_callV1 C (st := []) 1 [.int x1] (m_X5_hasPart w h (is_X8_network (is_X9_now A0)) x1 hv1) gX9_unfold_X5_hasPart rfl rfl rfl hy_X5_hasPart (Nat.le_of_ble_eq_true rfl) (Nat.le_of_ble_eq_true rfl) (is_X5_sh (is_X8_network (is_X9_now A0))) rfl rfl rfl (Nat.le_of_ble_eq_true rfl) (gDec_at D_X9_unfold 4 rfl) ?_
  refine gx_ifz_ne C 16 (gDec_at D_X9_unfold 5 rfl) (by decide) (fun c => ?_) (fun c => ?_)
  · replace hF := gPos c hF
    refine gx_aload_n C 0 (gDec_at D_X9_unfold 8 rfl) rfl rfl ?_
    refine gx_getr C fl_X9_unfold_19 (is_X9_sh A0) rfl (gDec_at D_X9_unfold 9 rfl) ?_
    refine gx_getr C fl_X9_unfold_84 (is_X8_sh (is_X9_now A0)) rfl (gDec_at D_X9_unfold 10 rfl) ?_
    refine gx_getr C fl_X9_unfold_143 (is_X5_sh (is_X8_network (is_X9_now A0))) rfl (gDec_at D_X9_unfold 11 rfl) ?_
    refine gx_iload_n C 1 (gDec_at D_X9_unfold 12 rfl) rfl rfl ?_
    obtain ⟨b3, hF⟩ := gGd hF
    refine gx_iaload C (is_X5_kind (is_X8_network (is_X9_now A0))) b3 (gDec_at D_X9_unfold 13 rfl) ?_
    refine gx_if_ne C 34 (gDec_at D_X9_unfold 14 rfl) (by decide) (fun c => ?_) (fun c => ?_)
    · replace hF := gNeg c hF
      refine gx_aload_n C 0 (gDec_at D_X9_unfold 17 rfl) rfl rfl ?_
      refine gx_getr C fl_X9_unfold_19 (is_X9_sh A0) rfl (gDec_at D_X9_unfold 18 rfl) ?_
      refine gx_getr C fl_X9_unfold_127 (is_X8_sh (is_X9_now A0)) rfl (gDec_at D_X9_unfold 19 rfl) ?_
      refine gx_iload_n C 1 (gDec_at D_X9_unfold 20 rfl) rfl rfl ?_
      obtain ⟨b4, hF⟩ := gGd hF
      refine gx_zaload C (is_X8_isFolded (is_X9_now A0)) b4 (gDec_at D_X9_unfold 21 rfl) ?_
      refine gx_if_ne C 49 (gDec_at D_X9_unfold 22 rfl) (by decide) (fun c => ?_) (fun c => ?_)
      · replace hF := gNeg c hF
        refine gx_aload_n C 0 (gDec_at D_X9_unfold 25 rfl) rfl rfl ?_
        refine gx_getr C fl_X9_unfold_32 (is_X9_sh A0) rfl (gDec_at D_X9_unfold 26 rfl) ?_
        refine gx_aload_n C 0 (gDec_at D_X9_unfold 27 rfl) rfl rfl ?_
        refine gx_getr C fl_X9_unfold_19 (is_X9_sh A0) rfl (gDec_at D_X9_unfold 28 rfl) ?_
        obtain ⟨v6, hv5, hF⟩ := gBind hF
        refine gx_callV0 C (st := []) 1 [.ref (a0 + 3)] (m_X3_record w h (is_X9_history A0) (is_X9_now A0) hv5) gX9_unfold_X3_record rfl rfl rfl hy_X3_record (Nat.le_of_ble_eq_true rfl) (Nat.le_of_ble_eq_true rfl) (is_X3_sh (is_X9_history A0)) rfl rfl rfl (Nat.le_of_ble_eq_true rfl) (gDec_at D_X9_unfold 29 rfl) ?_
        refine gx_aload_n C 0 (gDec_at D_X9_unfold 30 rfl) rfl rfl ?_
        refine gx_getr C fl_X9_unfold_19 (is_X9_sh A0) rfl (gDec_at D_X9_unfold 31 rfl) ?_
        refine gx_iload_n C 1 (gDec_at D_X9_unfold 32 rfl) rfl rfl ?_
        obtain ⟨v8, hv7, hF⟩ := gBind hF
        refine gx_callV1 C (st := []) 1 [.int x1] (m_X8_unfoldFrom w v6 (is_X9_now A0) x1 hv7) gX9_unfold_X8_unfoldFrom rfl rfl rfl hy_X8_unfoldFrom (Nat.le_of_ble_eq_true rfl) (Nat.le_of_ble_eq_true rfl) (is_X8_sh (is_X9_now A0)) rfl rfl rfl (Nat.le_of_ble_eq_true rfl) (gDec_at D_X9_unfold 33 rfl) ?_
        obtain rfl := Option.some.inj hF
        exact gx_iret C E (gDec_at D_X9_unfold 34 rfl)
      · replace hF := gPos c hF
        refine gx_bipush C (v := (-4)) (gDec_at D_X9_unfold 23 rfl) (by decide) ?_
        obtain rfl := Option.some.inj hF
        exact gx_iret C E (gDec_at D_X9_unfold 24 rfl)
    · replace hF := gPos c hF
      refine gx_bipush C (v := (-3)) (gDec_at D_X9_unfold 15 rfl) (by decide) ?_
      obtain rfl := Option.some.inj hF
      exact gx_iret C E (gDec_at D_X9_unfold 16 rfl)
  · replace hF := gNeg c hF
    refine gx_iconst C (v := (-1)) (gDec_at D_X9_unfold 6 rfl) (by decide) ?_
    obtain rfl := Option.some.inj hF
    exact gx_iret C E (gDec_at D_X9_unfold 7 rfl)
/-! LadderBench.note -/
def rm_X9_note : Room := { frames := 6, cells := 0, slots := 0, locals := 154 }
set_option maxRecDepth 20000 in
theorem ggX9_note_X0_findReading : GoodIn wsX9_note wsX0_findReading := goodIn_r _ [17, 18, 19, 20, 21, 16, 22, 23, 24, 25, 26, 27, 28, 29, 30, 10, 31, 32, 33, 8, 9, 11, 12, 34, 35, 36, 37, 38, 39, 40, 41, 42, 43, 44, 45, 46, 47, 48, 49, 50, 51, 52, 53, 54, 55, 56, 57, 58, 59, 60, 61, 62, 63, 64, 65, 66, 67, 68, 69, 70, 71, 72, 73, 74, 75, 76, 77, 78, 79, 80, 81, 82, 83, 84, 85, 86, 87, 88, 89, 90, 91, 92, 93, 94, 95, 96, 97, 98, 99, 100, 101, 102, 103, 178, 179, 180, 181, 182, 161, 162, 163, 164, 165, 166, 167, 168, 173, 174, 175, 176, 177, 183, 184] (by decide +kernel) (by decide +kernel)
set_option maxRecDepth 20000 in
theorem gX9_note_X0_findReading : GoodIn wsX9_note (wsV RX9 151 RX0 yX0_findReading wsX0_findReading) := goodIn_app (goodIn_of _ (by decide +kernel)) ggX9_note_X0_findReading
set_option maxRecDepth 20000 in
theorem ggX9_note_X3_record : GoodIn wsX9_note wsX3_record := goodIn_r _ [118, 119, 120, 121, 122, 123, 124, 125, 126, 127, 128, 129, 130, 131, 132, 133, 134, 135, 136, 137, 10, 138, 32, 139, 140, 141, 12, 142, 143, 144, 107, 145, 110, 112, 146, 109, 185, 186, 187, 161, 162, 163, 164, 165, 166, 167, 168, 173, 174, 175, 176, 177, 169, 170, 171, 172] (by decide +kernel) (by decide +kernel)
set_option maxRecDepth 20000 in
theorem gX9_note_X3_record : GoodIn wsX9_note (wsV RX9 80 RX3 yX3_record wsX3_record) := goodIn_app (goodIn_of _ (by decide +kernel)) ggX9_note_X3_record
set_option maxRecDepth 20000 in
theorem ggX9_note_X5_hasPart : GoodIn wsX9_note wsX5_hasPart := goodIn_r _ [11, 12, 173, 174, 175, 176, 177] (by decide +kernel) (by decide +kernel)
set_option maxRecDepth 20000 in
theorem gX9_note_X5_hasPart : GoodIn wsX9_note (wsV RX9 121 RX5 yX5_hasPart wsX5_hasPart) := goodIn_app (goodIn_of _ (by decide +kernel)) ggX9_note_X5_hasPart
set_option maxRecDepth 20000 in
theorem ggX9_note_X7_find : GoodIn wsX9_note wsX7_find := goodIn_r _ [108, 109, 110, 111, 112, 113, 169, 170, 171, 172, 183, 184] (by decide +kernel) (by decide +kernel)
set_option maxRecDepth 20000 in
theorem gX9_note_X7_find : GoodIn wsX9_note (wsV RX9 159 RX7 yX7_find wsX7_find) := goodIn_app (goodIn_of _ (by decide +kernel)) ggX9_note_X7_find
set_option maxRecDepth 20000 in
theorem ggX9_note_X7_put : GoodIn wsX9_note wsX7_put := goodIn_r _ [150, 109, 110, 111, 112, 113, 146, 169, 170, 171, 172, 183, 184] (by decide +kernel) (by decide +kernel)
set_option maxRecDepth 20000 in
theorem gX9_note_X7_put : GoodIn wsX9_note (wsV RX9 166 RX7 yX7_put wsX7_put) := goodIn_app (goodIn_of _ (by decide +kernel)) ggX9_note_X7_put
theorem hy_X9_note : yX9_note.cls = RX9 ∧ yX9_note.cls ≠ "java/lang/invoke/MethodHandle" ∧ yX9_note.cls ≠ "java/lang/invoke/VarHandle" ∧ (parseMethodDescriptor yX9_note.desc).map (fun d => d.parameters.length) = some 1 := by decide +kernel
set_option maxRecDepth 100000 in
theorem D_X9_note : gDec cX9_note [(0, (.aload_n 0, 1)), (1, (.getfield 19, 3)), (4, (.getfield 84, 3)), (7, (.iload_n 1, 1)), (8, (.invokevirtual 121, 3)), (11, (.ifCond .ne 5, 3)), (14, (.iconst (-1), 1)), (15, (.ireturn, 1)), (16, (.aload_n 0, 1)), (17, (.getfield 53, 3)), (20, (.aload_n 0, 1)), (21, (.getfield 19, 3)), (24, (.iload_n 1, 1)), (25, (.invokevirtual 151, 3)), (28, (.astore_n 2, 1)), (29, (.aload_n 0, 1)), (30, (.getfield 19, 3)), (33, (.getfield 155, 3)), (36, (.aload_n 2, 1)), (37, (.invokevirtual 159, 3)), (40, (.istore_n 3, 1)), (41, (.iload_n 3, 1)), (42, (.iconst (-1), 1)), (43, (.if_icmp .ne 21, 3)), (46, (.aload_n 0, 1)), (47, (.getfield 19, 3)), (50, (.getfield 155, 3)), (53, (.getfield 165, 3)), (56, (.bipush 20, 2)), (58, (.if_icmp .lt 6, 3)), (61, (.bipush (-3), 2)), (63, (.ireturn, 1)), (64, (.aload_n 0, 1)), (65, (.getfield 32, 3)), (68, (.aload_n 0, 1)), (69, (.getfield 19, 3)), (72, (.invokevirtual 80, 3)), (75, (.aload_n 0, 1)), (76, (.getfield 19, 3)), (79, (.getfield 155, 3)), (82, (.aload_n 2, 1)), (83, (.iload_n 3, 1)), (84, (.invokevirtual 166, 3)), (87, (.ireturn, 1))] = true := by decide +kernel
set_option maxRecDepth 100000 in
theorem in_X9_note_X7 : ∀ x ∈ u_ws RX7 TX7 4, x ∈ wsX9_note := by decide +kernel
set_option maxRecDepth 100000 in
theorem in_X9_note_X8 : ∀ x ∈ u_ws RX8 TX8 8, x ∈ wsX9_note := by decide +kernel
set_option maxRecDepth 100000 in
theorem in_X9_note_X9 : ∀ x ∈ u_ws RX9 TX9 10, x ∈ wsX9_note := by decide +kernel
theorem fl_X9_note_19 : gF wsX9_note RX9 19 9 1 := ⟨RX9, TX9, 10, rfl, by decide, in_X9_note_X9, by decide +kernel⟩
theorem fl_X9_note_84 : gF wsX9_note RX9 84 8 0 := ⟨RX8, TX8, 8, rfl, by decide, in_X9_note_X8, by decide +kernel⟩
theorem fl_X9_note_53 : gF wsX9_note RX9 53 9 7 := ⟨RX9, TX9, 10, rfl, by decide, in_X9_note_X9, by decide +kernel⟩
theorem fl_X9_note_155 : gF wsX9_note RX9 155 8 1 := ⟨RX8, TX8, 8, rfl, by decide, in_X9_note_X8, by decide +kernel⟩
theorem fl_X9_note_32 : gF wsX9_note RX9 32 9 4 := ⟨RX9, TX9, 10, rfl, by decide, in_X9_note_X9, by decide +kernel⟩
theorem fl_X9_note_165 : gF wsX9_note RX9 165 7 3 := ⟨RX7, TX7, 4, rfl, by decide, in_X9_note_X7, by decide +kernel⟩
def f_X9_note_64 (a0 : Nat) (a2 : Nat) (x3 : Int32) (h : gHp) : Option (Int32 × gHp) := (f_X3_record (a0 + 42) (a0 + 3) h).bind fun v8 => (f_X7_put (a0 + 3 + 6) a2 x3 v8).bind fun v10 => some (v10.1, v10.2)
set_option maxRecDepth 20000 in
set_option maxHeartbeats 4000000 in
theorem w_X9_note_64 {w : gWd} {g : gCx} (C : gC w g cX9_note wsX9_note RX9 4 6 154) {a0 : Nat} (A0 : is_X9 w a0) {a2 : Nat} (A2 : is_X2 w a2) (x3 : Int32) (h : gHp)  {o : Int32 × gHp}  (E : gEn w g (some .int) (some (.int o.1)) o.2) (hF : f_X9_note_64 a0 a2 x3 h = some o) : gX w g 4 h 64 [(0, .ref a0), (2, .ref a2), (3, .int x3)] ([]) := by
  rw [f_X9_note_64] at hF
  refine gx_aload_n C 0 (gDec_at D_X9_note 32 rfl) rfl rfl ?_
  refine gx_getr C fl_X9_note_32 (is_X9_sh A0) rfl (gDec_at D_X9_note 33 rfl) ?_
  refine gx_aload_n C 0 (gDec_at D_X9_note 34 rfl) rfl rfl ?_
  refine gx_getr C fl_X9_note_19 (is_X9_sh A0) rfl (gDec_at D_X9_note 35 rfl) ?_
  obtain ⟨v8, hv7, hF⟩ := gBind hF
  refine gx_callV0 C (st := []) 1 [.ref (a0 + 3)] (m_X3_record w h (is_X9_history A0) (is_X9_now A0) hv7) gX9_note_X3_record rfl rfl rfl hy_X3_record (Nat.le_of_ble_eq_true rfl) (Nat.le_of_ble_eq_true rfl) (is_X3_sh (is_X9_history A0)) rfl rfl rfl (Nat.le_of_ble_eq_true rfl) (gDec_at D_X9_note 36 rfl) ?_
  refine gx_aload_n C 0 (gDec_at D_X9_note 37 rfl) rfl rfl ?_
  refine gx_getr C fl_X9_note_19 (is_X9_sh A0) rfl (gDec_at D_X9_note 38 rfl) ?_
  refine gx_getr C fl_X9_note_155 (is_X8_sh (is_X9_now A0)) rfl (gDec_at D_X9_note 39 rfl) ?_
  refine gx_aload_n C 1 (gDec_at D_X9_note 40 rfl) rfl rfl ?_
  refine gx_iload_n C 2 (gDec_at D_X9_note 41 rfl) rfl rfl ?_
  obtain ⟨v10, hv9, hF⟩ := gBind hF
  refine gx_callV1 C (st := []) 2 [.ref a2, .int x3] (m_X7_put w v8 (is_X8_notes (is_X9_now A0)) A2 x3 hv9) gX9_note_X7_put rfl rfl rfl hy_X7_put (Nat.le_of_ble_eq_true rfl) (Nat.le_of_ble_eq_true rfl) (is_X7_sh (is_X8_notes (is_X9_now A0))) rfl rfl rfl (Nat.le_of_ble_eq_true rfl) (gDec_at D_X9_note 42 rfl) ?_
  obtain rfl := Option.some.inj hF
  exact gx_iret C E (gDec_at D_X9_note 43 rfl)
def f_X9_note (a0 : Nat) (x1 : Int32) (h : gHp) : Option (Int32 × gHp) := (f_X5_hasPart (a0 + 3 + 1) x1 h).bind fun v2 => if v2 = true then (f_X0_findReading (a0 + 113) (a0 + 3) x1 h).bind fun v4 => (f_X7_find (a0 + 3 + 6) v4.1 v4.2).bind fun v6 => if v6 = (-1) then if (v4.2.1 (a0 + 3 + 6) 3) < 20 then f_X9_note_64 a0 v4.1 v6 v4.2 else some ((-3), v4.2) else f_X9_note_64 a0 v4.1 v6 v4.2 else some ((-1), h)
set_option maxRecDepth 20000 in
set_option maxHeartbeats 4000000 in
theorem m_X9_note (w : gWd) (h : gHp) {a0 : Nat} (A0 : is_X9 w a0) (x1 : Int32) {o : Int32 × gHp} (hF : f_X9_note a0 x1 h = some o) : gMet w yX9_note wsX9_note rm_X9_note [.ref a0, .int x1] h (some (.int o.1)) o.2 := by
  refine gMet_of (cc := cX9_note) (maxL := 4) (ret := (some .int)) (fr := 6) (lo := 154) (own := RX9) [(0, .ref a0), (1, .int x1)] (by decide) rfl rfl (Nat.le_of_ble_eq_true rfl) rfl (Nat.le_refl _) (Nat.le_refl _) (fun g C E => ?_)
  rw [f_X9_note] at hF
  refine gx_aload_n C 0 (gDec_at D_X9_note 0 rfl) rfl rfl ?_
  refine gx_getr C fl_X9_note_19 (is_X9_sh A0) rfl (gDec_at D_X9_note 1 rfl) ?_
  refine gx_getr C fl_X9_note_84 (is_X8_sh (is_X9_now A0)) rfl (gDec_at D_X9_note 2 rfl) ?_
  refine gx_iload_n C 1 (gDec_at D_X9_note 3 rfl) rfl rfl ?_
  obtain ⟨v2, hv1, hF⟩ := gBind hF
  refine gx_callV1 C (st := []) 1 [.int x1] (m_X5_hasPart w h (is_X8_network (is_X9_now A0)) x1 hv1) gX9_note_X5_hasPart rfl rfl rfl hy_X5_hasPart (Nat.le_of_ble_eq_true rfl) (Nat.le_of_ble_eq_true rfl) (is_X5_sh (is_X8_network (is_X9_now A0))) rfl rfl rfl (Nat.le_of_ble_eq_true rfl) (gDec_at D_X9_note 4 rfl) ?_
  refine gx_ifz_ne C 16 (gDec_at D_X9_note 5 rfl) (by decide) (fun c => ?_) (fun c => ?_)
  · replace hF := gPos c hF
    refine gx_aload_n C 0 (gDec_at D_X9_note 8 rfl) rfl rfl ?_
    refine gx_getr C fl_X9_note_53 (is_X9_sh A0) rfl (gDec_at D_X9_note 9 rfl) ?_
    refine gx_aload_n C 0 (gDec_at D_X9_note 10 rfl) rfl rfl ?_
    refine gx_getr C fl_X9_note_19 (is_X9_sh A0) rfl (gDec_at D_X9_note 11 rfl) ?_
    refine gx_iload_n C 1 (gDec_at D_X9_note 12 rfl) rfl rfl ?_
    obtain ⟨v4, hv3, hF⟩ := gBind hF
    refine gx_callV1 C (st := []) 2 [.ref (a0 + 3), .int x1] (m_X0_findReading w h (is_X9_circuit A0) (is_X9_now A0) x1 hv3) gX9_note_X0_findReading rfl rfl rfl hy_X0_findReading (Nat.le_of_ble_eq_true rfl) (Nat.le_of_ble_eq_true rfl) (is_X0_sh (is_X9_circuit A0)) rfl rfl rfl (Nat.le_of_ble_eq_true rfl) (gDec_at D_X9_note 13 rfl) ?_
    refine gx_astore_n C (lv' := [(2, .ref v4.1), (0, .ref a0), (1, .int x1)]) (gDec_at D_X9_note 14 rfl) rfl (Nat.le_of_ble_eq_true rfl) rfl ?_
    refine gx_aload_n C 1 (gDec_at D_X9_note 15 rfl) rfl rfl ?_
    refine gx_getr C fl_X9_note_19 (is_X9_sh A0) rfl (gDec_at D_X9_note 16 rfl) ?_
    refine gx_getr C fl_X9_note_155 (is_X8_sh (is_X9_now A0)) rfl (gDec_at D_X9_note 17 rfl) ?_
    refine gx_aload_n C 0 (gDec_at D_X9_note 18 rfl) rfl rfl ?_
    obtain ⟨v6, hv5, hF⟩ := gBind hF
    refine gx_callV1 C (st := []) 1 [.ref v4.1] (m_X7_find w v4.2 (is_X8_notes (is_X9_now A0)) (t_X0_findReading (is_X9_circuit A0) (is_X9_now A0) x1 hv3) hv5) gX9_note_X7_find rfl rfl rfl hy_X7_find (Nat.le_of_ble_eq_true rfl) (Nat.le_of_ble_eq_true rfl) (is_X7_sh (is_X8_notes (is_X9_now A0))) rfl rfl rfl (Nat.le_of_ble_eq_true rfl) (gDec_at D_X9_note 19 rfl) ?_
    refine gx_istore_n C (lv' := [(3, .int v6), (2, .ref v4.1), (0, .ref a0), (1, .int x1)]) (gDec_at D_X9_note 20 rfl) rfl (Nat.le_of_ble_eq_true rfl) rfl ?_
    refine gx_iload_n C 0 (gDec_at D_X9_note 21 rfl) rfl rfl ?_
    refine gx_iconst C (v := (-1)) (gDec_at D_X9_note 22 rfl) (by decide) ?_
    refine gx_icmp_ne C 64 (gDec_at D_X9_note 23 rfl) (by decide) (fun c => ?_) (fun c => ?_)
    · replace hF := gNeg c hF
      exact gx_sub [2, 1, 0] rfl (w_X9_note_64 C A0 (t_X0_findReading (is_X9_circuit A0) (is_X9_now A0) x1 hv3) v6 v4.2   E hF)
    · replace hF := gPos c hF
      refine gx_aload_n C 2 (gDec_at D_X9_note 24 rfl) rfl rfl ?_
      refine gx_getr C fl_X9_note_19 (is_X9_sh A0) rfl (gDec_at D_X9_note 25 rfl) ?_
      refine gx_getr C fl_X9_note_155 (is_X8_sh (is_X9_now A0)) rfl (gDec_at D_X9_note 26 rfl) ?_
      refine gx_geti C fl_X9_note_165 (is_X7_sh (is_X8_notes (is_X9_now A0))) rfl (gDec_at D_X9_note 27 rfl) ?_
      refine gx_bipush C (v := 20) (gDec_at D_X9_note 28 rfl) (by decide) ?_
      refine gx_icmp_lt C 64 (gDec_at D_X9_note 29 rfl) (by decide) (fun c => ?_) (fun c => ?_)
      · replace hF := gPos c hF
        exact gx_sub [2, 1, 0] rfl (w_X9_note_64 C A0 (t_X0_findReading (is_X9_circuit A0) (is_X9_now A0) x1 hv3) v6 v4.2   E hF)
      · replace hF := gNeg c hF
        refine gx_bipush C (v := (-3)) (gDec_at D_X9_note 30 rfl) (by decide) ?_
        obtain rfl := Option.some.inj hF
        exact gx_iret C E (gDec_at D_X9_note 31 rfl)
  · replace hF := gNeg c hF
    refine gx_iconst C (v := (-1)) (gDec_at D_X9_note 6 rfl) (by decide) ?_
    obtain rfl := Option.some.inj hF
    exact gx_iret C E (gDec_at D_X9_note 7 rfl)
