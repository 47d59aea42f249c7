/-! LadderBench.undo -/
def rm_X9_undo : Room := { frames := 3, cells := 0, slots := 0, locals := 65 }
set_option maxRecDepth 20000 in
theorem ggX9_undo_X3_giveBack : GoodIn wsX9_undo wsX3_giveBack := goodIn_r _ [8, 9, 10, 11, 12, 13, 14, 15, 16, 17, 18, 19, 20, 21, 22, 23, 24, 25, 26, 27, 28, 29, 30, 31, 32, 33, 34, 35, 36, 37, 38, 39, 40, 41, 42, 43, 54, 55, 56, 57, 58, 59, 60, 61, 62, 63, 64, 65, 66, 67, 68, 69, 70, 71, 72, 73] (by decide +kernel) (by decide +kernel)
set_option maxRecDepth 20000 in
theorem gX9_undo_X3_giveBack : GoodIn wsX9_undo (wsV RX9 171 RX3 yX3_giveBack wsX3_giveBack) := goodIn_app (goodIn_of _ (by decide +kernel)) ggX9_undo_X3_giveBack
theorem hy_X9_undo : yX9_undo.cls = RX9 ∧ yX9_undo.cls ≠ "java/lang/invoke/MethodHandle" ∧ yX9_undo.cls ≠ "java/lang/invoke/VarHandle" ∧ (parseMethodDescriptor yX9_undo.desc).map (fun d => d.parameters.length) = some 0 := by decide +kernel
set_option maxRecDepth 100000 in
theorem D_X9_undo : gDec cX9_undo [(0, (.aload_n 0, 1)), (1, (.getfield 32, 3)), (4, (.getfield 170, 3)), (7, (.ifCond .ne 6, 3)), (10, (.bipush (-4), 2)), (12, (.ireturn, 1)), (13, (.aload_n 0, 1)), (14, (.getfield 32, 3)), (17, (.aload_n 0, 1)), (18, (.getfield 19, 3)), (21, (.invokevirtual 171, 3)), (24, (.aload_n 0, 1)), (25, (.getfield 32, 3)), (28, (.getfield 170, 3)), (31, (.ireturn, 1))] = true := by decide +kernel
set_option maxRecDepth 100000 in
theorem in_X9_undo_X3 : ∀ x ∈ u_ws RX3 TX3 3, x ∈ wsX9_undo := by decide +kernel
set_option maxRecDepth 100000 in
theorem in_X9_undo_X9 : ∀ x ∈ u_ws RX9 TX9 10, x ∈ wsX9_undo := by decide +kernel
theorem fl_X9_undo_32 : gF wsX9_undo RX9 32 9 4 := ⟨RX9, TX9, 10, rfl, by decide, in_X9_undo_X9, by decide +kernel⟩
theorem fl_X9_undo_170 : gF wsX9_undo RX9 170 3 2 := ⟨RX3, TX3, 3, rfl, by decide, in_X9_undo_X3, by decide +kernel⟩
theorem fl_X9_undo_19 : gF wsX9_undo RX9 19 9 1 := ⟨RX9, TX9, 10, rfl, by decide, in_X9_undo_X9, by decide +kernel⟩
def f_X9_undo (a0 : Nat) (h : gHp) : Option (Int32 × gHp) := if (h.1 (a0 + 42) 2) = 0 then some ((-4), h) else (f_X3_giveBack (a0 + 42) (a0 + 3) h).bind fun v2 => some (v2.1 (a0 + 42) 2, v2)
set_option maxRecDepth 20000 in
set_option maxHeartbeats 4000000 in
theorem m_X9_undo (w : gWd) (h : gHp) {a0 : Nat} (A0 : is_X9 w a0) {o : Int32 × gHp} (hF : f_X9_undo a0 h = some o) : gMet w yX9_undo wsX9_undo rm_X9_undo [.ref a0] h (some (.int o.1)) o.2 := by
  refine gMet_of (cc := cX9_undo) (maxL := 1) (ret := (some .int)) (fr := 3) (lo := 65) (own := RX9) [(0, .ref a0)] (by decide) rfl rfl (Nat.le_of_ble_eq_true rfl) rfl (Nat.le_refl _) (Nat.le_refl _) (fun g C E => ?_)
  rw [f_X9_undo] at hF
  refine gx_aload_n C 0 (gDec_at D_X9_undo 0 rfl) rfl rfl ?_
  refine gx_getr C fl_X9_undo_32 (is_X9_sh A0) rfl (gDec_at D_X9_undo 1 rfl) ?_
  refine gx_geti C fl_X9_undo_170 (is_X3_sh (is_X9_history A0)) rfl (gDec_at D_X9_undo 2 rfl) ?_
  refine gx_if_ne C 13 (gDec_at D_X9_undo 3 rfl) (by decide) (fun c => ?_) (fun c => ?_)
  · replace hF := gNeg c hF
    refine gx_aload_n C 0 (gDec_at D_X9_undo 6 rfl) rfl rfl ?_
    refine gx_getr C fl_X9_undo_32 (is_X9_sh A0) rfl (gDec_at D_X9_undo 7 rfl) ?_
    refine gx_aload_n C 0 (gDec_at D_X9_undo 8 rfl) rfl rfl ?_
    refine gx_getr C fl_X9_undo_19 (is_X9_sh A0) rfl (gDec_at D_X9_undo 9 rfl) ?_
    obtain ⟨v2, hv1, hF⟩ := gBind hF
    refine gx_callV0 C (st := []) 1 [.ref (a0 + 3)] (m_X3_giveBack w h (is_X9_history A0) (is_X9_now A0) hv1) gX9_undo_X3_giveBack rfl rfl rfl hy_X3_giveBack (Nat.le_of_ble_eq_true rfl) (Nat.le_of_ble_eq_true rfl) (is_X3_sh (is_X9_history A0)) rfl rfl rfl (Nat.le_of_ble_eq_true rfl) (gDec_at D_X9_undo 10 rfl) ?_
    refine gx_aload_n C 0 (gDec_at D_X9_undo 11 rfl) rfl rfl ?_
    refine gx_getr C fl_X9_undo_32 (is_X9_sh A0) rfl (gDec_at D_X9_undo 12 rfl) ?_
    refine gx_geti C fl_X9_undo_170 (is_X3_sh (is_X9_history A0)) rfl (gDec_at D_X9_undo 13 rfl) ?_
    obtain rfl := Option.some.inj hF
    exact gx_iret C E (gDec_at D_X9_undo 14 rfl)
  · replace hF := gPos c hF
    refine gx_bipush C (v := (-4)) (gDec_at D_X9_undo 4 rfl) (by decide) ?_
    obtain rfl := Option.some.inj hF
    exact gx_iret C E (gDec_at D_X9_undo 5 rfl)
/-! LadderBench.keep -/
def rm_X9_keep : Room := { frames := 2, cells := 0, slots := 0, locals := 44 }
set_option maxRecDepth 20000 in
theorem ggX9_keep_X8_copy : GoodIn wsX9_keep wsX8_copy := goodIn_r _ [10, 11, 12, 13, 14, 15, 16, 17, 18, 19, 20, 21, 22, 23, 24, 25, 26, 27, 28, 29, 30, 31, 32, 33, 34, 35, 36, 37, 48, 49, 50, 51, 52, 53, 54, 55, 56, 57, 58, 59, 60, 61, 62, 63, 64] (by decide +kernel) (by decide +kernel)
set_option maxRecDepth 20000 in
theorem gX9_keep_X8_copy : GoodIn wsX9_keep (wsV RX9 174 RX8 yX8_copy wsX8_copy) := goodIn_app (goodIn_of _ (by decide +kernel)) ggX9_keep_X8_copy
theorem hy_X9_keep : yX9_keep.cls = RX9 ∧ yX9_keep.cls ≠ "java/lang/invoke/MethodHandle" ∧ yX9_keep.cls ≠ "java/lang/invoke/VarHandle" ∧ (parseMethodDescriptor yX9_keep.desc).map (fun d => d.parameters.length) = some 0 := by decide +kernel
set_option maxRecDepth 100000 in
theorem D_X9_keep : gDec cX9_keep [(0, (.aload_n 0, 1)), (1, (.getfield 23, 3)), (4, (.aload_n 0, 1)), (5, (.getfield 19, 3)), (8, (.invokevirtual 174, 3)), (11, (.aload_n 0, 1)), (12, (.iconst 1, 1)), (13, (.putfield 64, 3)), (16, (.aload_n 0, 1)), (17, (.getfield 19, 3)), (20, (.getfield 84, 3)), (23, (.getfield 95, 3)), (26, (.ireturn, 1))] = true := by decide +kernel
set_option maxRecDepth 100000 in
theorem in_X9_keep_X5 : ∀ x ∈ u_ws RX5 TX5 5, x ∈ wsX9_keep := by decide +kernel
set_option maxRecDepth 100000 in
theorem in_X9_keep_X8 : ∀ x ∈ u_ws RX8 TX8 8, x ∈ wsX9_keep := by decide +kernel
set_option maxRecDepth 100000 in
theorem in_X9_keep_X9 : ∀ x ∈ u_ws RX9 TX9 10, x ∈ wsX9_keep := by decide +kernel
theorem fl_X9_keep_23 : gF wsX9_keep RX9 23 9 2 := ⟨RX9, TX9, 10, rfl, by decide, in_X9_keep_X9, by decide +kernel⟩
theorem fl_X9_keep_19 : gF wsX9_keep RX9 19 9 1 := ⟨RX9, TX9, 10, rfl, by decide, in_X9_keep_X9, by decide +kernel⟩
theorem flw_X9_keep_64 : gFw wsX9_keep RX9 64 9 9 .boolean := ⟨RX9, TX9, 10, tyX9, rfl, by decide, in_X9_keep_X9, by decide +kernel, tyX9_ok, nmX9, rfl, by decide +kernel⟩
theorem fl_X9_keep_84 : gF wsX9_keep RX9 84 8 0 := ⟨RX8, TX8, 8, rfl, by decide, in_X9_keep_X8, by decide +kernel⟩
theorem fl_X9_keep_95 : gF wsX9_keep RX9 95 5 4 := ⟨RX5, TX5, 5, rfl, by decide, in_X9_keep_X5, by decide +kernel⟩
def f_X9_keep (a0 : Nat) (h : gHp) : Option (Int32 × gHp) := (f_X8_copy (a0 + 16) (a0 + 3) h).bind fun v2 => some ((gsI v2 a0 9 1).1 (a0 + 3 + 1) 4, gsI v2 a0 9 1)
set_option maxRecDepth 20000 in
set_option maxHeartbeats 4000000 in
theorem m_X9_keep (w : gWd) (h : gHp) {a0 : Nat} (A0 : is_X9 w a0) {o : Int32 × gHp} (hF : f_X9_keep a0 h = some o) : gMet w yX9_keep wsX9_keep rm_X9_keep [.ref a0] h (some (.int o.1)) o.2 := by
  refine gMet_of (cc := cX9_keep) (maxL := 1) (ret := (some .int)) (fr := 2) (lo := 44) (own := RX9) [(0, .ref a0)] (by decide) rfl rfl (Nat.le_of_ble_eq_true rfl) rfl (Nat.le_refl _) (Nat.le_refl _) (fun g C E => ?_)
  rw [f_X9_keep] at hF
  refine gx_aload_n C 0 (gDec_at D_X9_keep 0 rfl) rfl rfl ?_
  refine gx_getr C fl_X9_keep_23 (is_X9_sh A0) rfl (gDec_at D_X9_keep 1 rfl) ?_
  refine gx_aload_n C 0 (gDec_at D_X9_keep 2 rfl) rfl rfl ?_
  refine gx_getr C fl_X9_keep_19 (is_X9_sh A0) rfl (gDec_at D_X9_keep 3 rfl) ?_
  obtain ⟨v2, hv1, hF⟩ := gBind hF
  refine gx_callV0 C (st := []) 1 [.ref (a0 + 3)] (m_X8_copy w h (is_X9_snapshot A0) (is_X9_now A0) hv1) gX9_keep_X8_copy rfl rfl rfl hy_X8_copy (Nat.le_of_ble_eq_true rfl) (Nat.le_of_ble_eq_true rfl) (is_X8_sh (is_X9_snapshot A0)) rfl rfl rfl (Nat.le_of_ble_eq_true rfl) (gDec_at D_X9_keep 4 rfl) ?_
  refine gx_aload_n C 0 (gDec_at D_X9_keep 5 rfl) rfl rfl ?_
  refine gx_iconst C (v := 1) (gDec_at D_X9_keep 6 rfl) (by decide) ?_
  refine gx_putI C flw_X9_keep_64 (is_X9_sh A0) rfl rfl rfl (gDec_at D_X9_keep 7 rfl) ?_
  refine gx_aload_n C 0 (gDec_at D_X9_keep 8 rfl) rfl rfl ?_
  refine gx_getr C fl_X9_keep_19 (is_X9_sh A0) rfl (gDec_at D_X9_keep 9 rfl) ?_
  refine gx_getr C fl_X9_keep_84 (is_X8_sh (is_X9_now A0)) rfl (gDec_at D_X9_keep 10 rfl) ?_
  refine gx_geti C fl_X9_keep_95 (is_X5_sh (is_X8_network (is_X9_now A0))) rfl (gDec_at D_X9_keep 11 rfl) ?_
  obtain rfl := Option.some.inj hF
  exact gx_iret C E (gDec_at D_X9_keep 12 rfl)
/-! LadderBench.restore -/
def rm_X9_restore : Room := { frames := 3, cells := 0, slots := 0, locals := 65 }
set_option maxRecDepth 20000 in
theorem ggX9_restore_X3_record : GoodIn wsX9_restore wsX3_record := goodIn_r _ [11, 12, 13, 14, 15, 16, 17, 18, 19, 20, 21, 22, 23, 24, 25, 26, 27, 28, 29, 30, 31, 32, 33, 34, 35, 36, 37, 38, 39, 40, 41, 42, 43, 44, 45, 46, 71, 72, 73, 58, 59, 60, 61, 62, 63, 64, 65, 66, 67, 68, 69, 70, 74, 75, 76, 77] (by decide +kernel) (by decide +kernel)
set_option maxRecDepth 20000 in
theorem gX9_restore_X3_record : GoodIn wsX9_restore (wsV RX9 80 RX3 yX3_record wsX3_record) := goodIn_app (goodIn_of _ (by decide +kernel)) ggX9_restore_X3_record
set_option maxRecDepth 20000 in
theorem ggX9_restore_X8_copy : GoodIn wsX9_restore wsX8_copy := goodIn_r _ [19, 20, 21, 22, 23, 24, 25, 26, 27, 28, 29, 30, 31, 32, 33, 34, 35, 36, 37, 38, 39, 40, 41, 42, 43, 44, 45, 46, 58, 59, 60, 61, 62, 63, 64, 65, 66, 67, 68, 69, 70, 74, 75, 76, 77] (by decide +kernel) (by decide +kernel)
set_option maxRecDepth 20000 in
theorem gX9_restore_X8_copy : GoodIn wsX9_restore (wsV RX9 174 RX8 yX8_copy wsX8_copy) := goodIn_app (goodIn_of _ (by decide +kernel)) ggX9_restore_X8_copy
theorem hy_X9_restore : yX9_restore.cls = RX9 ∧ yX9_restore.cls ≠ "java/lang/invoke/MethodHandle" ∧ yX9_restore.cls ≠ "java/lang/invoke/VarHandle" ∧ (parseMethodDescriptor yX9_restore.desc).map (fun d => d.parameters.length) = some 0 := by decide +kernel
set_option maxRecDepth 100000 in
theorem D_X9_restore : gDec cX9_restore [(0, (.aload_n 0, 1)), (1, (.getfield 64, 3)), (4, (.ifCond .ne 6, 3)), (7, (.bipush (-4), 2)), (9, (.ireturn, 1)), (10, (.aload_n 0, 1)), (11, (.getfield 32, 3)), (14, (.aload_n 0, 1)), (15, (.getfield 19, 3)), (18, (.invokevirtual 80, 3)), (21, (.aload_n 0, 1)), (22, (.getfield 19, 3)), (25, (.aload_n 0, 1)), (26, (.getfield 23, 3)), (29, (.invokevirtual 174, 3)), (32, (.aload_n 0, 1)), (33, (.getfield 19, 3)), (36, (.getfield 84, 3)), (39, (.getfield 95, 3)), (42, (.ireturn, 1))] = true := by decide +kernel
set_option maxRecDepth 100000 in
theorem in_X9_restore_X5 : ∀ x ∈ u_ws RX5 TX5 5, x ∈ wsX9_restore := by decide +kernel
set_option maxRecDepth 100000 in
theorem in_X9_restore_X8 : ∀ x ∈ u_ws RX8 TX8 8, x ∈ wsX9_restore := by decide +kernel
set_option maxRecDepth 100000 in
theorem in_X9_restore_X9 : ∀ x ∈ u_ws RX9 TX9 10, x ∈ wsX9_restore := by decide +kernel
theorem fl_X9_restore_64 : gF wsX9_restore RX9 64 9 9 := ⟨RX9, TX9, 10, rfl, by decide, in_X9_restore_X9, by decide +kernel⟩
theorem fl_X9_restore_32 : gF wsX9_restore RX9 32 9 4 := ⟨RX9, TX9, 10, rfl, by decide, in_X9_restore_X9, by decide +kernel⟩
theorem fl_X9_restore_19 : gF wsX9_restore RX9 19 9 1 := ⟨RX9, TX9, 10, rfl, by decide, in_X9_restore_X9, by decide +kernel⟩
theorem fl_X9_restore_23 : gF wsX9_restore RX9 23 9 2 := ⟨RX9, TX9, 10, rfl, by decide, in_X9_restore_X9, by decide +kernel⟩
theorem fl_X9_restore_84 : gF wsX9_restore RX9 84 8 0 := ⟨RX8, TX8, 8, rfl, by decide, in_X9_restore_X8, by decide +kernel⟩
theorem fl_X9_restore_95 : gF wsX9_restore RX9 95 5 4 := ⟨RX5, TX5, 5, rfl, by decide, in_X9_restore_X5, by decide +kernel⟩
def f_X9_restore (a0 : Nat) (h : gHp) : Option (Int32 × gHp) := if (h.1 a0 9) = 0 then some ((-4), h) else (f_X3_record (a0 + 42) (a0 + 3) h).bind fun v2 => (f_X8_copy (a0 + 3) (a0 + 16) v2).bind fun v4 => some (v4.1 (a0 + 3 + 1) 4, v4)
set_option maxRecDepth 20000 in
set_option maxHeartbeats 4000000 in
theorem m_X9_restore (w : gWd) (h : gHp) {a0 : Nat} (A0 : is_X9 w a0) {o : Int32 × gHp} (hF : f_X9_restore a0 h = some o) : gMet w yX9_restore wsX9_restore rm_X9_restore [.ref a0] h (some (.int o.1)) o.2 := by
  refine gMet_of (cc := cX9_restore) (maxL := 1) (ret := (some .int)) (fr := 3) (lo := 65) (own := RX9) [(0, .ref a0)] (by decide) rfl rfl (Nat.le_of_ble_eq_true rfl) rfl (Nat.le_refl _) (Nat.le_refl _) (fun g C E => ?_)
  rw [f_X9_restore] at hF
  refine gx_aload_n C 0 (gDec_at D_X9_restore 0 rfl) rfl rfl ?_
  refine gx_geti C fl_X9_restore_64 (is_X9_sh A0) rfl (gDec_at D_X9_restore 1 rfl) ?_
  refine gx_if_ne C 10 (gDec_at D_X9_restore 2 rfl) (by decide) (fun c => ?_) (fun c => ?_)
  · replace hF := gNeg c hF
    refine gx_aload_n C 0 (gDec_at D_X9_restore 5 rfl) rfl rfl ?_
    refine gx_getr C fl_X9_restore_32 (is_X9_sh A0) rfl (gDec_at D_X9_restore 6 rfl) ?_
    refine gx_aload_n C 0 (gDec_at D_X9_restore 7 rfl) rfl rfl ?_
    refine gx_getr C fl_X9_restore_19 (is_X9_sh A0) rfl (gDec_at D_X9_restore 8 rfl) ?_
    obtain ⟨v2, hv1, hF⟩ := gBind hF
    refine gx_callV0 C (st := []) 1 [.ref (a0 + 3)] (m_X3_record w h (is_X9_history A0) (is_X9_now A0) hv1) gX9_restore_X3_record rfl rfl rfl hy_X3_record (Nat.le_of_ble_eq_true rfl) (Nat.le_of_ble_eq_true rfl) (is_X3_sh (is_X9_history A0)) rfl rfl rfl (Nat.le_of_ble_eq_true rfl) (gDec_at D_X9_restore 9 rfl) ?_
    refine gx_aload_n C 0 (gDec_at D_X9_restore 10 rfl) rfl rfl ?_
    refine gx_getr C fl_X9_restore_19 (is_X9_sh A0) rfl (gDec_at D_X9_restore 11 rfl) ?_
    refine gx_aload_n C 0 (gDec_at D_X9_restore 12 rfl) rfl rfl ?_
    refine gx_getr C fl_X9_restore_23 (is_X9_sh A0) rfl (gDec_at D_X9_restore 13 rfl) ?_
    obtain ⟨v4, hv3, hF⟩ := gBind hF
    refine gx_callV0 C (st := []) 1 [.ref (a0 + 16)] (m_X8_copy w v2 (is_X9_now A0) (is_X9_snapshot A0) hv3) gX9_restore_X8_copy rfl rfl rfl hy_X8_copy (Nat.le_of_ble_eq_true rfl) (Nat.le_of_ble_eq_true rfl) (is_X8_sh (is_X9_now A0)) rfl rfl rfl (Nat.le_of_ble_eq_true rfl) (gDec_at D_X9_restore 14 rfl) ?_
    refine gx_aload_n C 0 (gDec_at D_X9_restore 15 rfl) rfl rfl ?_
    refine gx_getr C fl_X9_restore_19 (is_X9_sh A0) rfl (gDec_at D_X9_restore 16 rfl) ?_
    refine gx_getr C fl_X9_restore_84 (is_X8_sh (is_X9_now A0)) rfl (gDec_at D_X9_restore 17 rfl) ?_
    refine gx_geti C fl_X9_restore_95 (is_X5_sh (is_X8_network (is_X9_now A0))) rfl (gDec_at D_X9_restore 18 rfl) ?_
    obtain rfl := Option.some.inj hF
    exact gx_iret C E (gDec_at D_X9_restore 19 rfl)
  · replace hF := gPos c hF
    refine gx_bipush C (v := (-4)) (gDec_at D_X9_restore 3 rfl) (by decide) ?_
    obtain rfl := Option.some.inj hF
    exact gx_iret C E (gDec_at D_X9_restore 4 rfl)
/-! LadderBench.noneIfNowhere -/
def rm_X9_noneIfNowhere : Room := { frames := 0, cells := 0, slots := 0, locals := 0 }
theorem hy_X9_noneIfNowhere : yX9_noneIfNowhere.cls ≠ "java/lang/invoke/MethodHandle" ∧ yX9_noneIfNowhere.cls ≠ "java/lang/invoke/VarHandle" ∧ (parseMethodDescriptor yX9_noneIfNowhere.desc).map (fun d => d.parameters.length) = some 1 := by decide +kernel
set_option maxRecDepth 100000 in
theorem D_X9_noneIfNowhere : gDec cX9_noneIfNowhere [(0, (.iload_n 0, 1)), (1, (.iconst (-1), 1)), (2, (.if_icmp .ne 8, 3)), (5, (.bipush (-4), 2)), (7, (.goto 4, 3)), (10, (.iload_n 0, 1)), (11, (.ireturn, 1))] = true := by decide +kernel
def f_X9_noneIfNowhere (x0 : Int32) (h : gHp) : Option (Int32) := if x0 = (-1) then some (-4) else some x0
set_option maxRecDepth 20000 in
set_option maxHeartbeats 4000000 in
theorem m_X9_noneIfNowhere (w : gWd) (h : gHp) (x0 : Int32) {o : Int32} (hF : f_X9_noneIfNowhere x0 h = some o) : gMet w yX9_noneIfNowhere wsX9_noneIfNowhere rm_X9_noneIfNowhere [.int x0] h (some (.int o)) h := by
  refine gMet_of (cc := cX9_noneIfNowhere) (maxL := 1) (ret := (some .int)) (fr := 0) (lo := 0) (own := RX9) [(0, .int x0)] (by decide) rfl rfl (Nat.le_of_ble_eq_true rfl) rfl (Nat.le_refl _) (Nat.le_refl _) (fun g C E => ?_)
  rw [f_X9_noneIfNowhere] at hF
  refine gx_iload_n C 0 (gDec_at D_X9_noneIfNowhere 0 rfl) rfl rfl ?_
  refine gx_iconst C (v := (-1)) (gDec_at D_X9_noneIfNowhere 1 rfl) (by decide) ?_
  refine gx_icmp_ne C 10 (gDec_at D_X9_noneIfNowhere 2 rfl) (by decide) (fun c => ?_) (fun c => ?_)
  · replace hF := gNeg c hF
    refine gx_iload_n C 0 (gDec_at D_X9_noneIfNowhere 5 rfl) rfl rfl ?_
    obtain rfl := Option.some.inj hF
    exact gx_iret C E (gDec_at D_X9_noneIfNowhere 6 rfl)
  · replace hF := gPos c hF
    refine gx_bipush C (v := (-4)) (gDec_at D_X9_noneIfNowhere 3 rfl) (by decide) ?_
    refine gx_goto C 11 (gDec_at D_X9_noneIfNowhere 4 rfl) (by decide) ?_
    obtain rfl := Option.some.inj hF
    exact gx_iret C E (gDec_at D_X9_noneIfNowhere 6 rfl)
/-! LadderBench.part -/
def rm_X9_part : Room := { frames := 3, cells := 0, slots := 0, locals := 68 }
set_option maxRecDepth 20000 in
theorem ggX9_part_X5_countArms : GoodIn wsX9_part wsX5_countArms := goodIn_r _ [25, 26, 27, 28, 29, 10, 30, 31, 32, 33, 34, 17, 35, 8, 9, 11, 12, 70, 71, 72, 73, 74] (by decide +kernel) (by decide +kernel)
set_option maxRecDepth 20000 in
theorem gX9_part_X5_countArms : GoodIn wsX9_part (wsV RX9 188 RX5 yX5_countArms wsX5_countArms) := goodIn_app (goodIn_of _ (by decide +kernel)) ggX9_part_X5_countArms
set_option maxRecDepth 20000 in
theorem ggX9_part_X5_countParts : GoodIn wsX9_part wsX5_countParts := goodIn_r _ [16, 17, 70, 71, 72, 73, 74] (by decide +kernel) (by decide +kernel)
set_option maxRecDepth 20000 in
theorem gX9_part_X5_countParts : GoodIn wsX9_part (wsV RX9 177 RX5 yX5_countParts wsX5_countParts) := goodIn_app (goodIn_of _ (by decide +kernel)) ggX9_part_X5_countParts
set_option maxRecDepth 20000 in
theorem ggX9_part_X5_findFirst : GoodIn wsX9_part wsX5_findFirst := goodIn_r _ [51, 17, 70, 71, 72, 73, 74] (by decide +kernel) (by decide +kernel)
set_option maxRecDepth 20000 in
theorem gX9_part_X5_findFirst : GoodIn wsX9_part (wsV RX9 194 RX5 yX5_findFirst wsX5_findFirst) := goodIn_app (goodIn_of _ (by decide +kernel)) ggX9_part_X5_findFirst
set_option maxRecDepth 20000 in
theorem ggX9_part_X5_hasPart : GoodIn wsX9_part wsX5_hasPart := goodIn_r _ [11, 12, 70, 71, 72, 73, 74] (by decide +kernel) (by decide +kernel)
set_option maxRecDepth 20000 in
theorem gX9_part_X5_hasPart : GoodIn wsX9_part (wsV RX9 121 RX5 yX5_hasPart wsX5_hasPart) := goodIn_app (goodIn_of _ (by decide +kernel)) ggX9_part_X5_hasPart
set_option maxRecDepth 20000 in
theorem ggX9_part_X8_isFoldable : GoodIn wsX9_part wsX8_isFoldable := goodIn_r _ [40, 41, 42, 43, 44, 39, 45, 46, 47, 62, 63, 64, 65, 66, 67, 68, 69, 70, 71, 72, 73, 74] (by decide +kernel) (by decide +kernel)
set_option maxRecDepth 20000 in
theorem gX9_part_X8_isFoldable : GoodIn wsX9_part (wsV RX9 191 RX8 yX8_isFoldable wsX8_isFoldable) := goodIn_app (goodIn_of _ (by decide +kernel)) ggX9_part_X8_isFoldable
set_option maxRecDepth 20000 in
theorem ggX9_part_X9_noneIfNowhere : GoodIn wsX9_part wsX9_noneIfNowhere := goodIn_r _ [21] (by decide +kernel) (by decide +kernel)
set_option maxRecDepth 20000 in
theorem gX9_part_X9_noneIfNowhere : GoodIn wsX9_part (va_wsS RX9 183 yX9_noneIfNowhere wsX9_noneIfNowhere) := goodIn_app (goodIn_of _ (by decide +kernel)) ggX9_part_X9_noneIfNowhere
theorem hy_X9_part : yX9_part.cls = RX9 ∧ yX9_part.cls ≠ "java/lang/invoke/MethodHandle" ∧ yX9_part.cls ≠ "java/lang/invoke/VarHandle" ∧ (parseMethodDescriptor yX9_part.desc).map (fun d => d.parameters.length) = some 2 := by decide +kernel
set_option maxRecDepth 100000 in
theorem D_X9_part : gDec cX9_part [(0, (.aload_n 0, 1)), (1, (.getfield 19, 3)), (4, (.getfield 84, 3)), (7, (.iload_n 1, 1)), (8, (.invokevirtual 121, 3)), (11, (.ifCond .ne 5, 3)), (14, (.iconst (-1), 1)), (15, (.ireturn, 1)), (16, (.iload_n 2, 1)), (17, (.tableswitch 186 0 7 #[47, 60, 72, 90, 106, 142, 154, 171], 47)), (64, (.aload_n 0, 1)), (65, (.getfield 19, 3)), (68, (.getfield 84, 3)), (71, (.getfield 143, 3)), (74, (.iload_n 1, 1)), (75, (.iaload, 1)), (76, (.ireturn, 1)), (77, (.aload_n 0, 1)), (78, (.getfield 19, 3)), (81, (.getfield 84, 3)), (84, (.iload_n 1, 1)), (85, (.invokevirtual 177, 3)), (88, (.ireturn, 1)), (89, (.aload_n 0, 1)), (90, (.getfield 19, 3)), (93, (.getfield 127, 3)), (96, (.iload_n 1, 1)), (97, (.baload, 1)), (98, (.ifCond .eq 7, 3)), (101, (.iconst 1, 1)), (102, (.goto 4, 3)), (105, (.iconst 0, 1)), (106, (.ireturn, 1)), (107, (.aload_n 0, 1)), (108, (.getfield 19, 3)), (111, (.getfield 84, 3)), (114, (.getfield 180, 3)), (117, (.iload_n 1, 1)), (118, (.iaload, 1)), (119, (.invokestatic 183, 3)), (122, (.ireturn, 1)), (123, (.aload_n 0, 1)), (124, (.getfield 19, 3)), (127, (.getfield 84, 3)), (130, (.getfield 143, 3)), (133, (.iload_n 1, 1)), (134, (.iaload, 1)), (135, (.ifCond .ne 21, 3)), (138, (.bipush 97, 2)), (140, (.aload_n 0, 1)), (141, (.getfield 19, 3)), (144, (.getfield 84, 3)), (147, (.getfield 186, 3)), (150, (.iload_n 1, 1)), (151, (.iaload, 1)), (152, (.iadd, 1)), (153, (.goto 5, 3)), (156, (.bipush (-4), 2)), (158, (.ireturn, 1)), (159, (.aload_n 0, 1)), (160, (.getfield 19, 3)), (163, (.getfield 84, 3)), (166, (.iload_n 1, 1)), (167, (.invokevirtual 188, 3)), (170, (.ireturn, 1)), (171, (.aload_n 0, 1)), (172, (.getfield 19, 3)), (175, (.iload_n 1, 1)), (176, (.invokevirtual 191, 3)), (179, (.ifCond .eq 7, 3)), (182, (.iconst 1, 1)), (183, (.goto 4, 3)), (186, (.iconst 0, 1)), (187, (.ireturn, 1)), (188, (.aload_n 0, 1)), (189, (.getfield 19, 3)), (192, (.getfield 84, 3)), (195, (.iload_n 1, 1)), (196, (.invokevirtual 194, 3)), (199, (.invokestatic 183, 3)), (202, (.ireturn, 1)), (203, (.bipush (-2), 2)), (205, (.ireturn, 1))] = true := by decide +kernel
set_option maxRecDepth 100000 in
theorem in_X9_part_X5 : ∀ x ∈ u_ws RX5 TX5 5, x ∈ wsX9_part := by decide +kernel
set_option maxRecDepth 100000 in
theorem in_X9_part_X8 : ∀ x ∈ u_ws RX8 TX8 8, x ∈ wsX9_part := by decide +kernel
set_option maxRecDepth 100000 in
theorem in_X9_part_X9 : ∀ x ∈ u_ws RX9 TX9 10, x ∈ wsX9_part := by decide +kernel
theorem fl_X9_part_19 : gF wsX9_part RX9 19 9 1 := ⟨RX9, TX9, 10, rfl, by decide, in_X9_part_X9, by decide +kernel⟩
theorem fl_X9_part_84 : gF wsX9_part RX9 84 8 0 := ⟨RX8, TX8, 8, rfl, by decide, in_X9_part_X8, by decide +kernel⟩
theorem fl_X9_part_143 : gF wsX9_part RX9 143 5 0 := ⟨RX5, TX5, 5, rfl, by decide, in_X9_part_X5, by decide +kernel⟩
theorem fl_X9_part_127 : gF wsX9_part RX9 127 8 4 := ⟨RX8, TX8, 8, rfl, by decide, in_X9_part_X8, by decide +kernel⟩
theorem fl_X9_part_180 : gF wsX9_part RX9 180 5 1 := ⟨RX5, TX5, 5, rfl, by decide, in_X9_part_X5, by decide +kernel⟩
theorem fl_X9_part_186 : gF wsX9_part RX9 186 5 2 := ⟨RX5, TX5, 5, rfl, by decide, in_X9_part_X5, by decide +kernel⟩
def f_X9_part (a0 : Nat) (x1 : Int32) (x2 : Int32) (h : gHp) : Option (Int32) := (f_X5_hasPart (a0 + 3 + 1) x1 h).bind fun v2 => if v2 = true then if x2 = 0 then if gIn x1 11 then some (h.1 (a0 + 3 + 1 + 1) (gN x1)) else none else if x2 = 1 then (f_X5_countParts (a0 + 3 + 1) x1 h).bind fun v5 => some v5 else if x2 = 2 then if gIn x1 11 then if (h.1 (a0 + 3 + 12) (gN x1)) = 0 then some 0 else some 1 else none else if x2 = 3 then if gIn x1 11 then (f_X9_noneIfNowhere (h.1 (a0 + 3 + 1 + 2) (gN x1)) h).bind fun v9 => some v9 else none else if x2 = 4 then if gIn x1 11 then if (h.1 (a0 + 3 + 1 + 1) (gN x1)) = 0 then if gIn x1 11 then some (97 + (h.1 (a0 + 3 + 1 + 3) (gN x1))) else none else some (-4) else none else if x2 = 5 then (f_X5_countArms (a0 + 3 + 1) x1 h).bind fun v13 => some v13 else if x2 = 6 then (f_X8_isFoldable (a0 + 3) x1 h).bind fun v15 => if v15 = true then some 1 else some 0 else if x2 = 7 then (f_X5_findFirst (a0 + 3 + 1) x1 h).bind fun v17 => (f_X9_noneIfNowhere v17 h).bind fun v19 => some v19 else some (-2) else some (-1)
set_option maxRecDepth 20000 in
set_option maxHeartbeats 4000000 in
theorem m_X9_part (w : gWd) (h : gHp) {a0 : Nat} (A0 : is_X9 w a0) (x1 : Int32) (x2 : Int32) {o : Int32} (hF : f_X9_part a0 x1 x2 h = some o) : gMet w yX9_part wsX9_part rm_X9_part [.ref a0, .int x1, .int x2] h (some (.int o)) h := by
  refine gMet_of (cc := cX9_part) (maxL := 3) (ret := (some .int)) (fr := 3) (lo := 68) (own := RX9) [(0, .ref a0), (1, .int x1), (2, .int x2)] (by decide) rfl rfl (Nat.le_of_ble_eq_true rfl) rfl (Nat.le_refl _) (Nat.le_refl _) (fun g C E => ?_)
  rw [f_X9_part] at hF
  refine gx_aload_n C 0 (gDec_at D_X9_part 0 rfl) rfl rfl ?_
  refine gx_getr C fl_X9_part_19 (is_X9_sh A0) rfl (gDec_at D_X9_part 1 rfl) ?_
  refine gx_getr C fl_X9_part_84 (is_X8_sh (is_X9_now A0)) rfl (gDec_at D_X9_part 2 rfl) ?_
  refine gx_iload_n C 1 (gDec_at D_X9_part 3 rfl) rfl rfl ?_
  obtain ⟨v2, hv1, hF⟩ := gBind hF
  refine gx_callV1 C (st := []) 1 [.int x1] (m_X5_hasPart w h (is_X8_network (is_X9_now A0)) x1 hv1) gX9_part_X5_hasPart rfl rfl rfl hy_X5_hasPart (Nat.le_of_ble_eq_true rfl) (Nat.le_of_ble_eq_true rfl) (is_X5_sh (is_X8_network (is_X9_now A0))) rfl rfl rfl (Nat.le_of_ble_eq_true rfl) (gDec_at D_X9_part 4 rfl) ?_
  refine gx_ifz_ne C 16 (gDec_at D_X9_part 5 rfl) (by decide) (fun c => ?_) (fun c => ?_)
  · replace hF := gPos c hF
    refine gx_iload_n C 2 (gDec_at D_X9_part 8 rfl) rfl rfl ?_
    by_cases c0 : x2 = 0
    · replace hF := gPos c0 hF
      refine gx_tableIn C 64 (gDec_at D_X9_part 9 rfl) (by rw [c0]; decide) (by rw [c0]; decide) (by rw [c0]; rfl) (by decide) ?_
      refine gx_aload_n C 0 (gDec_at D_X9_part 10 rfl) rfl rfl ?_
      refine gx_getr C fl_X9_part_19 (is_X9_sh A0) rfl (gDec_at D_X9_part 11 rfl) ?_
      refine gx_getr C fl_X9_part_84 (is_X8_sh (is_X9_now A0)) rfl (gDec_at D_X9_part 12 rfl) ?_
      refine gx_getr C fl_X9_part_143 (is_X5_sh (is_X8_network (is_X9_now A0))) rfl (gDec_at D_X9_part 13 rfl) ?_
      refine gx_iload_n C 1 (gDec_at D_X9_part 14 rfl) rfl rfl ?_
      obtain ⟨b3, hF⟩ := gGd hF
      refine gx_iaload C (is_X5_kind (is_X8_network (is_X9_now A0))) b3 (gDec_at D_X9_part 15 rfl) ?_
      obtain rfl := Option.some.inj hF
      exact gx_iret C E (gDec_at D_X9_part 16 rfl)
    replace hF := gNeg c0 hF
    by_cases c1 : x2 = 1
    · replace hF := gPos c1 hF
      refine gx_tableIn C 77 (gDec_at D_X9_part 9 rfl) (by rw [c1]; decide) (by rw [c1]; decide) (by rw [c1]; rfl) (by decide) ?_
      refine gx_aload_n C 0 (gDec_at D_X9_part 17 rfl) rfl rfl ?_
      refine gx_getr C fl_X9_part_19 (is_X9_sh A0) rfl (gDec_at D_X9_part 18 rfl) ?_
      refine gx_getr C fl_X9_part_84 (is_X8_sh (is_X9_now A0)) rfl (gDec_at D_X9_part 19 rfl) ?_
      refine gx_iload_n C 1 (gDec_at D_X9_part 20 rfl) rfl rfl ?_
      obtain ⟨v5, hv4, hF⟩ := gBind hF
      refine gx_callV1 C (st := []) 1 [.int x1] (m_X5_countParts w h (is_X8_network (is_X9_now A0)) x1 hv4) gX9_part_X5_countParts rfl rfl rfl hy_X5_countParts (Nat.le_of_ble_eq_true rfl) (Nat.le_of_ble_eq_true rfl) (is_X5_sh (is_X8_network (is_X9_now A0))) rfl rfl rfl (Nat.le_of_ble_eq_true rfl) (gDec_at D_X9_part 21 rfl) ?_
      obtain rfl := Option.some.inj hF
      exact gx_iret C E (gDec_at D_X9_part 22 rfl)
    replace hF := gNeg c1 hF
    by_cases c2 : x2 = 2
    · replace hF := gPos c2 hF
      refine gx_tableIn C 89 (gDec_at D_X9_part 9 rfl) (by rw [c2]; decide) (by rw [c2]; decide) (by rw [c2]; rfl) (by decide) ?_
      refine gx_aload_n C 0 (gDec_at D_X9_part 23 rfl) rfl rfl ?_
      refine gx_getr C fl_X9_part_19 (is_X9_sh A0) rfl (gDec_at D_X9_part 24 rfl) ?_
      refine gx_getr C fl_X9_part_127 (is_X8_sh (is_X9_now A0)) rfl (gDec_at D_X9_part 25 rfl) ?_
      refine gx_iload_n C 1 (gDec_at D_X9_part 26 rfl) rfl rfl ?_
      obtain ⟨b6, hF⟩ := gGd hF
      refine gx_zaload C (is_X8_isFolded (is_X9_now A0)) b6 (gDec_at D_X9_part 27 rfl) ?_
      refine gx_if_eq C 105 (gDec_at D_X9_part 28 rfl) (by decide) (fun c => ?_) (fun c => ?_)
      · replace hF := gPos c hF
        refine gx_iconst C (v := 0) (gDec_at D_X9_part 31 rfl) (by decide) ?_
        obtain rfl := Option.some.inj hF
        exact gx_iret C E (gDec_at D_X9_part 32 rfl)
      · replace hF := gNeg c hF
        refine gx_iconst C (v := 1) (gDec_at D_X9_part 29 rfl) (by decide) ?_
        refine gx_goto C 106 (gDec_at D_X9_part 30 rfl) (by decide) ?_
        obtain rfl := Option.some.inj hF
        exact gx_iret C E (gDec_at D_X9_part 32 rfl)
    replace hF := gNeg c2 hF
    by_cases c3 : x2 = 3
    · replace hF := gPos c3 hF
      refine gx_tableIn C 107 (gDec_at D_X9_part 9 rfl) (by rw [c3]; decide) (by rw [c3]; decide) (by rw [c3]; rfl) (by decide) ?_
      refine gx_aload_n C 0 (gDec_at D_X9_part 33 rfl) rfl rfl ?_
      refine gx_getr C fl_X9_part_19 (is_X9_sh A0) rfl (gDec_at D_X9_part 34 rfl) ?_
      refine gx_getr C fl_X9_part_84 (is_X8_sh (is_X9_now A0)) rfl (gDec_at D_X9_part 35 rfl) ?_
      refine gx_getr C fl_X9_part_180 (is_X5_sh (is_X8_network (is_X9_now A0))) rfl (gDec_at D_X9_part 36 rfl) ?_
      refine gx_iload_n C 1 (gDec_at D_X9_part 37 rfl) rfl rfl ?_
      obtain ⟨b7, hF⟩ := gGd hF
      refine gx_iaload C (is_X5_around (is_X8_network (is_X9_now A0))) b7 (gDec_at D_X9_part 38 rfl) ?_
      obtain ⟨v9, hv8, hF⟩ := gBind hF
      refine gx_callS1 C (st := []) 1 [.int (h.1 (a0 + 3 + 1 + 2) (gN x1))] (m_X9_noneIfNowhere w h (h.1 (a0 + 3 + 1 + 2) (gN x1)) hv8) gX9_part_X9_noneIfNowhere rfl rfl rfl hy_X9_noneIfNowhere (Nat.le_of_ble_eq_true rfl) (Nat.le_of_ble_eq_true rfl) rfl rfl (Nat.le_of_ble_eq_true rfl) (gDec_at D_X9_part 39 rfl) ?_
      obtain rfl := Option.some.inj hF
      exact gx_iret C E (gDec_at D_X9_part 40 rfl)
    replace hF := gNeg c3 hF
    by_cases c4 : x2 = 4
    · replace hF := gPos c4 hF
      refine gx_tableIn C 123 (gDec_at D_X9_part 9 rfl) (by rw [c4]; decide) (by rw [c4]; decide) (by rw [c4]; rfl) (by decide) ?_
      refine gx_aload_n C 0 (gDec_at D_X9_part 41 rfl) rfl rfl ?_
      refine gx_getr C fl_X9_part_19 (is_X9_sh A0) rfl (gDec_at D_X9_part 42 rfl) ?_
      refine gx_getr C fl_X9_part_84 (is_X8_sh (is_X9_now A0)) rfl (gDec_at D_X9_part 43 rfl) ?_
      refine gx_getr C fl_X9_part_143 (is_X5_sh (is_X8_network (is_X9_now A0))) rfl (gDec_at D_X9_part 44 rfl) ?_
      refine gx_iload_n C 1 (gDec_at D_X9_part 45 rfl) rfl rfl ?_
      obtain ⟨b10, hF⟩ := gGd hF
      refine gx_iaload C (is_X5_kind (is_X8_network (is_X9_now A0))) b10 (gDec_at D_X9_part 46 rfl) ?_
      refine gx_if_ne C 156 (gDec_at D_X9_part 47 rfl) (by decide) (fun c => ?_) (fun c => ?_)
      · replace hF := gNeg c hF
        refine gx_bipush C (v := (-4)) (gDec_at D_X9_part 57 rfl) (by decide) ?_
        obtain rfl := Option.some.inj hF
        exact gx_iret C E (gDec_at D_X9_part 58 rfl)
      · replace hF := gPos c hF
        refine gx_bipush C (v := 97) (gDec_at D_X9_part 48 rfl) (by decide) ?_
        refine gx_aload_n C 0 (gDec_at D_X9_part 49 rfl) rfl rfl ?_
        refine gx_getr C fl_X9_part_19 (is_X9_sh A0) rfl (gDec_at D_X9_part 50 rfl) ?_
        refine gx_getr C fl_X9_part_84 (is_X8_sh (is_X9_now A0)) rfl (gDec_at D_X9_part 51 rfl) ?_
        refine gx_getr C fl_X9_part_186 (is_X5_sh (is_X8_network (is_X9_now A0))) rfl (gDec_at D_X9_part 52 rfl) ?_
        refine gx_iload_n C 1 (gDec_at D_X9_part 53 rfl) rfl rfl ?_
        obtain ⟨b11, hF⟩ := gGd hF
        refine gx_iaload C (is_X5_letter (is_X8_network (is_X9_now A0))) b11 (gDec_at D_X9_part 54 rfl) ?_
        refine gx_iadd C (gDec_at D_X9_part 55 rfl) ?_
        refine gx_goto C 158 (gDec_at D_X9_part 56 rfl) (by decide) ?_
        obtain rfl := Option.some.inj hF
        exact gx_iret C E (gDec_at D_X9_part 58 rfl)
    replace hF := gNeg c4 hF
    by_cases c5 : x2 = 5
    · replace hF := gPos c5 hF
      refine gx_tableIn C 159 (gDec_at D_X9_part 9 rfl) (by rw [c5]; decide) (by rw [c5]; decide) (by rw [c5]; rfl) (by decide) ?_
      refine gx_aload_n C 0 (gDec_at D_X9_part 59 rfl) rfl rfl ?_
      refine gx_getr C fl_X9_part_19 (is_X9_sh A0) rfl (gDec_at D_X9_part 60 rfl) ?_
      refine gx_getr C fl_X9_part_84 (is_X8_sh (is_X9_now A0)) rfl (gDec_at D_X9_part 61 rfl) ?_
      refine gx_iload_n C 1 (gDec_at D_X9_part 62 rfl) rfl rfl ?_
      obtain ⟨v13, hv12, hF⟩ := gBind hF
      refine gx_callV1 C (st := []) 1 [.int x1] (m_X5_countArms w h (is_X8_network (is_X9_now A0)) x1 hv12) gX9_part_X5_countArms rfl rfl rfl hy_X5_countArms (Nat.le_of_ble_eq_true rfl) (Nat.le_of_ble_eq_true rfl) (is_X5_sh (is_X8_network (is_X9_now A0))) rfl rfl rfl (Nat.le_of_ble_eq_true rfl) (gDec_at D_X9_part 63 rfl) ?_
      obtain rfl := Option.some.inj hF
      exact gx_iret C E (gDec_at D_X9_part 64 rfl)
    replace hF := gNeg c5 hF
    by_cases c6 : x2 = 6
    · replace hF := gPos c6 hF
      refine gx_tableIn C 171 (gDec_at D_X9_part 9 rfl) (by rw [c6]; decide) (by rw [c6]; decide) (by rw [c6]; rfl) (by decide) ?_
      refine gx_aload_n C 0 (gDec_at D_X9_part 65 rfl) rfl rfl ?_
      refine gx_getr C fl_X9_part_19 (is_X9_sh A0) rfl (gDec_at D_X9_part 66 rfl) ?_
      refine gx_iload_n C 1 (gDec_at D_X9_part 67 rfl) rfl rfl ?_
      obtain ⟨v15, hv14, hF⟩ := gBind hF
      refine gx_callV1 C (st := []) 1 [.int x1] (m_X8_isFoldable w h (is_X9_now A0) x1 hv14) gX9_part_X8_isFoldable rfl rfl rfl hy_X8_isFoldable (Nat.le_of_ble_eq_true rfl) (Nat.le_of_ble_eq_true rfl) (is_X8_sh (is_X9_now A0)) rfl rfl rfl (Nat.le_of_ble_eq_true rfl) (gDec_at D_X9_part 68 rfl) ?_
      refine gx_ifz_eq C 186 (gDec_at D_X9_part 69 rfl) (by decide) (fun c => ?_) (fun c => ?_)
      · replace hF := gNeg c hF
        refine gx_iconst C (v := 0) (gDec_at D_X9_part 72 rfl) (by decide) ?_
        obtain rfl := Option.some.inj hF
        exact gx_iret C E (gDec_at D_X9_part 73 rfl)
      · replace hF := gPos c hF
        refine gx_iconst C (v := 1) (gDec_at D_X9_part 70 rfl) (by decide) ?_
        refine gx_goto C 187 (gDec_at D_X9_part 71 rfl) (by decide) ?_
        obtain rfl := Option.some.inj hF
        exact gx_iret C E (gDec_at D_X9_part 73 rfl)
    replace hF := gNeg c6 hF
    by_cases c7 : x2 = 7
    · replace hF := gPos c7 hF
      refine gx_tableIn C 188 (gDec_at D_X9_part 9 rfl) (by rw [c7]; decide) (by rw [c7]; decide) (by rw [c7]; rfl) (by decide) ?_
      refine gx_aload_n C 0 (gDec_at D_X9_part 74 rfl) rfl rfl ?_
      refine gx_getr C fl_X9_part_19 (is_X9_sh A0) rfl (gDec_at D_X9_part 75 rfl) ?_
      refine gx_getr C fl_X9_part_84 (is_X8_sh (is_X9_now A0)) rfl (gDec_at D_X9_part 76 rfl) ?_
      refine gx_iload_n C 1 (gDec_at D_X9_part 77 rfl) rfl rfl ?_
      obtain ⟨v17, hv16, hF⟩ := gBind hF
      refine gx_callV1 C (st := []) 1 [.int x1] (m_X5_findFirst w h (is_X8_network (is_X9_now A0)) x1 hv16) gX9_part_X5_findFirst rfl rfl rfl hy_X5_findFirst (Nat.le_of_ble_eq_true rfl) (Nat.le_of_ble_eq_true rfl) (is_X5_sh (is_X8_network (is_X9_now A0))) rfl rfl rfl (Nat.le_of_ble_eq_true rfl) (gDec_at D_X9_part 78 rfl) ?_
      obtain ⟨v19, hv18, hF⟩ := gBind hF
      refine gx_callS1 C (st := []) 1 [.int v17] (m_X9_noneIfNowhere w h v17 hv18) gX9_part_X9_noneIfNowhere rfl rfl rfl hy_X9_noneIfNowhere (Nat.le_of_ble_eq_true rfl) (Nat.le_of_ble_eq_true rfl) rfl rfl (Nat.le_of_ble_eq_true rfl) (gDec_at D_X9_part 79 rfl) ?_
      obtain rfl := Option.some.inj hF
      exact gx_iret C E (gDec_at D_X9_part 80 rfl)
    replace hF := gNeg c7 hF
    refine gx_tableOut C 203 (gDec_at D_X9_part 9 rfl) (gSw _ 7 (by decide) (fun k hk => match k, hk with | 0, _ => c0 | 1, _ => c1 | 2, _ => c2 | 3, _ => c3 | 4, _ => c4 | 5, _ => c5 | 6, _ => c6 | 7, _ => c7 | k + 8, hk => absurd hk (by omega))) (by decide) ?_
    refine gx_bipush C (v := (-2)) (gDec_at D_X9_part 81 rfl) (by decide) ?_
    obtain rfl := Option.some.inj hF
    exact gx_iret C E (gDec_at D_X9_part 82 rfl)
  · replace hF := gNeg c hF
    refine gx_iconst C (v := (-1)) (gDec_at D_X9_part 6 rfl) (by decide) ?_
    obtain rfl := Option.some.inj hF
    exact gx_iret C E (gDec_at D_X9_part 7 rfl)
/-! LadderBench.arm -/
def rm_X9_arm : Room := { frames := 1, cells := 0, slots := 0, locals := 21 }
set_option maxRecDepth 20000 in
theorem ggX9_arm_X5_hasArm : GoodIn wsX9_arm wsX5_hasArm := goodIn_r _ [14, 15, 34, 35, 36, 37, 38] (by decide +kernel) (by decide +kernel)
set_option maxRecDepth 20000 in
theorem gX9_arm_X5_hasArm : GoodIn wsX9_arm (wsV RX9 110 RX5 yX5_hasArm wsX5_hasArm) := goodIn_app (goodIn_of _ (by decide +kernel)) ggX9_arm_X5_hasArm
set_option maxRecDepth 20000 in
theorem ggX9_arm_X9_indexOfLetter : GoodIn wsX9_arm wsX9_indexOfLetter := goodIn_r _ [9] (by decide +kernel) (by decide +kernel)
set_option maxRecDepth 20000 in
theorem gX9_arm_X9_indexOfLetter : GoodIn wsX9_arm (va_wsS RX9 197 yX9_indexOfLetter wsX9_indexOfLetter) := goodIn_app (goodIn_of _ (by decide +kernel)) ggX9_arm_X9_indexOfLetter
theorem hy_X9_arm : yX9_arm.cls = RX9 ∧ yX9_arm.cls ≠ "java/lang/invoke/MethodHandle" ∧ yX9_arm.cls ≠ "java/lang/invoke/VarHandle" ∧ (parseMethodDescriptor yX9_arm.desc).map (fun d => d.parameters.length) = some 2 := by decide +kernel
set_option maxRecDepth 100000 in
theorem D_X9_arm : gDec cX9_arm [(0, (.iload_n 1, 1)), (1, (.invokestatic 197, 3)), (4, (.istore_n 3, 1)), (5, (.aload_n 0, 1)), (6, (.getfield 19, 3)), (9, (.getfield 84, 3)), (12, (.iload_n 3, 1)), (13, (.invokevirtual 110, 3)), (16, (.ifCond .ne 5, 3)), (19, (.iconst (-1), 1)), (20, (.ireturn, 1)), (21, (.iload_n 2, 1)), (22, (.tableswitch 59 0 2 #[26, 36, 46], 26)), (48, (.aload_n 0, 1)), (49, (.getfield 19, 3)), (52, (.getfield 200, 3)), (55, (.iload_n 3, 1)), (56, (.iaload, 1)), (57, (.ireturn, 1)), (58, (.aload_n 0, 1)), (59, (.getfield 19, 3)), (62, (.getfield 203, 3)), (65, (.iload_n 3, 1)), (66, (.iaload, 1)), (67, (.ireturn, 1)), (68, (.aload_n 0, 1)), (69, (.getfield 19, 3)), (72, (.getfield 84, 3)), (75, (.getfield 206, 3)), (78, (.iload_n 3, 1)), (79, (.iaload, 1)), (80, (.ireturn, 1)), (81, (.bipush (-2), 2)), (83, (.ireturn, 1))] = true := by decide +kernel
set_option maxRecDepth 100000 in
theorem in_X9_arm_X5 : ∀ x ∈ u_ws RX5 TX5 5, x ∈ wsX9_arm := by decide +kernel
set_option maxRecDepth 100000 in
theorem in_X9_arm_X8 : ∀ x ∈ u_ws RX8 TX8 8, x ∈ wsX9_arm := by decide +kernel
set_option maxRecDepth 100000 in
theorem in_X9_arm_X9 : ∀ x ∈ u_ws RX9 TX9 10, x ∈ wsX9_arm := by decide +kernel
theorem fl_X9_arm_19 : gF wsX9_arm RX9 19 9 1 := ⟨RX9, TX9, 10, rfl, by decide, in_X9_arm_X9, by decide +kernel⟩
theorem fl_X9_arm_84 : gF wsX9_arm RX9 84 8 0 := ⟨RX8, TX8, 8, rfl, by decide, in_X9_arm_X8, by decide +kernel⟩
theorem fl_X9_arm_200 : gF wsX9_arm RX9 200 8 2 := ⟨RX8, TX8, 8, rfl, by decide, in_X9_arm_X8, by decide +kernel⟩
theorem fl_X9_arm_203 : gF wsX9_arm RX9 203 8 3 := ⟨RX8, TX8, 8, rfl, by decide, in_X9_arm_X8, by decide +kernel⟩
theorem fl_X9_arm_206 : gF wsX9_arm RX9 206 5 3 := ⟨RX5, TX5, 5, rfl, by decide, in_X9_arm_X5, by decide +kernel⟩
def f_X9_arm (a0 : Nat) (x1 : Int32) (x2 : Int32) (h : gHp) : Option (Int32) := (f_X9_indexOfLetter x1 h).bind fun v2 => (f_X5_hasArm (a0 + 3 + 1) v2 h).bind fun v4 => if v4 = true then if x2 = 0 then if gIn v2 6 then some (h.1 (a0 + 3 + 10) (gN v2)) else none else if x2 = 1 then if gIn v2 6 then some (h.1 (a0 + 3 + 11) (gN v2)) else none else if x2 = 2 then if gIn v2 6 then some (h.1 (a0 + 3 + 1 + 4) (gN v2)) else none else some (-2) else some (-1)
set_option maxRecDepth 20000 in
set_option maxHeartbeats 4000000 in
theorem m_X9_arm (w : gWd) (h : gHp) {a0 : Nat} (A0 : is_X9 w a0) (x1 : Int32) (x2 : Int32) {o : Int32} (hF : f_X9_arm a0 x1 x2 h = some o) : gMet w yX9_arm wsX9_arm rm_X9_arm [.ref a0, .int x1, .int x2] h (some (.int o)) h := by
  refine gMet_of (cc := cX9_arm) (maxL := 4) (ret := (some .int)) (fr := 1) (lo := 21) (own := RX9) [(0, .ref a0), (1, .int x1), (2, .int x2)] (by decide) rfl rfl (Nat.le_of_ble_eq_true rfl) rfl (Nat.le_refl _) (Nat.le_refl _) (fun g C E => ?_)
  rw [f_X9_arm] at hF
  refine gx_iload_n C 1 (gDec_at D_X9_arm 0 rfl) rfl rfl ?_
  obtain ⟨v2, hv1, hF⟩ := gBind hF
  refine gx_callS1 C (st := []) 1 [.int x1] (m_X9_indexOfLetter w h x1 hv1) gX9_arm_X9_indexOfLetter rfl rfl rfl hy_X9_indexOfLetter (Nat.le_of_ble_eq_true rfl) (Nat.le_of_ble_eq_true rfl) rfl rfl (Nat.le_of_ble_eq_true rfl) (gDec_at D_X9_arm 1 rfl) ?_
  refine gx_istore_n C (lv' := [(3, .int v2), (0, .ref a0), (1, .int x1), (2, .int x2)]) (gDec_at D_X9_arm 2 rfl) rfl (Nat.le_of_ble_eq_true rfl) rfl ?_
  refine gx_aload_n C 1 (gDec_at D_X9_arm 3 rfl) rfl rfl ?_
  refine gx_getr C fl_X9_arm_19 (is_X9_sh A0) rfl (gDec_at D_X9_arm 4 rfl) ?_
  refine gx_getr C fl_X9_arm_84 (is_X8_sh (is_X9_now A0)) rfl (gDec_at D_X9_arm 5 rfl) ?_
  refine gx_iload_n C 0 (gDec_at D_X9_arm 6 rfl) rfl rfl ?_
  obtain ⟨v4, hv3, hF⟩ := gBind hF
  refine gx_callV1 C (st := []) 1 [.int v2] (m_X5_hasArm w h (is_X8_network (is_X9_now A0)) v2 hv3) gX9_arm_X5_hasArm rfl rfl rfl hy_X5_hasArm (Nat.le_of_ble_eq_true rfl) (Nat.le_of_ble_eq_true rfl) (is_X5_sh (is_X8_network (is_X9_now A0))) rfl rfl rfl (Nat.le_of_ble_eq_true rfl) (gDec_at D_X9_arm 7 rfl) ?_
  refine gx_ifz_ne C 21 (gDec_at D_X9_arm 8 rfl) (by decide) (fun c => ?_) (fun c => ?_)
  · replace hF := gPos c hF
    refine gx_iload_n C 3 (gDec_at D_X9_arm 11 rfl) rfl rfl ?_
    by_cases c0 : x2 = 0
    · replace hF := gPos c0 hF
      refine gx_tableIn C 48 (gDec_at D_X9_arm 12 rfl) (by rw [c0]; decide) (by rw [c0]; decide) (by rw [c0]; rfl) (by decide) ?_
      refine gx_aload_n C 1 (gDec_at D_X9_arm 13 rfl) rfl rfl ?_
      refine gx_getr C fl_X9_arm_19 (is_X9_sh A0) rfl (gDec_at D_X9_arm 14 rfl) ?_
      refine gx_getr C fl_X9_arm_200 (is_X8_sh (is_X9_now A0)) rfl (gDec_at D_X9_arm 15 rfl) ?_
      refine gx_iload_n C 0 (gDec_at D_X9_arm 16 rfl) rfl rfl ?_
      obtain ⟨b5, hF⟩ := gGd hF
      refine gx_iaload C (is_X8_armValue (is_X9_now A0)) b5 (gDec_at D_X9_arm 17 rfl) ?_
      obtain rfl := Option.some.inj hF
      exact gx_iret C E (gDec_at D_X9_arm 18 rfl)
    replace hF := gNeg c0 hF
    by_cases c1 : x2 = 1
    · replace hF := gPos c1 hF
      refine gx_tableIn C 58 (gDec_at D_X9_arm 12 rfl) (by rw [c1]; decide) (by rw [c1]; decide) (by rw [c1]; rfl) (by decide) ?_
      refine gx_aload_n C 1 (gDec_at D_X9_arm 19 rfl) rfl rfl ?_
      refine gx_getr C fl_X9_arm_19 (is_X9_sh A0) rfl (gDec_at D_X9_arm 20 rfl) ?_
      refine gx_getr C fl_X9_arm_203 (is_X8_sh (is_X9_now A0)) rfl (gDec_at D_X9_arm 21 rfl) ?_
      refine gx_iload_n C 0 (gDec_at D_X9_arm 22 rfl) rfl rfl ?_
      obtain ⟨b6, hF⟩ := gGd hF
      refine gx_iaload C (is_X8_armState (is_X9_now A0)) b6 (gDec_at D_X9_arm 23 rfl) ?_
      obtain rfl := Option.some.inj hF
      exact gx_iret C E (gDec_at D_X9_arm 24 rfl)
    replace hF := gNeg c1 hF
    by_cases c2 : x2 = 2
    · replace hF := gPos c2 hF
      refine gx_tableIn C 68 (gDec_at D_X9_arm 12 rfl) (by rw [c2]; decide) (by rw [c2]; decide) (by rw [c2]; rfl) (by decide) ?_
      refine gx_aload_n C 1 (gDec_at D_X9_arm 25 rfl) rfl rfl ?_
      refine gx_getr C fl_X9_arm_19 (is_X9_sh A0) rfl (gDec_at D_X9_arm 26 rfl) ?_
      refine gx_getr C fl_X9_arm_84 (is_X8_sh (is_X9_now A0)) rfl (gDec_at D_X9_arm 27 rfl) ?_
      refine gx_getr C fl_X9_arm_206 (is_X5_sh (is_X8_network (is_X9_now A0))) rfl (gDec_at D_X9_arm 28 rfl) ?_
      refine gx_iload_n C 0 (gDec_at D_X9_arm 29 rfl) rfl rfl ?_
      obtain ⟨b7, hF⟩ := gGd hF
      refine gx_iaload C (is_X5_partOfArm (is_X8_network (is_X9_now A0))) b7 (gDec_at D_X9_arm 30 rfl) ?_
      obtain rfl := Option.some.inj hF
      exact gx_iret C E (gDec_at D_X9_arm 31 rfl)
    replace hF := gNeg c2 hF
    refine gx_tableOut C 81 (gDec_at D_X9_arm 12 rfl) (gSw _ 2 (by decide) (fun k hk => match k, hk with | 0, _ => c0 | 1, _ => c1 | 2, _ => c2 | k + 3, hk => absurd hk (by omega))) (by decide) ?_
    refine gx_bipush C (v := (-2)) (gDec_at D_X9_arm 32 rfl) (by decide) ?_
    obtain rfl := Option.some.inj hF
    exact gx_iret C E (gDec_at D_X9_arm 33 rfl)
  · replace hF := gNeg c hF
    refine gx_iconst C (v := (-1)) (gDec_at D_X9_arm 9 rfl) (by decide) ?_
    obtain rfl := Option.some.inj hF
    exact gx_iret C E (gDec_at D_X9_arm 10 rfl)
/-! LadderBench.isHalf -/
def rm_X9_isHalf : Room := { frames := 0, cells := 0, slots := 0, locals := 0 }
theorem hy_X9_isHalf : yX9_isHalf.cls ≠ "java/lang/invoke/MethodHandle" ∧ yX9_isHalf.cls ≠ "java/lang/invoke/VarHandle" ∧ (parseMethodDescriptor yX9_isHalf.desc).map (fun d => d.parameters.length) = some 1 := by decide +kernel
set_option maxRecDepth 100000 in
theorem D_X9_isHalf : gDec cX9_isHalf [(0, (.iload_n 0, 1)), (1, (.ifCond .eq 8, 3)), (4, (.iload_n 0, 1)), (5, (.iconst 1, 1)), (6, (.if_icmp .ne 7, 3)), (9, (.iconst 1, 1)), (10, (.goto 4, 3)), (13, (.iconst 0, 1)), (14, (.ireturn, 1))] = true := by decide +kernel
def f_X9_isHalf (x0 : Int32) (h : gHp) : Option (Bool) := if x0 = 0 then some true else if x0 = 1 then some true else some false
set_option maxRecDepth 20000 in
set_option maxHeartbeats 4000000 in
theorem m_X9_isHalf (w : gWd) (h : gHp) (x0 : Int32) {o : Bool} (hF : f_X9_isHalf x0 h = some o) : gMet w yX9_isHalf wsX9_isHalf rm_X9_isHalf [.int x0] h (some (.int (gZ o))) h := by
  refine gMet_of (cc := cX9_isHalf) (maxL := 1) (ret := (some .boolean)) (fr := 0) (lo := 0) (own := RX9) [(0, .int x0)] (by decide) rfl rfl (Nat.le_of_ble_eq_true rfl) rfl (Nat.le_refl _) (Nat.le_refl _) (fun g C E => ?_)
  rw [f_X9_isHalf] at hF
  refine gx_iload_n C 0 (gDec_at D_X9_isHalf 0 rfl) rfl rfl ?_
  refine gx_if_eq C 9 (gDec_at D_X9_isHalf 1 rfl) (by decide) (fun c => ?_) (fun c => ?_)
  · replace hF := gPos c hF
    refine gx_iconst C (v := 1) (gDec_at D_X9_isHalf 5 rfl) (by decide) ?_
    refine gx_goto C 14 (gDec_at D_X9_isHalf 6 rfl) (by decide) ?_
    obtain rfl := Option.some.inj hF
    exact gx_zret (b := true) C E (gDec_at D_X9_isHalf 8 rfl)
  · replace hF := gNeg c hF
    refine gx_iload_n C 0 (gDec_at D_X9_isHalf 2 rfl) rfl rfl ?_
    refine gx_iconst C (v := 1) (gDec_at D_X9_isHalf 3 rfl) (by decide) ?_
    refine gx_icmp_ne C 13 (gDec_at D_X9_isHalf 4 rfl) (by decide) (fun c => ?_) (fun c => ?_)
    · replace hF := gNeg c hF
      refine gx_iconst C (v := 0) (gDec_at D_X9_isHalf 7 rfl) (by decide) ?_
      obtain rfl := Option.some.inj hF
      exact gx_zret (b := false) C E (gDec_at D_X9_isHalf 8 rfl)
    · replace hF := gPos c hF
      refine gx_iconst C (v := 1) (gDec_at D_X9_isHalf 5 rfl) (by decide) ?_
      refine gx_goto C 14 (gDec_at D_X9_isHalf 6 rfl) (by decide) ?_
      obtain rfl := Option.some.inj hF
      exact gx_zret (b := true) C E (gDec_at D_X9_isHalf 8 rfl)
/-! LadderBench.resistance -/
def rm_X9_resistance : Room := { frames := 5, cells := 0, slots := 0, locals := 132 }
set_option maxRecDepth 20000 in
theorem ggX9_resistance_X0_findOhms : GoodIn wsX9_resistance wsX0_findOhms := goodIn_r _ [21, 22, 23, 24, 25, 26, 27, 28, 29, 10, 30, 31, 32, 8, 9, 11, 12, 33, 34, 35, 20, 36, 37, 38, 39, 40, 41, 42, 43, 44, 45, 46, 47, 48, 49, 50, 51, 52, 53, 54, 55, 56, 57, 58, 59, 60, 61, 62, 63, 64, 65, 66, 67, 68, 69, 70, 71, 72, 87, 88, 89, 90, 91, 92, 93, 94, 100, 101, 102, 103, 104, 95, 96, 97, 98, 99, 105, 106] (by decide +kernel) (by decide +kernel)
set_option maxRecDepth 20000 in
theorem gX9_resistance_X0_findOhms : GoodIn wsX9_resistance (wsV RX9 216 RX0 yX0_findOhms wsX0_findOhms) := goodIn_app (goodIn_of _ (by decide +kernel)) ggX9_resistance_X0_findOhms
set_option maxRecDepth 20000 in
theorem ggX9_resistance_X2_half : GoodIn wsX9_resistance wsX2_half := goodIn_r _ [76, 45, 46, 105, 106] (by decide +kernel) (by decide +kernel)
set_option maxRecDepth 20000 in
theorem gX9_resistance_X2_half : GoodIn wsX9_resistance (wsV RX9 224 RX2 yX2_half wsX2_half) := goodIn_app (goodIn_of _ (by decide +kernel)) ggX9_resistance_X2_half
set_option maxRecDepth 20000 in
theorem ggX9_resistance_X5_hasPart : GoodIn wsX9_resistance wsX5_hasPart := goodIn_r _ [11, 12, 100, 101, 102, 103, 104] (by decide +kernel) (by decide +kernel)
set_option maxRecDepth 20000 in
theorem gX9_resistance_X5_hasPart : GoodIn wsX9_resistance (wsV RX9 121 RX5 yX5_hasPart wsX5_hasPart) := goodIn_app (goodIn_of _ (by decide +kernel)) ggX9_resistance_X5_hasPart
set_option maxRecDepth 20000 in
theorem ggX9_resistance_X9_isHalf : GoodIn wsX9_resistance wsX9_isHalf := goodIn_r _ [16] (by decide +kernel) (by decide +kernel)
set_option maxRecDepth 20000 in
theorem gX9_resistance_X9_isHalf : GoodIn wsX9_resistance (va_wsS RX9 211 yX9_isHalf wsX9_isHalf) := goodIn_app (goodIn_of _ (by decide +kernel)) ggX9_resistance_X9_isHalf
theorem hy_X9_resistance : yX9_resistance.cls = RX9 ∧ yX9_resistance.cls ≠ "java/lang/invoke/MethodHandle" ∧ yX9_resistance.cls ≠ "java/lang/invoke/VarHandle" ∧ (parseMethodDescriptor yX9_resistance.desc).map (fun d => d.parameters.length) = some 2 := by decide +kernel
set_option maxRecDepth 100000 in
theorem D_X9_resistance : gDec cX9_resistance [(0, (.aload_n 0, 1)), (1, (.getfield 19, 3)), (4, (.getfield 84, 3)), (7, (.iload_n 1, 1)), (8, (.invokevirtual 121, 3)), (11, (.ifCond .ne 7, 3)), (14, (.ldc2_w 209, 3)), (17, (.lreturn, 1)), (18, (.iload_n 2, 1)), (19, (.invokestatic 211, 3)), (22, (.ifCond .ne 7, 3)), (25, (.ldc2_w 214, 3)), (28, (.lreturn, 1)), (29, (.aload_n 0, 1)), (30, (.getfield 53, 3)), (33, (.aload_n 0, 1)), (34, (.getfield 19, 3)), (37, (.iconst (-1), 1)), (38, (.invokevirtual 216, 3)), (41, (.aload_n 0, 1)), (42, (.getfield 53, 3)), (45, (.getfield 220, 3)), (48, (.iload_n 1, 1)), (49, (.aaload, 1)), (50, (.iload_n 2, 1)), (51, (.invokevirtual 224, 3)), (54, (.lreturn, 1))] = true := by decide +kernel
set_option maxRecDepth 100000 in
theorem in_X9_resistance_X0 : ∀ x ∈ u_ws RX0 TX0 5, x ∈ wsX9_resistance := by decide +kernel
set_option maxRecDepth 100000 in
theorem in_X9_resistance_X8 : ∀ x ∈ u_ws RX8 TX8 8, x ∈ wsX9_resistance := by decide +kernel
set_option maxRecDepth 100000 in
theorem in_X9_resistance_X9 : ∀ x ∈ u_ws RX9 TX9 10, x ∈ wsX9_resistance := by decide +kernel
theorem fl_X9_resistance_19 : gF wsX9_resistance RX9 19 9 1 := ⟨RX9, TX9, 10, rfl, by decide, in_X9_resistance_X9, by decide +kernel⟩
theorem fl_X9_resistance_84 : gF wsX9_resistance RX9 84 8 0 := ⟨RX8, TX8, 8, rfl, by decide, in_X9_resistance_X8, by decide +kernel⟩
theorem fl_X9_resistance_53 : gF wsX9_resistance RX9 53 9 7 := ⟨RX9, TX9, 10, rfl, by decide, in_X9_resistance_X9, by decide +kernel⟩
theorem fl_X9_resistance_220 : gF wsX9_resistance RX9 220 0 0 := ⟨RX0, TX0, 5, rfl, by decide, in_X9_resistance_X0, by decide +kernel⟩
theorem lc_X9_resistance_214 : Jvm.Cond.constantLong RX9 214 (-2) ∈ wsX9_resistance := by decide +kernel
theorem lc_X9_resistance_209 : Jvm.Cond.constantLong RX9 209 (-1) ∈ wsX9_resistance := by decide +kernel
def f_X9_resistance (a0 : Nat) (x1 : Int32) (x2 : Int32) (h : gHp) : Option (Int64 × gHp) := (f_X5_hasPart (a0 + 3 + 1) x1 h).bind fun v2 => if v2 = true then (f_X9_isHalf x2 h).bind fun v4 => if v4 = true then (f_X0_findOhms (a0 + 113) (a0 + 3) (-1) h).bind fun v6 => if gIn x1 11 then (f_X2_half (a0 + 113 + 6 + 2 * gN x1) x2 v6).bind fun v9 => some (v9, v6) else none else some ((-2), h) else some ((-1), h)
set_option maxRecDepth 20000 in
set_option maxHeartbeats 4000000 in
theorem m_X9_resistance (w : gWd) (h : gHp) {a0 : Nat} (A0 : is_X9 w a0) (x1 : Int32) (x2 : Int32) {o : Int64 × gHp} (hF : f_X9_resistance a0 x1 x2 h = some o) : gMet w yX9_resistance wsX9_resistance rm_X9_resistance [.ref a0, .int x1, .int x2] h (some (.long o.1)) o.2 := by
  refine gMet_of (cc := cX9_resistance) (maxL := 3) (ret := (some .long)) (fr := 5) (lo := 132) (own := RX9) [(0, .ref a0), (1, .int x1), (2, .int x2)] (by decide) rfl rfl (Nat.le_of_ble_eq_true rfl) rfl (Nat.le_refl _) (Nat.le_refl _) (fun g C E => ?_)
  rw [f_X9_resistance] at hF
  refine gx_aload_n C 0 (gDec_at D_X9_resistance 0 rfl) rfl rfl ?_
  refine gx_getr C fl_X9_resistance_19 (is_X9_sh A0) rfl (gDec_at D_X9_resistance 1 rfl) ?_
  refine gx_getr C fl_X9_resistance_84 (is_X8_sh (is_X9_now A0)) rfl (gDec_at D_X9_resistance 2 rfl) ?_
  refine gx_iload_n C 1 (gDec_at D_X9_resistance 3 rfl) rfl rfl ?_
  obtain ⟨v2, hv1, hF⟩ := gBind hF
  refine gx_callV1 C (st := []) 1 [.int x1] (m_X5_hasPart w h (is_X8_network (is_X9_now A0)) x1 hv1) gX9_resistance_X5_hasPart rfl rfl rfl hy_X5_hasPart (Nat.le_of_ble_eq_true rfl) (Nat.le_of_ble_eq_true rfl) (is_X5_sh (is_X8_network (is_X9_now A0))) rfl rfl rfl (Nat.le_of_ble_eq_true rfl) (gDec_at D_X9_resistance 4 rfl) ?_
  refine gx_ifz_ne C 18 (gDec_at D_X9_resistance 5 rfl) (by decide) (fun c => ?_) (fun c => ?_)
  · replace hF := gPos c hF
    refine gx_iload_n C 2 (gDec_at D_X9_resistance 8 rfl) rfl rfl ?_
    obtain ⟨v4, hv3, hF⟩ := gBind hF
    refine gx_callS1 C (st := []) 1 [.int x2] (m_X9_isHalf w h x2 hv3) gX9_resistance_X9_isHalf rfl rfl rfl hy_X9_isHalf (Nat.le_of_ble_eq_true rfl) (Nat.le_of_ble_eq_true rfl) rfl rfl (Nat.le_of_ble_eq_true rfl) (gDec_at D_X9_resistance 9 rfl) ?_
    refine gx_ifz_ne C 29 (gDec_at D_X9_resistance 10 rfl) (by decide) (fun c => ?_) (fun c => ?_)
    · replace hF := gPos c hF
      refine gx_aload_n C 0 (gDec_at D_X9_resistance 13 rfl) rfl rfl ?_
      refine gx_getr C fl_X9_resistance_53 (is_X9_sh A0) rfl (gDec_at D_X9_resistance 14 rfl) ?_
      refine gx_aload_n C 0 (gDec_at D_X9_resistance 15 rfl) rfl rfl ?_
      refine gx_getr C fl_X9_resistance_19 (is_X9_sh A0) rfl (gDec_at D_X9_resistance 16 rfl) ?_
      refine gx_iconst C (v := (-1)) (gDec_at D_X9_resistance 17 rfl) (by decide) ?_
      obtain ⟨v6, hv5, hF⟩ := gBind hF
      refine gx_callV0 C (st := []) 2 [.ref (a0 + 3), .int (-1)] (m_X0_findOhms w h (is_X9_circuit A0) (is_X9_now A0) (-1) hv5) gX9_resistance_X0_findOhms rfl rfl rfl hy_X0_findOhms (Nat.le_of_ble_eq_true rfl) (Nat.le_of_ble_eq_true rfl) (is_X0_sh (is_X9_circuit A0)) rfl rfl rfl (Nat.le_of_ble_eq_true rfl) (gDec_at D_X9_resistance 18 rfl) ?_
      refine gx_aload_n C 0 (gDec_at D_X9_resistance 19 rfl) rfl rfl ?_
      refine gx_getr C fl_X9_resistance_53 (is_X9_sh A0) rfl (gDec_at D_X9_resistance 20 rfl) ?_
      refine gx_getr C fl_X9_resistance_220 (is_X0_sh (is_X9_circuit A0)) rfl (gDec_at D_X9_resistance 21 rfl) ?_
      refine gx_iload_n C 1 (gDec_at D_X9_resistance 22 rfl) rfl rfl ?_
      obtain ⟨b7, hF⟩ := gGd hF
      refine gx_aaloadFr C (is_X0_ohms (is_X9_circuit A0)) b7 (gDec_at D_X9_resistance 23 rfl) ?_
      show gX w g 3 v6 _ _ (.ref (a0 + 113 + 6 + 2 * gN x1) :: [])
      refine gx_iload_n C 2 (gDec_at D_X9_resistance 24 rfl) rfl rfl ?_
      obtain ⟨v9, hv8, hF⟩ := gBind hF
      refine gx_callV1 C (st := []) 1 [.int x2] (m_X2_half w v6 (is_X0_ohms_at (is_X9_circuit A0) b7) x2 hv8) gX9_resistance_X2_half rfl rfl rfl hy_X2_half (Nat.le_of_ble_eq_true rfl) (Nat.le_of_ble_eq_true rfl) (is_X2_sh (is_X0_ohms_at (is_X9_circuit A0) b7)) rfl rfl rfl (Nat.le_of_ble_eq_true rfl) (gDec_at D_X9_resistance 25 rfl) ?_
      obtain rfl := Option.some.inj hF
      exact gx_lret C E (gDec_at D_X9_resistance 26 rfl)
    · replace hF := gNeg c hF
      refine gx_ldc2 C (v := (-2)) lc_X9_resistance_214 (gDec_at D_X9_resistance 11 rfl) ?_
      obtain rfl := Option.some.inj hF
      exact gx_lret C E (gDec_at D_X9_resistance 12 rfl)
  · replace hF := gNeg c hF
    refine gx_ldc2 C (v := (-1)) lc_X9_resistance_209 (gDec_at D_X9_resistance 6 rfl) ?_
    obtain rfl := Option.some.inj hF
    exact gx_lret C E (gDec_at D_X9_resistance 7 rfl)
/-! LadderBench.folded -/
def rm_X9_folded : Room := { frames := 5, cells := 0, slots := 0, locals := 132 }
set_option maxRecDepth 20000 in
theorem ggX9_folded_X0_findOhms : GoodIn wsX9_folded wsX0_findOhms := goodIn_r _ [23, 24, 25, 26, 27, 28, 29, 30, 31, 12, 32, 33, 34, 10, 11, 13, 14, 35, 36, 37, 22, 38, 39, 40, 41, 42, 43, 44, 45, 46, 47, 48, 49, 50, 51, 52, 53, 54, 55, 56, 57, 58, 59, 60, 61, 62, 63, 64, 65, 66, 67, 68, 69, 70, 71, 72, 73, 74, 89, 90, 91, 92, 93, 94, 95, 96, 102, 103, 104, 105, 106, 97, 98, 99, 100, 101, 107, 108] (by decide +kernel) (by decide +kernel)
set_option maxRecDepth 20000 in
theorem gX9_folded_X0_findOhms : GoodIn wsX9_folded (wsV RX9 216 RX0 yX0_findOhms wsX0_findOhms) := goodIn_app (goodIn_of _ (by decide +kernel)) ggX9_folded_X0_findOhms
set_option maxRecDepth 20000 in
theorem ggX9_folded_X2_half : GoodIn wsX9_folded wsX2_half := goodIn_r _ [78, 47, 48, 107, 108] (by decide +kernel) (by decide +kernel)
set_option maxRecDepth 20000 in
theorem gX9_folded_X2_half : GoodIn wsX9_folded (wsV RX9 224 RX2 yX2_half wsX2_half) := goodIn_app (goodIn_of _ (by decide +kernel)) ggX9_folded_X2_half
set_option maxRecDepth 20000 in
theorem ggX9_folded_X5_hasPart : GoodIn wsX9_folded wsX5_hasPart := goodIn_r _ [13, 14, 102, 103, 104, 105, 106] (by decide +kernel) (by decide +kernel)
set_option maxRecDepth 20000 in
theorem gX9_folded_X5_hasPart : GoodIn wsX9_folded (wsV RX9 121 RX5 yX5_hasPart wsX5_hasPart) := goodIn_app (goodIn_of _ (by decide +kernel)) ggX9_folded_X5_hasPart
set_option maxRecDepth 20000 in
theorem ggX9_folded_X9_isHalf : GoodIn wsX9_folded wsX9_isHalf := goodIn_r _ [18] (by decide +kernel) (by decide +kernel)
set_option maxRecDepth 20000 in
theorem gX9_folded_X9_isHalf : GoodIn wsX9_folded (va_wsS RX9 211 yX9_isHalf wsX9_isHalf) := goodIn_app (goodIn_of _ (by decide +kernel)) ggX9_folded_X9_isHalf
theorem hy_X9_folded : yX9_folded.cls = RX9 ∧ yX9_folded.cls ≠ "java/lang/invoke/MethodHandle" ∧ yX9_folded.cls ≠ "java/lang/invoke/VarHandle" ∧ (parseMethodDescriptor yX9_folded.desc).map (fun d => d.parameters.length) = some 2 := by decide +kernel
set_option maxRecDepth 100000 in
theorem D_X9_folded : gDec cX9_folded [(0, (.aload_n 0, 1)), (1, (.getfield 19, 3)), (4, (.getfield 84, 3)), (7, (.iload_n 1, 1)), (8, (.invokevirtual 121, 3)), (11, (.ifCond .ne 7, 3)), (14, (.ldc2_w 209, 3)), (17, (.lreturn, 1)), (18, (.iload_n 2, 1)), (19, (.invokestatic 211, 3)), (22, (.ifCond .ne 7, 3)), (25, (.ldc2_w 214, 3)), (28, (.lreturn, 1)), (29, (.aload_n 0, 1)), (30, (.getfield 19, 3)), (33, (.getfield 127, 3)), (36, (.iload_n 1, 1)), (37, (.baload, 1)), (38, (.ifCond .ne 7, 3)), (41, (.ldc2_w 228, 3)), (44, (.lreturn, 1)), (45, (.aload_n 0, 1)), (46, (.getfield 53, 3)), (49, (.aload_n 0, 1)), (50, (.getfield 19, 3)), (53, (.iconst (-1), 1)), (54, (.invokevirtual 216, 3)), (57, (.aload_n 0, 1)), (58, (.getfield 53, 3)), (61, (.getfield 220, 3)), (64, (.iload_n 1, 1)), (65, (.aaload, 1)), (66, (.iload_n 2, 1)), (67, (.invokevirtual 224, 3)), (70, (.lreturn, 1))] = true := by decide +kernel
set_option maxRecDepth 100000 in
theorem in_X9_folded_X0 : ∀ x ∈ u_ws RX0 TX0 5, x ∈ wsX9_folded := by decide +kernel
set_option maxRecDepth 100000 in
theorem in_X9_folded_X8 : ∀ x ∈ u_ws RX8 TX8 8, x ∈ wsX9_folded := by decide +kernel
set_option maxRecDepth 100000 in
theorem in_X9_folded_X9 : ∀ x ∈ u_ws RX9 TX9 10, x ∈ wsX9_folded := by decide +kernel
theorem fl_X9_folded_19 : gF wsX9_folded RX9 19 9 1 := ⟨RX9, TX9, 10, rfl, by decide, in_X9_folded_X9, by decide +kernel⟩
theorem fl_X9_folded_84 : gF wsX9_folded RX9 84 8 0 := ⟨RX8, TX8, 8, rfl, by decide, in_X9_folded_X8, by decide +kernel⟩
theorem fl_X9_folded_127 : gF wsX9_folded RX9 127 8 4 := ⟨RX8, TX8, 8, rfl, by decide, in_X9_folded_X8, by decide +kernel⟩
theorem fl_X9_folded_53 : gF wsX9_folded RX9 53 9 7 := ⟨RX9, TX9, 10, rfl, by decide, in_X9_folded_X9, by decide +kernel⟩
theorem fl_X9_folded_220 : gF wsX9_folded RX9 220 0 0 := ⟨RX0, TX0, 5, rfl, by decide, in_X9_folded_X0, by decide +kernel⟩
theorem lc_X9_folded_228 : Jvm.Cond.constantLong RX9 228 (-4) ∈ wsX9_folded := by decide +kernel
theorem lc_X9_folded_214 : Jvm.Cond.constantLong RX9 214 (-2) ∈ wsX9_folded := by decide +kernel
theorem lc_X9_folded_209 : Jvm.Cond.constantLong RX9 209 (-1) ∈ wsX9_folded := by decide +kernel
def f_X9_folded (a0 : Nat) (x1 : Int32) (x2 : Int32) (h : gHp) : Option (Int64 × gHp) := (f_X5_hasPart (a0 + 3 + 1) x1 h).bind fun v2 => if v2 = true then (f_X9_isHalf x2 h).bind fun v4 => if v4 = true then if gIn x1 11 then if (h.1 (a0 + 3 + 12) (gN x1)) = 0 then some ((-4), h) else (f_X0_findOhms (a0 + 113) (a0 + 3) (-1) h).bind fun v7 => if gIn x1 11 then (f_X2_half (a0 + 113 + 6 + 2 * gN x1) x2 v7).bind fun v10 => some (v10, v7) else none else none else some ((-2), h) else some ((-1), h)
set_option maxRecDepth 20000 in
set_option maxHeartbeats 4000000 in
theorem m_X9_folded (w : gWd) (h : gHp) {a0 : Nat} (A0 : is_X9 w a0) (x1 : Int32) (x2 : Int32) {o : Int64 × gHp} (hF : f_X9_folded a0 x1 x2 h = some o) : gMet w yX9_folded wsX9_folded rm_X9_folded [.ref a0, .int x1, .int x2] h (some (.long o.1)) o.2 := by
  refine gMet_of (cc := cX9_folded) (maxL := 3) (ret := (some .long)) (fr := 5) (lo := 132) (own := RX9) [(0, .ref a0), (1, .int x1), (2, .int x2)] (by decide) rfl rfl (Nat.le_of_ble_eq_true rfl) rfl (Nat.le_refl _) (Nat.le_refl _) (fun g C E => ?_)
  rw [f_X9_folded] at hF
  refine gx_aload_n C 0 (gDec_at D_X9_folded 0 rfl) rfl rfl ?_
  refine gx_getr C fl_X9_folded_19 (is_X9_sh A0) rfl (gDec_at D_X9_folded 1 rfl) ?_
  refine gx_getr C fl_X9_folded_84 (is_X8_sh (is_X9_now A0)) rfl (gDec_at D_X9_folded 2 rfl) ?_
  refine gx_iload_n C 1 (gDec_at D_X9_folded 3 rfl) rfl rfl ?_
  obtain ⟨v2, hv1, hF⟩ := gBind hF
  refine gx_callV1 C (st := []) 1 [.int x1] (m_X5_hasPart w h (is_X8_network (is_X9_now A0)) x1 hv1) gX9_folded_X5_hasPart rfl rfl rfl hy_X5_hasPart (Nat.le_of_ble_eq_true rfl) (Nat.le_of_ble_eq_true rfl) (is_X5_sh (is_X8_network (is_X9_now A0))) rfl rfl rfl (Nat.le_of_ble_eq_true rfl) (gDec_at D_X9_folded 4 rfl) ?_
  refine gx_ifz_ne C 18 (gDec_at D_X9_folded 5 rfl) (by decide) (fun c => ?_) (fun c => ?_)
  · replace hF := gPos c hF
    refine gx_iload_n C 2 (gDec_at D_X9_folded 8 rfl) rfl rfl ?_
    obtain ⟨v4, hv3, hF⟩ := gBind hF
    refine gx_callS1 C (st := []) 1 [.int x2] (m_X9_isHalf w h x2 hv3) gX9_folded_X9_isHalf rfl rfl rfl hy_X9_isHalf (Nat.le_of_ble_eq_true rfl) (Nat.le_of_ble_eq_true rfl) rfl rfl (Nat.le_of_ble_eq_true rfl) (gDec_at D_X9_folded 9 rfl) ?_
    refine gx_ifz_ne C 29 (gDec_at D_X9_folded 10 rfl) (by decide) (fun c => ?_) (fun c => ?_)
    · replace hF := gPos c hF
      refine gx_aload_n C 0 (gDec_at D_X9_folded 13 rfl) rfl rfl ?_
      refine gx_getr C fl_X9_folded_19 (is_X9_sh A0) rfl (gDec_at D_X9_folded 14 rfl) ?_
      refine gx_getr C fl_X9_folded_127 (is_X8_sh (is_X9_now A0)) rfl (gDec_at D_X9_folded 15 rfl) ?_
      refine gx_iload_n C 1 (gDec_at D_X9_folded 16 rfl) rfl rfl ?_
      obtain ⟨b5, hF⟩ := gGd hF
      refine gx_zaload C (is_X8_isFolded (is_X9_now A0)) b5 (gDec_at D_X9_folded 17 rfl) ?_
      refine gx_if_ne C 45 (gDec_at D_X9_folded 18 rfl) (by decide) (fun c => ?_) (fun c => ?_)
      · replace hF := gNeg c hF
        refine gx_aload_n C 0 (gDec_at D_X9_folded 21 rfl) rfl rfl ?_
        refine gx_getr C fl_X9_folded_53 (is_X9_sh A0) rfl (gDec_at D_X9_folded 22 rfl) ?_
        refine gx_aload_n C 0 (gDec_at D_X9_folded 23 rfl) rfl rfl ?_
        refine gx_getr C fl_X9_folded_19 (is_X9_sh A0) rfl (gDec_at D_X9_folded 24 rfl) ?_
        refine gx_iconst C (v := (-1)) (gDec_at D_X9_folded 25 rfl) (by decide) ?_
        obtain ⟨v7, hv6, hF⟩ := gBind hF
        refine gx_callV0 C (st := []) 2 [.ref (a0 + 3), .int (-1)] (m_X0_findOhms w h (is_X9_circuit A0) (is_X9_now A0) (-1) hv6) gX9_folded_X0_findOhms rfl rfl rfl hy_X0_findOhms (Nat.le_of_ble_eq_true rfl) (Nat.le_of_ble_eq_true rfl) (is_X0_sh (is_X9_circuit A0)) rfl rfl rfl (Nat.le_of_ble_eq_true rfl) (gDec_at D_X9_folded 26 rfl) ?_
        refine gx_aload_n C 0 (gDec_at D_X9_folded 27 rfl) rfl rfl ?_
        refine gx_getr C fl_X9_folded_53 (is_X9_sh A0) rfl (gDec_at D_X9_folded 28 rfl) ?_
        refine gx_getr C fl_X9_folded_220 (is_X0_sh (is_X9_circuit A0)) rfl (gDec_at D_X9_folded 29 rfl) ?_
        refine gx_iload_n C 1 (gDec_at D_X9_folded 30 rfl) rfl rfl ?_
        obtain ⟨b8, hF⟩ := gGd hF
        refine gx_aaloadFr C (is_X0_ohms (is_X9_circuit A0)) b8 (gDec_at D_X9_folded 31 rfl) ?_
        show gX w g 3 v7 _ _ (.ref (a0 + 113 + 6 + 2 * gN x1) :: [])
        refine gx_iload_n C 2 (gDec_at D_X9_folded 32 rfl) rfl rfl ?_
        obtain ⟨v10, hv9, hF⟩ := gBind hF
        refine gx_callV1 C (st := []) 1 [.int x2] (m_X2_half w v7 (is_X0_ohms_at (is_X9_circuit A0) b8) x2 hv9) gX9_folded_X2_half rfl rfl rfl hy_X2_half (Nat.le_of_ble_eq_true rfl) (Nat.le_of_ble_eq_true rfl) (is_X2_sh (is_X0_ohms_at (is_X9_circuit A0) b8)) rfl rfl rfl (Nat.le_of_ble_eq_true rfl) (gDec_at D_X9_folded 33 rfl) ?_
        obtain rfl := Option.some.inj hF
        exact gx_lret C E (gDec_at D_X9_folded 34 rfl)
      · replace hF := gPos c hF
        refine gx_ldc2 C (v := (-4)) lc_X9_folded_228 (gDec_at D_X9_folded 19 rfl) ?_
        obtain rfl := Option.some.inj hF
        exact gx_lret C E (gDec_at D_X9_folded 20 rfl)
    · replace hF := gNeg c hF
      refine gx_ldc2 C (v := (-2)) lc_X9_folded_214 (gDec_at D_X9_folded 11 rfl) ?_
      obtain rfl := Option.some.inj hF
      exact gx_lret C E (gDec_at D_X9_folded 12 rfl)
  · replace hF := gNeg c hF
    refine gx_ldc2 C (v := (-1)) lc_X9_folded_209 (gDec_at D_X9_folded 6 rfl) ?_
    obtain rfl := Option.some.inj hF
    exact gx_lret C E (gDec_at D_X9_folded 7 rfl)
