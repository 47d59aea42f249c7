/-! LadderBench$State.copy -/
def rm_X8_copy : Room := { frames := 1, cells := 0, slots := 0, locals := 22 }
set_option maxRecDepth 20000 in
theorem ggX8_copy_X5_copy : GoodIn wsX8_copy wsX5_copy := goodIn_r _ [13, 14, 15, 16, 17, 18, 36, 37, 38, 39, 40] (by decide +kernel) (by decide +kernel)
set_option maxRecDepth 20000 in
theorem gX8_copy_X5_copy : GoodIn wsX8_copy (wsV RX8 46 RX5 yX5_copy wsX5_copy) := goodIn_app (goodIn_of _ (by decide +kernel)) ggX8_copy_X5_copy
set_option maxRecDepth 20000 in
theorem ggX8_copy_X7_copy : GoodIn wsX8_copy wsX7_copy := goodIn_r _ [23, 24, 25, 26, 27, 41, 42, 43, 44] (by decide +kernel) (by decide +kernel)
set_option maxRecDepth 20000 in
theorem gX8_copy_X7_copy : GoodIn wsX8_copy (wsV RX8 50 RX7 yX7_copy wsX7_copy) := goodIn_app (goodIn_of _ (by decide +kernel)) ggX8_copy_X7_copy
theorem hy_X8_copy : yX8_copy.cls = RX8 ∧ yX8_copy.cls ≠ "java/lang/invoke/MethodHandle" ∧ yX8_copy.cls ≠ "java/lang/invoke/VarHandle" ∧ (parseMethodDescriptor yX8_copy.desc).map (fun d => d.parameters.length) = some 1 := by decide +kernel
set_option maxRecDepth 100000 in
theorem D_X8_copy : gDec cX8_copy [(0, (.aload_n 0, 1)), (1, (.getfield 12, 3)), (4, (.aload_n 1, 1)), (5, (.getfield 12, 3)), (8, (.invokevirtual 46, 3)), (11, (.aload_n 0, 1)), (12, (.getfield 21, 3)), (15, (.aload_n 1, 1)), (16, (.getfield 21, 3)), (19, (.invokevirtual 50, 3)), (22, (.iconst 0, 1)), (23, (.istore_n 2, 1)), (24, (.iload_n 2, 1)), (25, (.bipush 6, 2)), (27, (.if_icmp .ge 33, 3)), (30, (.aload_n 0, 1)), (31, (.getfield 25, 3)), (34, (.iload_n 2, 1)), (35, (.aload_n 1, 1)), (36, (.getfield 25, 3)), (39, (.iload_n 2, 1)), (40, (.iaload, 1)), (41, (.iastore, 1)), (42, (.aload_n 0, 1)), (43, (.getfield 29, 3)), (46, (.iload_n 2, 1)), (47, (.aload_n 1, 1)), (48, (.getfield 29, 3)), (51, (.iload_n 2, 1)), (52, (.iaload, 1)), (53, (.iastore, 1)), (54, (.iinc 2 1, 3)), (57, (.goto (-33), 3)), (60, (.iconst 0, 1)), (61, (.istore_n 2, 1)), (62, (.iload_n 2, 1)), (63, (.bipush 11, 2)), (65, (.if_icmp .ge 21, 3)), (68, (.aload_n 0, 1)), (69, (.getfield 32, 3)), (72, (.iload_n 2, 1)), (73, (.aload_n 1, 1)), (74, (.getfield 32, 3)), (77, (.iload_n 2, 1)), (78, (.baload, 1)), (79, (.bastore, 1)), (80, (.iinc 2 1, 3)), (83, (.goto (-21), 3)), (86, (.aload_n 0, 1)), (87, (.aload_n 1, 1)), (88, (.getfield 36, 3)), (91, (.putfield 36, 3)), (94, (.aload_n 0, 1)), (95, (.aload_n 1, 1)), (96, (.getfield 40, 3)), (99, (.putfield 40, 3)), (102, (.aload_n 0, 1)), (103, (.aload_n 1, 1)), (104, (.getfield 43, 3)), (107, (.putfield 43, 3)), (110, (.return_, 1))] = true := by decide +kernel
set_option maxRecDepth 100000 in
theorem in_X8_copy_X8 : ∀ x ∈ u_ws RX8 TX8 8, x ∈ wsX8_copy := by decide +kernel
theorem fl_X8_copy_12 : gF wsX8_copy RX8 12 8 0 := ⟨RX8, TX8, 8, rfl, by decide, in_X8_copy_X8, by decide +kernel⟩
theorem fl_X8_copy_21 : gF wsX8_copy RX8 21 8 1 := ⟨RX8, TX8, 8, rfl, by decide, in_X8_copy_X8, by decide +kernel⟩
theorem fl_X8_copy_25 : gF wsX8_copy RX8 25 8 2 := ⟨RX8, TX8, 8, rfl, by decide, in_X8_copy_X8, by decide +kernel⟩
theorem fl_X8_copy_29 : gF wsX8_copy RX8 29 8 3 := ⟨RX8, TX8, 8, rfl, by decide, in_X8_copy_X8, by decide +kernel⟩
theorem fl_X8_copy_32 : gF wsX8_copy RX8 32 8 4 := ⟨RX8, TX8, 8, rfl, by decide, in_X8_copy_X8, by decide +kernel⟩
theorem fl_X8_copy_36 : gF wsX8_copy RX8 36 8 5 := ⟨RX8, TX8, 8, rfl, by decide, in_X8_copy_X8, by decide +kernel⟩
theorem flw_X8_copy_36 : gFw wsX8_copy RX8 36 8 5 .int := ⟨RX8, TX8, 8, tyX8, rfl, by decide, in_X8_copy_X8, by decide +kernel, tyX8_ok, nmX8, rfl, by decide +kernel⟩
theorem fl_X8_copy_40 : gF wsX8_copy RX8 40 8 6 := ⟨RX8, TX8, 8, rfl, by decide, in_X8_copy_X8, by decide +kernel⟩
theorem flw_X8_copy_40 : gFw wsX8_copy RX8 40 8 6 .int := ⟨RX8, TX8, 8, tyX8, rfl, by decide, in_X8_copy_X8, by decide +kernel, tyX8_ok, nmX8, rfl, by decide +kernel⟩
theorem fl_X8_copy_43 : gF wsX8_copy RX8 43 8 7 := ⟨RX8, TX8, 8, rfl, by decide, in_X8_copy_X8, by decide +kernel⟩
theorem flw_X8_copy_43 : gFw wsX8_copy RX8 43 8 7 .int := ⟨RX8, TX8, 8, tyX8, rfl, by decide, in_X8_copy_X8, by decide +kernel, tyX8_ok, nmX8, rfl, by decide +kernel⟩
def f_X8_copy_24 (a0 : Nat) (a1 : Nat) : Nat → Int32 → gHp → Option (gHp)
  | 0, _, _ => none
  | n + 1, x2, h => if 6 ≤ x2 then some h else if gIn x2 6 then if gIn x2 6 then if gIn x2 6 then if gIn x2 6 then f_X8_copy_24 a0 a1 n (x2 + 1) (gsI (gsI h (a0 + 10) (gN x2) (h.1 (a1 + 10) (gN x2))) (a0 + 11) (gN x2) ((gsI h (a0 + 10) (gN x2) (h.1 (a1 + 10) (gN x2))).1 (a1 + 11) (gN x2))) else none else none else none else none
set_option maxRecDepth 20000 in
set_option maxHeartbeats 4000000 in
theorem w_X8_copy_24 {w : gWd} {g : gCx} (C : gC w g cX8_copy wsX8_copy RX8 3 1 22) {a0 : Nat} (A0 : is_X8 w a0) {a1 : Nat} (A1 : is_X8 w a1)  {o : gHp} (hk : gX w g 3 o 60 [(0, .ref a0), (1, .ref a1)] []) : ∀ (n : Nat) (x2 : Int32) (h : gHp), f_X8_copy_24 a0 a1 n x2 h = some o → gX w g 3 h 24 [(0, .ref a0), (1, .ref a1), (2, .int x2)] [] := by
  intro n
  induction n with
  | zero => intro _ _ hF; cases hF
  | succ n ih =>
    intro x2 h hF
    rw [f_X8_copy_24] at hF
    refine gx_iload_n C 2 (gDec_at D_X8_copy 12 rfl) rfl rfl ?_
    refine gx_bipush C (v := 6) (gDec_at D_X8_copy 13 rfl) (by decide) ?_
    refine gx_icmp_ge C 60 (gDec_at D_X8_copy 14 rfl) (by decide) (fun c => ?_) (fun c => ?_)
    · replace hF := gPos c hF
      obtain rfl := Option.some.inj hF
      exact gx_sub [0, 1] rfl hk
    · replace hF := gNeg c hF
      refine gx_aload_n C 0 (gDec_at D_X8_copy 15 rfl) rfl rfl ?_
      refine gx_getr C fl_X8_copy_25 (is_X8_sh A0) rfl (gDec_at D_X8_copy 16 rfl) ?_
      refine gx_iload_n C 2 (gDec_at D_X8_copy 17 rfl) rfl rfl ?_
      refine gx_aload_n C 1 (gDec_at D_X8_copy 18 rfl) rfl rfl ?_
      refine gx_getr C fl_X8_copy_25 (is_X8_sh A1) rfl (gDec_at D_X8_copy 19 rfl) ?_
      refine gx_iload_n C 2 (gDec_at D_X8_copy 20 rfl) rfl rfl ?_
      obtain ⟨b5, hF⟩ := gGd hF
      refine gx_iaload C (is_X8_armValue A1) b5 (gDec_at D_X8_copy 21 rfl) ?_
      obtain ⟨b6, hF⟩ := gGd hF
      refine gx_iastore C (is_X8_armValue A0) b6 (gDec_at D_X8_copy 22 rfl) ?_
      refine gx_aload_n C 0 (gDec_at D_X8_copy 23 rfl) rfl rfl ?_
      refine gx_getr C fl_X8_copy_29 (is_X8_sh A0) rfl (gDec_at D_X8_copy 24 rfl) ?_
      refine gx_iload_n C 2 (gDec_at D_X8_copy 25 rfl) rfl rfl ?_
      refine gx_aload_n C 1 (gDec_at D_X8_copy 26 rfl) rfl rfl ?_
      refine gx_getr C fl_X8_copy_29 (is_X8_sh A1) rfl (gDec_at D_X8_copy 27 rfl) ?_
      refine gx_iload_n C 2 (gDec_at D_X8_copy 28 rfl) rfl rfl ?_
      obtain ⟨b7, hF⟩ := gGd hF
      refine gx_iaload C (is_X8_armState A1) b7 (gDec_at D_X8_copy 29 rfl) ?_
      obtain ⟨b8, hF⟩ := gGd hF
      refine gx_iastore C (is_X8_armState A0) b8 (gDec_at D_X8_copy 30 rfl) ?_
      refine gx_iinc C (j := 2) (v := x2 + 1) (lv' := [(2, .int (x2 + 1)), (0, .ref a0), (1, .ref a1)]) (gDec_at D_X8_copy 31 rfl) rfl (by rfl) (Nat.le_of_ble_eq_true rfl) rfl ?_
      refine gx_goto C 24 (gDec_at D_X8_copy 32 rfl) (by decide) ?_
      exact gx_sub [1, 2, 0] rfl (ih (x2 + 1) (gsI (gsI h (a0 + 10) (gN x2) (h.1 (a1 + 10) (gN x2))) (a0 + 11) (gN x2) ((gsI h (a0 + 10) (gN x2) (h.1 (a1 + 10) (gN x2))).1 (a1 + 11) (gN x2))) hF)
def f_X8_copy_62 (a0 : Nat) (a1 : Nat) : Nat → Int32 → gHp → Option (gHp)
  | 0, _, _ => none
  | n + 1, x2, h => if 11 ≤ x2 then some h else if gIn x2 11 then if gIn x2 11 then f_X8_copy_62 a0 a1 n (x2 + 1) (gsI h (a0 + 12) (gN x2) (vp_nar .boolean (h.1 (a1 + 12) (gN x2)))) else none else none
set_option maxRecDepth 20000 in
set_option maxHeartbeats 4000000 in
theorem w_X8_copy_62 {w : gWd} {g : gCx} (C : gC w g cX8_copy wsX8_copy RX8 3 1 22) {a0 : Nat} (A0 : is_X8 w a0) {a1 : Nat} (A1 : is_X8 w a1)  {o : gHp} (hk : gX w g 3 o 86 [(0, .ref a0), (1, .ref a1)] []) : ∀ (n : Nat) (x2 : Int32) (h : gHp), f_X8_copy_62 a0 a1 n x2 h = some o → gX w g 3 h 62 [(0, .ref a0), (1, .ref a1), (2, .int x2)] [] := by
  intro n
  induction n with
  | zero => intro _ _ hF; cases hF
  | succ n ih =>
    intro x2 h hF
    rw [f_X8_copy_62] at hF
    refine gx_iload_n C 2 (gDec_at D_X8_copy 35 rfl) rfl rfl ?_
    refine gx_bipush C (v := 11) (gDec_at D_X8_copy 36 rfl) (by decide) ?_
    refine gx_icmp_ge C 86 (gDec_at D_X8_copy 37 rfl) (by decide) (fun c => ?_) (fun c => ?_)
    · replace hF := gPos c hF
      obtain rfl := Option.some.inj hF
      exact gx_sub [0, 1] rfl hk
    · replace hF := gNeg c hF
      refine gx_aload_n C 0 (gDec_at D_X8_copy 38 rfl) rfl rfl ?_
      refine gx_getr C fl_X8_copy_32 (is_X8_sh A0) rfl (gDec_at D_X8_copy 39 rfl) ?_
      refine gx_iload_n C 2 (gDec_at D_X8_copy 40 rfl) rfl rfl ?_
      refine gx_aload_n C 1 (gDec_at D_X8_copy 41 rfl) rfl rfl ?_
      refine gx_getr C fl_X8_copy_32 (is_X8_sh A1) rfl (gDec_at D_X8_copy 42 rfl) ?_
      refine gx_iload_n C 2 (gDec_at D_X8_copy 43 rfl) rfl rfl ?_
      obtain ⟨b12, hF⟩ := gGd hF
      refine gx_zaload C (is_X8_isFolded A1) b12 (gDec_at D_X8_copy 44 rfl) ?_
      obtain ⟨b13, hF⟩ := gGd hF
      refine gx_zastore C (is_X8_isFolded A0) b13 (gDec_at D_X8_copy 45 rfl) ?_
      refine gx_iinc C (j := 2) (v := x2 + 1) (lv' := [(2, .int (x2 + 1)), (0, .ref a0), (1, .ref a1)]) (gDec_at D_X8_copy 46 rfl) rfl (by rfl) (Nat.le_of_ble_eq_true rfl) rfl ?_
      refine gx_goto C 62 (gDec_at D_X8_copy 47 rfl) (by decide) ?_
      exact gx_sub [1, 2, 0] rfl (ih (x2 + 1) (gsI h (a0 + 12) (gN x2) (vp_nar .boolean (h.1 (a1 + 12) (gN x2)))) hF)
def f_X8_copy (a0 : Nat) (a1 : Nat) (h : gHp) : Option (gHp) := (f_X5_copy (a0 + 1) (a1 + 1) h).bind fun v2 => (f_X7_copy (a0 + 6) (a1 + 6) v2).bind fun v4 => (f_X8_copy_24 a0 a1 gFuel 0 v4).bind fun v9 => (f_X8_copy_62 a0 a1 gFuel 0 v9).bind fun v14 => some (gsI (gsI (gsI v14 a0 5 (v14.1 a1 5)) a0 6 ((gsI v14 a0 5 (v14.1 a1 5)).1 a1 6)) a0 7 ((gsI (gsI v14 a0 5 (v14.1 a1 5)) a0 6 ((gsI v14 a0 5 (v14.1 a1 5)).1 a1 6)).1 a1 7))
set_option maxRecDepth 20000 in
set_option maxHeartbeats 4000000 in
theorem m_X8_copy (w : gWd) (h : gHp) {a0 : Nat} (A0 : is_X8 w a0) {a1 : Nat} (A1 : is_X8 w a1) {o : gHp} (hF : f_X8_copy a0 a1 h = some o) : gMet w yX8_copy wsX8_copy rm_X8_copy [.ref a0, .ref a1] h (none) o := by
  refine gMet_of (cc := cX8_copy) (maxL := 3) (ret := none) (fr := 1) (lo := 22) (own := RX8) [(0, .ref a0), (1, .ref a1)] (by decide) rfl rfl (Nat.le_of_ble_eq_true rfl) rfl (Nat.le_refl _) (Nat.le_refl _) (fun g C E => ?_)
  rw [f_X8_copy] at hF
  refine gx_aload_n C 0 (gDec_at D_X8_copy 0 rfl) rfl rfl ?_
  refine gx_getr C fl_X8_copy_12 (is_X8_sh A0) rfl (gDec_at D_X8_copy 1 rfl) ?_
  refine gx_aload_n C 1 (gDec_at D_X8_copy 2 rfl) rfl rfl ?_
  refine gx_getr C fl_X8_copy_12 (is_X8_sh A1) rfl (gDec_at D_X8_copy 3 rfl) ?_
  obtain ⟨v2, hv1, hF⟩ := gBind hF
  refine gx_callV0 C (st := []) 1 [.ref (a1 + 1)] (m_X5_copy w h (is_X8_network A0) (is_X8_network A1) hv1) gX8_copy_X5_copy rfl rfl rfl hy_X5_copy (Nat.le_of_ble_eq_true rfl) (Nat.le_of_ble_eq_true rfl) (is_X5_sh (is_X8_network A0)) rfl rfl rfl (Nat.le_of_ble_eq_true rfl) (gDec_at D_X8_copy 4 rfl) ?_
  refine gx_aload_n C 0 (gDec_at D_X8_copy 5 rfl) rfl rfl ?_
  refine gx_getr C fl_X8_copy_21 (is_X8_sh A0) rfl (gDec_at D_X8_copy 6 rfl) ?_
  refine gx_aload_n C 1 (gDec_at D_X8_copy 7 rfl) rfl rfl ?_
  refine gx_getr C fl_X8_copy_21 (is_X8_sh A1) rfl (gDec_at D_X8_copy 8 rfl) ?_
  obtain ⟨v4, hv3, hF⟩ := gBind hF
  refine gx_callV0 C (st := []) 1 [.ref (a1 + 6)] (m_X7_copy w v2 (is_X8_notes A0) (is_X8_notes A1) hv3) gX8_copy_X7_copy rfl rfl rfl hy_X7_copy (Nat.le_of_ble_eq_true rfl) (Nat.le_of_ble_eq_true rfl) (is_X7_sh (is_X8_notes A0)) rfl rfl rfl (Nat.le_of_ble_eq_true rfl) (gDec_at D_X8_copy 9 rfl) ?_
  refine gx_iconst C (v := 0) (gDec_at D_X8_copy 10 rfl) (by decide) ?_
  refine gx_istore_n C (lv' := [(2, .int 0), (0, .ref a0), (1, .ref a1)]) (gDec_at D_X8_copy 11 rfl) rfl (Nat.le_of_ble_eq_true rfl) rfl ?_
  obtain ⟨v9, hv10, hF⟩ := gBind hF
  have k11 : gX w g 3 v9 60 [(0, .ref a0), (1, .ref a1)] [] := by
    refine gx_iconst C (v := 0) (gDec_at D_X8_copy 33 rfl) (by decide) ?_
    refine gx_istore_n C (lv' := [(2, .int 0), (0, .ref a0), (1, .ref a1)]) (gDec_at D_X8_copy 34 rfl) rfl (Nat.le_of_ble_eq_true rfl) rfl ?_
    obtain ⟨v14, hv15, hF⟩ := gBind hF
    have k16 : gX w g 3 v14 86 [(0, .ref a0), (1, .ref a1)] [] := by
      refine gx_aload_n C 0 (gDec_at D_X8_copy 48 rfl) rfl rfl ?_
      refine gx_aload_n C 1 (gDec_at D_X8_copy 49 rfl) rfl rfl ?_
      refine gx_geti C fl_X8_copy_36 (is_X8_sh A1) rfl (gDec_at D_X8_copy 50 rfl) ?_
      refine gx_putI C flw_X8_copy_36 (is_X8_sh A0) rfl rfl rfl (gDec_at D_X8_copy 51 rfl) ?_
      refine gx_aload_n C 0 (gDec_at D_X8_copy 52 rfl) rfl rfl ?_
      refine gx_aload_n C 1 (gDec_at D_X8_copy 53 rfl) rfl rfl ?_
      refine gx_geti C fl_X8_copy_40 (is_X8_sh A1) rfl (gDec_at D_X8_copy 54 rfl) ?_
      refine gx_putI C flw_X8_copy_40 (is_X8_sh A0) rfl rfl rfl (gDec_at D_X8_copy 55 rfl) ?_
      refine gx_aload_n C 0 (gDec_at D_X8_copy 56 rfl) rfl rfl ?_
      refine gx_aload_n C 1 (gDec_at D_X8_copy 57 rfl) rfl rfl ?_
      refine gx_geti C fl_X8_copy_43 (is_X8_sh A1) rfl (gDec_at D_X8_copy 58 rfl) ?_
      refine gx_putI C flw_X8_copy_43 (is_X8_sh A0) rfl rfl rfl (gDec_at D_X8_copy 59 rfl) ?_
      obtain rfl := Option.some.inj hF
      exact gx_vret C E (gDec_at D_X8_copy 60 rfl)
    exact gx_sub [1, 2, 0] rfl (w_X8_copy_62 C A0 A1 k16 gFuel 0 v9 hv15)
  exact gx_sub [1, 2, 0] rfl (w_X8_copy_24 C A0 A1 k11 gFuel 0 v4 hv10)
/-! LadderBench$History.record -/
def rm_X3_record : Room := { frames := 2, cells := 0, slots := 0, locals := 44 }
set_option maxRecDepth 20000 in
theorem ggX3_record_X8_copy : GoodIn wsX3_record wsX8_copy := goodIn_r _ [8, 9, 10, 11, 12, 13, 14, 15, 16, 17, 18, 19, 20, 21, 22, 23, 24, 25, 26, 27, 28, 29, 30, 31, 32, 33, 34, 35, 39, 40, 41, 42, 43, 44, 45, 46, 47, 48, 49, 50, 51, 52, 53, 54, 55] (by decide +kernel) (by decide +kernel)
set_option maxRecDepth 20000 in
theorem gX3_record_X8_copy : GoodIn wsX3_record (wsV RX3 25 RX8 yX8_copy wsX8_copy) := goodIn_app (goodIn_of _ (by decide +kernel)) ggX3_record_X8_copy
theorem hy_X3_record : yX3_record.cls = RX3 ∧ yX3_record.cls ≠ "java/lang/invoke/MethodHandle" ∧ yX3_record.cls ≠ "java/lang/invoke/VarHandle" ∧ (parseMethodDescriptor yX3_record.desc).map (fun d => d.parameters.length) = some 1 := by decide +kernel
set_option maxRecDepth 100000 in
theorem D_X3_record : gDec cX3_record [(0, (.aload_n 0, 1)), (1, (.getfield 21, 3)), (4, (.iconst 5, 1)), (5, (.if_icmp .ge 16, 3)), (8, (.aload_n 0, 1)), (9, (.dup, 1)), (10, (.getfield 21, 3)), (13, (.iconst 1, 1)), (14, (.iadd, 1)), (15, (.putfield 21, 3)), (18, (.goto 15, 3)), (21, (.aload_n 0, 1)), (22, (.aload_n 0, 1)), (23, (.getfield 17, 3)), (26, (.iconst 1, 1)), (27, (.iadd, 1)), (28, (.iconst 5, 1)), (29, (.irem, 1)), (30, (.putfield 17, 3)), (33, (.aload_n 0, 1)), (34, (.getfield 11, 3)), (37, (.aload_n 0, 1)), (38, (.getfield 17, 3)), (41, (.aload_n 0, 1)), (42, (.getfield 21, 3)), (45, (.iadd, 1)), (46, (.iconst 1, 1)), (47, (.isub, 1)), (48, (.iconst 5, 1)), (49, (.irem, 1)), (50, (.aaload, 1)), (51, (.aload_n 1, 1)), (52, (.invokevirtual 25, 3)), (55, (.return_, 1))] = true := by decide +kernel
set_option maxRecDepth 100000 in
theorem in_X3_record_X3 : ∀ x ∈ u_ws RX3 TX3 3, x ∈ wsX3_record := by decide +kernel
theorem fl_X3_record_21 : gF wsX3_record RX3 21 3 2 := ⟨RX3, TX3, 3, rfl, by decide, in_X3_record_X3, by decide +kernel⟩
theorem fl_X3_record_11 : gF wsX3_record RX3 11 3 0 := ⟨RX3, TX3, 3, rfl, by decide, in_X3_record_X3, by decide +kernel⟩
theorem fl_X3_record_17 : gF wsX3_record RX3 17 3 1 := ⟨RX3, TX3, 3, rfl, by decide, in_X3_record_X3, by decide +kernel⟩
theorem flw_X3_record_17 : gFw wsX3_record RX3 17 3 1 .int := ⟨RX3, TX3, 3, tyX3, rfl, by decide, in_X3_record_X3, by decide +kernel, tyX3_ok, nmX3, rfl, by decide +kernel⟩
theorem flw_X3_record_21 : gFw wsX3_record RX3 21 3 2 .int := ⟨RX3, TX3, 3, tyX3, rfl, by decide, in_X3_record_X3, by decide +kernel, tyX3_ok, nmX3, rfl, by decide +kernel⟩
def f_X3_record (a0 : Nat) (a1 : Nat) (h : gHp) : Option (gHp) := (if 5 ≤ (h.1 a0 2) then some (gsI h a0 1 (((h.1 a0 1) + 1) - ((h.1 a0 1) + 1) / 5 * 5)) else some (gsI h a0 2 ((h.1 a0 2) + 1)) : Option (gHp)).bind fun v1 => if gIn ((((v1.1 a0 1) + (v1.1 a0 2)) - 1) - (((v1.1 a0 1) + (v1.1 a0 2)) - 1) / 5 * 5) 5 then (f_X8_copy (a0 + 2 + 13 * gN ((((v1.1 a0 1) + (v1.1 a0 2)) - 1) - (((v1.1 a0 1) + (v1.1 a0 2)) - 1) / 5 * 5)) a1 v1).bind fun v6 => some v6 else none
set_option maxRecDepth 20000 in
set_option maxHeartbeats 4000000 in
theorem m_X3_record (w : gWd) (h : gHp) {a0 : Nat} (A0 : is_X3 w a0) {a1 : Nat} (A1 : is_X8 w a1) {o : gHp} (hF : f_X3_record a0 a1 h = some o) : gMet w yX3_record wsX3_record rm_X3_record [.ref a0, .ref a1] h (none) o := by
  refine gMet_of (cc := cX3_record) (maxL := 2) (ret := none) (fr := 2) (lo := 44) (own := RX3) [(0, .ref a0), (1, .ref a1)] (by decide) rfl rfl (Nat.le_of_ble_eq_true rfl) rfl (Nat.le_refl _) (Nat.le_refl _) (fun g C E => ?_)
  rw [f_X3_record] at hF
  refine gx_aload_n C 0 (gDec_at D_X3_record 0 rfl) rfl rfl ?_
  refine gx_geti C fl_X3_record_21 (is_X3_sh A0) rfl (gDec_at D_X3_record 1 rfl) ?_
  refine gx_iconst C (v := 5) (gDec_at D_X3_record 2 rfl) (by decide) ?_
  obtain ⟨v1, hv2, hF⟩ := gBind hF
  have k3 : gX w g 2 v1 33 [(0, .ref a0), (1, .ref a1)] ([]) := by
    refine gx_aload_n C 0 (gDec_at D_X3_record 19 rfl) rfl rfl ?_
    refine gx_getr C fl_X3_record_11 (is_X3_sh A0) rfl (gDec_at D_X3_record 20 rfl) ?_
    refine gx_aload_n C 0 (gDec_at D_X3_record 21 rfl) rfl rfl ?_
    refine gx_geti C fl_X3_record_17 (is_X3_sh A0) rfl (gDec_at D_X3_record 22 rfl) ?_
    refine gx_aload_n C 0 (gDec_at D_X3_record 23 rfl) rfl rfl ?_
    refine gx_geti C fl_X3_record_21 (is_X3_sh A0) rfl (gDec_at D_X3_record 24 rfl) ?_
    refine gx_iadd C (gDec_at D_X3_record 25 rfl) ?_
    refine gx_iconst C (v := 1) (gDec_at D_X3_record 26 rfl) (by decide) ?_
    refine gx_isub C (gDec_at D_X3_record 27 rfl) ?_
    refine gx_iconst C (v := 5) (gDec_at D_X3_record 28 rfl) (by decide) ?_
    refine gx_irem C (gDec_at D_X3_record 29 rfl) (by decide) ?_
    obtain ⟨b4, hF⟩ := gGd hF
    refine gx_aaloadSt C (is_X3_states A0) b4 (gDec_at D_X3_record 30 rfl) ?_
    show gX w g 2 v1 _ _ (.ref (a0 + 2 + 13 * gN ((((v1.1 a0 1) + (v1.1 a0 2)) - 1) - (((v1.1 a0 1) + (v1.1 a0 2)) - 1) / 5 * 5)) :: [])
    refine gx_aload_n C 1 (gDec_at D_X3_record 31 rfl) rfl rfl ?_
    obtain ⟨v6, hv5, hF⟩ := gBind hF
    refine gx_callV0 C (st := []) 1 [.ref a1] (m_X8_copy w v1 (is_X3_states_at A0 b4) A1 hv5) gX3_record_X8_copy rfl rfl rfl hy_X8_copy (Nat.le_of_ble_eq_true rfl) (Nat.le_of_ble_eq_true rfl) (is_X8_sh (is_X3_states_at A0 b4)) rfl rfl rfl (Nat.le_of_ble_eq_true rfl) (gDec_at D_X3_record 32 rfl) ?_
    obtain rfl := Option.some.inj hF
    exact gx_vret C E (gDec_at D_X3_record 33 rfl)
  replace hF := hv2
  refine gx_icmp_ge C 21 (gDec_at D_X3_record 3 rfl) (by decide) (fun c => ?_) (fun c => ?_)
  · replace hF := gPos c hF
    refine gx_aload_n C 0 (gDec_at D_X3_record 11 rfl) rfl rfl ?_
    refine gx_aload_n C 0 (gDec_at D_X3_record 12 rfl) rfl rfl ?_
    refine gx_geti C fl_X3_record_17 (is_X3_sh A0) rfl (gDec_at D_X3_record 13 rfl) ?_
    refine gx_iconst C (v := 1) (gDec_at D_X3_record 14 rfl) (by decide) ?_
    refine gx_iadd C (gDec_at D_X3_record 15 rfl) ?_
    refine gx_iconst C (v := 5) (gDec_at D_X3_record 16 rfl) (by decide) ?_
    refine gx_irem C (gDec_at D_X3_record 17 rfl) (by decide) ?_
    refine gx_putI C flw_X3_record_17 (is_X3_sh A0) rfl rfl rfl (gDec_at D_X3_record 18 rfl) ?_
    obtain rfl := Option.some.inj hF
    exact gx_sub [0, 1] rfl k3
  · replace hF := gNeg c hF
    refine gx_aload_n C 0 (gDec_at D_X3_record 4 rfl) rfl rfl ?_
    refine gx_dup C (gDec_at D_X3_record 5 rfl) rfl ?_
    refine gx_geti C fl_X3_record_21 (is_X3_sh A0) rfl (gDec_at D_X3_record 6 rfl) ?_
    refine gx_iconst C (v := 1) (gDec_at D_X3_record 7 rfl) (by decide) ?_
    refine gx_iadd C (gDec_at D_X3_record 8 rfl) ?_
    refine gx_putI C flw_X3_record_21 (is_X3_sh A0) rfl rfl rfl (gDec_at D_X3_record 9 rfl) ?_
    refine gx_goto C 33 (gDec_at D_X3_record 10 rfl) (by decide) ?_
    obtain rfl := Option.some.inj hF
    exact gx_sub [0, 1] rfl k3
/-! LadderBench$State.unfoldEach -/
def rm_X8_unfoldEach : Room := { frames := 0, cells := 0, slots := 0, locals := 0 }
theorem hy_X8_unfoldEach : yX8_unfoldEach.cls = RX8 ∧ yX8_unfoldEach.cls ≠ "java/lang/invoke/MethodHandle" ∧ yX8_unfoldEach.cls ≠ "java/lang/invoke/VarHandle" ∧ (parseMethodDescriptor yX8_unfoldEach.desc).map (fun d => d.parameters.length) = some 0 := by decide +kernel
set_option maxRecDepth 100000 in
theorem D_X8_unfoldEach : gDec cX8_unfoldEach [(0, (.iconst 0, 1)), (1, (.istore_n 1, 1)), (2, (.iload_n 1, 1)), (3, (.aload_n 0, 1)), (4, (.getfield 12, 3)), (7, (.getfield 56, 3)), (10, (.if_icmp .ge 32, 3)), (13, (.aload_n 0, 1)), (14, (.getfield 32, 3)), (17, (.iload_n 1, 1)), (18, (.aload_n 0, 1)), (19, (.getfield 12, 3)), (22, (.getfield 59, 3)), (25, (.iload_n 1, 1)), (26, (.iaload, 1)), (27, (.ifCond .ne 7, 3)), (30, (.iconst 1, 1)), (31, (.goto 4, 3)), (34, (.iconst 0, 1)), (35, (.bastore, 1)), (36, (.iinc 1 1, 3)), (39, (.goto (-37), 3)), (42, (.return_, 1))] = true := by decide +kernel
set_option maxRecDepth 100000 in
theorem in_X8_unfoldEach_X5 : ∀ x ∈ u_ws RX5 TX5 5, x ∈ wsX8_unfoldEach := by decide +kernel
set_option maxRecDepth 100000 in
theorem in_X8_unfoldEach_X8 : ∀ x ∈ u_ws RX8 TX8 8, x ∈ wsX8_unfoldEach := by decide +kernel
theorem fl_X8_unfoldEach_12 : gF wsX8_unfoldEach RX8 12 8 0 := ⟨RX8, TX8, 8, rfl, by decide, in_X8_unfoldEach_X8, by decide +kernel⟩
theorem fl_X8_unfoldEach_56 : gF wsX8_unfoldEach RX8 56 5 4 := ⟨RX5, TX5, 5, rfl, by decide, in_X8_unfoldEach_X5, by decide +kernel⟩
theorem fl_X8_unfoldEach_32 : gF wsX8_unfoldEach RX8 32 8 4 := ⟨RX8, TX8, 8, rfl, by decide, in_X8_unfoldEach_X8, by decide +kernel⟩
theorem fl_X8_unfoldEach_59 : gF wsX8_unfoldEach RX8 59 5 0 := ⟨RX5, TX5, 5, rfl, by decide, in_X8_unfoldEach_X5, by decide +kernel⟩
def f_X8_unfoldEach_2 (a0 : Nat) : Nat → Int32 → gHp → Option (gHp)
  | 0, _, _ => none
  | n + 1, x1, h => if (h.1 (a0 + 1) 4) ≤ x1 then some h else if gIn x1 11 then if (h.1 (a0 + 1 + 1) (gN x1)) = 0 then if gIn x1 11 then f_X8_unfoldEach_2 a0 n (x1 + 1) (gsI h (a0 + 12) (gN x1) (vp_nar .boolean 1)) else none else if gIn x1 11 then f_X8_unfoldEach_2 a0 n (x1 + 1) (gsI h (a0 + 12) (gN x1) (vp_nar .boolean 0)) else none else none
set_option maxRecDepth 20000 in
set_option maxHeartbeats 4000000 in
theorem w_X8_unfoldEach_2 {w : gWd} {g : gCx} (C : gC w g cX8_unfoldEach wsX8_unfoldEach RX8 2 0 0) {a0 : Nat} (A0 : is_X8 w a0)  {o : gHp} (hk : gX w g 2 o 42 [] []) : ∀ (n : Nat) (x1 : Int32) (h : gHp), f_X8_unfoldEach_2 a0 n x1 h = some o → gX w g 2 h 2 [(0, .ref a0), (1, .int x1)] [] := by
  intro n
  induction n with
  | zero => intro _ _ hF; cases hF
  | succ n ih =>
    intro x1 h hF
    rw [f_X8_unfoldEach_2] at hF
    refine gx_iload_n C 1 (gDec_at D_X8_unfoldEach 2 rfl) rfl rfl ?_
    refine gx_aload_n C 0 (gDec_at D_X8_unfoldEach 3 rfl) rfl rfl ?_
    refine gx_getr C fl_X8_unfoldEach_12 (is_X8_sh A0) rfl (gDec_at D_X8_unfoldEach 4 rfl) ?_
    refine gx_geti C fl_X8_unfoldEach_56 (is_X5_sh (is_X8_network A0)) rfl (gDec_at D_X8_unfoldEach 5 rfl) ?_
    refine gx_icmp_ge C 42 (gDec_at D_X8_unfoldEach 6 rfl) (by decide) (fun c => ?_) (fun c => ?_)
    · replace hF := gPos c hF
      obtain rfl := Option.some.inj hF
      exact gx_sub [] rfl hk
    · replace hF := gNeg c hF
      refine gx_aload_n C 0 (gDec_at D_X8_unfoldEach 7 rfl) rfl rfl ?_
      refine gx_getr C fl_X8_unfoldEach_32 (is_X8_sh A0) rfl (gDec_at D_X8_unfoldEach 8 rfl) ?_
      refine gx_iload_n C 1 (gDec_at D_X8_unfoldEach 9 rfl) rfl rfl ?_
      refine gx_aload_n C 0 (gDec_at D_X8_unfoldEach 10 rfl) rfl rfl ?_
      refine gx_getr C fl_X8_unfoldEach_12 (is_X8_sh A0) rfl (gDec_at D_X8_unfoldEach 11 rfl) ?_
      refine gx_getr C fl_X8_unfoldEach_59 (is_X5_sh (is_X8_network A0)) rfl (gDec_at D_X8_unfoldEach 12 rfl) ?_
      refine gx_iload_n C 1 (gDec_at D_X8_unfoldEach 13 rfl) rfl rfl ?_
      obtain ⟨b1, hF⟩ := gGd hF
      refine gx_iaload C (is_X5_kind (is_X8_network A0)) b1 (gDec_at D_X8_unfoldEach 14 rfl) ?_
      refine gx_if_ne C 34 (gDec_at D_X8_unfoldEach 15 rfl) (by decide) (fun c => ?_) (fun c => ?_)
      · replace hF := gNeg c hF
        refine gx_iconst C (v := 0) (gDec_at D_X8_unfoldEach 18 rfl) (by decide) ?_
        obtain ⟨b2, hF⟩ := gGd hF
        refine gx_zastore C (is_X8_isFolded A0) b2 (gDec_at D_X8_unfoldEach 19 rfl) ?_
        refine gx_iinc C (j := 1) (v := x1 + 1) (lv' := [(1, .int (x1 + 1)), (0, .ref a0)]) (gDec_at D_X8_unfoldEach 20 rfl) rfl (by rfl) (Nat.le_of_ble_eq_true rfl) rfl ?_
        refine gx_goto C 2 (gDec_at D_X8_unfoldEach 21 rfl) (by decide) ?_
        exact gx_sub [1, 0] rfl (ih (x1 + 1) (gsI h (a0 + 12) (gN x1) (vp_nar .boolean 0)) hF)
      · replace hF := gPos c hF
        refine gx_iconst C (v := 1) (gDec_at D_X8_unfoldEach 16 rfl) (by decide) ?_
        refine gx_goto C 35 (gDec_at D_X8_unfoldEach 17 rfl) (by decide) ?_
        obtain ⟨b3, hF⟩ := gGd hF
        refine gx_zastore C (is_X8_isFolded A0) b3 (gDec_at D_X8_unfoldEach 19 rfl) ?_
        refine gx_iinc C (j := 1) (v := x1 + 1) (lv' := [(1, .int (x1 + 1)), (0, .ref a0)]) (gDec_at D_X8_unfoldEach 20 rfl) rfl (by rfl) (Nat.le_of_ble_eq_true rfl) rfl ?_
        refine gx_goto C 2 (gDec_at D_X8_unfoldEach 21 rfl) (by decide) ?_
        exact gx_sub [1, 0] rfl (ih (x1 + 1) (gsI h (a0 + 12) (gN x1) (vp_nar .boolean 1)) hF)
def f_X8_unfoldEach (a0 : Nat) (h : gHp) : Option (gHp) := (f_X8_unfoldEach_2 a0 gFuel 0 h).bind fun v4 => some v4
set_option maxRecDepth 20000 in
set_option maxHeartbeats 4000000 in
theorem m_X8_unfoldEach (w : gWd) (h : gHp) {a0 : Nat} (A0 : is_X8 w a0) {o : gHp} (hF : f_X8_unfoldEach a0 h = some o) : gMet w yX8_unfoldEach wsX8_unfoldEach rm_X8_unfoldEach [.ref a0] h (none) o := by
  refine gMet_of (cc := cX8_unfoldEach) (maxL := 2) (ret := none) (fr := 0) (lo := 0) (own := RX8) [(0, .ref a0)] (by decide) rfl rfl (Nat.le_of_ble_eq_true rfl) rfl (Nat.le_refl _) (Nat.le_refl _) (fun g C E => ?_)
  rw [f_X8_unfoldEach] at hF
  refine gx_iconst C (v := 0) (gDec_at D_X8_unfoldEach 0 rfl) (by decide) ?_
  refine gx_istore_n C (lv' := [(1, .int 0), (0, .ref a0)]) (gDec_at D_X8_unfoldEach 1 rfl) rfl (Nat.le_of_ble_eq_true rfl) rfl ?_
  obtain ⟨v4, hv5, hF⟩ := gBind hF
  have k6 : gX w g 2 v4 42 [] [] := by
    obtain rfl := Option.some.inj hF
    exact gx_vret C E (gDec_at D_X8_unfoldEach 22 rfl)
  exact gx_sub [1, 0] rfl (w_X8_unfoldEach_2 C A0 k6 gFuel 0 h hv5)
/-! LadderBench$State.resetArms -/
def rm_X8_resetArms : Room := { frames := 1, cells := 0, slots := 0, locals := 21 }
set_option maxRecDepth 20000 in
theorem ggX8_resetArms_X8_unfoldEach : GoodIn wsX8_resetArms wsX8_unfoldEach := goodIn_r _ [7, 8, 9, 10, 11, 12, 13, 14, 15, 16, 17, 18, 19, 20, 21, 22, 23, 24] (by decide +kernel) (by decide +kernel)
set_option maxRecDepth 20000 in
theorem gX8_resetArms_X8_unfoldEach : GoodIn wsX8_resetArms (wsV RX8 53 RX8 yX8_unfoldEach wsX8_unfoldEach) := goodIn_app (goodIn_of _ (by decide +kernel)) ggX8_resetArms_X8_unfoldEach
theorem hy_X8_resetArms : yX8_resetArms.cls = RX8 ∧ yX8_resetArms.cls ≠ "java/lang/invoke/MethodHandle" ∧ yX8_resetArms.cls ≠ "java/lang/invoke/VarHandle" ∧ (parseMethodDescriptor yX8_resetArms.desc).map (fun d => d.parameters.length) = some 0 := by decide +kernel
set_option maxRecDepth 100000 in
theorem D_X8_resetArms : gDec cX8_resetArms [(0, (.iconst 0, 1)), (1, (.istore_n 1, 1)), (2, (.iload_n 1, 1)), (3, (.bipush 6, 2)), (5, (.if_icmp .ge 24, 3)), (8, (.aload_n 0, 1)), (9, (.getfield 25, 3)), (12, (.iload_n 1, 1)), (13, (.bipush 10, 2)), (15, (.iastore, 1)), (16, (.aload_n 0, 1)), (17, (.getfield 29, 3)), (20, (.iload_n 1, 1)), (21, (.iconst 0, 1)), (22, (.iastore, 1)), (23, (.iinc 1 1, 3)), (26, (.goto (-24), 3)), (29, (.aload_n 0, 1)), (30, (.invokevirtual 53, 3)), (33, (.return_, 1))] = true := by decide +kernel
set_option maxRecDepth 100000 in
theorem in_X8_resetArms_X8 : ∀ x ∈ u_ws RX8 TX8 8, x ∈ wsX8_resetArms := by decide +kernel
theorem fl_X8_resetArms_25 : gF wsX8_resetArms RX8 25 8 2 := ⟨RX8, TX8, 8, rfl, by decide, in_X8_resetArms_X8, by decide +kernel⟩
theorem fl_X8_resetArms_29 : gF wsX8_resetArms RX8 29 8 3 := ⟨RX8, TX8, 8, rfl, by decide, in_X8_resetArms_X8, by decide +kernel⟩
def f_X8_resetArms_2 (a0 : Nat) : Nat → Int32 → gHp → Option (gHp)
  | 0, _, _ => none
  | n + 1, x1, h => if 6 ≤ x1 then some h else if gIn x1 6 then if gIn x1 6 then f_X8_resetArms_2 a0 n (x1 + 1) (gsI (gsI h (a0 + 10) (gN x1) 10) (a0 + 11) (gN x1) 0) else none else none
set_option maxRecDepth 20000 in
set_option maxHeartbeats 4000000 in
theorem w_X8_resetArms_2 {w : gWd} {g : gCx} (C : gC w g cX8_resetArms wsX8_resetArms RX8 2 1 21) {a0 : Nat} (A0 : is_X8 w a0)  {o : gHp} (hk : gX w g 2 o 29 [(0, .ref a0)] []) : ∀ (n : Nat) (x1 : Int32) (h : gHp), f_X8_resetArms_2 a0 n x1 h = some o → gX w g 2 h 2 [(0, .ref a0), (1, .int x1)] [] := by
  intro n
  induction n with
  | zero => intro _ _ hF; cases hF
  | succ n ih =>
    intro x1 h hF
    rw [f_X8_resetArms_2] at hF
    refine gx_iload_n C 1 (gDec_at D_X8_resetArms 2 rfl) rfl rfl ?_
    refine gx_bipush C (v := 6) (gDec_at D_X8_resetArms 3 rfl) (by decide) ?_
    refine gx_icmp_ge C 29 (gDec_at D_X8_resetArms 4 rfl) (by decide) (fun c => ?_) (fun c => ?_)
    · replace hF := gPos c hF
      obtain rfl := Option.some.inj hF
      exact gx_sub [0] rfl hk
    · replace hF := gNeg c hF
      refine gx_aload_n C 0 (gDec_at D_X8_resetArms 5 rfl) rfl rfl ?_
      refine gx_getr C fl_X8_resetArms_25 (is_X8_sh A0) rfl (gDec_at D_X8_resetArms 6 rfl) ?_
      refine gx_iload_n C 1 (gDec_at D_X8_resetArms 7 rfl) rfl rfl ?_
      refine gx_bipush C (v := 10) (gDec_at D_X8_resetArms 8 rfl) (by decide) ?_
      obtain ⟨b1, hF⟩ := gGd hF
      refine gx_iastore C (is_X8_armValue A0) b1 (gDec_at D_X8_resetArms 9 rfl) ?_
      refine gx_aload_n C 0 (gDec_at D_X8_resetArms 10 rfl) rfl rfl ?_
      refine gx_getr C fl_X8_resetArms_29 (is_X8_sh A0) rfl (gDec_at D_X8_resetArms 11 rfl) ?_
      refine gx_iload_n C 1 (gDec_at D_X8_resetArms 12 rfl) rfl rfl ?_
      refine gx_iconst C (v := 0) (gDec_at D_X8_resetArms 13 rfl) (by decide) ?_
      obtain ⟨b2, hF⟩ := gGd hF
      refine gx_iastore C (is_X8_armState A0) b2 (gDec_at D_X8_resetArms 14 rfl) ?_
      refine gx_iinc C (j := 1) (v := x1 + 1) (lv' := [(1, .int (x1 + 1)), (0, .ref a0)]) (gDec_at D_X8_resetArms 15 rfl) rfl (by rfl) (Nat.le_of_ble_eq_true rfl) rfl ?_
      refine gx_goto C 2 (gDec_at D_X8_resetArms 16 rfl) (by decide) ?_
      exact gx_sub [1, 0] rfl (ih (x1 + 1) (gsI (gsI h (a0 + 10) (gN x1) 10) (a0 + 11) (gN x1) 0) hF)
def f_X8_resetArms (a0 : Nat) (h : gHp) : Option (gHp) := (f_X8_resetArms_2 a0 gFuel 0 h).bind fun v3 => (f_X8_unfoldEach a0 v3).bind fun v7 => some v7
set_option maxRecDepth 20000 in
set_option maxHeartbeats 4000000 in
theorem m_X8_resetArms (w : gWd) (h : gHp) {a0 : Nat} (A0 : is_X8 w a0) {o : gHp} (hF : f_X8_resetArms a0 h = some o) : gMet w yX8_resetArms wsX8_resetArms rm_X8_resetArms [.ref a0] h (none) o := by
  refine gMet_of (cc := cX8_resetArms) (maxL := 2) (ret := none) (fr := 1) (lo := 21) (own := RX8) [(0, .ref a0)] (by decide) rfl rfl (Nat.le_of_ble_eq_true rfl) rfl (Nat.le_refl _) (Nat.le_refl _) (fun g C E => ?_)
  rw [f_X8_resetArms] at hF
  refine gx_iconst C (v := 0) (gDec_at D_X8_resetArms 0 rfl) (by decide) ?_
  refine gx_istore_n C (lv' := [(1, .int 0), (0, .ref a0)]) (gDec_at D_X8_resetArms 1 rfl) rfl (Nat.le_of_ble_eq_true rfl) rfl ?_
  obtain ⟨v3, hv4, hF⟩ := gBind hF
  have k5 : gX w g 2 v3 29 [(0, .ref a0)] [] := by
    refine gx_aload_n C 0 (gDec_at D_X8_resetArms 17 rfl) rfl rfl ?_
    obtain ⟨v7, hv6, hF⟩ := gBind hF
    refine gx_callV0 C (st := []) 0 [] (m_X8_unfoldEach w v3 A0 hv6) gX8_resetArms_X8_unfoldEach rfl rfl rfl hy_X8_unfoldEach (Nat.le_of_ble_eq_true rfl) (Nat.le_of_ble_eq_true rfl) (is_X8_sh A0) rfl rfl rfl (Nat.le_of_ble_eq_true rfl) (gDec_at D_X8_resetArms 18 rfl) ?_
    obtain rfl := Option.some.inj hF
    exact gx_vret C E (gDec_at D_X8_resetArms 19 rfl)
  exact gx_sub [1, 0] rfl (w_X8_resetArms_2 C A0 k5 gFuel 0 h hv4)
/-! LadderBench$State.setArm -/
def rm_X8_setArm : Room := { frames := 1, cells := 0, slots := 0, locals := 21 }
set_option maxRecDepth 20000 in
theorem ggX8_setArm_X8_unfoldEach : GoodIn wsX8_setArm wsX8_unfoldEach := goodIn_r _ [7, 8, 9, 10, 11, 12, 13, 14, 15, 16, 17, 18, 19, 20, 21, 22, 23, 24] (by decide +kernel) (by decide +kernel)
set_option maxRecDepth 20000 in
theorem gX8_setArm_X8_unfoldEach : GoodIn wsX8_setArm (wsV RX8 53 RX8 yX8_unfoldEach wsX8_unfoldEach) := goodIn_app (goodIn_of _ (by decide +kernel)) ggX8_setArm_X8_unfoldEach
theorem hy_X8_setArm : yX8_setArm.cls = RX8 ∧ yX8_setArm.cls ≠ "java/lang/invoke/MethodHandle" ∧ yX8_setArm.cls ≠ "java/lang/invoke/VarHandle" ∧ (parseMethodDescriptor yX8_setArm.desc).map (fun d => d.parameters.length) = some 3 := by decide +kernel
set_option maxRecDepth 100000 in
theorem D_X8_setArm : gDec cX8_setArm [(0, (.aload_n 0, 1)), (1, (.getfield 25, 3)), (4, (.iload_n 1, 1)), (5, (.iload_n 2, 1)), (6, (.iastore, 1)), (7, (.aload_n 0, 1)), (8, (.getfield 29, 3)), (11, (.iload_n 1, 1)), (12, (.iload_n 3, 1)), (13, (.iastore, 1)), (14, (.aload_n 0, 1)), (15, (.invokevirtual 53, 3)), (18, (.return_, 1))] = true := by decide +kernel
set_option maxRecDepth 100000 in
theorem in_X8_setArm_X8 : ∀ x ∈ u_ws RX8 TX8 8, x ∈ wsX8_setArm := by decide +kernel
theorem fl_X8_setArm_25 : gF wsX8_setArm RX8 25 8 2 := ⟨RX8, TX8, 8, rfl, by decide, in_X8_setArm_X8, by decide +kernel⟩
theorem fl_X8_setArm_29 : gF wsX8_setArm RX8 29 8 3 := ⟨RX8, TX8, 8, rfl, by decide, in_X8_setArm_X8, by decide +kernel⟩
def f_X8_setArm (a0 : Nat) (x1 : Int32) (x2 : Int32) (x3 : Int32) (h : gHp) : Option (gHp) := if gIn x1 6 then if gIn x1 6 then (f_X8_unfoldEach a0 (gsI (gsI h (a0 + 10) (gN x1) x2) (a0 + 11) (gN x1) x3)).bind fun v4 => some v4 else none else none
set_option maxRecDepth 20000 in
set_option maxHeartbeats 4000000 in
theorem m_X8_setArm (w : gWd) (h : gHp) {a0 : Nat} (A0 : is_X8 w a0) (x1 : Int32) (x2 : Int32) (x3 : Int32) {o : gHp} (hF : f_X8_setArm a0 x1 x2 x3 h = some o) : gMet w yX8_setArm wsX8_setArm rm_X8_setArm [.ref a0, .int x1, .int x2, .int x3] h (none) o := by
  refine gMet_of (cc := cX8_setArm) (maxL := 4) (ret := none) (fr := 1) (lo := 21) (own := RX8) [(0, .ref a0), (1, .int x1), (2, .int x2), (3, .int x3)] (by decide) rfl rfl (Nat.le_of_ble_eq_true rfl) rfl (Nat.le_refl _) (Nat.le_refl _) (fun g C E => ?_)
  rw [f_X8_setArm] at hF
  refine gx_aload_n C 0 (gDec_at D_X8_setArm 0 rfl) rfl rfl ?_
  refine gx_getr C fl_X8_setArm_25 (is_X8_sh A0) rfl (gDec_at D_X8_setArm 1 rfl) ?_
  refine gx_iload_n C 1 (gDec_at D_X8_setArm 2 rfl) rfl rfl ?_
  refine gx_iload_n C 2 (gDec_at D_X8_setArm 3 rfl) rfl rfl ?_
  obtain ⟨b1, hF⟩ := gGd hF
  refine gx_iastore C (is_X8_armValue A0) b1 (gDec_at D_X8_setArm 4 rfl) ?_
  refine gx_aload_n C 0 (gDec_at D_X8_setArm 5 rfl) rfl rfl ?_
  refine gx_getr C fl_X8_setArm_29 (is_X8_sh A0) rfl (gDec_at D_X8_setArm 6 rfl) ?_
  refine gx_iload_n C 1 (gDec_at D_X8_setArm 7 rfl) rfl rfl ?_
  refine gx_iload_n C 3 (gDec_at D_X8_setArm 8 rfl) rfl rfl ?_
  obtain ⟨b2, hF⟩ := gGd hF
  refine gx_iastore C (is_X8_armState A0) b2 (gDec_at D_X8_setArm 9 rfl) ?_
  refine gx_aload_n C 0 (gDec_at D_X8_setArm 10 rfl) rfl rfl ?_
  obtain ⟨v4, hv3, hF⟩ := gBind hF
  refine gx_callV0 C (st := []) 0 [] (m_X8_unfoldEach w (gsI (gsI h (a0 + 10) (gN x1) x2) (a0 + 11) (gN x1) x3) A0 hv3) gX8_setArm_X8_unfoldEach rfl rfl rfl hy_X8_unfoldEach (Nat.le_of_ble_eq_true rfl) (Nat.le_of_ble_eq_true rfl) (is_X8_sh A0) rfl rfl rfl (Nat.le_of_ble_eq_true rfl) (gDec_at D_X8_setArm 11 rfl) ?_
  obtain rfl := Option.some.inj hF
  exact gx_vret C E (gDec_at D_X8_setArm 12 rfl)
/-! LadderBench$State.hasFoldedParts -/
def rm_X8_hasFoldedParts : Room := { frames := 0, cells := 0, slots := 0, locals := 0 }
theorem hy_X8_hasFoldedParts : yX8_hasFoldedParts.cls = RX8 ∧ yX8_hasFoldedParts.cls ≠ "java/lang/invoke/MethodHandle" ∧ yX8_hasFoldedParts.cls ≠ "java/lang/invoke/VarHandle" ∧ (parseMethodDescriptor yX8_hasFoldedParts.desc).map (fun d => d.parameters.length) = some 1 := by decide +kernel
set_option maxRecDepth 100000 in
theorem D_X8_hasFoldedParts : gDec cX8_hasFoldedParts [(0, (.iconst 0, 1)), (1, (.istore_n 2, 1)), (2, (.iload_n 2, 1)), (3, (.iload_n 1, 1)), (4, (.if_icmp .ge 33, 3)), (7, (.aload_n 0, 1)), (8, (.getfield 12, 3)), (11, (.getfield 66, 3)), (14, (.iload_n 2, 1)), (15, (.iaload, 1)), (16, (.iload_n 1, 1)), (17, (.if_icmp .ne 14, 3)), (20, (.aload_n 0, 1)), (21, (.getfield 32, 3)), (24, (.iload_n 2, 1)), (25, (.baload, 1)), (26, (.ifCond .ne 5, 3)), (29, (.iconst 0, 1)), (30, (.ireturn, 1)), (31, (.iinc 2 1, 3)), (34, (.goto (-32), 3)), (37, (.iconst 1, 1)), (38, (.ireturn, 1))] = true := by decide +kernel
set_option maxRecDepth 100000 in
theorem in_X8_hasFoldedParts_X5 : ∀ x ∈ u_ws RX5 TX5 5, x ∈ wsX8_hasFoldedParts := by decide +kernel
set_option maxRecDepth 100000 in
theorem in_X8_hasFoldedParts_X8 : ∀ x ∈ u_ws RX8 TX8 8, x ∈ wsX8_hasFoldedParts := by decide +kernel
theorem fl_X8_hasFoldedParts_12 : gF wsX8_hasFoldedParts RX8 12 8 0 := ⟨RX8, TX8, 8, rfl, by decide, in_X8_hasFoldedParts_X8, by decide +kernel⟩
theorem fl_X8_hasFoldedParts_66 : gF wsX8_hasFoldedParts RX8 66 5 1 := ⟨RX5, TX5, 5, rfl, by decide, in_X8_hasFoldedParts_X5, by decide +kernel⟩
theorem fl_X8_hasFoldedParts_32 : gF wsX8_hasFoldedParts RX8 32 8 4 := ⟨RX8, TX8, 8, rfl, by decide, in_X8_hasFoldedParts_X8, by decide +kernel⟩
def f_X8_hasFoldedParts_2 (a0 : Nat) (x1 : Int32) (h : gHp) : Nat → Int32 → Option (Bool)
  | 0, _ => none
  | n + 1, x2 => if x1 ≤ x2 then some true else if gIn x2 11 then if (h.1 (a0 + 1 + 2) (gN x2)) = x1 then if gIn x2 11 then if (h.1 (a0 + 12) (gN x2)) = 0 then some false else f_X8_hasFoldedParts_2 a0 x1 h n (x2 + 1) else none else f_X8_hasFoldedParts_2 a0 x1 h n (x2 + 1) else none
set_option maxRecDepth 20000 in
set_option maxHeartbeats 4000000 in
theorem w_X8_hasFoldedParts_2 {w : gWd} {g : gCx} (C : gC w g cX8_hasFoldedParts wsX8_hasFoldedParts RX8 3 0 0) {a0 : Nat} (A0 : is_X8 w a0) (x1 : Int32) (h : gHp)  {o : Bool} (E : gEn w g (some .boolean) (some (.int (gZ o))) h) : ∀ (n : Nat) (x2 : Int32), f_X8_hasFoldedParts_2 a0 x1 h n x2 = some o → gX w g 3 h 2 [(0, .ref a0), (1, .int x1), (2, .int x2)] [] := by
  intro n
  induction n with
  | zero => intro _ hF; cases hF
  | succ n ih =>
    intro x2 hF
    rw [f_X8_hasFoldedParts_2] at hF
    refine gx_iload_n C 2 (gDec_at D_X8_hasFoldedParts 2 rfl) rfl rfl ?_
    refine gx_iload_n C 1 (gDec_at D_X8_hasFoldedParts 3 rfl) rfl rfl ?_
    refine gx_icmp_ge C 37 (gDec_at D_X8_hasFoldedParts 4 rfl) (by decide) (fun c => ?_) (fun c => ?_)
    · replace hF := gPos c hF
      refine gx_iconst C (v := 1) (gDec_at D_X8_hasFoldedParts 21 rfl) (by decide) ?_
      obtain rfl := Option.some.inj hF
      exact gx_zret (b := true) C E (gDec_at D_X8_hasFoldedParts 22 rfl)
    · replace hF := gNeg c hF
      refine gx_aload_n C 0 (gDec_at D_X8_hasFoldedParts 5 rfl) rfl rfl ?_
      refine gx_getr C fl_X8_hasFoldedParts_12 (is_X8_sh A0) rfl (gDec_at D_X8_hasFoldedParts 6 rfl) ?_
      refine gx_getr C fl_X8_hasFoldedParts_66 (is_X5_sh (is_X8_network A0)) rfl (gDec_at D_X8_hasFoldedParts 7 rfl) ?_
      refine gx_iload_n C 2 (gDec_at D_X8_hasFoldedParts 8 rfl) rfl rfl ?_
      obtain ⟨b1, hF⟩ := gGd hF
      refine gx_iaload C (is_X5_around (is_X8_network A0)) b1 (gDec_at D_X8_hasFoldedParts 9 rfl) ?_
      refine gx_iload_n C 1 (gDec_at D_X8_hasFoldedParts 10 rfl) rfl rfl ?_
      refine gx_icmp_ne C 31 (gDec_at D_X8_hasFoldedParts 11 rfl) (by decide) (fun c => ?_) (fun c => ?_)
      · replace hF := gNeg c hF
        refine gx_iinc C (j := 2) (v := x2 + 1) (lv' := [(2, .int (x2 + 1)), (0, .ref a0), (1, .int x1)]) (gDec_at D_X8_hasFoldedParts 19 rfl) rfl (by rfl) (Nat.le_of_ble_eq_true rfl) rfl ?_
        refine gx_goto C 2 (gDec_at D_X8_hasFoldedParts 20 rfl) (by decide) ?_
        exact gx_sub [1, 2, 0] rfl (ih (x2 + 1) hF)
      · replace hF := gPos c hF
        refine gx_aload_n C 0 (gDec_at D_X8_hasFoldedParts 12 rfl) rfl rfl ?_
        refine gx_getr C fl_X8_hasFoldedParts_32 (is_X8_sh A0) rfl (gDec_at D_X8_hasFoldedParts 13 rfl) ?_
        refine gx_iload_n C 2 (gDec_at D_X8_hasFoldedParts 14 rfl) rfl rfl ?_
        obtain ⟨b2, hF⟩ := gGd hF
        refine gx_zaload C (is_X8_isFolded A0) b2 (gDec_at D_X8_hasFoldedParts 15 rfl) ?_
        refine gx_if_ne C 31 (gDec_at D_X8_hasFoldedParts 16 rfl) (by decide) (fun c => ?_) (fun c => ?_)
        · replace hF := gNeg c hF
          refine gx_iinc C (j := 2) (v := x2 + 1) (lv' := [(2, .int (x2 + 1)), (0, .ref a0), (1, .int x1)]) (gDec_at D_X8_hasFoldedParts 19 rfl) rfl (by rfl) (Nat.le_of_ble_eq_true rfl) rfl ?_
          refine gx_goto C 2 (gDec_at D_X8_hasFoldedParts 20 rfl) (by decide) ?_
          exact gx_sub [1, 2, 0] rfl (ih (x2 + 1) hF)
        · replace hF := gPos c hF
          refine gx_iconst C (v := 0) (gDec_at D_X8_hasFoldedParts 17 rfl) (by decide) ?_
          obtain rfl := Option.some.inj hF
          exact gx_zret (b := false) C E (gDec_at D_X8_hasFoldedParts 18 rfl)
def f_X8_hasFoldedParts (a0 : Nat) (x1 : Int32) (h : gHp) : Option (Bool) := f_X8_hasFoldedParts_2 a0 x1 h gFuel 0
set_option maxRecDepth 20000 in
set_option maxHeartbeats 4000000 in
theorem m_X8_hasFoldedParts (w : gWd) (h : gHp) {a0 : Nat} (A0 : is_X8 w a0) (x1 : Int32) {o : Bool} (hF : f_X8_hasFoldedParts a0 x1 h = some o) : gMet w yX8_hasFoldedParts wsX8_hasFoldedParts rm_X8_hasFoldedParts [.ref a0, .int x1] h (some (.int (gZ o))) h := by
  refine gMet_of (cc := cX8_hasFoldedParts) (maxL := 3) (ret := (some .boolean)) (fr := 0) (lo := 0) (own := RX8) [(0, .ref a0), (1, .int x1)] (by decide) rfl rfl (Nat.le_of_ble_eq_true rfl) rfl (Nat.le_refl _) (Nat.le_refl _) (fun g C E => ?_)
  rw [f_X8_hasFoldedParts] at hF
  refine gx_iconst C (v := 0) (gDec_at D_X8_hasFoldedParts 0 rfl) (by decide) ?_
  refine gx_istore_n C (lv' := [(2, .int 0), (0, .ref a0), (1, .int x1)]) (gDec_at D_X8_hasFoldedParts 1 rfl) rfl (Nat.le_of_ble_eq_true rfl) rfl ?_
  exact gx_sub [1, 2, 0] rfl (w_X8_hasFoldedParts_2 C A0 x1 h   E gFuel 0 hF)
/-! LadderBench$State.foldOne -/
def rm_X8_foldOne : Room := { frames := 0, cells := 0, slots := 0, locals := 0 }
theorem hy_X8_foldOne : yX8_foldOne.cls = RX8 ∧ yX8_foldOne.cls ≠ "java/lang/invoke/MethodHandle" ∧ yX8_foldOne.cls ≠ "java/lang/invoke/VarHandle" ∧ (parseMethodDescriptor yX8_foldOne.desc).map (fun d => d.parameters.length) = some 1 := by decide +kernel
set_option maxRecDepth 100000 in
theorem D_X8_foldOne : gDec cX8_foldOne [(0, (.aload_n 0, 1)), (1, (.getfield 32, 3)), (4, (.iload_n 1, 1)), (5, (.iconst 1, 1)), (6, (.bastore, 1)), (7, (.aload_n 0, 1)), (8, (.dup, 1)), (9, (.getfield 43, 3)), (12, (.iconst 1, 1)), (13, (.iadd, 1)), (14, (.putfield 43, 3)), (17, (.return_, 1))] = true := by decide +kernel
set_option maxRecDepth 100000 in
theorem in_X8_foldOne_X8 : ∀ x ∈ u_ws RX8 TX8 8, x ∈ wsX8_foldOne := by decide +kernel
theorem fl_X8_foldOne_32 : gF wsX8_foldOne RX8 32 8 4 := ⟨RX8, TX8, 8, rfl, by decide, in_X8_foldOne_X8, by decide +kernel⟩
theorem fl_X8_foldOne_43 : gF wsX8_foldOne RX8 43 8 7 := ⟨RX8, TX8, 8, rfl, by decide, in_X8_foldOne_X8, by decide +kernel⟩
theorem flw_X8_foldOne_43 : gFw wsX8_foldOne RX8 43 8 7 .int := ⟨RX8, TX8, 8, tyX8, rfl, by decide, in_X8_foldOne_X8, by decide +kernel, tyX8_ok, nmX8, rfl, by decide +kernel⟩
def f_X8_foldOne (a0 : Nat) (x1 : Int32) (h : gHp) : Option (gHp) := if gIn x1 11 then some (gsI (gsI h (a0 + 12) (gN x1) (vp_nar .boolean 1)) a0 7 (((gsI h (a0 + 12) (gN x1) (vp_nar .boolean 1)).1 a0 7) + 1)) else none
set_option maxRecDepth 20000 in
set_option maxHeartbeats 4000000 in
theorem m_X8_foldOne (w : gWd) (h : gHp) {a0 : Nat} (A0 : is_X8 w a0) (x1 : Int32) {o : gHp} (hF : f_X8_foldOne a0 x1 h = some o) : gMet w yX8_foldOne wsX8_foldOne rm_X8_foldOne [.ref a0, .int x1] h (none) o := by
  refine gMet_of (cc := cX8_foldOne) (maxL := 2) (ret := none) (fr := 0) (lo := 0) (own := RX8) [(0, .ref a0), (1, .int x1)] (by decide) rfl rfl (Nat.le_of_ble_eq_true rfl) rfl (Nat.le_refl _) (Nat.le_refl _) (fun g C E => ?_)
  rw [f_X8_foldOne] at hF
  refine gx_aload_n C 0 (gDec_at D_X8_foldOne 0 rfl) rfl rfl ?_
  refine gx_getr C fl_X8_foldOne_32 (is_X8_sh A0) rfl (gDec_at D_X8_foldOne 1 rfl) ?_
  refine gx_iload_n C 1 (gDec_at D_X8_foldOne 2 rfl) rfl rfl ?_
  refine gx_iconst C (v := 1) (gDec_at D_X8_foldOne 3 rfl) (by decide) ?_
  obtain ⟨b1, hF⟩ := gGd hF
  refine gx_zastore C (is_X8_isFolded A0) b1 (gDec_at D_X8_foldOne 4 rfl) ?_
  refine gx_aload_n C 0 (gDec_at D_X8_foldOne 5 rfl) rfl rfl ?_
  refine gx_dup C (gDec_at D_X8_foldOne 6 rfl) rfl ?_
  refine gx_geti C fl_X8_foldOne_43 (is_X8_sh A0) rfl (gDec_at D_X8_foldOne 7 rfl) ?_
  refine gx_iconst C (v := 1) (gDec_at D_X8_foldOne 8 rfl) (by decide) ?_
  refine gx_iadd C (gDec_at D_X8_foldOne 9 rfl) ?_
  refine gx_putI C flw_X8_foldOne_43 (is_X8_sh A0) rfl rfl rfl (gDec_at D_X8_foldOne 10 rfl) ?_
  obtain rfl := Option.some.inj hF
  exact gx_vret C E (gDec_at D_X8_foldOne 11 rfl)
/-! LadderBench$State.countUnfolded -/
def rm_X8_countUnfolded : Room := { frames := 0, cells := 0, slots := 0, locals := 0 }
theorem hy_X8_countUnfolded : yX8_countUnfolded.cls = RX8 ∧ yX8_countUnfolded.cls ≠ "java/lang/invoke/MethodHandle" ∧ yX8_countUnfolded.cls ≠ "java/lang/invoke/VarHandle" ∧ (parseMethodDescriptor yX8_countUnfolded.desc).map (fun d => d.parameters.length) = some 0 := by decide +kernel
set_option maxRecDepth 100000 in
theorem D_X8_countUnfolded : gDec cX8_countUnfolded [(0, (.iconst 0, 1)), (1, (.istore_n 1, 1)), (2, (.iconst 0, 1)), (3, (.istore_n 2, 1)), (4, (.iload_n 2, 1)), (5, (.aload_n 0, 1)), (6, (.getfield 12, 3)), (9, (.getfield 56, 3)), (12, (.if_icmp .ge 21, 3)), (15, (.aload_n 0, 1)), (16, (.getfield 32, 3)), (19, (.iload_n 2, 1)), (20, (.baload, 1)), (21, (.ifCond .ne 6, 3)), (24, (.iinc 1 1, 3)), (27, (.iinc 2 1, 3)), (30, (.goto (-26), 3)), (33, (.iload_n 1, 1)), (34, (.ireturn, 1))] = true := by decide +kernel
set_option maxRecDepth 100000 in
theorem in_X8_countUnfolded_X5 : ∀ x ∈ u_ws RX5 TX5 5, x ∈ wsX8_countUnfolded := by decide +kernel
set_option maxRecDepth 100000 in
theorem in_X8_countUnfolded_X8 : ∀ x ∈ u_ws RX8 TX8 8, x ∈ wsX8_countUnfolded := by decide +kernel
theorem fl_X8_countUnfolded_12 : gF wsX8_countUnfolded RX8 12 8 0 := ⟨RX8, TX8, 8, rfl, by decide, in_X8_countUnfolded_X8, by decide +kernel⟩
theorem fl_X8_countUnfolded_56 : gF wsX8_countUnfolded RX8 56 5 4 := ⟨RX5, TX5, 5, rfl, by decide, in_X8_countUnfolded_X5, by decide +kernel⟩
theorem fl_X8_countUnfolded_32 : gF wsX8_countUnfolded RX8 32 8 4 := ⟨RX8, TX8, 8, rfl, by decide, in_X8_countUnfolded_X8, by decide +kernel⟩
def f_X8_countUnfolded_4 (a0 : Nat) (h : gHp) : Nat → Int32 → Int32 → Option (Int32)
  | 0, _, _ => none
  | n + 1, x1, x2 => if (h.1 (a0 + 1) 4) ≤ x2 then some x1 else if gIn x2 11 then if (h.1 (a0 + 12) (gN x2)) = 0 then f_X8_countUnfolded_4 a0 h n (x1 + 1) (x2 + 1) else f_X8_countUnfolded_4 a0 h n x1 (x2 + 1) else none
set_option maxRecDepth 20000 in
set_option maxHeartbeats 4000000 in
theorem w_X8_countUnfolded_4 {w : gWd} {g : gCx} (C : gC w g cX8_countUnfolded wsX8_countUnfolded RX8 3 0 0) {a0 : Nat} (A0 : is_X8 w a0) (h : gHp)  {o : Int32} (hk : gX w g 3 h 33 [(1, .int o)] []) : ∀ (n : Nat) (x1 : Int32) (x2 : Int32), f_X8_countUnfolded_4 a0 h n x1 x2 = some o → gX w g 3 h 4 [(0, .ref a0), (1, .int x1), (2, .int x2)] [] := by
  intro n
  induction n with
  | zero => intro _ _ hF; cases hF
  | succ n ih =>
    intro x1 x2 hF
    rw [f_X8_countUnfolded_4] at hF
    refine gx_iload_n C 2 (gDec_at D_X8_countUnfolded 4 rfl) rfl rfl ?_
    refine gx_aload_n C 0 (gDec_at D_X8_countUnfolded 5 rfl) rfl rfl ?_
    refine gx_getr C fl_X8_countUnfolded_12 (is_X8_sh A0) rfl (gDec_at D_X8_countUnfolded 6 rfl) ?_
    refine gx_geti C fl_X8_countUnfolded_56 (is_X5_sh (is_X8_network A0)) rfl (gDec_at D_X8_countUnfolded 7 rfl) ?_
    refine gx_icmp_ge C 33 (gDec_at D_X8_countUnfolded 8 rfl) (by decide) (fun c => ?_) (fun c => ?_)
    · replace hF := gPos c hF
      obtain rfl := Option.some.inj hF
      exact gx_sub [1] rfl hk
    · replace hF := gNeg c hF
      refine gx_aload_n C 0 (gDec_at D_X8_countUnfolded 9 rfl) rfl rfl ?_
      refine gx_getr C fl_X8_countUnfolded_32 (is_X8_sh A0) rfl (gDec_at D_X8_countUnfolded 10 rfl) ?_
      refine gx_iload_n C 2 (gDec_at D_X8_countUnfolded 11 rfl) rfl rfl ?_
      obtain ⟨b1, hF⟩ := gGd hF
      refine gx_zaload C (is_X8_isFolded A0) b1 (gDec_at D_X8_countUnfolded 12 rfl) ?_
      refine gx_if_ne C 27 (gDec_at D_X8_countUnfolded 13 rfl) (by decide) (fun c => ?_) (fun c => ?_)
      · replace hF := gNeg c hF
        refine gx_iinc C (j := 2) (v := x2 + 1) (lv' := [(2, .int (x2 + 1)), (0, .ref a0), (1, .int x1)]) (gDec_at D_X8_countUnfolded 15 rfl) rfl (by rfl) (Nat.le_of_ble_eq_true rfl) rfl ?_
        refine gx_goto C 4 (gDec_at D_X8_countUnfolded 16 rfl) (by decide) ?_
        exact gx_sub [1, 2, 0] rfl (ih x1 (x2 + 1) hF)
      · replace hF := gPos c hF
        refine gx_iinc C (j := 1) (v := x1 + 1) (lv' := [(1, .int (x1 + 1)), (0, .ref a0), (2, .int x2)]) (gDec_at D_X8_countUnfolded 14 rfl) rfl (by rfl) (Nat.le_of_ble_eq_true rfl) rfl ?_
        refine gx_iinc C (j := 2) (v := x2 + 1) (lv' := [(2, .int (x2 + 1)), (1, .int (x1 + 1)), (0, .ref a0)]) (gDec_at D_X8_countUnfolded 15 rfl) rfl (by rfl) (Nat.le_of_ble_eq_true rfl) rfl ?_
        refine gx_goto C 4 (gDec_at D_X8_countUnfolded 16 rfl) (by decide) ?_
        exact gx_sub [2, 1, 0] rfl (ih (x1 + 1) (x2 + 1) hF)
def f_X8_countUnfolded (a0 : Nat) (h : gHp) : Option (Int32) := (f_X8_countUnfolded_4 a0 h gFuel 0 0).bind fun v2 => some v2
set_option maxRecDepth 20000 in
set_option maxHeartbeats 4000000 in
theorem m_X8_countUnfolded (w : gWd) (h : gHp) {a0 : Nat} (A0 : is_X8 w a0) {o : Int32} (hF : f_X8_countUnfolded a0 h = some o) : gMet w yX8_countUnfolded wsX8_countUnfolded rm_X8_countUnfolded [.ref a0] h (some (.int o)) h := by
  refine gMet_of (cc := cX8_countUnfolded) (maxL := 3) (ret := (some .int)) (fr := 0) (lo := 0) (own := RX8) [(0, .ref a0)] (by decide) rfl rfl (Nat.le_of_ble_eq_true rfl) rfl (Nat.le_refl _) (Nat.le_refl _) (fun g C E => ?_)
  rw [f_X8_countUnfolded] at hF
  refine gx_iconst C (v := 0) (gDec_at D_X8_countUnfolded 0 rfl) (by decide) ?_
  refine gx_istore_n C (lv' := [(1, .int 0), (0, .ref a0)]) (gDec_at D_X8_countUnfolded 1 rfl) rfl (Nat.le_of_ble_eq_true rfl) rfl ?_
  refine gx_iconst C (v := 0) (gDec_at D_X8_countUnfolded 2 rfl) (by decide) ?_
  refine gx_istore_n C (lv' := [(2, .int 0), (1, .int 0), (0, .ref a0)]) (gDec_at D_X8_countUnfolded 3 rfl) rfl (Nat.le_of_ble_eq_true rfl) rfl ?_
  obtain ⟨v2, hv3, hF⟩ := gBind hF
  have k4 : gX w g 3 h 33 [(1, .int v2)] [] := by
    refine gx_iload_n C 0 (gDec_at D_X8_countUnfolded 17 rfl) rfl rfl ?_
    obtain rfl := Option.some.inj hF
    exact gx_iret C E (gDec_at D_X8_countUnfolded 18 rfl)
  exact gx_sub [2, 1, 0] rfl (w_X8_countUnfolded_4 C A0 h k4 gFuel 0 0 hv3)
/-! LadderBench$State.isFoldable -/
def rm_X8_isFoldable : Room := { frames := 1, cells := 0, slots := 0, locals := 22 }
set_option maxRecDepth 20000 in
theorem ggX8_isFoldable_X8_hasFoldedParts : GoodIn wsX8_isFoldable wsX8_hasFoldedParts := goodIn_r _ [6, 7, 8, 1, 9, 10, 11, 12, 13, 14, 15, 16, 17, 18, 19, 20, 21] (by decide +kernel) (by decide +kernel)
set_option maxRecDepth 20000 in
theorem gX8_isFoldable_X8_hasFoldedParts : GoodIn wsX8_isFoldable (wsV RX8 69 RX8 yX8_hasFoldedParts wsX8_hasFoldedParts) := goodIn_app (goodIn_of _ (by decide +kernel)) ggX8_isFoldable_X8_hasFoldedParts
theorem hy_X8_isFoldable : yX8_isFoldable.cls = RX8 ∧ yX8_isFoldable.cls ≠ "java/lang/invoke/MethodHandle" ∧ yX8_isFoldable.cls ≠ "java/lang/invoke/VarHandle" ∧ (parseMethodDescriptor yX8_isFoldable.desc).map (fun d => d.parameters.length) = some 1 := by decide +kernel
set_option maxRecDepth 100000 in
theorem D_X8_isFoldable : gDec cX8_isFoldable [(0, (.aload_n 0, 1)), (1, (.getfield 32, 3)), (4, (.iload_n 1, 1)), (5, (.baload, 1)), (6, (.ifCond .ne 15, 3)), (9, (.aload_n 0, 1)), (10, (.iload_n 1, 1)), (11, (.invokevirtual 69, 3)), (14, (.ifCond .eq 7, 3)), (17, (.iconst 1, 1)), (18, (.goto 4, 3)), (21, (.iconst 0, 1)), (22, (.ireturn, 1))] = true := by decide +kernel
set_option maxRecDepth 100000 in
theorem in_X8_isFoldable_X8 : ∀ x ∈ u_ws RX8 TX8 8, x ∈ wsX8_isFoldable := by decide +kernel
theorem fl_X8_isFoldable_32 : gF wsX8_isFoldable RX8 32 8 4 := ⟨RX8, TX8, 8, rfl, by decide, in_X8_isFoldable_X8, by decide +kernel⟩
def f_X8_isFoldable (a0 : Nat) (x1 : Int32) (h : gHp) : Option (Bool) := if gIn x1 11 then if (h.1 (a0 + 12) (gN x1)) = 0 then (f_X8_hasFoldedParts a0 x1 h).bind fun v3 => if v3 = true then some true else some false else some false else none
set_option maxRecDepth 20000 in
set_option maxHeartbeats 4000000 in
theorem m_X8_isFoldable (w : gWd) (h : gHp) {a0 : Nat} (A0 : is_X8 w a0) (x1 : Int32) {o : Bool} (hF : f_X8_isFoldable a0 x1 h = some o) : gMet w yX8_isFoldable wsX8_isFoldable rm_X8_isFoldable [.ref a0, .int x1] h (some (.int (gZ o))) h := by
  refine gMet_of (cc := cX8_isFoldable) (maxL := 2) (ret := (some .boolean)) (fr := 1) (lo := 22) (own := RX8) [(0, .ref a0), (1, .int x1)] (by decide) rfl rfl (Nat.le_of_ble_eq_true rfl) rfl (Nat.le_refl _) (Nat.le_refl _) (fun g C E => ?_)
  rw [f_X8_isFoldable] at hF
  refine gx_aload_n C 0 (gDec_at D_X8_isFoldable 0 rfl) rfl rfl ?_
  refine gx_getr C fl_X8_isFoldable_32 (is_X8_sh A0) rfl (gDec_at D_X8_isFoldable 1 rfl) ?_
  refine gx_iload_n C 1 (gDec_at D_X8_isFoldable 2 rfl) rfl rfl ?_
  obtain ⟨b1, hF⟩ := gGd hF
  refine gx_zaload C (is_X8_isFolded A0) b1 (gDec_at D_X8_isFoldable 3 rfl) ?_
  refine gx_if_ne C 21 (gDec_at D_X8_isFoldable 4 rfl) (by decide) (fun c => ?_) (fun c => ?_)
  · replace hF := gNeg c hF
    refine gx_iconst C (v := 0) (gDec_at D_X8_isFoldable 11 rfl) (by decide) ?_
    obtain rfl := Option.some.inj hF
    exact gx_zret (b := false) C E (gDec_at D_X8_isFoldable 12 rfl)
  · replace hF := gPos c hF
    refine gx_aload_n C 0 (gDec_at D_X8_isFoldable 5 rfl) rfl rfl ?_
    refine gx_iload_n C 1 (gDec_at D_X8_isFoldable 6 rfl) rfl rfl ?_
    obtain ⟨v3, hv2, hF⟩ := gBind hF
    refine gx_callV1 C (st := []) 1 [.int x1] (m_X8_hasFoldedParts w h A0 x1 hv2) gX8_isFoldable_X8_hasFoldedParts rfl rfl rfl hy_X8_hasFoldedParts (Nat.le_of_ble_eq_true rfl) (Nat.le_of_ble_eq_true rfl) (is_X8_sh A0) rfl rfl rfl (Nat.le_of_ble_eq_true rfl) (gDec_at D_X8_isFoldable 7 rfl) ?_
    refine gx_ifz_eq C 21 (gDec_at D_X8_isFoldable 8 rfl) (by decide) (fun c => ?_) (fun c => ?_)
    · replace hF := gNeg c hF
      refine gx_iconst C (v := 0) (gDec_at D_X8_isFoldable 11 rfl) (by decide) ?_
      obtain rfl := Option.some.inj hF
      exact gx_zret (b := false) C E (gDec_at D_X8_isFoldable 12 rfl)
    · replace hF := gPos c hF
      refine gx_iconst C (v := 1) (gDec_at D_X8_isFoldable 9 rfl) (by decide) ?_
      refine gx_goto C 22 (gDec_at D_X8_isFoldable 10 rfl) (by decide) ?_
      obtain rfl := Option.some.inj hF
      exact gx_zret (b := true) C E (gDec_at D_X8_isFoldable 12 rfl)
/-! LadderBench$State.findFoldable -/
def rm_X8_findFoldable : Room := { frames := 2, cells := 0, slots := 0, locals := 43 }
set_option maxRecDepth 20000 in
theorem ggX8_findFoldable_X8_isFoldable : GoodIn wsX8_findFoldable wsX8_isFoldable := goodIn_r _ [7, 8, 9, 10, 11, 6, 12, 1, 13, 14, 15, 16, 17, 18, 19, 20, 21, 22, 23, 24, 25, 26] (by decide +kernel) (by decide +kernel)
set_option maxRecDepth 20000 in
theorem gX8_findFoldable_X8_isFoldable : GoodIn wsX8_findFoldable (wsV RX8 73 RX8 yX8_isFoldable wsX8_isFoldable) := goodIn_app (goodIn_of _ (by decide +kernel)) ggX8_findFoldable_X8_isFoldable
theorem hy_X8_findFoldable : yX8_findFoldable.cls = RX8 ∧ yX8_findFoldable.cls ≠ "java/lang/invoke/MethodHandle" ∧ yX8_findFoldable.cls ≠ "java/lang/invoke/VarHandle" ∧ (parseMethodDescriptor yX8_findFoldable.desc).map (fun d => d.parameters.length) = some 1 := by decide +kernel
set_option maxRecDepth 100000 in
theorem D_X8_findFoldable : gDec cX8_findFoldable [(0, (.iconst (-1), 1)), (1, (.istore_n 2, 1)), (2, (.iconst 0, 1)), (3, (.istore_n 3, 1)), (4, (.iload_n 3, 1)), (5, (.aload_n 0, 1)), (6, (.getfield 12, 3)), (9, (.getfield 56, 3)), (12, (.if_icmp .ge 28, 3)), (15, (.aload_n 0, 1)), (16, (.iload_n 3, 1)), (17, (.invokevirtual 73, 3)), (20, (.ifCond .eq 14, 3)), (23, (.iload_n 1, 1)), (24, (.ifCond .ne 8, 3)), (27, (.iload_n 2, 1)), (28, (.iconst (-1), 1)), (29, (.if_icmp .ne 5, 3)), (32, (.iload_n 3, 1)), (33, (.istore_n 2, 1)), (34, (.iinc 3 1, 3)), (37, (.goto (-33), 3)), (40, (.iload_n 2, 1)), (41, (.ireturn, 1))] = true := by decide +kernel
set_option maxRecDepth 100000 in
theorem in_X8_findFoldable_X5 : ∀ x ∈ u_ws RX5 TX5 5, x ∈ wsX8_findFoldable := by decide +kernel
set_option maxRecDepth 100000 in
theorem in_X8_findFoldable_X8 : ∀ x ∈ u_ws RX8 TX8 8, x ∈ wsX8_findFoldable := by decide +kernel
theorem fl_X8_findFoldable_12 : gF wsX8_findFoldable RX8 12 8 0 := ⟨RX8, TX8, 8, rfl, by decide, in_X8_findFoldable_X8, by decide +kernel⟩
theorem fl_X8_findFoldable_56 : gF wsX8_findFoldable RX8 56 5 4 := ⟨RX5, TX5, 5, rfl, by decide, in_X8_findFoldable_X5, by decide +kernel⟩
def f_X8_findFoldable_4 (a0 : Nat) (x1 : Int32) (h : gHp) : Nat → Int32 → Int32 → Option (Int32)
  | 0, _, _ => none
  | n + 1, x2, x3 => if (h.1 (a0 + 1) 4) ≤ x3 then some x2 else (f_X8_isFoldable a0 x3 h).bind fun v2 => if v2 = true then if x1 = 0 then if x2 = (-1) then f_X8_findFoldable_4 a0 x1 h n x3 (x3 + 1) else f_X8_findFoldable_4 a0 x1 h n x2 (x3 + 1) else f_X8_findFoldable_4 a0 x1 h n x3 (x3 + 1) else f_X8_findFoldable_4 a0 x1 h n x2 (x3 + 1)
set_option maxRecDepth 20000 in
set_option maxHeartbeats 4000000 in
theorem w_X8_findFoldable_4 {w : gWd} {g : gCx} (C : gC w g cX8_findFoldable wsX8_findFoldable RX8 4 2 43) {a0 : Nat} (A0 : is_X8 w a0) (x1 : Int32) (h : gHp)  {o : Int32} (hk : gX w g 4 h 40 [(2, .int o)] []) : ∀ (n : Nat) (x2 : Int32) (x3 : Int32), f_X8_findFoldable_4 a0 x1 h n x2 x3 = some o → gX w g 4 h 4 [(0, .ref a0), (1, .int x1), (2, .int x2), (3, .int x3)] [] := by
  intro n
  induction n with
  | zero => intro _ _ hF; cases hF
  | succ n ih =>
    intro x2 x3 hF
    rw [f_X8_findFoldable_4] at hF
    refine gx_iload_n C 3 (gDec_at D_X8_findFoldable 4 rfl) rfl rfl ?_
    refine gx_aload_n C 0 (gDec_at D_X8_findFoldable 5 rfl) rfl rfl ?_
    refine gx_getr C fl_X8_findFoldable_12 (is_X8_sh A0) rfl (gDec_at D_X8_findFoldable 6 rfl) ?_
    refine gx_geti C fl_X8_findFoldable_56 (is_X5_sh (is_X8_network A0)) rfl (gDec_at D_X8_findFoldable 7 rfl) ?_
    refine gx_icmp_ge C 40 (gDec_at D_X8_findFoldable 8 rfl) (by decide) (fun c => ?_) (fun c => ?_)
    · replace hF := gPos c hF
      obtain rfl := Option.some.inj hF
      exact gx_sub [2] rfl hk
    · replace hF := gNeg c hF
      refine gx_aload_n C 0 (gDec_at D_X8_findFoldable 9 rfl) rfl rfl ?_
      refine gx_iload_n C 3 (gDec_at D_X8_findFoldable 10 rfl) rfl rfl ?_
      obtain ⟨v2, hv1, hF⟩ := gBind hF
      refine gx_callV1 C (st := []) 1 [.int x3] (m_X8_isFoldable w h A0 x3 hv1) gX8_findFoldable_X8_isFoldable rfl rfl rfl hy_X8_isFoldable (Nat.le_of_ble_eq_true rfl) (Nat.le_of_ble_eq_true rfl) (is_X8_sh A0) rfl rfl rfl (Nat.le_of_ble_eq_true rfl) (gDec_at D_X8_findFoldable 11 rfl) ?_
      refine gx_ifz_eq C 34 (gDec_at D_X8_findFoldable 12 rfl) (by decide) (fun c => ?_) (fun c => ?_)
      · replace hF := gNeg c hF
        refine gx_iinc C (j := 3) (v := x3 + 1) (lv' := [(3, .int (x3 + 1)), (0, .ref a0), (1, .int x1), (2, .int x2)]) (gDec_at D_X8_findFoldable 20 rfl) rfl (by rfl) (Nat.le_of_ble_eq_true rfl) rfl ?_
        refine gx_goto C 4 (gDec_at D_X8_findFoldable 21 rfl) (by decide) ?_
        exact gx_sub [1, 2, 3, 0] rfl (ih x2 (x3 + 1) hF)
      · replace hF := gPos c hF
        refine gx_iload_n C 1 (gDec_at D_X8_findFoldable 13 rfl) rfl rfl ?_
        refine gx_if_ne C 32 (gDec_at D_X8_findFoldable 14 rfl) (by decide) (fun c => ?_) (fun c => ?_)
        · replace hF := gNeg c hF
          refine gx_iload_n C 3 (gDec_at D_X8_findFoldable 18 rfl) rfl rfl ?_
          refine gx_istore_n C (lv' := [(2, .int x3), (0, .ref a0), (1, .int x1), (3, .int x3)]) (gDec_at D_X8_findFoldable 19 rfl) rfl (Nat.le_of_ble_eq_true rfl) rfl ?_
          refine gx_iinc C (j := 3) (v := x3 + 1) (lv' := [(3, .int (x3 + 1)), (2, .int x3), (0, .ref a0), (1, .int x1)]) (gDec_at D_X8_findFoldable 20 rfl) rfl (by rfl) (Nat.le_of_ble_eq_true rfl) rfl ?_
          refine gx_goto C 4 (gDec_at D_X8_findFoldable 21 rfl) (by decide) ?_
          exact gx_sub [2, 3, 1, 0] rfl (ih x3 (x3 + 1) hF)
        · replace hF := gPos c hF
          refine gx_iload_n C 2 (gDec_at D_X8_findFoldable 15 rfl) rfl rfl ?_
          refine gx_iconst C (v := (-1)) (gDec_at D_X8_findFoldable 16 rfl) (by decide) ?_
          refine gx_icmp_ne C 34 (gDec_at D_X8_findFoldable 17 rfl) (by decide) (fun c => ?_) (fun c => ?_)
          · replace hF := gNeg c hF
            refine gx_iinc C (j := 3) (v := x3 + 1) (lv' := [(3, .int (x3 + 1)), (0, .ref a0), (1, .int x1), (2, .int x2)]) (gDec_at D_X8_findFoldable 20 rfl) rfl (by rfl) (Nat.le_of_ble_eq_true rfl) rfl ?_
            refine gx_goto C 4 (gDec_at D_X8_findFoldable 21 rfl) (by decide) ?_
            exact gx_sub [1, 2, 3, 0] rfl (ih x2 (x3 + 1) hF)
          · replace hF := gPos c hF
            refine gx_iload_n C 3 (gDec_at D_X8_findFoldable 18 rfl) rfl rfl ?_
            refine gx_istore_n C (lv' := [(2, .int x3), (0, .ref a0), (1, .int x1), (3, .int x3)]) (gDec_at D_X8_findFoldable 19 rfl) rfl (Nat.le_of_ble_eq_true rfl) rfl ?_
            refine gx_iinc C (j := 3) (v := x3 + 1) (lv' := [(3, .int (x3 + 1)), (2, .int x3), (0, .ref a0), (1, .int x1)]) (gDec_at D_X8_findFoldable 20 rfl) rfl (by rfl) (Nat.le_of_ble_eq_true rfl) rfl ?_
            refine gx_goto C 4 (gDec_at D_X8_findFoldable 21 rfl) (by decide) ?_
            exact gx_sub [2, 3, 1, 0] rfl (ih x3 (x3 + 1) hF)
def f_X8_findFoldable (a0 : Nat) (x1 : Int32) (h : gHp) : Option (Int32) := (f_X8_findFoldable_4 a0 x1 h gFuel (-1) 0).bind fun v3 => some v3
set_option maxRecDepth 20000 in
set_option maxHeartbeats 4000000 in
theorem m_X8_findFoldable (w : gWd) (h : gHp) {a0 : Nat} (A0 : is_X8 w a0) (x1 : Int32) {o : Int32} (hF : f_X8_findFoldable a0 x1 h = some o) : gMet w yX8_findFoldable wsX8_findFoldable rm_X8_findFoldable [.ref a0, .int x1] h (some (.int o)) h := by
  refine gMet_of (cc := cX8_findFoldable) (maxL := 4) (ret := (some .int)) (fr := 2) (lo := 43) (own := RX8) [(0, .ref a0), (1, .int x1)] (by decide) rfl rfl (Nat.le_of_ble_eq_true rfl) rfl (Nat.le_refl _) (Nat.le_refl _) (fun g C E => ?_)
  rw [f_X8_findFoldable] at hF
  refine gx_iconst C (v := (-1)) (gDec_at D_X8_findFoldable 0 rfl) (by decide) ?_
  refine gx_istore_n C (lv' := [(2, .int (-1)), (0, .ref a0), (1, .int x1)]) (gDec_at D_X8_findFoldable 1 rfl) rfl (Nat.le_of_ble_eq_true rfl) rfl ?_
  refine gx_iconst C (v := 0) (gDec_at D_X8_findFoldable 2 rfl) (by decide) ?_
  refine gx_istore_n C (lv' := [(3, .int 0), (2, .int (-1)), (0, .ref a0), (1, .int x1)]) (gDec_at D_X8_findFoldable 3 rfl) rfl (Nat.le_of_ble_eq_true rfl) rfl ?_
  obtain ⟨v3, hv4, hF⟩ := gBind hF
  have k5 : gX w g 4 h 40 [(2, .int v3)] [] := by
    refine gx_iload_n C 0 (gDec_at D_X8_findFoldable 22 rfl) rfl rfl ?_
    obtain rfl := Option.some.inj hF
    exact gx_iret C E (gDec_at D_X8_findFoldable 23 rfl)
  exact gx_sub [2, 3, 1, 0] rfl (w_X8_findFoldable_4 C A0 x1 h k5 gFuel (-1) 0 hv4)
