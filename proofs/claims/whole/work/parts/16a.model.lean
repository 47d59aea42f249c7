/-! LadderBenchModel.in -/
def rm_X10_in : Room := { frames := 0, cells := 0, slots := 0, locals := 0 }
theorem hy_X10_in : yX10_in.cls ≠ "java/lang/invoke/MethodHandle" ∧ yX10_in.cls ≠ "java/lang/invoke/VarHandle" ∧ (parseMethodDescriptor yX10_in.desc).map (fun d => d.parameters.length) = some 3 := by decide +kernel
set_option maxRecDepth 100000 in
theorem D_X10_in : gDec cX10_in [(0, (.iload_n 0, 1)), (1, (.iload_n 1, 1)), (2, (.if_icmp .lt 12, 3)), (5, (.iload_n 0, 1)), (6, (.iload_n 2, 1)), (7, (.if_icmp .gt 7, 3)), (10, (.iconst 1, 1)), (11, (.goto 4, 3)), (14, (.iconst 0, 1)), (15, (.ireturn, 1))] = true := by decide +kernel
def f_X10_in (x0 : Int32) (x1 : Int32) (x2 : Int32) (h : gHp) : Option (Bool) := if x0 < x1 then some false else if x2 < x0 then some false else some true
set_option maxRecDepth 20000 in
set_option maxHeartbeats 4000000 in
theorem m_X10_in (w : gWd) (h : gHp) (x0 : Int32) (x1 : Int32) (x2 : Int32) {o : Bool} (hF : f_X10_in x0 x1 x2 h = some o) : gMet w yX10_in wsX10_in rm_X10_in [.int x0, .int x1, .int x2] h (some (.int (gZ o))) h := by
  refine gMet_of (cc := cX10_in) (maxL := 3) (ret := (some .boolean)) (fr := 0) (lo := 0) (own := RX10) [(0, .int x0), (1, .int x1), (2, .int x2)] (by decide) rfl rfl (Nat.le_of_ble_eq_true rfl) rfl (Nat.le_refl _) (Nat.le_refl _) (fun g C E => ?_)
  rw [f_X10_in] at hF
  refine gx_iload_n C 0 (gDec_at D_X10_in 0 rfl) rfl rfl ?_
  refine gx_iload_n C 1 (gDec_at D_X10_in 1 rfl) rfl rfl ?_
  refine gx_icmp_lt C 14 (gDec_at D_X10_in 2 rfl) (by decide) (fun c => ?_) (fun c => ?_)
  · replace hF := gPos c hF
    refine gx_iconst C (v := 0) (gDec_at D_X10_in 8 rfl) (by decide) ?_
    obtain rfl := Option.some.inj hF
    exact gx_zret (b := false) C E (gDec_at D_X10_in 9 rfl)
  · replace hF := gNeg c hF
    refine gx_iload_n C 0 (gDec_at D_X10_in 3 rfl) rfl rfl ?_
    refine gx_iload_n C 2 (gDec_at D_X10_in 4 rfl) rfl rfl ?_
    refine gx_icmp_gt C 14 (gDec_at D_X10_in 5 rfl) (by decide) (fun c => ?_) (fun c => ?_)
    · replace hF := gPos c hF
      refine gx_iconst C (v := 0) (gDec_at D_X10_in 8 rfl) (by decide) ?_
      obtain rfl := Option.some.inj hF
      exact gx_zret (b := false) C E (gDec_at D_X10_in 9 rfl)
    · replace hF := gNeg c hF
      refine gx_iconst C (v := 1) (gDec_at D_X10_in 6 rfl) (by decide) ?_
      refine gx_goto C 15 (gDec_at D_X10_in 7 rfl) (by decide) ?_
      obtain rfl := Option.some.inj hF
      exact gx_zret (b := true) C E (gDec_at D_X10_in 9 rfl)
/-! LadderBenchModel.record -/
def rm_X10_record : Room := { frames := 0, cells := 0, slots := 0, locals := 0 }
theorem hy_X10_record : yX10_record.cls = RX10 ∧ yX10_record.cls ≠ "java/lang/invoke/MethodHandle" ∧ yX10_record.cls ≠ "java/lang/invoke/VarHandle" ∧ (parseMethodDescriptor yX10_record.desc).map (fun d => d.parameters.length) = some 0 := by decide +kernel
set_option maxRecDepth 100000 in
theorem D_X10_record : gDec cX10_record [(0, (.aload_n 0, 1)), (1, (.getfield 52, 3)), (4, (.iconst 5, 1)), (5, (.if_icmp .ne 44, 3)), (8, (.iconst 0, 1)), (9, (.istore_n 1, 1)), (10, (.iload_n 1, 1)), (11, (.sipush 564, 3)), (14, (.if_icmp .ge 25, 3)), (17, (.aload_n 0, 1)), (18, (.getfield 13, 3)), (21, (.iload_n 1, 1)), (22, (.aload_n 0, 1)), (23, (.getfield 13, 3)), (26, (.iload_n 1, 1)), (27, (.sipush 141, 3)), (30, (.iadd, 1)), (31, (.laload, 1)), (32, (.lastore, 1)), (33, (.iinc 1 1, 3)), (36, (.goto (-26), 3)), (39, (.aload_n 0, 1)), (40, (.dup, 1)), (41, (.getfield 52, 3)), (44, (.iconst 1, 1)), (45, (.isub, 1)), (46, (.putfield 52, 3)), (49, (.iconst 0, 1)), (50, (.istore_n 1, 1)), (51, (.iload_n 1, 1)), (52, (.sipush 141, 3)), (55, (.if_icmp .ge 30, 3)), (58, (.aload_n 0, 1)), (59, (.getfield 13, 3)), (62, (.sipush 141, 3)), (65, (.aload_n 0, 1)), (66, (.getfield 52, 3)), (69, (.imul, 1)), (70, (.iload_n 1, 1)), (71, (.iadd, 1)), (72, (.aload_n 0, 1)), (73, (.getfield 7, 3)), (76, (.iload_n 1, 1)), (77, (.laload, 1)), (78, (.lastore, 1)), (79, (.iinc 1 1, 3)), (82, (.goto (-31), 3)), (85, (.aload_n 0, 1)), (86, (.dup, 1)), (87, (.getfield 52, 3)), (90, (.iconst 1, 1)), (91, (.iadd, 1)), (92, (.putfield 52, 3)), (95, (.return_, 1))] = true := by decide +kernel
set_option maxRecDepth 100000 in
theorem in_X10_record_X10 : ∀ x ∈ u_ws RX10 TX10 26, x ∈ wsX10_record := by decide +kernel
theorem fl_X10_record_52 : gF wsX10_record RX10 52 10 2 := ⟨RX10, TX10, 26, rfl, by decide, in_X10_record_X10, by decide +kernel⟩
theorem fl_X10_record_13 : gF wsX10_record RX10 13 10 1 := ⟨RX10, TX10, 26, rfl, by decide, in_X10_record_X10, by decide +kernel⟩
theorem fl_X10_record_7 : gF wsX10_record RX10 7 10 0 := ⟨RX10, TX10, 26, rfl, by decide, in_X10_record_X10, by decide +kernel⟩
theorem flw_X10_record_52 : gFw wsX10_record RX10 52 10 2 .int := ⟨RX10, TX10, 26, tyX10, rfl, by decide, in_X10_record_X10, by decide +kernel, tyX10_ok, nmX10, rfl, by decide +kernel⟩
def f_X10_record_51 (a0 : Nat) : Nat → Int32 → gHp → Option (gHp)
  | 0, _, _ => none
  | n + 1, x1, h => if 141 ≤ x1 then some h else if gIn x1 141 then if gIn ((141 * (h.1 a0 2)) + x1) 705 then f_X10_record_51 a0 n (x1 + 1) (gsL h (a0 + 2) (gN ((141 * (h.1 a0 2)) + x1)) (h.2 (a0 + 1) (gN x1))) else none else none
set_option maxRecDepth 20000 in
set_option maxHeartbeats 4000000 in
theorem w_X10_record_51 {w : gWd} {g : gCx} (C : gC w g cX10_record wsX10_record RX10 2 0 0) {a0 : Nat} (A0 : is_X10 w a0)  {o : gHp} (hk : gX w g 2 o 85 [(0, .ref a0)] []) : ∀ (n : Nat) (x1 : Int32) (h : gHp), f_X10_record_51 a0 n x1 h = some o → gX w g 2 h 51 [(0, .ref a0), (1, .int x1)] [] := by
  intro n
  induction n with
  | zero => intro _ _ hF; cases hF
  | succ n ih =>
    intro x1 h hF
    rw [f_X10_record_51] at hF
    refine gx_iload_n C 1 (gDec_at D_X10_record 29 rfl) rfl rfl ?_
    refine gx_sipush C (v := 141) (gDec_at D_X10_record 30 rfl) (by decide) ?_
    refine gx_icmp_ge C 85 (gDec_at D_X10_record 31 rfl) (by decide) (fun c => ?_) (fun c => ?_)
    · replace hF := gPos c hF
      obtain rfl := Option.some.inj hF
      exact gx_sub [0] rfl hk
    · replace hF := gNeg c hF
      refine gx_aload_n C 0 (gDec_at D_X10_record 32 rfl) rfl rfl ?_
      refine gx_getr C fl_X10_record_13 (is_X10_sh A0) rfl (gDec_at D_X10_record 33 rfl) ?_
      refine gx_sipush C (v := 141) (gDec_at D_X10_record 34 rfl) (by decide) ?_
      refine gx_aload_n C 0 (gDec_at D_X10_record 35 rfl) rfl rfl ?_
      refine gx_geti C fl_X10_record_52 (is_X10_sh A0) rfl (gDec_at D_X10_record 36 rfl) ?_
      refine gx_imul C (gDec_at D_X10_record 37 rfl) ?_
      refine gx_iload_n C 1 (gDec_at D_X10_record 38 rfl) rfl rfl ?_
      refine gx_iadd C (gDec_at D_X10_record 39 rfl) ?_
      refine gx_aload_n C 0 (gDec_at D_X10_record 40 rfl) rfl rfl ?_
      refine gx_getr C fl_X10_record_7 (is_X10_sh A0) rfl (gDec_at D_X10_record 41 rfl) ?_
      refine gx_iload_n C 1 (gDec_at D_X10_record 42 rfl) rfl rfl ?_
      obtain ⟨b4, hF⟩ := gGd hF
      refine gx_laload C (is_X10_now A0) b4 (gDec_at D_X10_record 43 rfl) ?_
      obtain ⟨b5, hF⟩ := gGd hF
      refine gx_lastore C (is_X10_history A0) b5 (gDec_at D_X10_record 44 rfl) ?_
      refine gx_iinc C (j := 1) (v := x1 + 1) (lv' := [(1, .int (x1 + 1)), (0, .ref a0)]) (gDec_at D_X10_record 45 rfl) rfl (by rfl) (Nat.le_of_ble_eq_true rfl) rfl ?_
      refine gx_goto C 51 (gDec_at D_X10_record 46 rfl) (by decide) ?_
      exact gx_sub [1, 0] rfl (ih (x1 + 1) (gsL h (a0 + 2) (gN ((141 * (h.1 a0 2)) + x1)) (h.2 (a0 + 1) (gN x1))) hF)
def f_X10_record_10 (a0 : Nat) : Nat → Int32 → gHp → Option (gHp)
  | 0, _, _ => none
  | n + 1, x1, h => if 564 ≤ x1 then some h else if gIn (x1 + 141) 705 then if gIn x1 705 then f_X10_record_10 a0 n (x1 + 1) (gsL h (a0 + 2) (gN x1) (h.2 (a0 + 2) (gN (x1 + 141)))) else none else none
set_option maxRecDepth 20000 in
set_option maxHeartbeats 4000000 in
theorem w_X10_record_10 {w : gWd} {g : gCx} (C : gC w g cX10_record wsX10_record RX10 2 0 0) {a0 : Nat} (A0 : is_X10 w a0)  {o : gHp} (hk : gX w g 2 o 39 [(0, .ref a0)] []) : ∀ (n : Nat) (x1 : Int32) (h : gHp), f_X10_record_10 a0 n x1 h = some o → gX w g 2 h 10 [(0, .ref a0), (1, .int x1)] [] := by
  intro n
  induction n with
  | zero => intro _ _ hF; cases hF
  | succ n ih =>
    intro x1 h hF
    rw [f_X10_record_10] at hF
    refine gx_iload_n C 1 (gDec_at D_X10_record 6 rfl) rfl rfl ?_
    refine gx_sipush C (v := 564) (gDec_at D_X10_record 7 rfl) (by decide) ?_
    refine gx_icmp_ge C 39 (gDec_at D_X10_record 8 rfl) (by decide) (fun c => ?_) (fun c => ?_)
    · replace hF := gPos c hF
      obtain rfl := Option.some.inj hF
      exact gx_sub [0] rfl hk
    · replace hF := gNeg c hF
      refine gx_aload_n C 0 (gDec_at D_X10_record 9 rfl) rfl rfl ?_
      refine gx_getr C fl_X10_record_13 (is_X10_sh A0) rfl (gDec_at D_X10_record 10 rfl) ?_
      refine gx_iload_n C 1 (gDec_at D_X10_record 11 rfl) rfl rfl ?_
      refine gx_aload_n C 0 (gDec_at D_X10_record 12 rfl) rfl rfl ?_
      refine gx_getr C fl_X10_record_13 (is_X10_sh A0) rfl (gDec_at D_X10_record 13 rfl) ?_
      refine gx_iload_n C 1 (gDec_at D_X10_record 14 rfl) rfl rfl ?_
      refine gx_sipush C (v := 141) (gDec_at D_X10_record 15 rfl) (by decide) ?_
      refine gx_iadd C (gDec_at D_X10_record 16 rfl) ?_
      obtain ⟨b9, hF⟩ := gGd hF
      refine gx_laload C (is_X10_history A0) b9 (gDec_at D_X10_record 17 rfl) ?_
      obtain ⟨b10, hF⟩ := gGd hF
      refine gx_lastore C (is_X10_history A0) b10 (gDec_at D_X10_record 18 rfl) ?_
      refine gx_iinc C (j := 1) (v := x1 + 1) (lv' := [(1, .int (x1 + 1)), (0, .ref a0)]) (gDec_at D_X10_record 19 rfl) rfl (by rfl) (Nat.le_of_ble_eq_true rfl) rfl ?_
      refine gx_goto C 10 (gDec_at D_X10_record 20 rfl) (by decide) ?_
      exact gx_sub [1, 0] rfl (ih (x1 + 1) (gsL h (a0 + 2) (gN x1) (h.2 (a0 + 2) (gN (x1 + 141)))) hF)
def f_X10_record (a0 : Nat) (h : gHp) : Option (gHp) := (if (h.1 a0 2) = 5 then (f_X10_record_10 a0 gFuel 0 h).bind fun v11 => some (gsI v11 a0 2 ((v11.1 a0 2) - 1)) else some h : Option (gHp)).bind fun v1 => (f_X10_record_51 a0 gFuel 0 v1).bind fun v6 => some (gsI v6 a0 2 ((v6.1 a0 2) + 1))
set_option maxRecDepth 20000 in
set_option maxHeartbeats 4000000 in
theorem m_X10_record (w : gWd) (h : gHp) {a0 : Nat} (A0 : is_X10 w a0) {o : gHp} (hF : f_X10_record a0 h = some o) : gMet w yX10_record wsX10_record rm_X10_record [.ref a0] h (none) o := by
  refine gMet_of (cc := cX10_record) (maxL := 2) (ret := none) (fr := 0) (lo := 0) (own := RX10) [(0, .ref a0)] (by decide) rfl rfl (Nat.le_of_ble_eq_true rfl) rfl (Nat.le_refl _) (Nat.le_refl _) (fun g C E => ?_)
  rw [f_X10_record] at hF
  refine gx_aload_n C 0 (gDec_at D_X10_record 0 rfl) rfl rfl ?_
  refine gx_geti C fl_X10_record_52 (is_X10_sh A0) rfl (gDec_at D_X10_record 1 rfl) ?_
  refine gx_iconst C (v := 5) (gDec_at D_X10_record 2 rfl) (by decide) ?_
  obtain ⟨v1, hv2, hF⟩ := gBind hF
  have k3 : gX w g 2 v1 49 [(0, .ref a0)] ([]) := by
    refine gx_iconst C (v := 0) (gDec_at D_X10_record 27 rfl) (by decide) ?_
    refine gx_istore_n C (lv' := [(1, .int 0), (0, .ref a0)]) (gDec_at D_X10_record 28 rfl) rfl (Nat.le_of_ble_eq_true rfl) rfl ?_
    obtain ⟨v6, hv7, hF⟩ := gBind hF
    have k8 : gX w g 2 v6 85 [(0, .ref a0)] [] := by
      refine gx_aload_n C 0 (gDec_at D_X10_record 47 rfl) rfl rfl ?_
      refine gx_dup C (gDec_at D_X10_record 48 rfl) rfl ?_
      refine gx_geti C fl_X10_record_52 (is_X10_sh A0) rfl (gDec_at D_X10_record 49 rfl) ?_
      refine gx_iconst C (v := 1) (gDec_at D_X10_record 50 rfl) (by decide) ?_
      refine gx_iadd C (gDec_at D_X10_record 51 rfl) ?_
      refine gx_putI C flw_X10_record_52 (is_X10_sh A0) rfl rfl rfl (gDec_at D_X10_record 52 rfl) ?_
      obtain rfl := Option.some.inj hF
      exact gx_vret C E (gDec_at D_X10_record 53 rfl)
    exact gx_sub [1, 0] rfl (w_X10_record_51 C A0 k8 gFuel 0 v1 hv7)
  replace hF := hv2
  refine gx_icmp_ne C 49 (gDec_at D_X10_record 3 rfl) (by decide) (fun c => ?_) (fun c => ?_)
  · replace hF := gNeg c hF
    obtain rfl := Option.some.inj hF
    exact gx_sub [0] rfl k3
  · replace hF := gPos c hF
    refine gx_iconst C (v := 0) (gDec_at D_X10_record 4 rfl) (by decide) ?_
    refine gx_istore_n C (lv' := [(1, .int 0), (0, .ref a0)]) (gDec_at D_X10_record 5 rfl) rfl (Nat.le_of_ble_eq_true rfl) rfl ?_
    obtain ⟨v11, hv12, hF⟩ := gBind hF
    have k13 : gX w g 2 v11 39 [(0, .ref a0)] [] := by
      refine gx_aload_n C 0 (gDec_at D_X10_record 21 rfl) rfl rfl ?_
      refine gx_dup C (gDec_at D_X10_record 22 rfl) rfl ?_
      refine gx_geti C fl_X10_record_52 (is_X10_sh A0) rfl (gDec_at D_X10_record 23 rfl) ?_
      refine gx_iconst C (v := 1) (gDec_at D_X10_record 24 rfl) (by decide) ?_
      refine gx_isub C (gDec_at D_X10_record 25 rfl) ?_
      refine gx_putI C flw_X10_record_52 (is_X10_sh A0) rfl rfl rfl (gDec_at D_X10_record 26 rfl) ?_
      obtain rfl := Option.some.inj hF
      exact gx_sub [0] rfl k3
    exact gx_sub [1, 0] rfl (w_X10_record_10 C A0 k13 gFuel 0 h hv12)
/-! LadderBenchModel.parts -/
def rm_X10_parts : Room := { frames := 0, cells := 0, slots := 0, locals := 0 }
theorem hy_X10_parts : yX10_parts.cls = RX10 ∧ yX10_parts.cls ≠ "java/lang/invoke/MethodHandle" ∧ yX10_parts.cls ≠ "java/lang/invoke/VarHandle" ∧ (parseMethodDescriptor yX10_parts.desc).map (fun d => d.parameters.length) = some 0 := by decide +kernel
set_option maxRecDepth 100000 in
theorem D_X10_parts : gDec cX10_parts [(0, (.aload_n 0, 1)), (1, (.getfield 7, 3)), (4, (.iconst 0, 1)), (5, (.laload, 1)), (6, (.l2i, 1)), (7, (.ireturn, 1))] = true := by decide +kernel
set_option maxRecDepth 100000 in
theorem in_X10_parts_X10 : ∀ x ∈ u_ws RX10 TX10 26, x ∈ wsX10_parts := by decide +kernel
theorem fl_X10_parts_7 : gF wsX10_parts RX10 7 10 0 := ⟨RX10, TX10, 26, rfl, by decide, in_X10_parts_X10, by decide +kernel⟩
def f_X10_parts (a0 : Nat) (h : gHp) : Option (Int32) := if gIn 0 141 then some ((h.2 (a0 + 1) (gN 0)).toInt32) else none
set_option maxRecDepth 20000 in
set_option maxHeartbeats 4000000 in
theorem m_X10_parts (w : gWd) (h : gHp) {a0 : Nat} (A0 : is_X10 w a0) {o : Int32} (hF : f_X10_parts a0 h = some o) : gMet w yX10_parts wsX10_parts rm_X10_parts [.ref a0] h (some (.int o)) h := by
  refine gMet_of (cc := cX10_parts) (maxL := 1) (ret := (some .int)) (fr := 0) (lo := 0) (own := RX10) [(0, .ref a0)] (by decide) rfl rfl (Nat.le_of_ble_eq_true rfl) rfl (Nat.le_refl _) (Nat.le_refl _) (fun g C E => ?_)
  rw [f_X10_parts] at hF
  refine gx_aload_n C 0 (gDec_at D_X10_parts 0 rfl) rfl rfl ?_
  refine gx_getr C fl_X10_parts_7 (is_X10_sh A0) rfl (gDec_at D_X10_parts 1 rfl) ?_
  refine gx_iconst C (v := 0) (gDec_at D_X10_parts 2 rfl) (by decide) ?_
  obtain ⟨b1, hF⟩ := gGd hF
  refine gx_laload C (is_X10_now A0) b1 (gDec_at D_X10_parts 3 rfl) ?_
  refine gx_l2i C (gDec_at D_X10_parts 4 rfl) ?_
  obtain rfl := Option.some.inj hF
  exact gx_iret C E (gDec_at D_X10_parts 5 rfl)
/-! LadderBenchModel.noPart -/
def rm_X10_noPart : Room := { frames := 1, cells := 0, slots := 0, locals := 22 }
set_option maxRecDepth 20000 in
theorem ggX10_noPart_X10_in : GoodIn wsX10_noPart wsX10_in := goodIn_r _ [9] (by decide +kernel) (by decide +kernel)
set_option maxRecDepth 20000 in
theorem gX10_noPart_X10_in : GoodIn wsX10_noPart (va_wsS RX10 60 yX10_in wsX10_in) := goodIn_app (goodIn_of _ (by decide +kernel)) ggX10_noPart_X10_in
set_option maxRecDepth 20000 in
theorem ggX10_noPart_X10_parts : GoodIn wsX10_noPart wsX10_parts := goodIn_r _ [5, 6, 10, 11, 12, 13, 14, 15, 16, 17, 18, 19, 20, 21, 22, 23, 24, 25, 26, 27, 28, 29, 30, 31, 32, 33, 34, 35] (by decide +kernel) (by decide +kernel)
set_option maxRecDepth 20000 in
theorem gX10_noPart_X10_parts : GoodIn wsX10_noPart (wsV RX10 56 RX10 yX10_parts wsX10_parts) := goodIn_app (goodIn_of _ (by decide +kernel)) ggX10_noPart_X10_parts
theorem hy_X10_noPart : yX10_noPart.cls = RX10 ∧ yX10_noPart.cls ≠ "java/lang/invoke/MethodHandle" ∧ yX10_noPart.cls ≠ "java/lang/invoke/VarHandle" ∧ (parseMethodDescriptor yX10_noPart.desc).map (fun d => d.parameters.length) = some 1 := by decide +kernel
set_option maxRecDepth 100000 in
theorem D_X10_noPart : gDec cX10_noPart [(0, (.iload_n 1, 1)), (1, (.iconst 0, 1)), (2, (.aload_n 0, 1)), (3, (.invokevirtual 56, 3)), (6, (.iconst 1, 1)), (7, (.isub, 1)), (8, (.invokestatic 60, 3)), (11, (.ifCond .ne 7, 3)), (14, (.iconst 1, 1)), (15, (.goto 4, 3)), (18, (.iconst 0, 1)), (19, (.ireturn, 1))] = true := by decide +kernel
def f_X10_noPart (a0 : Nat) (x1 : Int32) (h : gHp) : Option (Bool) := (f_X10_parts a0 h).bind fun v2 => (f_X10_in x1 0 (v2 - 1) h).bind fun v4 => if v4 = true then some false else some true
set_option maxRecDepth 20000 in
set_option maxHeartbeats 4000000 in
theorem m_X10_noPart (w : gWd) (h : gHp) {a0 : Nat} (A0 : is_X10 w a0) (x1 : Int32) {o : Bool} (hF : f_X10_noPart a0 x1 h = some o) : gMet w yX10_noPart wsX10_noPart rm_X10_noPart [.ref a0, .int x1] h (some (.int (gZ o))) h := by
  refine gMet_of (cc := cX10_noPart) (maxL := 2) (ret := (some .boolean)) (fr := 1) (lo := 22) (own := RX10) [(0, .ref a0), (1, .int x1)] (by decide) rfl rfl (Nat.le_of_ble_eq_true rfl) rfl (Nat.le_refl _) (Nat.le_refl _) (fun g C E => ?_)
  rw [f_X10_noPart] at hF
  refine gx_iload_n C 1 (gDec_at D_X10_noPart 0 rfl) rfl rfl ?_
  refine gx_iconst C (v := 0) (gDec_at D_X10_noPart 1 rfl) (by decide) ?_
  refine gx_aload_n C 0 (gDec_at D_X10_noPart 2 rfl) rfl rfl ?_
  obtain ⟨v2, hv1, hF⟩ := gBind hF
  refine gx_callV1 C (st := .int 0 :: .int x1 :: []) 0 [] (m_X10_parts w h A0 hv1) gX10_noPart_X10_parts rfl rfl rfl hy_X10_parts (Nat.le_of_ble_eq_true rfl) (Nat.le_of_ble_eq_true rfl) (is_X10_sh A0) rfl rfl rfl (Nat.le_of_ble_eq_true rfl) (gDec_at D_X10_noPart 3 rfl) ?_
  refine gx_iconst C (v := 1) (gDec_at D_X10_noPart 4 rfl) (by decide) ?_
  refine gx_isub C (gDec_at D_X10_noPart 5 rfl) ?_
  obtain ⟨v4, hv3, hF⟩ := gBind hF
  refine gx_callS1 C (st := []) 3 [.int x1, .int 0, .int (v2 - 1)] (m_X10_in w h x1 0 (v2 - 1) hv3) gX10_noPart_X10_in rfl rfl rfl hy_X10_in (Nat.le_of_ble_eq_true rfl) (Nat.le_of_ble_eq_true rfl) rfl rfl (Nat.le_of_ble_eq_true rfl) (gDec_at D_X10_noPart 6 rfl) ?_
  refine gx_ifz_ne C 18 (gDec_at D_X10_noPart 7 rfl) (by decide) (fun c => ?_) (fun c => ?_)
  · replace hF := gPos c hF
    refine gx_iconst C (v := 0) (gDec_at D_X10_noPart 10 rfl) (by decide) ?_
    obtain rfl := Option.some.inj hF
    exact gx_zret (b := false) C E (gDec_at D_X10_noPart 11 rfl)
  · replace hF := gNeg c hF
    refine gx_iconst C (v := 1) (gDec_at D_X10_noPart 8 rfl) (by decide) ?_
    refine gx_goto C 19 (gDec_at D_X10_noPart 9 rfl) (by decide) ?_
    obtain rfl := Option.some.inj hF
    exact gx_zret (b := true) C E (gDec_at D_X10_noPart 11 rfl)
/-! LadderBenchModel.ofPart -/
def rm_X10_ofPart : Room := { frames := 0, cells := 0, slots := 0, locals := 0 }
theorem hy_X10_ofPart : yX10_ofPart.cls = RX10 ∧ yX10_ofPart.cls ≠ "java/lang/invoke/MethodHandle" ∧ yX10_ofPart.cls ≠ "java/lang/invoke/VarHandle" ∧ (parseMethodDescriptor yX10_ofPart.desc).map (fun d => d.parameters.length) = some 2 := by decide +kernel
set_option maxRecDepth 100000 in
theorem D_X10_ofPart : gDec cX10_ofPart [(0, (.aload_n 0, 1)), (1, (.getfield 7, 3)), (4, (.bipush 26, 2)), (6, (.iconst 5, 1)), (7, (.iload_n 1, 1)), (8, (.imul, 1)), (9, (.iadd, 1)), (10, (.iload_n 2, 1)), (11, (.iadd, 1)), (12, (.laload, 1)), (13, (.l2i, 1)), (14, (.ireturn, 1))] = true := by decide +kernel
set_option maxRecDepth 100000 in
theorem in_X10_ofPart_X10 : ∀ x ∈ u_ws RX10 TX10 26, x ∈ wsX10_ofPart := by decide +kernel
theorem fl_X10_ofPart_7 : gF wsX10_ofPart RX10 7 10 0 := ⟨RX10, TX10, 26, rfl, by decide, in_X10_ofPart_X10, by decide +kernel⟩
def f_X10_ofPart (a0 : Nat) (x1 : Int32) (x2 : Int32) (h : gHp) : Option (Int32) := if gIn ((26 + (5 * x1)) + x2) 141 then some ((h.2 (a0 + 1) (gN ((26 + (5 * x1)) + x2))).toInt32) else none
set_option maxRecDepth 20000 in
set_option maxHeartbeats 4000000 in
theorem m_X10_ofPart (w : gWd) (h : gHp) {a0 : Nat} (A0 : is_X10 w a0) (x1 : Int32) (x2 : Int32) {o : Int32} (hF : f_X10_ofPart a0 x1 x2 h = some o) : gMet w yX10_ofPart wsX10_ofPart rm_X10_ofPart [.ref a0, .int x1, .int x2] h (some (.int o)) h := by
  refine gMet_of (cc := cX10_ofPart) (maxL := 3) (ret := (some .int)) (fr := 0) (lo := 0) (own := RX10) [(0, .ref a0), (1, .int x1), (2, .int x2)] (by decide) rfl rfl (Nat.le_of_ble_eq_true rfl) rfl (Nat.le_refl _) (Nat.le_refl _) (fun g C E => ?_)
  rw [f_X10_ofPart] at hF
  refine gx_aload_n C 0 (gDec_at D_X10_ofPart 0 rfl) rfl rfl ?_
  refine gx_getr C fl_X10_ofPart_7 (is_X10_sh A0) rfl (gDec_at D_X10_ofPart 1 rfl) ?_
  refine gx_bipush C (v := 26) (gDec_at D_X10_ofPart 2 rfl) (by decide) ?_
  refine gx_iconst C (v := 5) (gDec_at D_X10_ofPart 3 rfl) (by decide) ?_
  refine gx_iload_n C 1 (gDec_at D_X10_ofPart 4 rfl) rfl rfl ?_
  refine gx_imul C (gDec_at D_X10_ofPart 5 rfl) ?_
  refine gx_iadd C (gDec_at D_X10_ofPart 6 rfl) ?_
  refine gx_iload_n C 2 (gDec_at D_X10_ofPart 7 rfl) rfl rfl ?_
  refine gx_iadd C (gDec_at D_X10_ofPart 8 rfl) ?_
  obtain ⟨b1, hF⟩ := gGd hF
  refine gx_laload C (is_X10_now A0) b1 (gDec_at D_X10_ofPart 9 rfl) ?_
  refine gx_l2i C (gDec_at D_X10_ofPart 10 rfl) ?_
  obtain rfl := Option.some.inj hF
  exact gx_iret C E (gDec_at D_X10_ofPart 11 rfl)
/-! LadderBenchModel.ofArm -/
def rm_X10_ofArm : Room := { frames := 0, cells := 0, slots := 0, locals := 0 }
theorem hy_X10_ofArm : yX10_ofArm.cls = RX10 ∧ yX10_ofArm.cls ≠ "java/lang/invoke/MethodHandle" ∧ yX10_ofArm.cls ≠ "java/lang/invoke/VarHandle" ∧ (parseMethodDescriptor yX10_ofArm.desc).map (fun d => d.parameters.length) = some 2 := by decide +kernel
set_option maxRecDepth 100000 in
theorem D_X10_ofArm : gDec cX10_ofArm [(0, (.aload_n 0, 1)), (1, (.getfield 7, 3)), (4, (.bipush 8, 2)), (6, (.iconst 3, 1)), (7, (.iload_n 1, 1)), (8, (.imul, 1)), (9, (.iadd, 1)), (10, (.iload_n 2, 1)), (11, (.iadd, 1)), (12, (.laload, 1)), (13, (.l2i, 1)), (14, (.ireturn, 1))] = true := by decide +kernel
set_option maxRecDepth 100000 in
theorem in_X10_ofArm_X10 : ∀ x ∈ u_ws RX10 TX10 26, x ∈ wsX10_ofArm := by decide +kernel
theorem fl_X10_ofArm_7 : gF wsX10_ofArm RX10 7 10 0 := ⟨RX10, TX10, 26, rfl, by decide, in_X10_ofArm_X10, by decide +kernel⟩
def f_X10_ofArm (a0 : Nat) (x1 : Int32) (x2 : Int32) (h : gHp) : Option (Int32) := if gIn ((8 + (3 * x1)) + x2) 141 then some ((h.2 (a0 + 1) (gN ((8 + (3 * x1)) + x2))).toInt32) else none
set_option maxRecDepth 20000 in
set_option maxHeartbeats 4000000 in
theorem m_X10_ofArm (w : gWd) (h : gHp) {a0 : Nat} (A0 : is_X10 w a0) (x1 : Int32) (x2 : Int32) {o : Int32} (hF : f_X10_ofArm a0 x1 x2 h = some o) : gMet w yX10_ofArm wsX10_ofArm rm_X10_ofArm [.ref a0, .int x1, .int x2] h (some (.int o)) h := by
  refine gMet_of (cc := cX10_ofArm) (maxL := 3) (ret := (some .int)) (fr := 0) (lo := 0) (own := RX10) [(0, .ref a0), (1, .int x1), (2, .int x2)] (by decide) rfl rfl (Nat.le_of_ble_eq_true rfl) rfl (Nat.le_refl _) (Nat.le_refl _) (fun g C E => ?_)
  rw [f_X10_ofArm] at hF
  refine gx_aload_n C 0 (gDec_at D_X10_ofArm 0 rfl) rfl rfl ?_
  refine gx_getr C fl_X10_ofArm_7 (is_X10_sh A0) rfl (gDec_at D_X10_ofArm 1 rfl) ?_
  refine gx_bipush C (v := 8) (gDec_at D_X10_ofArm 2 rfl) (by decide) ?_
  refine gx_iconst C (v := 3) (gDec_at D_X10_ofArm 3 rfl) (by decide) ?_
  refine gx_iload_n C 1 (gDec_at D_X10_ofArm 4 rfl) rfl rfl ?_
  refine gx_imul C (gDec_at D_X10_ofArm 5 rfl) ?_
  refine gx_iadd C (gDec_at D_X10_ofArm 6 rfl) ?_
  refine gx_iload_n C 2 (gDec_at D_X10_ofArm 7 rfl) rfl rfl ?_
  refine gx_iadd C (gDec_at D_X10_ofArm 8 rfl) ?_
  obtain ⟨b1, hF⟩ := gGd hF
  refine gx_laload C (is_X10_now A0) b1 (gDec_at D_X10_ofArm 9 rfl) ?_
  refine gx_l2i C (gDec_at D_X10_ofArm 10 rfl) ?_
  obtain rfl := Option.some.inj hF
  exact gx_iret C E (gDec_at D_X10_ofArm 11 rfl)
/-! LadderBenchModel.hasArm -/
def rm_X10_hasArm : Room := { frames := 1, cells := 0, slots := 0, locals := 22 }
set_option maxRecDepth 20000 in
theorem ggX10_hasArm_X10_in : GoodIn wsX10_hasArm wsX10_in := goodIn_r _ [4] (by decide +kernel) (by decide +kernel)
set_option maxRecDepth 20000 in
theorem gX10_hasArm_X10_in : GoodIn wsX10_hasArm (va_wsS RX10 60 yX10_in wsX10_in) := goodIn_app (goodIn_of _ (by decide +kernel)) ggX10_hasArm_X10_in
set_option maxRecDepth 20000 in
theorem ggX10_hasArm_X10_ofArm : GoodIn wsX10_hasArm wsX10_ofArm := goodIn_r _ [8, 9, 10, 11, 12, 13, 14, 15, 16, 17, 18, 19, 20, 21, 22, 23, 24, 25, 26, 27, 28, 29, 30, 31, 32, 33, 34, 35] (by decide +kernel) (by decide +kernel)
set_option maxRecDepth 20000 in
theorem gX10_hasArm_X10_ofArm : GoodIn wsX10_hasArm (wsV RX10 64 RX10 yX10_ofArm wsX10_ofArm) := goodIn_app (goodIn_of _ (by decide +kernel)) ggX10_hasArm_X10_ofArm
theorem hy_X10_hasArm : yX10_hasArm.cls = RX10 ∧ yX10_hasArm.cls ≠ "java/lang/invoke/MethodHandle" ∧ yX10_hasArm.cls ≠ "java/lang/invoke/VarHandle" ∧ (parseMethodDescriptor yX10_hasArm.desc).map (fun d => d.parameters.length) = some 1 := by decide +kernel
set_option maxRecDepth 100000 in
theorem D_X10_hasArm : gDec cX10_hasArm [(0, (.iload_n 1, 1)), (1, (.iconst 0, 1)), (2, (.iconst 5, 1)), (3, (.invokestatic 60, 3)), (6, (.ifCond .eq 16, 3)), (9, (.aload_n 0, 1)), (10, (.iload_n 1, 1)), (11, (.iconst 2, 1)), (12, (.invokevirtual 64, 3)), (15, (.ifCond .le 7, 3)), (18, (.iconst 1, 1)), (19, (.goto 4, 3)), (22, (.iconst 0, 1)), (23, (.ireturn, 1))] = true := by decide +kernel
def f_X10_hasArm (a0 : Nat) (x1 : Int32) (h : gHp) : Option (Bool) := (f_X10_in x1 0 5 h).bind fun v2 => if v2 = true then (f_X10_ofArm a0 x1 2 h).bind fun v4 => if v4 ≤ 0 then some false else some true else some false
set_option maxRecDepth 20000 in
set_option maxHeartbeats 4000000 in
theorem m_X10_hasArm (w : gWd) (h : gHp) {a0 : Nat} (A0 : is_X10 w a0) (x1 : Int32) {o : Bool} (hF : f_X10_hasArm a0 x1 h = some o) : gMet w yX10_hasArm wsX10_hasArm rm_X10_hasArm [.ref a0, .int x1] h (some (.int (gZ o))) h := by
  refine gMet_of (cc := cX10_hasArm) (maxL := 2) (ret := (some .boolean)) (fr := 1) (lo := 22) (own := RX10) [(0, .ref a0), (1, .int x1)] (by decide) rfl rfl (Nat.le_of_ble_eq_true rfl) rfl (Nat.le_refl _) (Nat.le_refl _) (fun g C E => ?_)
  rw [f_X10_hasArm] at hF
  refine gx_iload_n C 1 (gDec_at D_X10_hasArm 0 rfl) rfl rfl ?_
  refine gx_iconst C (v := 0) (gDec_at D_X10_hasArm 1 rfl) (by decide) ?_
  refine gx_iconst C (v := 5) (gDec_at D_X10_hasArm 2 rfl) (by decide) ?_
  obtain ⟨v2, hv1, hF⟩ := gBind hF
  refine gx_callS1 C (st := []) 3 [.int x1, .int 0, .int 5] (m_X10_in w h x1 0 5 hv1) gX10_hasArm_X10_in rfl rfl rfl hy_X10_in (Nat.le_of_ble_eq_true rfl) (Nat.le_of_ble_eq_true rfl) rfl rfl (Nat.le_of_ble_eq_true rfl) (gDec_at D_X10_hasArm 3 rfl) ?_
  refine gx_ifz_eq C 22 (gDec_at D_X10_hasArm 4 rfl) (by decide) (fun c => ?_) (fun c => ?_)
  · replace hF := gNeg c hF
    refine gx_iconst C (v := 0) (gDec_at D_X10_hasArm 12 rfl) (by decide) ?_
    obtain rfl := Option.some.inj hF
    exact gx_zret (b := false) C E (gDec_at D_X10_hasArm 13 rfl)
  · replace hF := gPos c hF
    refine gx_aload_n C 0 (gDec_at D_X10_hasArm 5 rfl) rfl rfl ?_
    refine gx_iload_n C 1 (gDec_at D_X10_hasArm 6 rfl) rfl rfl ?_
    refine gx_iconst C (v := 2) (gDec_at D_X10_hasArm 7 rfl) (by decide) ?_
    obtain ⟨v4, hv3, hF⟩ := gBind hF
    refine gx_callV1 C (st := []) 2 [.int x1, .int 2] (m_X10_ofArm w h A0 x1 2 hv3) gX10_hasArm_X10_ofArm rfl rfl rfl hy_X10_ofArm (Nat.le_of_ble_eq_true rfl) (Nat.le_of_ble_eq_true rfl) (is_X10_sh A0) rfl rfl rfl (Nat.le_of_ble_eq_true rfl) (gDec_at D_X10_hasArm 8 rfl) ?_
    refine gx_if_le C 22 (gDec_at D_X10_hasArm 9 rfl) (by decide) (fun c => ?_) (fun c => ?_)
    · replace hF := gPos c hF
      refine gx_iconst C (v := 0) (gDec_at D_X10_hasArm 12 rfl) (by decide) ?_
      obtain rfl := Option.some.inj hF
      exact gx_zret (b := false) C E (gDec_at D_X10_hasArm 13 rfl)
    · replace hF := gNeg c hF
      refine gx_iconst C (v := 1) (gDec_at D_X10_hasArm 10 rfl) (by decide) ?_
      refine gx_goto C 23 (gDec_at D_X10_hasArm 11 rfl) (by decide) ?_
      obtain rfl := Option.some.inj hF
      exact gx_zret (b := true) C E (gDec_at D_X10_hasArm 13 rfl)
/-! LadderBenchModel.type -/
def rm_X10_type : Room := { frames := 0, cells := 0, slots := 0, locals := 0 }
theorem hy_X10_type : yX10_type.cls = RX10 ∧ yX10_type.cls ≠ "java/lang/invoke/MethodHandle" ∧ yX10_type.cls ≠ "java/lang/invoke/VarHandle" ∧ (parseMethodDescriptor yX10_type.desc).map (fun d => d.parameters.length) = some 1 := by decide +kernel
set_option maxRecDepth 100000 in
theorem D_X10_type : gDec cX10_type [(0, (.aload_n 0, 1)), (1, (.getfield 68, 3)), (4, (.bipush 40, 2)), (6, (.if_icmp .ne 6, 3)), (9, (.bipush (-3), 2)), (11, (.ireturn, 1)), (12, (.aload_n 0, 1)), (13, (.getfield 19, 3)), (16, (.aload_n 0, 1)), (17, (.getfield 68, 3)), (20, (.iload_n 1, 1)), (21, (.castore, 1)), (22, (.aload_n 0, 1)), (23, (.dup, 1)), (24, (.getfield 68, 3)), (27, (.iconst 1, 1)), (28, (.iadd, 1)), (29, (.putfield 68, 3)), (32, (.aload_n 0, 1)), (33, (.getfield 68, 3)), (36, (.ireturn, 1))] = true := by decide +kernel
set_option maxRecDepth 100000 in
theorem in_X10_type_X10 : ∀ x ∈ u_ws RX10 TX10 26, x ∈ wsX10_type := by decide +kernel
theorem fl_X10_type_68 : gF wsX10_type RX10 68 10 5 := ⟨RX10, TX10, 26, rfl, by decide, in_X10_type_X10, by decide +kernel⟩
theorem fl_X10_type_19 : gF wsX10_type RX10 19 10 6 := ⟨RX10, TX10, 26, rfl, by decide, in_X10_type_X10, by decide +kernel⟩
theorem flw_X10_type_68 : gFw wsX10_type RX10 68 10 5 .int := ⟨RX10, TX10, 26, tyX10, rfl, by decide, in_X10_type_X10, by decide +kernel, tyX10_ok, nmX10, rfl, by decide +kernel⟩
def f_X10_type (a0 : Nat) (x1 : Int32) (h : gHp) : Option (Int32 × gHp) := if (h.1 a0 5) = 40 then some ((-3), h) else if gIn (h.1 a0 5) 40 then some ((gsI (gsI h (a0 + 4) (gN (h.1 a0 5)) (vp_nar .char x1)) a0 5 (((gsI h (a0 + 4) (gN (h.1 a0 5)) (vp_nar .char x1)).1 a0 5) + 1)).1 a0 5, gsI (gsI h (a0 + 4) (gN (h.1 a0 5)) (vp_nar .char x1)) a0 5 (((gsI h (a0 + 4) (gN (h.1 a0 5)) (vp_nar .char x1)).1 a0 5) + 1)) else none
set_option maxRecDepth 20000 in
set_option maxHeartbeats 4000000 in
theorem m_X10_type (w : gWd) (h : gHp) {a0 : Nat} (A0 : is_X10 w a0) (x1 : Int32) {o : Int32 × gHp} (hF : f_X10_type a0 x1 h = some o) : gMet w yX10_type wsX10_type rm_X10_type [.ref a0, .int x1] h (some (.int o.1)) o.2 := by
  refine gMet_of (cc := cX10_type) (maxL := 2) (ret := (some .int)) (fr := 0) (lo := 0) (own := RX10) [(0, .ref a0), (1, .int x1)] (by decide) rfl rfl (Nat.le_of_ble_eq_true rfl) rfl (Nat.le_refl _) (Nat.le_refl _) (fun g C E => ?_)
  rw [f_X10_type] at hF
  refine gx_aload_n C 0 (gDec_at D_X10_type 0 rfl) rfl rfl ?_
  refine gx_geti C fl_X10_type_68 (is_X10_sh A0) rfl (gDec_at D_X10_type 1 rfl) ?_
  refine gx_bipush C (v := 40) (gDec_at D_X10_type 2 rfl) (by decide) ?_
  refine gx_icmp_ne C 12 (gDec_at D_X10_type 3 rfl) (by decide) (fun c => ?_) (fun c => ?_)
  · replace hF := gNeg c hF
    refine gx_aload_n C 0 (gDec_at D_X10_type 6 rfl) rfl rfl ?_
    refine gx_getr C fl_X10_type_19 (is_X10_sh A0) rfl (gDec_at D_X10_type 7 rfl) ?_
    refine gx_aload_n C 0 (gDec_at D_X10_type 8 rfl) rfl rfl ?_
    refine gx_geti C fl_X10_type_68 (is_X10_sh A0) rfl (gDec_at D_X10_type 9 rfl) ?_
    refine gx_iload_n C 1 (gDec_at D_X10_type 10 rfl) rfl rfl ?_
    obtain ⟨b1, hF⟩ := gGd hF
    refine gx_castore C (is_X10_text A0) b1 (gDec_at D_X10_type 11 rfl) ?_
    refine gx_aload_n C 0 (gDec_at D_X10_type 12 rfl) rfl rfl ?_
    refine gx_dup C (gDec_at D_X10_type 13 rfl) rfl ?_
    refine gx_geti C fl_X10_type_68 (is_X10_sh A0) rfl (gDec_at D_X10_type 14 rfl) ?_
    refine gx_iconst C (v := 1) (gDec_at D_X10_type 15 rfl) (by decide) ?_
    refine gx_iadd C (gDec_at D_X10_type 16 rfl) ?_
    refine gx_putI C flw_X10_type_68 (is_X10_sh A0) rfl rfl rfl (gDec_at D_X10_type 17 rfl) ?_
    refine gx_aload_n C 0 (gDec_at D_X10_type 18 rfl) rfl rfl ?_
    refine gx_geti C fl_X10_type_68 (is_X10_sh A0) rfl (gDec_at D_X10_type 19 rfl) ?_
    obtain rfl := Option.some.inj hF
    exact gx_iret C E (gDec_at D_X10_type 20 rfl)
  · replace hF := gPos c hF
    refine gx_bipush C (v := (-3)) (gDec_at D_X10_type 4 rfl) (by decide) ?_
    obtain rfl := Option.some.inj hF
    exact gx_iret C E (gDec_at D_X10_type 5 rfl)
/-! LadderBenchModel.clearText -/
def rm_X10_clearText : Room := { frames := 0, cells := 0, slots := 0, locals := 0 }
theorem hy_X10_clearText : yX10_clearText.cls = RX10 ∧ yX10_clearText.cls ≠ "java/lang/invoke/MethodHandle" ∧ yX10_clearText.cls ≠ "java/lang/invoke/VarHandle" ∧ (parseMethodDescriptor yX10_clearText.desc).map (fun d => d.parameters.length) = some 0 := by decide +kernel
set_option maxRecDepth 100000 in
theorem D_X10_clearText : gDec cX10_clearText [(0, (.aload_n 0, 1)), (1, (.getfield 68, 3)), (4, (.istore_n 1, 1)), (5, (.aload_n 0, 1)), (6, (.iconst 0, 1)), (7, (.putfield 68, 3)), (10, (.iload_n 1, 1)), (11, (.ireturn, 1))] = true := by decide +kernel
set_option maxRecDepth 100000 in
theorem in_X10_clearText_X10 : ∀ x ∈ u_ws RX10 TX10 26, x ∈ wsX10_clearText := by decide +kernel
theorem fl_X10_clearText_68 : gF wsX10_clearText RX10 68 10 5 := ⟨RX10, TX10, 26, rfl, by decide, in_X10_clearText_X10, by decide +kernel⟩
theorem flw_X10_clearText_68 : gFw wsX10_clearText RX10 68 10 5 .int := ⟨RX10, TX10, 26, tyX10, rfl, by decide, in_X10_clearText_X10, by decide +kernel, tyX10_ok, nmX10, rfl, by decide +kernel⟩
def f_X10_clearText (a0 : Nat) (h : gHp) : Option (Int32 × gHp) := some (h.1 a0 5, gsI h a0 5 0)
set_option maxRecDepth 20000 in
set_option maxHeartbeats 4000000 in
theorem m_X10_clearText (w : gWd) (h : gHp) {a0 : Nat} (A0 : is_X10 w a0) {o : Int32 × gHp} (hF : f_X10_clearText a0 h = some o) : gMet w yX10_clearText wsX10_clearText rm_X10_clearText [.ref a0] h (some (.int o.1)) o.2 := by
  refine gMet_of (cc := cX10_clearText) (maxL := 2) (ret := (some .int)) (fr := 0) (lo := 0) (own := RX10) [(0, .ref a0)] (by decide) rfl rfl (Nat.le_of_ble_eq_true rfl) rfl (Nat.le_refl _) (Nat.le_refl _) (fun g C E => ?_)
  rw [f_X10_clearText] at hF
  refine gx_aload_n C 0 (gDec_at D_X10_clearText 0 rfl) rfl rfl ?_
  refine gx_geti C fl_X10_clearText_68 (is_X10_sh A0) rfl (gDec_at D_X10_clearText 1 rfl) ?_
  refine gx_istore_n C (lv' := [(1, .int (h.1 a0 5)), (0, .ref a0)]) (gDec_at D_X10_clearText 2 rfl) rfl (Nat.le_of_ble_eq_true rfl) rfl ?_
  refine gx_aload_n C 1 (gDec_at D_X10_clearText 3 rfl) rfl rfl ?_
  refine gx_iconst C (v := 0) (gDec_at D_X10_clearText 4 rfl) (by decide) ?_
  refine gx_putI C flw_X10_clearText_68 (is_X10_sh A0) rfl rfl rfl (gDec_at D_X10_clearText 5 rfl) ?_
  refine gx_iload_n C 0 (gDec_at D_X10_clearText 6 rfl) rfl rfl ?_
  obtain rfl := Option.some.inj hF
  exact gx_iret C E (gDec_at D_X10_clearText 7 rfl)
/-! LadderBenchModel.isRead -/
def rm_X10_isRead : Room := { frames := 0, cells := 0, slots := 0, locals := 0 }
theorem hy_X10_isRead : yX10_isRead.cls = RX10 ∧ yX10_isRead.cls ≠ "java/lang/invoke/MethodHandle" ∧ yX10_isRead.cls ≠ "java/lang/invoke/VarHandle" ∧ (parseMethodDescriptor yX10_isRead.desc).map (fun d => d.parameters.length) = some 1 := by decide +kernel
set_option maxRecDepth 100000 in
theorem D_X10_isRead : gDec cX10_isRead [(0, (.iconst 0, 1)), (1, (.istore_n 2, 1)), (2, (.iload_n 2, 1)), (3, (.aload_n 0, 1)), (4, (.getfield 71, 3)), (7, (.if_icmp .ge 38, 3)), (10, (.aload_n 0, 1)), (11, (.getfield 23, 3)), (14, (.iconst 5, 1)), (15, (.iload_n 2, 1)), (16, (.imul, 1)), (17, (.iconst 0, 1)), (18, (.iadd, 1)), (19, (.iaload, 1)), (20, (.ifCond .ne 19, 3)), (23, (.aload_n 0, 1)), (24, (.getfield 23, 3)), (27, (.iconst 5, 1)), (28, (.iload_n 2, 1)), (29, (.imul, 1)), (30, (.iconst 2, 1)), (31, (.iadd, 1)), (32, (.iaload, 1)), (33, (.iload_n 1, 1)), (34, (.if_icmp .ne 5, 3)), (37, (.iconst 1, 1)), (38, (.ireturn, 1)), (39, (.iinc 2 1, 3)), (42, (.goto (-40), 3)), (45, (.iconst 0, 1)), (46, (.ireturn, 1))] = true := by decide +kernel
set_option maxRecDepth 100000 in
theorem in_X10_isRead_X10 : ∀ x ∈ u_ws RX10 TX10 26, x ∈ wsX10_isRead := by decide +kernel
theorem fl_X10_isRead_71 : gF wsX10_isRead RX10 71 10 8 := ⟨RX10, TX10, 26, rfl, by decide, in_X10_isRead_X10, by decide +kernel⟩
theorem fl_X10_isRead_23 : gF wsX10_isRead RX10 23 10 9 := ⟨RX10, TX10, 26, rfl, by decide, in_X10_isRead_X10, by decide +kernel⟩
def f_X10_isRead_2 (a0 : Nat) (x1 : Int32) (h : gHp) : Nat → Int32 → Option (Bool)
  | 0, _ => none
  | n + 1, x2 => if (h.1 a0 8) ≤ x2 then some false else if gIn ((5 * x2) + 0) 60 then if (h.1 (a0 + 5) (gN ((5 * x2) + 0))) = 0 then if gIn ((5 * x2) + 2) 60 then if (h.1 (a0 + 5) (gN ((5 * x2) + 2))) = x1 then some true else f_X10_isRead_2 a0 x1 h n (x2 + 1) else none else f_X10_isRead_2 a0 x1 h n (x2 + 1) else none
set_option maxRecDepth 20000 in
set_option maxHeartbeats 4000000 in
theorem w_X10_isRead_2 {w : gWd} {g : gCx} (C : gC w g cX10_isRead wsX10_isRead RX10 3 0 0) {a0 : Nat} (A0 : is_X10 w a0) (x1 : Int32) (h : gHp)  {o : Bool} (E : gEn w g (some .boolean) (some (.int (gZ o))) h) : ∀ (n : Nat) (x2 : Int32), f_X10_isRead_2 a0 x1 h n x2 = some o → gX w g 3 h 2 [(0, .ref a0), (1, .int x1), (2, .int x2)] [] := by
  intro n
  induction n with
  | zero => intro _ hF; cases hF
  | succ n ih =>
    intro x2 hF
    rw [f_X10_isRead_2] at hF
    refine gx_iload_n C 2 (gDec_at D_X10_isRead 2 rfl) rfl rfl ?_
    refine gx_aload_n C 0 (gDec_at D_X10_isRead 3 rfl) rfl rfl ?_
    refine gx_geti C fl_X10_isRead_71 (is_X10_sh A0) rfl (gDec_at D_X10_isRead 4 rfl) ?_
    refine gx_icmp_ge C 45 (gDec_at D_X10_isRead 5 rfl) (by decide) (fun c => ?_) (fun c => ?_)
    · replace hF := gPos c hF
      refine gx_iconst C (v := 0) (gDec_at D_X10_isRead 29 rfl) (by decide) ?_
      obtain rfl := Option.some.inj hF
      exact gx_zret (b := false) C E (gDec_at D_X10_isRead 30 rfl)
    · replace hF := gNeg c hF
      refine gx_aload_n C 0 (gDec_at D_X10_isRead 6 rfl) rfl rfl ?_
      refine gx_getr C fl_X10_isRead_23 (is_X10_sh A0) rfl (gDec_at D_X10_isRead 7 rfl) ?_
      refine gx_iconst C (v := 5) (gDec_at D_X10_isRead 8 rfl) (by decide) ?_
      refine gx_iload_n C 2 (gDec_at D_X10_isRead 9 rfl) rfl rfl ?_
      refine gx_imul C (gDec_at D_X10_isRead 10 rfl) ?_
      refine gx_iconst C (v := 0) (gDec_at D_X10_isRead 11 rfl) (by decide) ?_
      refine gx_iadd C (gDec_at D_X10_isRead 12 rfl) ?_
      obtain ⟨b1, hF⟩ := gGd hF
      refine gx_iaload C (is_X10_read A0) b1 (gDec_at D_X10_isRead 13 rfl) ?_
      refine gx_if_ne C 39 (gDec_at D_X10_isRead 14 rfl) (by decide) (fun c => ?_) (fun c => ?_)
      · replace hF := gNeg c hF
        refine gx_iinc C (j := 2) (v := x2 + 1) (lv' := [(2, .int (x2 + 1)), (0, .ref a0), (1, .int x1)]) (gDec_at D_X10_isRead 27 rfl) rfl (by rfl) (Nat.le_of_ble_eq_true rfl) rfl ?_
        refine gx_goto C 2 (gDec_at D_X10_isRead 28 rfl) (by decide) ?_
        exact gx_sub [1, 2, 0] rfl (ih (x2 + 1) hF)
      · replace hF := gPos c hF
        refine gx_aload_n C 0 (gDec_at D_X10_isRead 15 rfl) rfl rfl ?_
        refine gx_getr C fl_X10_isRead_23 (is_X10_sh A0) rfl (gDec_at D_X10_isRead 16 rfl) ?_
        refine gx_iconst C (v := 5) (gDec_at D_X10_isRead 17 rfl) (by decide) ?_
        refine gx_iload_n C 2 (gDec_at D_X10_isRead 18 rfl) rfl rfl ?_
        refine gx_imul C (gDec_at D_X10_isRead 19 rfl) ?_
        refine gx_iconst C (v := 2) (gDec_at D_X10_isRead 20 rfl) (by decide) ?_
        refine gx_iadd C (gDec_at D_X10_isRead 21 rfl) ?_
        obtain ⟨b2, hF⟩ := gGd hF
        refine gx_iaload C (is_X10_read A0) b2 (gDec_at D_X10_isRead 22 rfl) ?_
        refine gx_iload_n C 1 (gDec_at D_X10_isRead 23 rfl) rfl rfl ?_
        refine gx_icmp_ne C 39 (gDec_at D_X10_isRead 24 rfl) (by decide) (fun c => ?_) (fun c => ?_)
        · replace hF := gNeg c hF
          refine gx_iinc C (j := 2) (v := x2 + 1) (lv' := [(2, .int (x2 + 1)), (0, .ref a0), (1, .int x1)]) (gDec_at D_X10_isRead 27 rfl) rfl (by rfl) (Nat.le_of_ble_eq_true rfl) rfl ?_
          refine gx_goto C 2 (gDec_at D_X10_isRead 28 rfl) (by decide) ?_
          exact gx_sub [1, 2, 0] rfl (ih (x2 + 1) hF)
        · replace hF := gPos c hF
          refine gx_iconst C (v := 1) (gDec_at D_X10_isRead 25 rfl) (by decide) ?_
          obtain rfl := Option.some.inj hF
          exact gx_zret (b := true) C E (gDec_at D_X10_isRead 26 rfl)
def f_X10_isRead (a0 : Nat) (x1 : Int32) (h : gHp) : Option (Bool) := f_X10_isRead_2 a0 x1 h gFuel 0
set_option maxRecDepth 20000 in
set_option maxHeartbeats 4000000 in
theorem m_X10_isRead (w : gWd) (h : gHp) {a0 : Nat} (A0 : is_X10 w a0) (x1 : Int32) {o : Bool} (hF : f_X10_isRead a0 x1 h = some o) : gMet w yX10_isRead wsX10_isRead rm_X10_isRead [.ref a0, .int x1] h (some (.int (gZ o))) h := by
  refine gMet_of (cc := cX10_isRead) (maxL := 3) (ret := (some .boolean)) (fr := 0) (lo := 0) (own := RX10) [(0, .ref a0), (1, .int x1)] (by decide) rfl rfl (Nat.le_of_ble_eq_true rfl) rfl (Nat.le_refl _) (Nat.le_refl _) (fun g C E => ?_)
  rw [f_X10_isRead] at hF
  refine gx_iconst C (v := 0) (gDec_at D_X10_isRead 0 rfl) (by decide) ?_
  refine gx_istore_n C (lv' := [(2, .int 0), (0, .ref a0), (1, .int x1)]) (gDec_at D_X10_isRead 1 rfl) rfl (Nat.le_of_ble_eq_true rfl) rfl ?_
  exact gx_sub [1, 2, 0] rfl (w_X10_isRead_2 C A0 x1 h   E gFuel 0 hF)
