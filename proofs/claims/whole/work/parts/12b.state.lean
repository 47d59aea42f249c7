/-! LadderBench$State.unfoldFrom -/
def rm_X8_unfoldFrom : Room := { frames := 2, cells := 0, slots := 0, locals := 45 }
set_option maxRecDepth 20000 in
theorem ggX8_unfoldFrom_X5_findWayUp : GoodIn wsX8_unfoldFrom wsX5_findWayUp := goodIn_r _ [8, 9, 10, 11, 12, 7, 13, 14, 23, 24, 25, 26, 27] (by decide +kernel) (by decide +kernel)
set_option maxRecDepth 20000 in
theorem gX8_unfoldFrom_X5_findWayUp : GoodIn wsX8_unfoldFrom (wsV RX8 62 RX5 yX5_findWayUp wsX5_findWayUp) := goodIn_app (goodIn_of _ (by decide +kernel)) ggX8_unfoldFrom_X5_findWayUp
theorem hy_X8_unfoldFrom : yX8_unfoldFrom.cls = RX8 ∧ yX8_unfoldFrom.cls ≠ "java/lang/invoke/MethodHandle" ∧ yX8_unfoldFrom.cls ≠ "java/lang/invoke/VarHandle" ∧ (parseMethodDescriptor yX8_unfoldFrom.desc).map (fun d => d.parameters.length) = some 1 := by decide +kernel
set_option maxRecDepth 100000 in
theorem D_X8_unfoldFrom : gDec cX8_unfoldFrom [(0, (.aload_n 0, 1)), (1, (.getfield 12, 3)), (4, (.iload_n 1, 1)), (5, (.invokevirtual 62, 3)), (8, (.istore_n 2, 1)), (9, (.iconst 0, 1)), (10, (.istore_n 3, 1)), (11, (.iconst 0, 1)), (12, (.istore 4, 2)), (14, (.iload 4, 2)), (16, (.aload_n 0, 1)), (17, (.getfield 12, 3)), (20, (.getfield 56, 3)), (23, (.if_icmp .ge 40, 3)), (26, (.iload_n 2, 1)), (27, (.iload 4, 2)), (29, (.ishr, 1)), (30, (.iconst 1, 1)), (31, (.iand, 1)), (32, (.iconst 1, 1)), (33, (.if_icmp .ne 24, 3)), (36, (.aload_n 0, 1)), (37, (.getfield 32, 3)), (40, (.iload 4, 2)), (42, (.baload, 1)), (43, (.ifCond .eq 14, 3)), (46, (.aload_n 0, 1)), (47, (.getfield 32, 3)), (50, (.iload 4, 2)), (52, (.iconst 0, 1)), (53, (.bastore, 1)), (54, (.iinc 3 1, 3)), (57, (.iinc 4 1, 3)), (60, (.goto (-46), 3)), (63, (.iload_n 3, 1)), (64, (.ireturn, 1))] = true := by decide +kernel
set_option maxRecDepth 100000 in
theorem in_X8_unfoldFrom_X5 : ∀ x ∈ u_ws RX5 TX5 5, x ∈ wsX8_unfoldFrom := by decide +kernel
set_option maxRecDepth 100000 in
theorem in_X8_unfoldFrom_X8 : ∀ x ∈ u_ws RX8 TX8 8, x ∈ wsX8_unfoldFrom := by decide +kernel
theorem fl_X8_unfoldFrom_12 : gF wsX8_unfoldFrom RX8 12 8 0 := ⟨RX8, TX8, 8, rfl, by decide, in_X8_unfoldFrom_X8, by decide +kernel⟩
theorem fl_X8_unfoldFrom_56 : gF wsX8_unfoldFrom RX8 56 5 4 := ⟨RX5, TX5, 5, rfl, by decide, in_X8_unfoldFrom_X5, by decide +kernel⟩
theorem fl_X8_unfoldFrom_32 : gF wsX8_unfoldFrom RX8 32 8 4 := ⟨RX8, TX8, 8, rfl, by decide, in_X8_unfoldFrom_X8, by decide +kernel⟩
def f_X8_unfoldFrom_14 (a0 : Nat) (x2 : Int32) : Nat → Int32 → Int32 → gHp → Option (Int32 × gHp)
  | 0, _, _, _ => none
  | n + 1, x3, x4, h => if (h.1 (a0 + 1) 4) ≤ x4 then some (x3, h) else if ((x2 >>> (x4 &&& 31)) &&& 1) = 1 then if gIn x4 11 then if (h.1 (a0 + 12) (gN x4)) = 0 then f_X8_unfoldFrom_14 a0 x2 n x3 (x4 + 1) h else if gIn x4 11 then f_X8_unfoldFrom_14 a0 x2 n (x3 + 1) (x4 + 1) (gsI h (a0 + 12) (gN x4) (vp_nar .boolean 0)) else none else none else f_X8_unfoldFrom_14 a0 x2 n x3 (x4 + 1) h
set_option maxRecDepth 20000 in
set_option maxHeartbeats 4000000 in
theorem w_X8_unfoldFrom_14 {w : gWd} {g : gCx} (C : gC w g cX8_unfoldFrom wsX8_unfoldFrom RX8 5 2 45) {a0 : Nat} (A0 : is_X8 w a0) (x2 : Int32)  {o : Int32 × gHp} (hk : gX w g 5 o.2 63 [(3, .int o.1)] []) : ∀ (n : Nat) (x3 : Int32) (x4 : Int32) (h : gHp), f_X8_unfoldFrom_14 a0 x2 n x3 x4 h = some o → gX w g 5 h 14 [(0, .ref a0), (2, .int x2), (3, .int x3), (4, .int x4)] [] := by
  intro n
  induction n with
  | zero => intro _ _ _ hF; cases hF
  | succ n ih =>
    intro x3 x4 h hF
    rw [f_X8_unfoldFrom_14] at hF
    refine gx_iload C 3 (gDec_at D_X8_unfoldFrom 9 rfl) rfl ?_
    refine gx_aload_n C 0 (gDec_at D_X8_unfoldFrom 10 rfl) rfl rfl ?_
    refine gx_getr C fl_X8_unfoldFrom_12 (is_X8_sh A0) rfl (gDec_at D_X8_unfoldFrom 11 rfl) ?_
    refine gx_geti C fl_X8_unfoldFrom_56 (is_X5_sh (is_X8_network A0)) rfl (gDec_at D_X8_unfoldFrom 12 rfl) ?_
    refine gx_icmp_ge C 63 (gDec_at D_X8_unfoldFrom 13 rfl) (by decide) (fun c => ?_) (fun c => ?_)
    · replace hF := gPos c hF
      obtain rfl := Option.some.inj hF
      exact gx_sub [2] rfl hk
    · replace hF := gNeg c hF
      refine gx_iload_n C 1 (gDec_at D_X8_unfoldFrom 14 rfl) rfl rfl ?_
      refine gx_iload C 3 (gDec_at D_X8_unfoldFrom 15 rfl) rfl ?_
      refine gx_ishr C (gDec_at D_X8_unfoldFrom 16 rfl) ?_
      refine gx_iconst C (v := 1) (gDec_at D_X8_unfoldFrom 17 rfl) (by decide) ?_
      refine gx_iand C (gDec_at D_X8_unfoldFrom 18 rfl) ?_
      refine gx_iconst C (v := 1) (gDec_at D_X8_unfoldFrom 19 rfl) (by decide) ?_
      refine gx_icmp_ne C 57 (gDec_at D_X8_unfoldFrom 20 rfl) (by decide) (fun c => ?_) (fun c => ?_)
      · replace hF := gNeg c hF
        refine gx_iinc C (j := 3) (v := x4 + 1) (lv' := [(4, .int (x4 + 1)), (0, .ref a0), (2, .int x2), (3, .int x3)]) (gDec_at D_X8_unfoldFrom 32 rfl) rfl (by rfl) (Nat.le_of_ble_eq_true rfl) rfl ?_
        refine gx_goto C 14 (gDec_at D_X8_unfoldFrom 33 rfl) (by decide) ?_
        exact gx_sub [1, 2, 3, 0] rfl (ih x3 (x4 + 1) h hF)
      · replace hF := gPos c hF
        refine gx_aload_n C 0 (gDec_at D_X8_unfoldFrom 21 rfl) rfl rfl ?_
        refine gx_getr C fl_X8_unfoldFrom_32 (is_X8_sh A0) rfl (gDec_at D_X8_unfoldFrom 22 rfl) ?_
        refine gx_iload C 3 (gDec_at D_X8_unfoldFrom 23 rfl) rfl ?_
        obtain ⟨b3, hF⟩ := gGd hF
        refine gx_zaload C (is_X8_isFolded A0) b3 (gDec_at D_X8_unfoldFrom 24 rfl) ?_
        refine gx_if_eq C 57 (gDec_at D_X8_unfoldFrom 25 rfl) (by decide) (fun c => ?_) (fun c => ?_)
        · replace hF := gPos c hF
          refine gx_iinc C (j := 3) (v := x4 + 1) (lv' := [(4, .int (x4 + 1)), (0, .ref a0), (2, .int x2), (3, .int x3)]) (gDec_at D_X8_unfoldFrom 32 rfl) rfl (by rfl) (Nat.le_of_ble_eq_true rfl) rfl ?_
          refine gx_goto C 14 (gDec_at D_X8_unfoldFrom 33 rfl) (by decide) ?_
          exact gx_sub [1, 2, 3, 0] rfl (ih x3 (x4 + 1) h hF)
        · replace hF := gNeg c hF
          refine gx_aload_n C 0 (gDec_at D_X8_unfoldFrom 26 rfl) rfl rfl ?_
          refine gx_getr C fl_X8_unfoldFrom_32 (is_X8_sh A0) rfl (gDec_at D_X8_unfoldFrom 27 rfl) ?_
          refine gx_iload C 3 (gDec_at D_X8_unfoldFrom 28 rfl) rfl ?_
          refine gx_iconst C (v := 0) (gDec_at D_X8_unfoldFrom 29 rfl) (by decide) ?_
          obtain ⟨b4, hF⟩ := gGd hF
          refine gx_zastore C (is_X8_isFolded A0) b4 (gDec_at D_X8_unfoldFrom 30 rfl) ?_
          refine gx_iinc C (j := 2) (v := x3 + 1) (lv' := [(3, .int (x3 + 1)), (0, .ref a0), (2, .int x2), (4, .int x4)]) (gDec_at D_X8_unfoldFrom 31 rfl) rfl (by rfl) (Nat.le_of_ble_eq_true rfl) rfl ?_
          refine gx_iinc C (j := 3) (v := x4 + 1) (lv' := [(4, .int (x4 + 1)), (3, .int (x3 + 1)), (0, .ref a0), (2, .int x2)]) (gDec_at D_X8_unfoldFrom 32 rfl) rfl (by rfl) (Nat.le_of_ble_eq_true rfl) rfl ?_
          refine gx_goto C 14 (gDec_at D_X8_unfoldFrom 33 rfl) (by decide) ?_
          exact gx_sub [2, 3, 1, 0] rfl (ih (x3 + 1) (x4 + 1) (gsI h (a0 + 12) (gN x4) (vp_nar .boolean 0)) hF)
def f_X8_unfoldFrom (a0 : Nat) (x1 : Int32) (h : gHp) : Option (Int32 × gHp) := (f_X5_findWayUp (a0 + 1) x1 h).bind fun v2 => (f_X8_unfoldFrom_14 a0 v2 gFuel 0 0 h).bind fun v5 => some (v5.1, v5.2)
set_option maxRecDepth 20000 in
set_option maxHeartbeats 4000000 in
theorem m_X8_unfoldFrom (w : gWd) (h : gHp) {a0 : Nat} (A0 : is_X8 w a0) (x1 : Int32) {o : Int32 × gHp} (hF : f_X8_unfoldFrom a0 x1 h = some o) : gMet w yX8_unfoldFrom wsX8_unfoldFrom rm_X8_unfoldFrom [.ref a0, .int x1] h (some (.int o.1)) o.2 := by
  refine gMet_of (cc := cX8_unfoldFrom) (maxL := 5) (ret := (some .int)) (fr := 2) (lo := 45) (own := RX8) [(0, .ref a0), (1, .int x1)] (by decide) rfl rfl (Nat.le_of_ble_eq_true rfl) rfl (Nat.le_refl _) (Nat.le_refl _) (fun g C E => ?_)
  rw [f_X8_unfoldFrom] at hF
  refine gx_aload_n C 0 (gDec_at D_X8_unfoldFrom 0 rfl) rfl rfl ?_
  refine gx_getr C fl_X8_unfoldFrom_12 (is_X8_sh A0) rfl (gDec_at D_X8_unfoldFrom 1 rfl) ?_
  refine gx_iload_n C 1 (gDec_at D_X8_unfoldFrom 2 rfl) rfl rfl ?_
  obtain ⟨v2, hv1, hF⟩ := gBind hF
  refine gx_callV1 C (st := []) 1 [.int x1] (m_X5_findWayUp w h (is_X8_network A0) x1 hv1) gX8_unfoldFrom_X5_findWayUp rfl rfl rfl hy_X5_findWayUp (Nat.le_of_ble_eq_true rfl) (Nat.le_of_ble_eq_true rfl) (is_X5_sh (is_X8_network A0)) rfl rfl rfl (Nat.le_of_ble_eq_true rfl) (gDec_at D_X8_unfoldFrom 3 rfl) ?_
  refine gx_istore_n C (lv' := [(2, .int v2), (0, .ref a0), (1, .int x1)]) (gDec_at D_X8_unfoldFrom 4 rfl) rfl (Nat.le_of_ble_eq_true rfl) rfl ?_
  refine gx_iconst C (v := 0) (gDec_at D_X8_unfoldFrom 5 rfl) (by decide) ?_
  refine gx_istore_n C (lv' := [(3, .int 0), (2, .int v2), (0, .ref a0), (1, .int x1)]) (gDec_at D_X8_unfoldFrom 6 rfl) rfl (Nat.le_of_ble_eq_true rfl) rfl ?_
  refine gx_iconst C (v := 0) (gDec_at D_X8_unfoldFrom 7 rfl) (by decide) ?_
  refine gx_istore C (lv' := [(4, .int 0), (3, .int 0), (2, .int v2), (0, .ref a0), (1, .int x1)]) (gDec_at D_X8_unfoldFrom 8 rfl) (Nat.le_of_ble_eq_true rfl) rfl ?_
  obtain ⟨v5, hv6, hF⟩ := gBind hF
  have k7 : gX w g 5 v5.2 63 [(3, .int v5.1)] [] := by
    refine gx_iload_n C 0 (gDec_at D_X8_unfoldFrom 34 rfl) rfl rfl ?_
    obtain rfl := Option.some.inj hF
    exact gx_iret C E (gDec_at D_X8_unfoldFrom 35 rfl)
  exact gx_sub [3, 2, 1, 0] rfl (w_X8_unfoldFrom_14 C A0 v2 k7 gFuel 0 0 h hv6)
/-! LadderBench$History.giveBack -/
def rm_X3_giveBack : Room := { frames := 2, cells := 0, slots := 0, locals := 44 }
set_option maxRecDepth 20000 in
theorem ggX3_giveBack_X8_copy : GoodIn wsX3_giveBack wsX8_copy := goodIn_r _ [8, 9, 10, 11, 12, 13, 14, 15, 16, 17, 18, 19, 20, 21, 22, 23, 24, 25, 26, 27, 28, 29, 30, 31, 32, 33, 34, 35, 39, 40, 41, 42, 43, 44, 45, 46, 47, 48, 49, 50, 51, 52, 53, 54, 55] (by decide +kernel) (by decide +kernel)
set_option maxRecDepth 20000 in
theorem gX3_giveBack_X8_copy : GoodIn wsX3_giveBack (wsV RX3 25 RX8 yX8_copy wsX8_copy) := goodIn_app (goodIn_of _ (by decide +kernel)) ggX3_giveBack_X8_copy
theorem hy_X3_giveBack : yX3_giveBack.cls = RX3 ∧ yX3_giveBack.cls ≠ "java/lang/invoke/MethodHandle" ∧ yX3_giveBack.cls ≠ "java/lang/invoke/VarHandle" ∧ (parseMethodDescriptor yX3_giveBack.desc).map (fun d => d.parameters.length) = some 1 := by decide +kernel
set_option maxRecDepth 100000 in
theorem D_X3_giveBack : gDec cX3_giveBack [(0, (.aload_n 0, 1)), (1, (.getfield 21, 3)), (4, (.ifCond .le 35, 3)), (7, (.aload_n 1, 1)), (8, (.aload_n 0, 1)), (9, (.getfield 11, 3)), (12, (.aload_n 0, 1)), (13, (.getfield 17, 3)), (16, (.aload_n 0, 1)), (17, (.getfield 21, 3)), (20, (.iadd, 1)), (21, (.iconst 1, 1)), (22, (.isub, 1)), (23, (.iconst 5, 1)), (24, (.irem, 1)), (25, (.aaload, 1)), (26, (.invokevirtual 25, 3)), (29, (.aload_n 0, 1)), (30, (.dup, 1)), (31, (.getfield 21, 3)), (34, (.iconst 1, 1)), (35, (.isub, 1)), (36, (.putfield 21, 3)), (39, (.return_, 1))] = true := by decide +kernel
set_option maxRecDepth 100000 in
theorem in_X3_giveBack_X3 : ∀ x ∈ u_ws RX3 TX3 3, x ∈ wsX3_giveBack := by decide +kernel
theorem fl_X3_giveBack_21 : gF wsX3_giveBack RX3 21 3 2 := ⟨RX3, TX3, 3, rfl, by decide, in_X3_giveBack_X3, by decide +kernel⟩
theorem fl_X3_giveBack_11 : gF wsX3_giveBack RX3 11 3 0 := ⟨RX3, TX3, 3, rfl, by decide, in_X3_giveBack_X3, by decide +kernel⟩
theorem fl_X3_giveBack_17 : gF wsX3_giveBack RX3 17 3 1 := ⟨RX3, TX3, 3, rfl, by decide, in_X3_giveBack_X3, by decide +kernel⟩
theorem flw_X3_giveBack_21 : gFw wsX3_giveBack RX3 21 3 2 .int := ⟨RX3, TX3, 3, tyX3, rfl, by decide, in_X3_giveBack_X3, by decide +kernel, tyX3_ok, nmX3, rfl, by decide +kernel⟩
def f_X3_giveBack (a0 : Nat) (a1 : Nat) (h : gHp) : Option (gHp) := if (h.1 a0 2) ≤ 0 then some h else if gIn ((((h.1 a0 1) + (h.1 a0 2)) - 1) - (((h.1 a0 1) + (h.1 a0 2)) - 1) / 5 * 5) 5 then (f_X8_copy a1 (a0 + 2 + 13 * gN ((((h.1 a0 1) + (h.1 a0 2)) - 1) - (((h.1 a0 1) + (h.1 a0 2)) - 1) / 5 * 5)) h).bind fun v3 => some (gsI v3 a0 2 ((v3.1 a0 2) - 1)) else none
set_option maxRecDepth 20000 in
set_option maxHeartbeats 4000000 in
theorem m_X3_giveBack (w : gWd) (h : gHp) {a0 : Nat} (A0 : is_X3 w a0) {a1 : Nat} (A1 : is_X8 w a1) {o : gHp} (hF : f_X3_giveBack a0 a1 h = some o) : gMet w yX3_giveBack wsX3_giveBack rm_X3_giveBack [.ref a0, .ref a1] h (none) o := by
  refine gMet_of (cc := cX3_giveBack) (maxL := 2) (ret := none) (fr := 2) (lo := 44) (own := RX3) [(0, .ref a0), (1, .ref a1)] (by decide) rfl rfl (Nat.le_of_ble_eq_true rfl) rfl (Nat.le_refl _) (Nat.le_refl _) (fun g C E => ?_)
  rw [f_X3_giveBack] at hF
  refine gx_aload_n C 0 (gDec_at D_X3_giveBack 0 rfl) rfl rfl ?_
  refine gx_geti C fl_X3_giveBack_21 (is_X3_sh A0) rfl (gDec_at D_X3_giveBack 1 rfl) ?_
  refine gx_if_le C 39 (gDec_at D_X3_giveBack 2 rfl) (by decide) (fun c => ?_) (fun c => ?_)
  · replace hF := gPos c hF
    obtain rfl := Option.some.inj hF
    exact gx_vret C E (gDec_at D_X3_giveBack 23 rfl)
  · replace hF := gNeg c hF
    refine gx_aload_n C 1 (gDec_at D_X3_giveBack 3 rfl) rfl rfl ?_
    refine gx_aload_n C 0 (gDec_at D_X3_giveBack 4 rfl) rfl rfl ?_
    refine gx_getr C fl_X3_giveBack_11 (is_X3_sh A0) rfl (gDec_at D_X3_giveBack 5 rfl) ?_
    refine gx_aload_n C 0 (gDec_at D_X3_giveBack 6 rfl) rfl rfl ?_
    refine gx_geti C fl_X3_giveBack_17 (is_X3_sh A0) rfl (gDec_at D_X3_giveBack 7 rfl) ?_
    refine gx_aload_n C 0 (gDec_at D_X3_giveBack 8 rfl) rfl rfl ?_
    refine gx_geti C fl_X3_giveBack_21 (is_X3_sh A0) rfl (gDec_at D_X3_giveBack 9 rfl) ?_
    refine gx_iadd C (gDec_at D_X3_giveBack 10 rfl) ?_
    refine gx_iconst C (v := 1) (gDec_at D_X3_giveBack 11 rfl) (by decide) ?_
    refine gx_isub C (gDec_at D_X3_giveBack 12 rfl) ?_
    refine gx_iconst C (v := 5) (gDec_at D_X3_giveBack 13 rfl) (by decide) ?_
    refine gx_irem C (gDec_at D_X3_giveBack 14 rfl) (by decide) ?_
    obtain ⟨b1, hF⟩ := gGd hF
    refine gx_aaloadSt C (is_X3_states A0) b1 (gDec_at D_X3_giveBack 15 rfl) ?_
    show gX w g 2 h _ _ (.ref (a0 + 2 + 13 * gN ((((h.1 a0 1) + (h.1 a0 2)) - 1) - (((h.1 a0 1) + (h.1 a0 2)) - 1) / 5 * 5)) :: .ref a1 :: [])
    obtain ⟨v3, hv2, hF⟩ := gBind hF
    refine gx_callV0 C (st := []) 1 [.ref (a0 + 2 + 13 * gN ((((h.1 a0 1) + (h.1 a0 2)) - 1) - (((h.1 a0 1) + (h.1 a0 2)) - 1) / 5 * 5))] (m_X8_copy w h A1 (is_X3_states_at A0 b1) hv2) gX3_giveBack_X8_copy rfl rfl rfl hy_X8_copy (Nat.le_of_ble_eq_true rfl) (Nat.le_of_ble_eq_true rfl) (is_X8_sh A1) rfl rfl rfl (Nat.le_of_ble_eq_true rfl) (gDec_at D_X3_giveBack 16 rfl) ?_
    refine gx_aload_n C 0 (gDec_at D_X3_giveBack 17 rfl) rfl rfl ?_
    refine gx_dup C (gDec_at D_X3_giveBack 18 rfl) rfl ?_
    refine gx_geti C fl_X3_giveBack_21 (is_X3_sh A0) rfl (gDec_at D_X3_giveBack 19 rfl) ?_
    refine gx_iconst C (v := 1) (gDec_at D_X3_giveBack 20 rfl) (by decide) ?_
    refine gx_isub C (gDec_at D_X3_giveBack 21 rfl) ?_
    refine gx_putI C flw_X3_giveBack_21 (is_X3_sh A0) rfl rfl rfl (gDec_at D_X3_giveBack 22 rfl) ?_
    obtain rfl := Option.some.inj hF
    exact gx_vret C E (gDec_at D_X3_giveBack 23 rfl)
/-! LadderBench$State.countNotSound -/
def rm_X8_countNotSound : Room := { frames := 1, cells := 0, slots := 0, locals := 21 }
set_option maxRecDepth 20000 in
theorem ggX8_countNotSound_X5_hasArm : GoodIn wsX8_countNotSound wsX5_hasArm := goodIn_r _ [7, 8, 17, 18, 19, 20, 21] (by decide +kernel) (by decide +kernel)
set_option maxRecDepth 20000 in
theorem gX8_countNotSound_X5_hasArm : GoodIn wsX8_countNotSound (wsV RX8 76 RX5 yX5_hasArm wsX5_hasArm) := goodIn_app (goodIn_of _ (by decide +kernel)) ggX8_countNotSound_X5_hasArm
theorem hy_X8_countNotSound : yX8_countNotSound.cls = RX8 ∧ yX8_countNotSound.cls ≠ "java/lang/invoke/MethodHandle" ∧ yX8_countNotSound.cls ≠ "java/lang/invoke/VarHandle" ∧ (parseMethodDescriptor yX8_countNotSound.desc).map (fun d => d.parameters.length) = some 0 := by decide +kernel
set_option maxRecDepth 100000 in
theorem D_X8_countNotSound : gDec cX8_countNotSound [(0, (.iconst 0, 1)), (1, (.istore_n 1, 1)), (2, (.iconst 0, 1)), (3, (.istore_n 2, 1)), (4, (.iload_n 2, 1)), (5, (.bipush 6, 2)), (7, (.if_icmp .ge 32, 3)), (10, (.aload_n 0, 1)), (11, (.getfield 12, 3)), (14, (.iload_n 2, 1)), (15, (.invokevirtual 76, 3)), (18, (.ifCond .eq 15, 3)), (21, (.aload_n 0, 1)), (22, (.getfield 29, 3)), (25, (.iload_n 2, 1)), (26, (.iaload, 1)), (27, (.ifCond .eq 6, 3)), (30, (.iinc 1 1, 3)), (33, (.iinc 2 1, 3)), (36, (.goto (-32), 3)), (39, (.iload_n 1, 1)), (40, (.ireturn, 1))] = true := by decide +kernel
set_option maxRecDepth 100000 in
theorem in_X8_countNotSound_X8 : ∀ x ∈ u_ws RX8 TX8 8, x ∈ wsX8_countNotSound := by decide +kernel
theorem fl_X8_countNotSound_12 : gF wsX8_countNotSound RX8 12 8 0 := ⟨RX8, TX8, 8, rfl, by decide, in_X8_countNotSound_X8, by decide +kernel⟩
theorem fl_X8_countNotSound_29 : gF wsX8_countNotSound RX8 29 8 3 := ⟨RX8, TX8, 8, rfl, by decide, in_X8_countNotSound_X8, by decide +kernel⟩
def f_X8_countNotSound_4 (a0 : Nat) (h : gHp) : Nat → Int32 → Int32 → Option (Int32)
  | 0, _, _ => none
  | n + 1, x1, x2 => if 6 ≤ x2 then some x1 else (f_X5_hasArm (a0 + 1) x2 h).bind fun v2 => if v2 = true then if gIn x2 6 then if (h.1 (a0 + 11) (gN x2)) = 0 then f_X8_countNotSound_4 a0 h n x1 (x2 + 1) else f_X8_countNotSound_4 a0 h n (x1 + 1) (x2 + 1) else none else f_X8_countNotSound_4 a0 h n x1 (x2 + 1)
set_option maxRecDepth 20000 in
set_option maxHeartbeats 4000000 in
theorem w_X8_countNotSound_4 {w : gWd} {g : gCx} (C : gC w g cX8_countNotSound wsX8_countNotSound RX8 3 1 21) {a0 : Nat} (A0 : is_X8 w a0) (h : gHp)  {o : Int32} (hk : gX w g 3 h 39 [(1, .int o)] []) : ∀ (n : Nat) (x1 : Int32) (x2 : Int32), f_X8_countNotSound_4 a0 h n x1 x2 = some o → gX w g 3 h 4 [(0, .ref a0), (1, .int x1), (2, .int x2)] [] := by
  intro n
  induction n with
  | zero => intro _ _ hF; cases hF
  | succ n ih =>
    intro x1 x2 hF
    rw [f_X8_countNotSound_4] at hF
    refine gx_iload_n C 2 (gDec_at D_X8_countNotSound 4 rfl) rfl rfl ?_
    refine gx_bipush C (v := 6) (gDec_at D_X8_countNotSound 5 rfl) (by decide) ?_
    refine gx_icmp_ge C 39 (gDec_at D_X8_countNotSound 6 rfl) (by decide) (fun c => ?_) (fun c => ?_)
    · replace hF := gPos c hF
      obtain rfl := Option.some.inj hF
      exact gx_sub [1] rfl hk
    · replace hF := gNeg c hF
      refine gx_aload_n C 0 (gDec_at D_X8_countNotSound 7 rfl) rfl rfl ?_
      refine gx_getr C fl_X8_countNotSound_12 (is_X8_sh A0) rfl (gDec_at D_X8_countNotSound 8 rfl) ?_
      refine gx_iload_n C 2 (gDec_at D_X8_countNotSound 9 rfl) rfl rfl ?_
      obtain ⟨v2, hv1, hF⟩ := gBind hF
      refine gx_callV1 C (st := []) 1 [.int x2] (m_X5_hasArm w h (is_X8_network A0) x2 hv1) gX8_countNotSound_X5_hasArm rfl rfl rfl hy_X5_hasArm (Nat.le_of_ble_eq_true rfl) (Nat.le_of_ble_eq_true rfl) (is_X5_sh (is_X8_network A0)) rfl rfl rfl (Nat.le_of_ble_eq_true rfl) (gDec_at D_X8_countNotSound 10 rfl) ?_
      refine gx_ifz_eq C 33 (gDec_at D_X8_countNotSound 11 rfl) (by decide) (fun c => ?_) (fun c => ?_)
      · replace hF := gNeg c hF
        refine gx_iinc C (j := 2) (v := x2 + 1) (lv' := [(2, .int (x2 + 1)), (0, .ref a0), (1, .int x1)]) (gDec_at D_X8_countNotSound 18 rfl) rfl (by rfl) (Nat.le_of_ble_eq_true rfl) rfl ?_
        refine gx_goto C 4 (gDec_at D_X8_countNotSound 19 rfl) (by decide) ?_
        exact gx_sub [1, 2, 0] rfl (ih x1 (x2 + 1) hF)
      · replace hF := gPos c hF
        refine gx_aload_n C 0 (gDec_at D_X8_countNotSound 12 rfl) rfl rfl ?_
        refine gx_getr C fl_X8_countNotSound_29 (is_X8_sh A0) rfl (gDec_at D_X8_countNotSound 13 rfl) ?_
        refine gx_iload_n C 2 (gDec_at D_X8_countNotSound 14 rfl) rfl rfl ?_
        obtain ⟨b3, hF⟩ := gGd hF
        refine gx_iaload C (is_X8_armState A0) b3 (gDec_at D_X8_countNotSound 15 rfl) ?_
        refine gx_if_eq C 33 (gDec_at D_X8_countNotSound 16 rfl) (by decide) (fun c => ?_) (fun c => ?_)
        · replace hF := gPos c hF
          refine gx_iinc C (j := 2) (v := x2 + 1) (lv' := [(2, .int (x2 + 1)), (0, .ref a0), (1, .int x1)]) (gDec_at D_X8_countNotSound 18 rfl) rfl (by rfl) (Nat.le_of_ble_eq_true rfl) rfl ?_
          refine gx_goto C 4 (gDec_at D_X8_countNotSound 19 rfl) (by decide) ?_
          exact gx_sub [1, 2, 0] rfl (ih x1 (x2 + 1) hF)
        · replace hF := gNeg c hF
          refine gx_iinc C (j := 1) (v := x1 + 1) (lv' := [(1, .int (x1 + 1)), (0, .ref a0), (2, .int x2)]) (gDec_at D_X8_countNotSound 17 rfl) rfl (by rfl) (Nat.le_of_ble_eq_true rfl) rfl ?_
          refine gx_iinc C (j := 2) (v := x2 + 1) (lv' := [(2, .int (x2 + 1)), (1, .int (x1 + 1)), (0, .ref a0)]) (gDec_at D_X8_countNotSound 18 rfl) rfl (by rfl) (Nat.le_of_ble_eq_true rfl) rfl ?_
          refine gx_goto C 4 (gDec_at D_X8_countNotSound 19 rfl) (by decide) ?_
          exact gx_sub [2, 1, 0] rfl (ih (x1 + 1) (x2 + 1) hF)
def f_X8_countNotSound (a0 : Nat) (h : gHp) : Option (Int32) := (f_X8_countNotSound_4 a0 h gFuel 0 0).bind fun v4 => some v4
set_option maxRecDepth 20000 in
set_option maxHeartbeats 4000000 in
theorem m_X8_countNotSound (w : gWd) (h : gHp) {a0 : Nat} (A0 : is_X8 w a0) {o : Int32} (hF : f_X8_countNotSound a0 h = some o) : gMet w yX8_countNotSound wsX8_countNotSound rm_X8_countNotSound [.ref a0] h (some (.int o)) h := by
  refine gMet_of (cc := cX8_countNotSound) (maxL := 3) (ret := (some .int)) (fr := 1) (lo := 21) (own := RX8) [(0, .ref a0)] (by decide) rfl rfl (Nat.le_of_ble_eq_true rfl) rfl (Nat.le_refl _) (Nat.le_refl _) (fun g C E => ?_)
  rw [f_X8_countNotSound] at hF
  refine gx_iconst C (v := 0) (gDec_at D_X8_countNotSound 0 rfl) (by decide) ?_
  refine gx_istore_n C (lv' := [(1, .int 0), (0, .ref a0)]) (gDec_at D_X8_countNotSound 1 rfl) rfl (Nat.le_of_ble_eq_true rfl) rfl ?_
  refine gx_iconst C (v := 0) (gDec_at D_X8_countNotSound 2 rfl) (by decide) ?_
  refine gx_istore_n C (lv' := [(2, .int 0), (1, .int 0), (0, .ref a0)]) (gDec_at D_X8_countNotSound 3 rfl) rfl (Nat.le_of_ble_eq_true rfl) rfl ?_
  obtain ⟨v4, hv5, hF⟩ := gBind hF
  have k6 : gX w g 3 h 39 [(1, .int v4)] [] := by
    refine gx_iload_n C 0 (gDec_at D_X8_countNotSound 20 rfl) rfl rfl ?_
    obtain rfl := Option.some.inj hF
    exact gx_iret C E (gDec_at D_X8_countNotSound 21 rfl)
  exact gx_sub [2, 1, 0] rfl (w_X8_countNotSound_4 C A0 h k6 gFuel 0 0 hv5)
