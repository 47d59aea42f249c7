/-! LadderBench$Network.countKind -/
def rm_X5_countKind : Room := { frames := 0, cells := 0, slots := 0, locals := 0 }
theorem hy_X5_countKind : yX5_countKind.cls = RX5 ∧ yX5_countKind.cls ≠ "java/lang/invoke/MethodHandle" ∧ yX5_countKind.cls ≠ "java/lang/invoke/VarHandle" ∧ (parseMethodDescriptor yX5_countKind.desc).map (fun d => d.parameters.length) = some 1 := by decide +kernel
set_option maxRecDepth 100000 in
theorem D_X5_countKind : gDec cX5_countKind [(0, (.iconst 0, 1)), (1, (.istore_n 2, 1)), (2, (.iconst 0, 1)), (3, (.istore_n 3, 1)), (4, (.iload_n 3, 1)), (5, (.aload_n 0, 1)), (6, (.getfield 24, 3)), (9, (.if_icmp .ge 22, 3)), (12, (.aload_n 0, 1)), (13, (.getfield 9, 3)), (16, (.iload_n 3, 1)), (17, (.iaload, 1)), (18, (.iload_n 1, 1)), (19, (.if_icmp .ne 6, 3)), (22, (.iinc 2 1, 3)), (25, (.iinc 3 1, 3)), (28, (.goto (-24), 3)), (31, (.iload_n 2, 1)), (32, (.ireturn, 1))] = true := by decide +kernel
set_option maxRecDepth 100000 in
theorem in_X5_countKind_X5 : ∀ x ∈ u_ws RX5 TX5 5, x ∈ wsX5_countKind := by decide +kernel
theorem fl_X5_countKind_24 : gF wsX5_countKind RX5 24 5 4 := ⟨RX5, TX5, 5, rfl, by decide, in_X5_countKind_X5, by decide +kernel⟩
theorem fl_X5_countKind_9 : gF wsX5_countKind RX5 9 5 0 := ⟨RX5, TX5, 5, rfl, by decide, in_X5_countKind_X5, by decide +kernel⟩
def f_X5_countKind_4 (a0 : Nat) (x1 : Int32) (h : gHp) : Nat → Int32 → Int32 → Option (Int32)
  | 0, _, _ => none
  | n + 1, x2, x3 => if (h.1 a0 4) ≤ x3 then some x2 else if gIn x3 11 then if (h.1 (a0 + 1) (gN x3)) = x1 then f_X5_countKind_4 a0 x1 h n (x2 + 1) (x3 + 1) else f_X5_countKind_4 a0 x1 h n x2 (x3 + 1) else none
set_option maxRecDepth 20000 in
set_option maxHeartbeats 4000000 in
theorem w_X5_countKind_4 {w : gWd} {g : gCx} (C : gC w g cX5_countKind wsX5_countKind RX5 4 0 0) {a0 : Nat} (A0 : is_X5 w a0) (x1 : Int32) (h : gHp)  {o : Int32} (hk : gX w g 4 h 31 [(2, .int o)] []) : ∀ (n : Nat) (x2 : Int32) (x3 : Int32), f_X5_countKind_4 a0 x1 h n x2 x3 = some o → gX w g 4 h 4 [(0, .ref a0), (1, .int x1), (2, .int x2), (3, .int x3)] [] := by
  intro n
  induction n with
  | zero => intro _ _ hF; cases hF
  | succ n ih =>
    intro x2 x3 hF
    rw [f_X5_countKind_4] at hF
    refine gx_iload_n C 3 (gDec_at D_X5_countKind 4 rfl) rfl rfl ?_
    refine gx_aload_n C 0 (gDec_at D_X5_countKind 5 rfl) rfl rfl ?_
    refine gx_geti C fl_X5_countKind_24 (is_X5_sh A0) rfl (gDec_at D_X5_countKind 6 rfl) ?_
    refine gx_icmp_ge C 31 (gDec_at D_X5_countKind 7 rfl) (by decide) (fun c => ?_) (fun c => ?_)
    · replace hF := gPos c hF
      obtain rfl := Option.some.inj hF
      exact gx_sub [2] rfl hk
    · replace hF := gNeg c hF
      refine gx_aload_n C 0 (gDec_at D_X5_countKind 8 rfl) rfl rfl ?_
      refine gx_getr C fl_X5_countKind_9 (is_X5_sh A0) rfl (gDec_at D_X5_countKind 9 rfl) ?_
      refine gx_iload_n C 3 (gDec_at D_X5_countKind 10 rfl) rfl rfl ?_
      obtain ⟨b1, hF⟩ := gGd hF
      refine gx_iaload C (is_X5_kind A0) b1 (gDec_at D_X5_countKind 11 rfl) ?_
      refine gx_iload_n C 1 (gDec_at D_X5_countKind 12 rfl) rfl rfl ?_
      refine gx_icmp_ne C 25 (gDec_at D_X5_countKind 13 rfl) (by decide) (fun c => ?_) (fun c => ?_)
      · replace hF := gNeg c hF
        refine gx_iinc C (j := 3) (v := x3 + 1) (lv' := [(3, .int (x3 + 1)), (0, .ref a0), (1, .int x1), (2, .int x2)]) (gDec_at D_X5_countKind 15 rfl) rfl (by rfl) (Nat.le_of_ble_eq_true rfl) rfl ?_
        refine gx_goto C 4 (gDec_at D_X5_countKind 16 rfl) (by decide) ?_
        exact gx_sub [1, 2, 3, 0] rfl (ih x2 (x3 + 1) hF)
      · replace hF := gPos c hF
        refine gx_iinc C (j := 2) (v := x2 + 1) (lv' := [(2, .int (x2 + 1)), (0, .ref a0), (1, .int x1), (3, .int x3)]) (gDec_at D_X5_countKind 14 rfl) rfl (by rfl) (Nat.le_of_ble_eq_true rfl) rfl ?_
        refine gx_iinc C (j := 3) (v := x3 + 1) (lv' := [(3, .int (x3 + 1)), (2, .int (x2 + 1)), (0, .ref a0), (1, .int x1)]) (gDec_at D_X5_countKind 15 rfl) rfl (by rfl) (Nat.le_of_ble_eq_true rfl) rfl ?_
        refine gx_goto C 4 (gDec_at D_X5_countKind 16 rfl) (by decide) ?_
        exact gx_sub [2, 3, 1, 0] rfl (ih (x2 + 1) (x3 + 1) hF)
def f_X5_countKind (a0 : Nat) (x1 : Int32) (h : gHp) : Option (Int32) := (f_X5_countKind_4 a0 x1 h gFuel 0 0).bind fun v2 => some v2
set_option maxRecDepth 20000 in
set_option maxHeartbeats 4000000 in
theorem m_X5_countKind (w : gWd) (h : gHp) {a0 : Nat} (A0 : is_X5 w a0) (x1 : Int32) {o : Int32} (hF : f_X5_countKind a0 x1 h = some o) : gMet w yX5_countKind wsX5_countKind rm_X5_countKind [.ref a0, .int x1] h (some (.int o)) h := by
  refine gMet_of (cc := cX5_countKind) (maxL := 4) (ret := (some .int)) (fr := 0) (lo := 0) (own := RX5) [(0, .ref a0), (1, .int x1)] (by decide) rfl rfl (Nat.le_of_ble_eq_true rfl) rfl (Nat.le_refl _) (Nat.le_refl _) (fun g C E => ?_)
  rw [f_X5_countKind] at hF
  refine gx_iconst C (v := 0) (gDec_at D_X5_countKind 0 rfl) (by decide) ?_
  refine gx_istore_n C (lv' := [(2, .int 0), (0, .ref a0), (1, .int x1)]) (gDec_at D_X5_countKind 1 rfl) rfl (Nat.le_of_ble_eq_true rfl) rfl ?_
  refine gx_iconst C (v := 0) (gDec_at D_X5_countKind 2 rfl) (by decide) ?_
  refine gx_istore_n C (lv' := [(3, .int 0), (2, .int 0), (0, .ref a0), (1, .int x1)]) (gDec_at D_X5_countKind 3 rfl) rfl (Nat.le_of_ble_eq_true rfl) rfl ?_
  obtain ⟨v2, hv3, hF⟩ := gBind hF
  have k4 : gX w g 4 h 31 [(2, .int v2)] [] := by
    refine gx_iload_n C 0 (gDec_at D_X5_countKind 17 rfl) rfl rfl ?_
    obtain rfl := Option.some.inj hF
    exact gx_iret C E (gDec_at D_X5_countKind 18 rfl)
  exact gx_sub [2, 3, 1, 0] rfl (w_X5_countKind_4 C A0 x1 h k4 gFuel 0 0 hv3)
/-! LadderBench$Notes.countTimes -/
def rm_X7_countTimes : Room := { frames := 0, cells := 0, slots := 0, locals := 0 }
theorem hy_X7_countTimes : yX7_countTimes.cls = RX7 ∧ yX7_countTimes.cls ≠ "java/lang/invoke/MethodHandle" ∧ yX7_countTimes.cls ≠ "java/lang/invoke/VarHandle" ∧ (parseMethodDescriptor yX7_countTimes.desc).map (fun d => d.parameters.length) = some 0 := by decide +kernel
set_option maxRecDepth 100000 in
theorem D_X7_countTimes : gDec cX7_countTimes [(0, (.iconst 0, 1)), (1, (.istore_n 1, 1)), (2, (.iconst 0, 1)), (3, (.istore_n 2, 1)), (4, (.iload_n 2, 1)), (5, (.aload_n 0, 1)), (6, (.getfield 22, 3)), (9, (.if_icmp .ge 18, 3)), (12, (.iload_n 1, 1)), (13, (.aload_n 0, 1)), (14, (.getfield 18, 3)), (17, (.iload_n 2, 1)), (18, (.iaload, 1)), (19, (.iadd, 1)), (20, (.istore_n 1, 1)), (21, (.iinc 2 1, 3)), (24, (.goto (-20), 3)), (27, (.iload_n 1, 1)), (28, (.ireturn, 1))] = true := by decide +kernel
set_option maxRecDepth 100000 in
theorem in_X7_countTimes_X7 : ∀ x ∈ u_ws RX7 TX7 4, x ∈ wsX7_countTimes := by decide +kernel
theorem fl_X7_countTimes_22 : gF wsX7_countTimes RX7 22 7 3 := ⟨RX7, TX7, 4, rfl, by decide, in_X7_countTimes_X7, by decide +kernel⟩
theorem fl_X7_countTimes_18 : gF wsX7_countTimes RX7 18 7 2 := ⟨RX7, TX7, 4, rfl, by decide, in_X7_countTimes_X7, by decide +kernel⟩
def f_X7_countTimes_4 (a0 : Nat) (h : gHp) : Nat → Int32 → Int32 → Option (Int32)
  | 0, _, _ => none
  | n + 1, x1, x2 => if (h.1 a0 3) ≤ x2 then some x1 else if gIn x2 20 then f_X7_countTimes_4 a0 h n (x1 + (h.1 (a0 + 3) (gN x2))) (x2 + 1) else none
set_option maxRecDepth 20000 in
set_option maxHeartbeats 4000000 in
theorem w_X7_countTimes_4 {w : gWd} {g : gCx} (C : gC w g cX7_countTimes wsX7_countTimes RX7 3 0 0) {a0 : Nat} (A0 : is_X7 w a0) (h : gHp)  {o : Int32} (hk : gX w g 3 h 27 [(1, .int o)] []) : ∀ (n : Nat) (x1 : Int32) (x2 : Int32), f_X7_countTimes_4 a0 h n x1 x2 = some o → gX w g 3 h 4 [(0, .ref a0), (1, .int x1), (2, .int x2)] [] := by
  intro n
  induction n with
  | zero => intro _ _ hF; cases hF
  | succ n ih =>
    intro x1 x2 hF
    rw [f_X7_countTimes_4] at hF
    refine gx_iload_n C 2 (gDec_at D_X7_countTimes 4 rfl) rfl rfl ?_
    refine gx_aload_n C 0 (gDec_at D_X7_countTimes 5 rfl) rfl rfl ?_
    refine gx_geti C fl_X7_countTimes_22 (is_X7_sh A0) rfl (gDec_at D_X7_countTimes 6 rfl) ?_
    refine gx_icmp_ge C 27 (gDec_at D_X7_countTimes 7 rfl) (by decide) (fun c => ?_) (fun c => ?_)
    · replace hF := gPos c hF
      obtain rfl := Option.some.inj hF
      exact gx_sub [1] rfl hk
    · replace hF := gNeg c hF
      refine gx_iload_n C 1 (gDec_at D_X7_countTimes 8 rfl) rfl rfl ?_
      refine gx_aload_n C 0 (gDec_at D_X7_countTimes 9 rfl) rfl rfl ?_
      refine gx_getr C fl_X7_countTimes_18 (is_X7_sh A0) rfl (gDec_at D_X7_countTimes 10 rfl) ?_
      refine gx_iload_n C 2 (gDec_at D_X7_countTimes 11 rfl) rfl rfl ?_
      obtain ⟨b1, hF⟩ := gGd hF
      refine gx_iaload C (is_X7_times A0) b1 (gDec_at D_X7_countTimes 12 rfl) ?_
      refine gx_iadd C (gDec_at D_X7_countTimes 13 rfl) ?_
      refine gx_istore_n C (lv' := [(1, .int (x1 + (h.1 (a0 + 3) (gN x2)))), (0, .ref a0), (2, .int x2)]) (gDec_at D_X7_countTimes 14 rfl) rfl (Nat.le_of_ble_eq_true rfl) rfl ?_
      refine gx_iinc C (j := 2) (v := x2 + 1) (lv' := [(2, .int (x2 + 1)), (1, .int (x1 + (h.1 (a0 + 3) (gN x2)))), (0, .ref a0)]) (gDec_at D_X7_countTimes 15 rfl) rfl (by rfl) (Nat.le_of_ble_eq_true rfl) rfl ?_
      refine gx_goto C 4 (gDec_at D_X7_countTimes 16 rfl) (by decide) ?_
      exact gx_sub [2, 1, 0] rfl (ih (x1 + (h.1 (a0 + 3) (gN x2))) (x2 + 1) hF)
def f_X7_countTimes (a0 : Nat) (h : gHp) : Option (Int32) := (f_X7_countTimes_4 a0 h gFuel 0 0).bind fun v2 => some v2
set_option maxRecDepth 20000 in
set_option maxHeartbeats 4000000 in
theorem m_X7_countTimes (w : gWd) (h : gHp) {a0 : Nat} (A0 : is_X7 w a0) {o : Int32} (hF : f_X7_countTimes a0 h = some o) : gMet w yX7_countTimes wsX7_countTimes rm_X7_countTimes [.ref a0] h (some (.int o)) h := by
  refine gMet_of (cc := cX7_countTimes) (maxL := 3) (ret := (some .int)) (fr := 0) (lo := 0) (own := RX7) [(0, .ref a0)] (by decide) rfl rfl (Nat.le_of_ble_eq_true rfl) rfl (Nat.le_refl _) (Nat.le_refl _) (fun g C E => ?_)
  rw [f_X7_countTimes] at hF
  refine gx_iconst C (v := 0) (gDec_at D_X7_countTimes 0 rfl) (by decide) ?_
  refine gx_istore_n C (lv' := [(1, .int 0), (0, .ref a0)]) (gDec_at D_X7_countTimes 1 rfl) rfl (Nat.le_of_ble_eq_true rfl) rfl ?_
  refine gx_iconst C (v := 0) (gDec_at D_X7_countTimes 2 rfl) (by decide) ?_
  refine gx_istore_n C (lv' := [(2, .int 0), (1, .int 0), (0, .ref a0)]) (gDec_at D_X7_countTimes 3 rfl) rfl (Nat.le_of_ble_eq_true rfl) rfl ?_
  obtain ⟨v2, hv3, hF⟩ := gBind hF
  have k4 : gX w g 3 h 27 [(1, .int v2)] [] := by
    refine gx_iload_n C 0 (gDec_at D_X7_countTimes 17 rfl) rfl rfl ?_
    obtain rfl := Option.some.inj hF
    exact gx_iret C E (gDec_at D_X7_countTimes 18 rfl)
  exact gx_sub [2, 1, 0] rfl (w_X7_countTimes_4 C A0 h k4 gFuel 0 0 hv3)
