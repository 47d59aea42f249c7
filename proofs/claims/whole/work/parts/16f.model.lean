/-! LadderBenchModel.mayFold -/
def rm_X10_mayFold : Room := { frames := 2, cells := 0, slots := 0, locals := 43 }
set_option maxRecDepth 20000 in
theorem ggX10_mayFold_X10_isFolded : GoodIn wsX10_mayFold wsX10_isFolded := goodIn_r _ [10, 1, 2, 3, 4, 5, 6, 11, 12, 13, 14, 15, 16, 17, 18, 19, 20, 21, 22, 23, 24, 25, 26, 27, 28, 29, 30, 31, 32, 33, 34, 35, 36] (by decide +kernel) (by decide +kernel)
set_option maxRecDepth 20000 in
theorem gX10_mayFold_X10_isFolded : GoodIn wsX10_mayFold (wsV RX10 142 RX10 yX10_isFolded wsX10_isFolded) := goodIn_app (goodIn_of _ (by decide +kernel)) ggX10_mayFold_X10_isFolded
set_option maxRecDepth 20000 in
theorem ggX10_mayFold_X10_ofPart : GoodIn wsX10_mayFold wsX10_ofPart := goodIn_r _ [5, 6, 11, 12, 13, 14, 15, 16, 17, 18, 19, 20, 21, 22, 23, 24, 25, 26, 27, 28, 29, 30, 31, 32, 33, 34, 35, 36] (by decide +kernel) (by decide +kernel)
set_option maxRecDepth 20000 in
theorem gX10_mayFold_X10_ofPart : GoodIn wsX10_mayFold (wsV RX10 130 RX10 yX10_ofPart wsX10_ofPart) := goodIn_app (goodIn_of _ (by decide +kernel)) ggX10_mayFold_X10_ofPart
theorem hy_X10_mayFold : yX10_mayFold.cls = RX10 ∧ yX10_mayFold.cls ≠ "java/lang/invoke/MethodHandle" ∧ yX10_mayFold.cls ≠ "java/lang/invoke/VarHandle" ∧ (parseMethodDescriptor yX10_mayFold.desc).map (fun d => d.parameters.length) = some 1 := by decide +kernel
set_option maxRecDepth 100000 in
theorem D_X10_mayFold : gDec cX10_mayFold [(0, (.iconst 0, 1)), (1, (.istore_n 2, 1)), (2, (.iload_n 2, 1)), (3, (.iload_n 1, 1)), (4, (.if_icmp .ge 29, 3)), (7, (.aload_n 0, 1)), (8, (.iload_n 2, 1)), (9, (.iconst 1, 1)), (10, (.invokevirtual 130, 3)), (13, (.iload_n 1, 1)), (14, (.if_icmp .ne 13, 3)), (17, (.aload_n 0, 1)), (18, (.iload_n 2, 1)), (19, (.invokevirtual 142, 3)), (22, (.ifCond .ne 5, 3)), (25, (.iconst 0, 1)), (26, (.ireturn, 1)), (27, (.iinc 2 1, 3)), (30, (.goto (-28), 3)), (33, (.iconst 1, 1)), (34, (.ireturn, 1))] = true := by decide +kernel
def f_X10_mayFold_2 (a0 : Nat) (x1 : Int32) (h : gHp) : Nat → Int32 → Option (Bool)
  | 0, _ => none
  | n + 1, x2 => if x1 ≤ x2 then some true else (f_X10_ofPart a0 x2 1 h).bind fun v2 => if v2 = x1 then (f_X10_isFolded a0 x2 h).bind fun v4 => if v4 = true then f_X10_mayFold_2 a0 x1 h n (x2 + 1) else some false else f_X10_mayFold_2 a0 x1 h n (x2 + 1)
set_option maxRecDepth 20000 in
set_option maxHeartbeats 4000000 in
theorem w_X10_mayFold_2 {w : gWd} {g : gCx} (C : gC w g cX10_mayFold wsX10_mayFold RX10 3 2 43) {a0 : Nat} (A0 : is_X10 w a0) (x1 : Int32) (h : gHp)  {o : Bool} (E : gEn w g (some .boolean) (some (.int (gZ o))) h) : ∀ (n : Nat) (x2 : Int32), f_X10_mayFold_2 a0 x1 h n x2 = some o → gX w g 3 h 2 [(0, .ref a0), (1, .int x1), (2, .int x2)] [] := by
  intro n
  induction n with
  | zero => intro _ hF; cases hF
  | succ n ih =>
    intro x2 hF
    rw [f_X10_mayFold_2] at hF
    refine gx_iload_n C 2 (gDec_at D_X10_mayFold 2 rfl) rfl rfl ?_
    refine gx_iload_n C 1 (gDec_at D_X10_mayFold 3 rfl) rfl rfl ?_
    refine gx_icmp_ge C 33 (gDec_at D_X10_mayFold 4 rfl) (by decide) (fun c => ?_) (fun c => ?_)
    · replace hF := gPos c hF
      refine gx_iconst C (v := 1) (gDec_at D_X10_mayFold 19 rfl) (by decide) ?_
      obtain rfl := Option.some.inj hF
      exact gx_zret (b := true) C E (gDec_at D_X10_mayFold 20 rfl)
    · replace hF := gNeg c hF
      refine gx_aload_n C 0 (gDec_at D_X10_mayFold 5 rfl) rfl rfl ?_
      refine gx_iload_n C 2 (gDec_at D_X10_mayFold 6 rfl) rfl rfl ?_
      refine gx_iconst C (v := 1) (gDec_at D_X10_mayFold 7 rfl) (by decide) ?_
      obtain ⟨v2, hv1, hF⟩ := gBind hF
      refine gx_callV1 C (st := []) 2 [.int x2, .int 1] (m_X10_ofPart w h A0 x2 1 hv1) gX10_mayFold_X10_ofPart rfl rfl rfl hy_X10_ofPart (Nat.le_of_ble_eq_true rfl) (Nat.le_of_ble_eq_true rfl) (is_X10_sh A0) rfl rfl rfl (Nat.le_of_ble_eq_true rfl) (gDec_at D_X10_mayFold 8 rfl) ?_
      refine gx_iload_n C 1 (gDec_at D_X10_mayFold 9 rfl) rfl rfl ?_
      refine gx_icmp_ne C 27 (gDec_at D_X10_mayFold 10 rfl) (by decide) (fun c => ?_) (fun c => ?_)
      · replace hF := gNeg c hF
        refine gx_iinc C (j := 2) (v := x2 + 1) (lv' := [(2, .int (x2 + 1)), (0, .ref a0), (1, .int x1)]) (gDec_at D_X10_mayFold 17 rfl) rfl (by rfl) (Nat.le_of_ble_eq_true rfl) rfl ?_
        refine gx_goto C 2 (gDec_at D_X10_mayFold 18 rfl) (by decide) ?_
        exact gx_sub [1, 2, 0] rfl (ih (x2 + 1) hF)
      · replace hF := gPos c hF
        refine gx_aload_n C 0 (gDec_at D_X10_mayFold 11 rfl) rfl rfl ?_
        refine gx_iload_n C 2 (gDec_at D_X10_mayFold 12 rfl) rfl rfl ?_
        obtain ⟨v4, hv3, hF⟩ := gBind hF
        refine gx_callV1 C (st := []) 1 [.int x2] (m_X10_isFolded w h A0 x2 hv3) gX10_mayFold_X10_isFolded rfl rfl rfl hy_X10_isFolded (Nat.le_of_ble_eq_true rfl) (Nat.le_of_ble_eq_true rfl) (is_X10_sh A0) rfl rfl rfl (Nat.le_of_ble_eq_true rfl) (gDec_at D_X10_mayFold 13 rfl) ?_
        refine gx_ifz_ne C 27 (gDec_at D_X10_mayFold 14 rfl) (by decide) (fun c => ?_) (fun c => ?_)
        · replace hF := gPos c hF
          refine gx_iinc C (j := 2) (v := x2 + 1) (lv' := [(2, .int (x2 + 1)), (0, .ref a0), (1, .int x1)]) (gDec_at D_X10_mayFold 17 rfl) rfl (by rfl) (Nat.le_of_ble_eq_true rfl) rfl ?_
          refine gx_goto C 2 (gDec_at D_X10_mayFold 18 rfl) (by decide) ?_
          exact gx_sub [1, 2, 0] rfl (ih (x2 + 1) hF)
        · replace hF := gNeg c hF
          refine gx_iconst C (v := 0) (gDec_at D_X10_mayFold 15 rfl) (by decide) ?_
          obtain rfl := Option.some.inj hF
          exact gx_zret (b := false) C E (gDec_at D_X10_mayFold 16 rfl)
def f_X10_mayFold (a0 : Nat) (x1 : Int32) (h : gHp) : Option (Bool) := f_X10_mayFold_2 a0 x1 h gFuel 0
set_option maxRecDepth 20000 in
set_option maxHeartbeats 4000000 in
theorem m_X10_mayFold (w : gWd) (h : gHp) {a0 : Nat} (A0 : is_X10 w a0) (x1 : Int32) {o : Bool} (hF : f_X10_mayFold a0 x1 h = some o) : gMet w yX10_mayFold wsX10_mayFold rm_X10_mayFold [.ref a0, .int x1] h (some (.int (gZ o))) h := by
  refine gMet_of (cc := cX10_mayFold) (maxL := 3) (ret := (some .boolean)) (fr := 2) (lo := 43) (own := RX10) [(0, .ref a0), (1, .int x1)] (by decide) rfl rfl (Nat.le_of_ble_eq_true rfl) rfl (Nat.le_refl _) (Nat.le_refl _) (fun g C E => ?_)
  rw [f_X10_mayFold] at hF
  refine gx_iconst C (v := 0) (gDec_at D_X10_mayFold 0 rfl) (by decide) ?_
  refine gx_istore_n C (lv' := [(2, .int 0), (0, .ref a0), (1, .int x1)]) (gDec_at D_X10_mayFold 1 rfl) rfl (Nat.le_of_ble_eq_true rfl) rfl ?_
  exact gx_sub [1, 2, 0] rfl (w_X10_mayFold_2 C A0 x1 h   E gFuel 0 hF)
/-! LadderBenchModel.open -/
def rm_X10_open : Room := { frames := 2, cells := 0, slots := 0, locals := 43 }
set_option maxRecDepth 20000 in
theorem ggX10_open_X10_isFolded : GoodIn wsX10_open wsX10_isFolded := goodIn_r _ [10, 11, 12, 13, 4, 14, 6, 15, 16, 17, 18, 19, 20, 21, 22, 23, 24, 25, 26, 27, 28, 29, 30, 31, 32, 33, 34, 35, 36, 37, 38, 39, 40] (by decide +kernel) (by decide +kernel)
set_option maxRecDepth 20000 in
theorem gX10_open_X10_isFolded : GoodIn wsX10_open (wsV RX10 142 RX10 yX10_isFolded wsX10_isFolded) := goodIn_app (goodIn_of _ (by decide +kernel)) ggX10_open_X10_isFolded
set_option maxRecDepth 20000 in
theorem ggX10_open_X10_parts : GoodIn wsX10_open wsX10_parts := goodIn_r _ [5, 6, 15, 16, 17, 18, 19, 20, 21, 22, 23, 24, 25, 26, 27, 28, 29, 30, 31, 32, 33, 34, 35, 36, 37, 38, 39, 40] (by decide +kernel) (by decide +kernel)
set_option maxRecDepth 20000 in
theorem gX10_open_X10_parts : GoodIn wsX10_open (wsV RX10 56 RX10 yX10_parts wsX10_parts) := goodIn_app (goodIn_of _ (by decide +kernel)) ggX10_open_X10_parts
theorem hy_X10_open : yX10_open.cls = RX10 ∧ yX10_open.cls ≠ "java/lang/invoke/MethodHandle" ∧ yX10_open.cls ≠ "java/lang/invoke/VarHandle" ∧ (parseMethodDescriptor yX10_open.desc).map (fun d => d.parameters.length) = some 0 := by decide +kernel
set_option maxRecDepth 100000 in
theorem D_X10_open : gDec cX10_open [(0, (.iconst 0, 1)), (1, (.istore_n 1, 1)), (2, (.iconst 0, 1)), (3, (.istore_n 2, 1)), (4, (.iload_n 2, 1)), (5, (.aload_n 0, 1)), (6, (.invokevirtual 56, 3)), (9, (.if_icmp .ge 25, 3)), (12, (.iload_n 1, 1)), (13, (.aload_n 0, 1)), (14, (.iload_n 2, 1)), (15, (.invokevirtual 142, 3)), (18, (.ifCond .eq 7, 3)), (21, (.iconst 0, 1)), (22, (.goto 4, 3)), (25, (.iconst 1, 1)), (26, (.iadd, 1)), (27, (.istore_n 1, 1)), (28, (.iinc 2 1, 3)), (31, (.goto (-27), 3)), (34, (.iload_n 1, 1)), (35, (.ireturn, 1))] = true := by decide +kernel
def f_X10_open_4 (a0 : Nat) (h : gHp) : Nat → Int32 → Int32 → Option (Int32)
  | 0, _, _ => none
  | n + 1, x1, x2 => (f_X10_parts a0 h).bind fun v2 => if v2 ≤ x2 then some x1 else (f_X10_isFolded a0 x2 h).bind fun v4 => if v4 = true then f_X10_open_4 a0 h n (x1 + 0) (x2 + 1) else f_X10_open_4 a0 h n (x1 + 1) (x2 + 1)
set_option maxRecDepth 20000 in
set_option maxHeartbeats 4000000 in
theorem w_X10_open_4 {w : gWd} {g : gCx} (C : gC w g cX10_open wsX10_open RX10 3 2 43) {a0 : Nat} (A0 : is_X10 w a0) (h : gHp)  {o : Int32} (hk : gX w g 3 h 34 [(1, .int o)] []) : ∀ (n : Nat) (x1 : Int32) (x2 : Int32), f_X10_open_4 a0 h n x1 x2 = some o → gX w g 3 h 4 [(0, .ref a0), (1, .int x1), (2, .int x2)] [] := by
  intro n
  induction n with
  | zero => intro _ _ hF; cases hF
  | succ n ih =>
    intro x1 x2 hF
    rw [f_X10_open_4] at hF
    refine gx_iload_n C 2 (gDec_at D_X10_open 4 rfl) rfl rfl ?_
    refine gx_aload_n C 0 (gDec_at D_X10_open 5 rfl) rfl rfl ?_
    obtain ⟨v2, hv1, hF⟩ := gBind hF
    refine gx_callV1 C (st := .int x2 :: []) 0 [] (m_X10_parts w h A0 hv1) gX10_open_X10_parts rfl rfl rfl hy_X10_parts (Nat.le_of_ble_eq_true rfl) (Nat.le_of_ble_eq_true rfl) (is_X10_sh A0) rfl rfl rfl (Nat.le_of_ble_eq_true rfl) (gDec_at D_X10_open 6 rfl) ?_
    refine gx_icmp_ge C 34 (gDec_at D_X10_open 7 rfl) (by decide) (fun c => ?_) (fun c => ?_)
    · replace hF := gPos c hF
      obtain rfl := Option.some.inj hF
      exact gx_sub [1] rfl hk
    · replace hF := gNeg c hF
      refine gx_iload_n C 1 (gDec_at D_X10_open 8 rfl) rfl rfl ?_
      refine gx_aload_n C 0 (gDec_at D_X10_open 9 rfl) rfl rfl ?_
      refine gx_iload_n C 2 (gDec_at D_X10_open 10 rfl) rfl rfl ?_
      obtain ⟨v4, hv3, hF⟩ := gBind hF
      refine gx_callV1 C (st := .int x1 :: []) 1 [.int x2] (m_X10_isFolded w h A0 x2 hv3) gX10_open_X10_isFolded rfl rfl rfl hy_X10_isFolded (Nat.le_of_ble_eq_true rfl) (Nat.le_of_ble_eq_true rfl) (is_X10_sh A0) rfl rfl rfl (Nat.le_of_ble_eq_true rfl) (gDec_at D_X10_open 11 rfl) ?_
      refine gx_ifz_eq C 25 (gDec_at D_X10_open 12 rfl) (by decide) (fun c => ?_) (fun c => ?_)
      · replace hF := gNeg c hF
        refine gx_iconst C (v := 1) (gDec_at D_X10_open 15 rfl) (by decide) ?_
        refine gx_iadd C (gDec_at D_X10_open 16 rfl) ?_
        refine gx_istore_n C (lv' := [(1, .int (x1 + 1)), (0, .ref a0), (2, .int x2)]) (gDec_at D_X10_open 17 rfl) rfl (Nat.le_of_ble_eq_true rfl) rfl ?_
        refine gx_iinc C (j := 2) (v := x2 + 1) (lv' := [(2, .int (x2 + 1)), (1, .int (x1 + 1)), (0, .ref a0)]) (gDec_at D_X10_open 18 rfl) rfl (by rfl) (Nat.le_of_ble_eq_true rfl) rfl ?_
        refine gx_goto C 4 (gDec_at D_X10_open 19 rfl) (by decide) ?_
        exact gx_sub [2, 1, 0] rfl (ih (x1 + 1) (x2 + 1) hF)
      · replace hF := gPos c hF
        refine gx_iconst C (v := 0) (gDec_at D_X10_open 13 rfl) (by decide) ?_
        refine gx_goto C 26 (gDec_at D_X10_open 14 rfl) (by decide) ?_
        refine gx_iadd C (gDec_at D_X10_open 16 rfl) ?_
        refine gx_istore_n C (lv' := [(1, .int (x1 + 0)), (0, .ref a0), (2, .int x2)]) (gDec_at D_X10_open 17 rfl) rfl (Nat.le_of_ble_eq_true rfl) rfl ?_
        refine gx_iinc C (j := 2) (v := x2 + 1) (lv' := [(2, .int (x2 + 1)), (1, .int (x1 + 0)), (0, .ref a0)]) (gDec_at D_X10_open 18 rfl) rfl (by rfl) (Nat.le_of_ble_eq_true rfl) rfl ?_
        refine gx_goto C 4 (gDec_at D_X10_open 19 rfl) (by decide) ?_
        exact gx_sub [2, 1, 0] rfl (ih (x1 + 0) (x2 + 1) hF)
def f_X10_open (a0 : Nat) (h : gHp) : Option (Int32) := (f_X10_open_4 a0 h gFuel 0 0).bind fun v5 => some v5
set_option maxRecDepth 20000 in
set_option maxHeartbeats 4000000 in
theorem m_X10_open (w : gWd) (h : gHp) {a0 : Nat} (A0 : is_X10 w a0) {o : Int32} (hF : f_X10_open a0 h = some o) : gMet w yX10_open wsX10_open rm_X10_open [.ref a0] h (some (.int o)) h := by
  refine gMet_of (cc := cX10_open) (maxL := 3) (ret := (some .int)) (fr := 2) (lo := 43) (own := RX10) [(0, .ref a0)] (by decide) rfl rfl (Nat.le_of_ble_eq_true rfl) rfl (Nat.le_refl _) (Nat.le_refl _) (fun g C E => ?_)
  rw [f_X10_open] at hF
  refine gx_iconst C (v := 0) (gDec_at D_X10_open 0 rfl) (by decide) ?_
  refine gx_istore_n C (lv' := [(1, .int 0), (0, .ref a0)]) (gDec_at D_X10_open 1 rfl) rfl (Nat.le_of_ble_eq_true rfl) rfl ?_
  refine gx_iconst C (v := 0) (gDec_at D_X10_open 2 rfl) (by decide) ?_
  refine gx_istore_n C (lv' := [(2, .int 0), (1, .int 0), (0, .ref a0)]) (gDec_at D_X10_open 3 rfl) rfl (Nat.le_of_ble_eq_true rfl) rfl ?_
  obtain ⟨v5, hv6, hF⟩ := gBind hF
  have k7 : gX w g 3 h 34 [(1, .int v5)] [] := by
    refine gx_iload_n C 0 (gDec_at D_X10_open 20 rfl) rfl rfl ?_
    obtain rfl := Option.some.inj hF
    exact gx_iret C E (gDec_at D_X10_open 21 rfl)
  exact gx_sub [2, 1, 0] rfl (w_X10_open_4 C A0 h k7 gFuel 0 0 hv6)
/-! LadderBenchModel.folds -/
def rm_X10_folds : Room := { frames := 0, cells := 0, slots := 0, locals := 0 }
theorem hy_X10_folds : yX10_folds.cls = RX10 ∧ yX10_folds.cls ≠ "java/lang/invoke/MethodHandle" ∧ yX10_folds.cls ≠ "java/lang/invoke/VarHandle" ∧ (parseMethodDescriptor yX10_folds.desc).map (fun d => d.parameters.length) = some 1 := by decide +kernel
set_option maxRecDepth 100000 in
theorem D_X10_folds : gDec cX10_folds [(0, (.aload_n 0, 1)), (1, (.getfield 7, 3)), (4, (.bipush 26, 2)), (6, (.iconst 5, 1)), (7, (.iload_n 1, 1)), (8, (.imul, 1)), (9, (.iadd, 1)), (10, (.iconst 4, 1)), (11, (.iadd, 1)), (12, (.lconst 1, 1)), (13, (.lastore, 1)), (14, (.aload_n 0, 1)), (15, (.getfield 7, 3)), (18, (.iconst 3, 1)), (19, (.dup2, 1)), (20, (.laload, 1)), (21, (.lconst 1, 1)), (22, (.ladd, 1)), (23, (.lastore, 1)), (24, (.return_, 1))] = true := by decide +kernel
set_option maxRecDepth 100000 in
theorem in_X10_folds_X10 : ∀ x ∈ u_ws RX10 TX10 26, x ∈ wsX10_folds := by decide +kernel
theorem fl_X10_folds_7 : gF wsX10_folds RX10 7 10 0 := ⟨RX10, TX10, 26, rfl, by decide, in_X10_folds_X10, by decide +kernel⟩
def f_X10_folds (a0 : Nat) (x1 : Int32) (h : gHp) : Option (gHp) := if gIn ((26 + (5 * x1)) + 4) 141 then if gIn 3 141 then if gIn 3 141 then some (gsL (gsL h (a0 + 1) (gN ((26 + (5 * x1)) + 4)) 1) (a0 + 1) (gN 3) (((gsL h (a0 + 1) (gN ((26 + (5 * x1)) + 4)) 1).2 (a0 + 1) (gN 3)) + 1)) else none else none else none
set_option maxRecDepth 20000 in
set_option maxHeartbeats 4000000 in
theorem m_X10_folds (w : gWd) (h : gHp) {a0 : Nat} (A0 : is_X10 w a0) (x1 : Int32) {o : gHp} (hF : f_X10_folds a0 x1 h = some o) : gMet w yX10_folds wsX10_folds rm_X10_folds [.ref a0, .int x1] h (none) o := by
  refine gMet_of (cc := cX10_folds) (maxL := 2) (ret := none) (fr := 0) (lo := 0) (own := RX10) [(0, .ref a0), (1, .int x1)] (by decide) rfl rfl (Nat.le_of_ble_eq_true rfl) rfl (Nat.le_refl _) (Nat.le_refl _) (fun g C E => ?_)
  rw [f_X10_folds] at hF
  refine gx_aload_n C 0 (gDec_at D_X10_folds 0 rfl) rfl rfl ?_
  refine gx_getr C fl_X10_folds_7 (is_X10_sh A0) rfl (gDec_at D_X10_folds 1 rfl) ?_
  refine gx_bipush C (v := 26) (gDec_at D_X10_folds 2 rfl) (by decide) ?_
  refine gx_iconst C (v := 5) (gDec_at D_X10_folds 3 rfl) (by decide) ?_
  refine gx_iload_n C 1 (gDec_at D_X10_folds 4 rfl) rfl rfl ?_
  refine gx_imul C (gDec_at D_X10_folds 5 rfl) ?_
  refine gx_iadd C (gDec_at D_X10_folds 6 rfl) ?_
  refine gx_iconst C (v := 4) (gDec_at D_X10_folds 7 rfl) (by decide) ?_
  refine gx_iadd C (gDec_at D_X10_folds 8 rfl) ?_
  refine gx_lconst C (v := 1) (gDec_at D_X10_folds 9 rfl) (by decide) ?_
  obtain ⟨b1, hF⟩ := gGd hF
  refine gx_lastore C (is_X10_now A0) b1 (gDec_at D_X10_folds 10 rfl) ?_
  refine gx_aload_n C 0 (gDec_at D_X10_folds 11 rfl) rfl rfl ?_
  refine gx_getr C fl_X10_folds_7 (is_X10_sh A0) rfl (gDec_at D_X10_folds 12 rfl) ?_
  refine gx_iconst C (v := 3) (gDec_at D_X10_folds 13 rfl) (by decide) ?_
  refine gx_dup2 C (gDec_at D_X10_folds 14 rfl) rfl rfl ?_
  obtain ⟨b2, hF⟩ := gGd hF
  refine gx_laload C (is_X10_now A0) b2 (gDec_at D_X10_folds 15 rfl) ?_
  refine gx_lconst C (v := 1) (gDec_at D_X10_folds 16 rfl) (by decide) ?_
  refine gx_ladd C (gDec_at D_X10_folds 17 rfl) ?_
  obtain ⟨b3, hF⟩ := gGd hF
  refine gx_lastore C (is_X10_now A0) b3 (gDec_at D_X10_folds 18 rfl) ?_
  obtain rfl := Option.some.inj hF
  exact gx_vret C E (gDec_at D_X10_folds 19 rfl)
/-! LadderBenchModel.fold -/
def rm_X10_fold : Room := { frames := 3, cells := 0, slots := 0, locals := 65 }
set_option maxRecDepth 20000 in
theorem ggX10_fold_X10_folds : GoodIn wsX10_fold wsX10_folds := goodIn_r _ [35, 10, 40, 41, 42, 43, 44, 45, 46, 47, 48, 49, 50, 51, 52, 53, 54, 55, 56, 57, 58, 59, 60, 61, 62, 63, 64, 65] (by decide +kernel) (by decide +kernel)
set_option maxRecDepth 20000 in
theorem gX10_fold_X10_folds : GoodIn wsX10_fold (wsV RX10 151 RX10 yX10_folds wsX10_folds) := goodIn_app (goodIn_of _ (by decide +kernel)) ggX10_fold_X10_folds
set_option maxRecDepth 20000 in
theorem ggX10_fold_X10_isFolded : GoodIn wsX10_fold wsX10_isFolded := goodIn_r _ [25, 18, 19, 20, 4, 21, 10, 40, 41, 42, 43, 44, 45, 46, 47, 48, 49, 50, 51, 52, 53, 54, 55, 56, 57, 58, 59, 60, 61, 62, 63, 64, 65] (by decide +kernel) (by decide +kernel)
set_option maxRecDepth 20000 in
theorem gX10_fold_X10_isFolded : GoodIn wsX10_fold (wsV RX10 142 RX10 yX10_isFolded wsX10_isFolded) := goodIn_app (goodIn_of _ (by decide +kernel)) ggX10_fold_X10_isFolded
set_option maxRecDepth 20000 in
theorem ggX10_fold_X10_mayFold : GoodIn wsX10_fold wsX10_mayFold := goodIn_r _ [17, 18, 19, 20, 4, 21, 10, 22, 23, 24, 25, 40, 41, 42, 43, 44, 45, 46, 47, 48, 49, 50, 51, 52, 53, 54, 55, 56, 57, 58, 59, 60, 61, 62, 63, 64, 65] (by decide +kernel) (by decide +kernel)
set_option maxRecDepth 20000 in
theorem gX10_fold_X10_mayFold : GoodIn wsX10_fold (wsV RX10 148 RX10 yX10_mayFold wsX10_mayFold) := goodIn_app (goodIn_of _ (by decide +kernel)) ggX10_fold_X10_mayFold
set_option maxRecDepth 20000 in
theorem ggX10_fold_X10_noPart : GoodIn wsX10_fold wsX10_noPart := goodIn_r _ [5, 6, 7, 8, 4, 9, 10, 11, 12, 13, 40, 41, 42, 43, 44, 45, 46, 47, 48, 49, 50, 51, 52, 53, 54, 55, 56, 57, 58, 59, 60, 61, 62, 63, 64, 65] (by decide +kernel) (by decide +kernel)
set_option maxRecDepth 20000 in
theorem gX10_fold_X10_noPart : GoodIn wsX10_fold (wsV RX10 145 RX10 yX10_noPart wsX10_noPart) := goodIn_app (goodIn_of _ (by decide +kernel)) ggX10_fold_X10_noPart
set_option maxRecDepth 20000 in
theorem ggX10_fold_X10_open : GoodIn wsX10_fold wsX10_open := goodIn_r _ [39, 6, 7, 8, 4, 9, 10, 22, 23, 24, 25, 18, 19, 20, 21, 40, 41, 42, 43, 44, 45, 46, 47, 48, 49, 50, 51, 52, 53, 54, 55, 56, 57, 58, 59, 60, 61, 62, 63, 64, 65] (by decide +kernel) (by decide +kernel)
set_option maxRecDepth 20000 in
theorem gX10_fold_X10_open : GoodIn wsX10_fold (wsV RX10 154 RX10 yX10_open wsX10_open) := goodIn_app (goodIn_of _ (by decide +kernel)) ggX10_fold_X10_open
set_option maxRecDepth 20000 in
theorem ggX10_fold_X10_record : GoodIn wsX10_fold wsX10_record := goodIn_r _ [29, 30, 31, 10, 40, 41, 42, 43, 44, 45, 46, 47, 48, 49, 50, 51, 52, 53, 54, 55, 56, 57, 58, 59, 60, 61, 62, 63, 64, 65] (by decide +kernel) (by decide +kernel)
set_option maxRecDepth 20000 in
theorem gX10_fold_X10_record : GoodIn wsX10_fold (wsV RX10 99 RX10 yX10_record wsX10_record) := goodIn_app (goodIn_of _ (by decide +kernel)) ggX10_fold_X10_record
theorem hy_X10_fold : yX10_fold.cls = RX10 ∧ yX10_fold.cls ≠ "java/lang/invoke/MethodHandle" ∧ yX10_fold.cls ≠ "java/lang/invoke/VarHandle" ∧ (parseMethodDescriptor yX10_fold.desc).map (fun d => d.parameters.length) = some 1 := by decide +kernel
set_option maxRecDepth 100000 in
theorem D_X10_fold : gDec cX10_fold [(0, (.aload_n 0, 1)), (1, (.iload_n 1, 1)), (2, (.invokevirtual 145, 3)), (5, (.ifCond .eq 5, 3)), (8, (.iconst (-1), 1)), (9, (.ireturn, 1)), (10, (.aload_n 0, 1)), (11, (.iload_n 1, 1)), (12, (.invokevirtual 148, 3)), (15, (.ifCond .ne 6, 3)), (18, (.bipush (-3), 2)), (20, (.ireturn, 1)), (21, (.aload_n 0, 1)), (22, (.iload_n 1, 1)), (23, (.invokevirtual 142, 3)), (26, (.ifCond .eq 6, 3)), (29, (.bipush (-4), 2)), (31, (.ireturn, 1)), (32, (.aload_n 0, 1)), (33, (.invokevirtual 99, 3)), (36, (.aload_n 0, 1)), (37, (.iload_n 1, 1)), (38, (.invokevirtual 151, 3)), (41, (.aload_n 0, 1)), (42, (.invokevirtual 154, 3)), (45, (.ireturn, 1))] = true := by decide +kernel
def f_X10_fold (a0 : Nat) (x1 : Int32) (h : gHp) : Option (Int32 × gHp) := (f_X10_noPart a0 x1 h).bind fun v2 => if v2 = true then some ((-1), h) else (f_X10_mayFold a0 x1 h).bind fun v4 => if v4 = true then (f_X10_isFolded a0 x1 h).bind fun v6 => if v6 = true then some ((-4), h) else (f_X10_record a0 h).bind fun v8 => (f_X10_folds a0 x1 v8).bind fun v10 => (f_X10_open a0 v10).bind fun v12 => some (v12, v10) else some ((-3), h)
set_option maxRecDepth 20000 in
set_option maxHeartbeats 4000000 in
theorem m_X10_fold (w : gWd) (h : gHp) {a0 : Nat} (A0 : is_X10 w a0) (x1 : Int32) {o : Int32 × gHp} (hF : f_X10_fold a0 x1 h = some o) : gMet w yX10_fold wsX10_fold rm_X10_fold [.ref a0, .int x1] h (some (.int o.1)) o.2 := by
  refine gMet_of (cc := cX10_fold) (maxL := 2) (ret := (some .int)) (fr := 3) (lo := 65) (own := RX10) [(0, .ref a0), (1, .int x1)] (by decide) rfl rfl (Nat.le_of_ble_eq_true rfl) rfl (Nat.le_refl _) (Nat.le_refl _) (fun g C E => ?_)
  rw [f_X10_fold] at hF
  refine gx_aload_n C 0 (gDec_at D_X10_fold 0 rfl) rfl rfl ?_
  refine gx_iload_n C 1 (gDec_at D_X10_fold 1 rfl) rfl rfl ?_
  obtain ⟨v2, hv1, hF⟩ := gBind hF
  refine gx_callV1 C (st := []) 1 [.int x1] (m_X10_noPart w h A0 x1 hv1) gX10_fold_X10_noPart rfl rfl rfl hy_X10_noPart (Nat.le_of_ble_eq_true rfl) (Nat.le_of_ble_eq_true rfl) (is_X10_sh A0) rfl rfl rfl (Nat.le_of_ble_eq_true rfl) (gDec_at D_X10_fold 2 rfl) ?_
  refine gx_ifz_eq C 10 (gDec_at D_X10_fold 3 rfl) (by decide) (fun c => ?_) (fun c => ?_)
  · replace hF := gNeg c hF
    refine gx_aload_n C 0 (gDec_at D_X10_fold 6 rfl) rfl rfl ?_
    refine gx_iload_n C 1 (gDec_at D_X10_fold 7 rfl) rfl rfl ?_
    obtain ⟨v4, hv3, hF⟩ := gBind hF
    refine gx_callV1 C (st := []) 1 [.int x1] (m_X10_mayFold w h A0 x1 hv3) gX10_fold_X10_mayFold rfl rfl rfl hy_X10_mayFold (Nat.le_of_ble_eq_true rfl) (Nat.le_of_ble_eq_true rfl) (is_X10_sh A0) rfl rfl rfl (Nat.le_of_ble_eq_true rfl) (gDec_at D_X10_fold 8 rfl) ?_
    refine gx_ifz_ne C 21 (gDec_at D_X10_fold 9 rfl) (by decide) (fun c => ?_) (fun c => ?_)
    · replace hF := gPos c hF
      refine gx_aload_n C 0 (gDec_at D_X10_fold 12 rfl) rfl rfl ?_
      refine gx_iload_n C 1 (gDec_at D_X10_fold 13 rfl) rfl rfl ?_
      obtain ⟨v6, hv5, hF⟩ := gBind hF
      refine gx_callV1 C (st := []) 1 [.int x1] (m_X10_isFolded w h A0 x1 hv5) gX10_fold_X10_isFolded rfl rfl rfl hy_X10_isFolded (Nat.le_of_ble_eq_true rfl) (Nat.le_of_ble_eq_true rfl) (is_X10_sh A0) rfl rfl rfl (Nat.le_of_ble_eq_true rfl) (gDec_at D_X10_fold 14 rfl) ?_
      refine gx_ifz_eq C 32 (gDec_at D_X10_fold 15 rfl) (by decide) (fun c => ?_) (fun c => ?_)
      · replace hF := gNeg c hF
        refine gx_aload_n C 0 (gDec_at D_X10_fold 18 rfl) rfl rfl ?_
        obtain ⟨v8, hv7, hF⟩ := gBind hF
        refine gx_callV0 C (st := []) 0 [] (m_X10_record w h A0 hv7) gX10_fold_X10_record rfl rfl rfl hy_X10_record (Nat.le_of_ble_eq_true rfl) (Nat.le_of_ble_eq_true rfl) (is_X10_sh A0) rfl rfl rfl (Nat.le_of_ble_eq_true rfl) (gDec_at D_X10_fold 19 rfl) ?_
        refine gx_aload_n C 0 (gDec_at D_X10_fold 20 rfl) rfl rfl ?_
        refine gx_iload_n C 1 (gDec_at D_X10_fold 21 rfl) rfl rfl ?_
        obtain ⟨v10, hv9, hF⟩ := gBind hF
        refine gx_callV0 C (st := []) 1 [.int x1] (m_X10_folds w v8 A0 x1 hv9) gX10_fold_X10_folds rfl rfl rfl hy_X10_folds (Nat.le_of_ble_eq_true rfl) (Nat.le_of_ble_eq_true rfl) (is_X10_sh A0) rfl rfl rfl (Nat.le_of_ble_eq_true rfl) (gDec_at D_X10_fold 22 rfl) ?_
        refine gx_aload_n C 0 (gDec_at D_X10_fold 23 rfl) rfl rfl ?_
        obtain ⟨v12, hv11, hF⟩ := gBind hF
        refine gx_callV1 C (st := []) 0 [] (m_X10_open w v10 A0 hv11) gX10_fold_X10_open rfl rfl rfl hy_X10_open (Nat.le_of_ble_eq_true rfl) (Nat.le_of_ble_eq_true rfl) (is_X10_sh A0) rfl rfl rfl (Nat.le_of_ble_eq_true rfl) (gDec_at D_X10_fold 24 rfl) ?_
        obtain rfl := Option.some.inj hF
        exact gx_iret C E (gDec_at D_X10_fold 25 rfl)
      · replace hF := gPos c hF
        refine gx_bipush C (v := (-4)) (gDec_at D_X10_fold 16 rfl) (by decide) ?_
        obtain rfl := Option.some.inj hF
        exact gx_iret C E (gDec_at D_X10_fold 17 rfl)
    · replace hF := gNeg c hF
      refine gx_bipush C (v := (-3)) (gDec_at D_X10_fold 10 rfl) (by decide) ?_
      obtain rfl := Option.some.inj hF
      exact gx_iret C E (gDec_at D_X10_fold 11 rfl)
  · replace hF := gPos c hF
    refine gx_iconst C (v := (-1)) (gDec_at D_X10_fold 4 rfl) (by decide) ?_
    obtain rfl := Option.some.inj hF
    exact gx_iret C E (gDec_at D_X10_fold 5 rfl)
/-! LadderBenchModel.nextFold -/
def rm_X10_nextFold : Room := { frames := 3, cells := 0, slots := 0, locals := 65 }
set_option maxRecDepth 20000 in
theorem ggX10_nextFold_X10_isFolded : GoodIn wsX10_nextFold wsX10_isFolded := goodIn_r _ [10, 11, 12, 13, 4, 14, 6, 19, 20, 21, 22, 23, 24, 25, 26, 27, 28, 29, 30, 31, 32, 33, 34, 35, 36, 37, 38, 39, 40, 41, 42, 43, 44] (by decide +kernel) (by decide +kernel)
set_option maxRecDepth 20000 in
theorem gX10_nextFold_X10_isFolded : GoodIn wsX10_nextFold (wsV RX10 142 RX10 yX10_isFolded wsX10_isFolded) := goodIn_app (goodIn_of _ (by decide +kernel)) ggX10_nextFold_X10_isFolded
set_option maxRecDepth 20000 in
theorem ggX10_nextFold_X10_mayFold : GoodIn wsX10_nextFold wsX10_mayFold := goodIn_r _ [18, 11, 12, 13, 4, 14, 6, 7, 8, 9, 10, 19, 20, 21, 22, 23, 24, 25, 26, 27, 28, 29, 30, 31, 32, 33, 34, 35, 36, 37, 38, 39, 40, 41, 42, 43, 44] (by decide +kernel) (by decide +kernel)
set_option maxRecDepth 20000 in
theorem gX10_nextFold_X10_mayFold : GoodIn wsX10_nextFold (wsV RX10 148 RX10 yX10_mayFold wsX10_mayFold) := goodIn_app (goodIn_of _ (by decide +kernel)) ggX10_nextFold_X10_mayFold
set_option maxRecDepth 20000 in
theorem ggX10_nextFold_X10_parts : GoodIn wsX10_nextFold wsX10_parts := goodIn_r _ [5, 6, 19, 20, 21, 22, 23, 24, 25, 26, 27, 28, 29, 30, 31, 32, 33, 34, 35, 36, 37, 38, 39, 40, 41, 42, 43, 44] (by decide +kernel) (by decide +kernel)
set_option maxRecDepth 20000 in
theorem gX10_nextFold_X10_parts : GoodIn wsX10_nextFold (wsV RX10 56 RX10 yX10_parts wsX10_parts) := goodIn_app (goodIn_of _ (by decide +kernel)) ggX10_nextFold_X10_parts
theorem hy_X10_nextFold : yX10_nextFold.cls = RX10 ∧ yX10_nextFold.cls ≠ "java/lang/invoke/MethodHandle" ∧ yX10_nextFold.cls ≠ "java/lang/invoke/VarHandle" ∧ (parseMethodDescriptor yX10_nextFold.desc).map (fun d => d.parameters.length) = some 1 := by decide +kernel
set_option maxRecDepth 100000 in
theorem D_X10_nextFold : gDec cX10_nextFold [(0, (.bipush (-4), 2)), (2, (.istore_n 2, 1)), (3, (.iconst 0, 1)), (4, (.istore_n 3, 1)), (5, (.iload_n 3, 1)), (6, (.aload_n 0, 1)), (7, (.invokevirtual 56, 3)), (10, (.if_icmp .ge 41, 3)), (13, (.aload_n 0, 1)), (14, (.iload_n 3, 1)), (15, (.invokevirtual 142, 3)), (18, (.ifCond .ne 25, 3)), (21, (.aload_n 0, 1)), (22, (.iload_n 3, 1)), (23, (.invokevirtual 148, 3)), (26, (.ifCond .eq 17, 3)), (29, (.iload_n 2, 1)), (30, (.bipush (-4), 2)), (32, (.if_icmp .eq 7, 3)), (35, (.iload_n 1, 1)), (36, (.ifCond .eq 7, 3)), (39, (.iload_n 3, 1)), (40, (.goto 4, 3)), (43, (.iload_n 2, 1)), (44, (.istore_n 2, 1)), (45, (.iinc 3 1, 3)), (48, (.goto (-43), 3)), (51, (.iload_n 2, 1)), (52, (.ireturn, 1))] = true := by decide +kernel
def f_X10_nextFold_5 (a0 : Nat) (x1 : Int32) (h : gHp) : Nat → Int32 → Int32 → Option (Int32)
  | 0, _, _ => none
  | n + 1, x2, x3 => (f_X10_parts a0 h).bind fun v2 => if v2 ≤ x3 then some x2 else (f_X10_isFolded a0 x3 h).bind fun v4 => if v4 = true then f_X10_nextFold_5 a0 x1 h n x2 (x3 + 1) else (f_X10_mayFold a0 x3 h).bind fun v6 => if v6 = true then if x2 = (-4) then f_X10_nextFold_5 a0 x1 h n x3 (x3 + 1) else if x1 = 0 then f_X10_nextFold_5 a0 x1 h n x2 (x3 + 1) else f_X10_nextFold_5 a0 x1 h n x3 (x3 + 1) else f_X10_nextFold_5 a0 x1 h n x2 (x3 + 1)
set_option maxRecDepth 20000 in
set_option maxHeartbeats 4000000 in
theorem w_X10_nextFold_5 {w : gWd} {g : gCx} (C : gC w g cX10_nextFold wsX10_nextFold RX10 4 3 65) {a0 : Nat} (A0 : is_X10 w a0) (x1 : Int32) (h : gHp)  {o : Int32} (hk : gX w g 4 h 51 [(2, .int o)] []) : ∀ (n : Nat) (x2 : Int32) (x3 : Int32), f_X10_nextFold_5 a0 x1 h n x2 x3 = some o → gX w g 4 h 5 [(0, .ref a0), (1, .int x1), (2, .int x2), (3, .int x3)] [] := by
  intro n
  induction n with
  | zero => intro _ _ hF; cases hF
  | succ n ih =>
    intro x2 x3 hF
    rw [f_X10_nextFold_5] at hF
    refine gx_iload_n C 3 (gDec_at D_X10_nextFold 4 rfl) rfl rfl ?_
    refine gx_aload_n C 0 (gDec_at D_X10_nextFold 5 rfl) rfl rfl ?_
    obtain ⟨v2, hv1, hF⟩ := gBind hF
    refine gx_callV1 C (st := .int x3 :: []) 0 [] (m_X10_parts w h A0 hv1) gX10_nextFold_X10_parts rfl rfl rfl hy_X10_parts (Nat.le_of_ble_eq_true rfl) (Nat.le_of_ble_eq_true rfl) (is_X10_sh A0) rfl rfl rfl (Nat.le_of_ble_eq_true rfl) (gDec_at D_X10_nextFold 6 rfl) ?_
    refine gx_icmp_ge C 51 (gDec_at D_X10_nextFold 7 rfl) (by decide) (fun c => ?_) (fun c => ?_)
    · replace hF := gPos c hF
      obtain rfl := Option.some.inj hF
      exact gx_sub [2] rfl hk
    · replace hF := gNeg c hF
      refine gx_aload_n C 0 (gDec_at D_X10_nextFold 8 rfl) rfl rfl ?_
      refine gx_iload_n C 3 (gDec_at D_X10_nextFold 9 rfl) rfl rfl ?_
      obtain ⟨v4, hv3, hF⟩ := gBind hF
      refine gx_callV1 C (st := []) 1 [.int x3] (m_X10_isFolded w h A0 x3 hv3) gX10_nextFold_X10_isFolded rfl rfl rfl hy_X10_isFolded (Nat.le_of_ble_eq_true rfl) (Nat.le_of_ble_eq_true rfl) (is_X10_sh A0) rfl rfl rfl (Nat.le_of_ble_eq_true rfl) (gDec_at D_X10_nextFold 10 rfl) ?_
      refine gx_ifz_ne C 43 (gDec_at D_X10_nextFold 11 rfl) (by decide) (fun c => ?_) (fun c => ?_)
      · replace hF := gPos c hF
        refine gx_iload_n C 2 (gDec_at D_X10_nextFold 23 rfl) rfl rfl ?_
        refine gx_istore_n C (lv' := [(2, .int x2), (0, .ref a0), (1, .int x1), (3, .int x3)]) (gDec_at D_X10_nextFold 24 rfl) rfl (Nat.le_of_ble_eq_true rfl) rfl ?_
        refine gx_iinc C (j := 3) (v := x3 + 1) (lv' := [(3, .int (x3 + 1)), (2, .int x2), (0, .ref a0), (1, .int x1)]) (gDec_at D_X10_nextFold 25 rfl) rfl (by rfl) (Nat.le_of_ble_eq_true rfl) rfl ?_
        refine gx_goto C 5 (gDec_at D_X10_nextFold 26 rfl) (by decide) ?_
        exact gx_sub [2, 3, 1, 0] rfl (ih x2 (x3 + 1) hF)
      · replace hF := gNeg c hF
        refine gx_aload_n C 0 (gDec_at D_X10_nextFold 12 rfl) rfl rfl ?_
        refine gx_iload_n C 3 (gDec_at D_X10_nextFold 13 rfl) rfl rfl ?_
        obtain ⟨v6, hv5, hF⟩ := gBind hF
        refine gx_callV1 C (st := []) 1 [.int x3] (m_X10_mayFold w h A0 x3 hv5) gX10_nextFold_X10_mayFold rfl rfl rfl hy_X10_mayFold (Nat.le_of_ble_eq_true rfl) (Nat.le_of_ble_eq_true rfl) (is_X10_sh A0) rfl rfl rfl (Nat.le_of_ble_eq_true rfl) (gDec_at D_X10_nextFold 14 rfl) ?_
        refine gx_ifz_eq C 43 (gDec_at D_X10_nextFold 15 rfl) (by decide) (fun c => ?_) (fun c => ?_)
        · replace hF := gNeg c hF
          refine gx_iload_n C 2 (gDec_at D_X10_nextFold 23 rfl) rfl rfl ?_
          refine gx_istore_n C (lv' := [(2, .int x2), (0, .ref a0), (1, .int x1), (3, .int x3)]) (gDec_at D_X10_nextFold 24 rfl) rfl (Nat.le_of_ble_eq_true rfl) rfl ?_
          refine gx_iinc C (j := 3) (v := x3 + 1) (lv' := [(3, .int (x3 + 1)), (2, .int x2), (0, .ref a0), (1, .int x1)]) (gDec_at D_X10_nextFold 25 rfl) rfl (by rfl) (Nat.le_of_ble_eq_true rfl) rfl ?_
          refine gx_goto C 5 (gDec_at D_X10_nextFold 26 rfl) (by decide) ?_
          exact gx_sub [2, 3, 1, 0] rfl (ih x2 (x3 + 1) hF)
        · replace hF := gPos c hF
          refine gx_iload_n C 2 (gDec_at D_X10_nextFold 16 rfl) rfl rfl ?_
          refine gx_bipush C (v := (-4)) (gDec_at D_X10_nextFold 17 rfl) (by decide) ?_
          refine gx_icmp_eq C 39 (gDec_at D_X10_nextFold 18 rfl) (by decide) (fun c => ?_) (fun c => ?_)
          · replace hF := gPos c hF
            refine gx_iload_n C 3 (gDec_at D_X10_nextFold 21 rfl) rfl rfl ?_
            refine gx_goto C 44 (gDec_at D_X10_nextFold 22 rfl) (by decide) ?_
            refine gx_istore_n C (lv' := [(2, .int x3), (0, .ref a0), (1, .int x1), (3, .int x3)]) (gDec_at D_X10_nextFold 24 rfl) rfl (Nat.le_of_ble_eq_true rfl) rfl ?_
            refine gx_iinc C (j := 3) (v := x3 + 1) (lv' := [(3, .int (x3 + 1)), (2, .int x3), (0, .ref a0), (1, .int x1)]) (gDec_at D_X10_nextFold 25 rfl) rfl (by rfl) (Nat.le_of_ble_eq_true rfl) rfl ?_
            refine gx_goto C 5 (gDec_at D_X10_nextFold 26 rfl) (by decide) ?_
            exact gx_sub [2, 3, 1, 0] rfl (ih x3 (x3 + 1) hF)
          · replace hF := gNeg c hF
            refine gx_iload_n C 1 (gDec_at D_X10_nextFold 19 rfl) rfl rfl ?_
            refine gx_if_eq C 43 (gDec_at D_X10_nextFold 20 rfl) (by decide) (fun c => ?_) (fun c => ?_)
            · replace hF := gPos c hF
              refine gx_iload_n C 2 (gDec_at D_X10_nextFold 23 rfl) rfl rfl ?_
              refine gx_istore_n C (lv' := [(2, .int x2), (0, .ref a0), (1, .int x1), (3, .int x3)]) (gDec_at D_X10_nextFold 24 rfl) rfl (Nat.le_of_ble_eq_true rfl) rfl ?_
              refine gx_iinc C (j := 3) (v := x3 + 1) (lv' := [(3, .int (x3 + 1)), (2, .int x2), (0, .ref a0), (1, .int x1)]) (gDec_at D_X10_nextFold 25 rfl) rfl (by rfl) (Nat.le_of_ble_eq_true rfl) rfl ?_
              refine gx_goto C 5 (gDec_at D_X10_nextFold 26 rfl) (by decide) ?_
              exact gx_sub [2, 3, 1, 0] rfl (ih x2 (x3 + 1) hF)
            · replace hF := gNeg c hF
              refine gx_iload_n C 3 (gDec_at D_X10_nextFold 21 rfl) rfl rfl ?_
              refine gx_goto C 44 (gDec_at D_X10_nextFold 22 rfl) (by decide) ?_
              refine gx_istore_n C (lv' := [(2, .int x3), (0, .ref a0), (1, .int x1), (3, .int x3)]) (gDec_at D_X10_nextFold 24 rfl) rfl (Nat.le_of_ble_eq_true rfl) rfl ?_
              refine gx_iinc C (j := 3) (v := x3 + 1) (lv' := [(3, .int (x3 + 1)), (2, .int x3), (0, .ref a0), (1, .int x1)]) (gDec_at D_X10_nextFold 25 rfl) rfl (by rfl) (Nat.le_of_ble_eq_true rfl) rfl ?_
              refine gx_goto C 5 (gDec_at D_X10_nextFold 26 rfl) (by decide) ?_
              exact gx_sub [2, 3, 1, 0] rfl (ih x3 (x3 + 1) hF)
def f_X10_nextFold (a0 : Nat) (x1 : Int32) (h : gHp) : Option (Int32) := (f_X10_nextFold_5 a0 x1 h gFuel (-4) 0).bind fun v7 => some v7
set_option maxRecDepth 20000 in
set_option maxHeartbeats 4000000 in
theorem m_X10_nextFold (w : gWd) (h : gHp) {a0 : Nat} (A0 : is_X10 w a0) (x1 : Int32) {o : Int32} (hF : f_X10_nextFold a0 x1 h = some o) : gMet w yX10_nextFold wsX10_nextFold rm_X10_nextFold [.ref a0, .int x1] h (some (.int o)) h := by
  refine gMet_of (cc := cX10_nextFold) (maxL := 4) (ret := (some .int)) (fr := 3) (lo := 65) (own := RX10) [(0, .ref a0), (1, .int x1)] (by decide) rfl rfl (Nat.le_of_ble_eq_true rfl) rfl (Nat.le_refl _) (Nat.le_refl _) (fun g C E => ?_)
  rw [f_X10_nextFold] at hF
  refine gx_bipush C (v := (-4)) (gDec_at D_X10_nextFold 0 rfl) (by decide) ?_
  refine gx_istore_n C (lv' := [(2, .int (-4)), (0, .ref a0), (1, .int x1)]) (gDec_at D_X10_nextFold 1 rfl) rfl (Nat.le_of_ble_eq_true rfl) rfl ?_
  refine gx_iconst C (v := 0) (gDec_at D_X10_nextFold 2 rfl) (by decide) ?_
  refine gx_istore_n C (lv' := [(3, .int 0), (2, .int (-4)), (0, .ref a0), (1, .int x1)]) (gDec_at D_X10_nextFold 3 rfl) rfl (Nat.le_of_ble_eq_true rfl) rfl ?_
  obtain ⟨v7, hv8, hF⟩ := gBind hF
  have k9 : gX w g 4 h 51 [(2, .int v7)] [] := by
    refine gx_iload_n C 0 (gDec_at D_X10_nextFold 27 rfl) rfl rfl ?_
    obtain rfl := Option.some.inj hF
    exact gx_iret C E (gDec_at D_X10_nextFold 28 rfl)
  exact gx_sub [2, 3, 1, 0] rfl (w_X10_nextFold_5 C A0 x1 h k9 gFuel (-4) 0 hv8)
/-! LadderBenchModel.foldAll -/
def rm_X10_foldAll : Room := { frames := 4, cells := 0, slots := 0, locals := 88 }
set_option maxRecDepth 20000 in
theorem ggX10_foldAll_X10_folds : GoodIn wsX10_foldAll wsX10_folds := goodIn_r _ [36, 10, 37, 38, 39, 40, 41, 42, 43, 44, 45, 46, 47, 48, 49, 50, 51, 52, 53, 54, 55, 56, 57, 58, 59, 60, 61, 62] (by decide +kernel) (by decide +kernel)
set_option maxRecDepth 20000 in
theorem gX10_foldAll_X10_folds : GoodIn wsX10_foldAll (wsV RX10 151 RX10 yX10_folds wsX10_folds) := goodIn_app (goodIn_of _ (by decide +kernel)) ggX10_foldAll_X10_folds
set_option maxRecDepth 20000 in
theorem ggX10_foldAll_X10_nextFold : GoodIn wsX10_foldAll wsX10_nextFold := goodIn_r _ [28, 6, 7, 8, 4, 9, 10, 11, 12, 13, 14, 15, 16, 17, 18, 29, 30, 31, 32, 37, 38, 39, 40, 41, 42, 43, 44, 45, 46, 47, 48, 49, 50, 51, 52, 53, 54, 55, 56, 57, 58, 59, 60, 61, 62] (by decide +kernel) (by decide +kernel)
set_option maxRecDepth 20000 in
theorem gX10_foldAll_X10_nextFold : GoodIn wsX10_foldAll (wsV RX10 157 RX10 yX10_nextFold wsX10_nextFold) := goodIn_app (goodIn_of _ (by decide +kernel)) ggX10_foldAll_X10_nextFold
set_option maxRecDepth 20000 in
theorem ggX10_foldAll_X10_open : GoodIn wsX10_foldAll wsX10_open := goodIn_r _ [5, 6, 7, 8, 4, 9, 10, 11, 12, 13, 14, 15, 16, 17, 18, 37, 38, 39, 40, 41, 42, 43, 44, 45, 46, 47, 48, 49, 50, 51, 52, 53, 54, 55, 56, 57, 58, 59, 60, 61, 62] (by decide +kernel) (by decide +kernel)
set_option maxRecDepth 20000 in
theorem gX10_foldAll_X10_open : GoodIn wsX10_foldAll (wsV RX10 154 RX10 yX10_open wsX10_open) := goodIn_app (goodIn_of _ (by decide +kernel)) ggX10_foldAll_X10_open
set_option maxRecDepth 20000 in
theorem ggX10_foldAll_X10_record : GoodIn wsX10_foldAll wsX10_record := goodIn_r _ [22, 23, 24, 10, 37, 38, 39, 40, 41, 42, 43, 44, 45, 46, 47, 48, 49, 50, 51, 52, 53, 54, 55, 56, 57, 58, 59, 60, 61, 62] (by decide +kernel) (by decide +kernel)
set_option maxRecDepth 20000 in
theorem gX10_foldAll_X10_record : GoodIn wsX10_foldAll (wsV RX10 99 RX10 yX10_record wsX10_record) := goodIn_app (goodIn_of _ (by decide +kernel)) ggX10_foldAll_X10_record
theorem hy_X10_foldAll : yX10_foldAll.cls = RX10 ∧ yX10_foldAll.cls ≠ "java/lang/invoke/MethodHandle" ∧ yX10_foldAll.cls ≠ "java/lang/invoke/VarHandle" ∧ (parseMethodDescriptor yX10_foldAll.desc).map (fun d => d.parameters.length) = some 1 := by decide +kernel
set_option maxRecDepth 100000 in
theorem D_X10_foldAll : gDec cX10_foldAll [(0, (.aload_n 0, 1)), (1, (.invokevirtual 154, 3)), (4, (.ifCond .ne 6, 3)), (7, (.bipush (-4), 2)), (9, (.ireturn, 1)), (10, (.aload_n 0, 1)), (11, (.invokevirtual 99, 3)), (14, (.iconst 0, 1)), (15, (.istore_n 2, 1)), (16, (.aload_n 0, 1)), (17, (.iload_n 1, 1)), (18, (.invokevirtual 157, 3)), (21, (.istore_n 3, 1)), (22, (.iload_n 3, 1)), (23, (.bipush (-4), 2)), (25, (.if_icmp .eq 20, 3)), (28, (.aload_n 0, 1)), (29, (.iload_n 3, 1)), (30, (.invokevirtual 151, 3)), (33, (.iinc 2 1, 3)), (36, (.aload_n 0, 1)), (37, (.iload_n 1, 1)), (38, (.invokevirtual 157, 3)), (41, (.istore_n 3, 1)), (42, (.goto (-20), 3)), (45, (.iload_n 2, 1)), (46, (.ireturn, 1))] = true := by decide +kernel
def f_X10_foldAll_22 (a0 : Nat) (x1 : Int32) : Nat → Int32 → Int32 → gHp → Option (Int32 × gHp)
  | 0, _, _, _ => none
  | n + 1, x2, x3, h => if x3 = (-4) then some (x2, h) else (f_X10_folds a0 x3 h).bind fun v8 => (f_X10_nextFold a0 x1 v8).bind fun v10 => f_X10_foldAll_22 a0 x1 n (x2 + 1) v10 v8
set_option maxRecDepth 20000 in
set_option maxHeartbeats 4000000 in
theorem w_X10_foldAll_22 {w : gWd} {g : gCx} (C : gC w g cX10_foldAll wsX10_foldAll RX10 4 4 88) {a0 : Nat} (A0 : is_X10 w a0) (x1 : Int32)  {o : Int32 × gHp} (hk : gX w g 4 o.2 45 [(2, .int o.1)] []) : ∀ (n : Nat) (x2 : Int32) (x3 : Int32) (h : gHp), f_X10_foldAll_22 a0 x1 n x2 x3 h = some o → gX w g 4 h 22 [(0, .ref a0), (1, .int x1), (2, .int x2), (3, .int x3)] [] := by
  intro n
  induction n with
  | zero => intro _ _ _ hF; cases hF
  | succ n ih =>
    intro x2 x3 h hF
    rw [f_X10_foldAll_22] at hF
    refine gx_iload_n C 3 (gDec_at D_X10_foldAll 13 rfl) rfl rfl ?_
    refine gx_bipush C (v := (-4)) (gDec_at D_X10_foldAll 14 rfl) (by decide) ?_
    refine gx_icmp_eq C 45 (gDec_at D_X10_foldAll 15 rfl) (by decide) (fun c => ?_) (fun c => ?_)
    · replace hF := gPos c hF
      obtain rfl := Option.some.inj hF
      exact gx_sub [2] rfl hk
    · replace hF := gNeg c hF
      refine gx_aload_n C 0 (gDec_at D_X10_foldAll 16 rfl) rfl rfl ?_
      refine gx_iload_n C 3 (gDec_at D_X10_foldAll 17 rfl) rfl rfl ?_
      obtain ⟨v8, hv7, hF⟩ := gBind hF
      refine gx_callV0 C (st := []) 1 [.int x3] (m_X10_folds w h A0 x3 hv7) gX10_foldAll_X10_folds rfl rfl rfl hy_X10_folds (Nat.le_of_ble_eq_true rfl) (Nat.le_of_ble_eq_true rfl) (is_X10_sh A0) rfl rfl rfl (Nat.le_of_ble_eq_true rfl) (gDec_at D_X10_foldAll 18 rfl) ?_
      refine gx_iinc C (j := 2) (v := x2 + 1) (lv' := [(2, .int (x2 + 1)), (0, .ref a0), (1, .int x1), (3, .int x3)]) (gDec_at D_X10_foldAll 19 rfl) rfl (by rfl) (Nat.le_of_ble_eq_true rfl) rfl ?_
      refine gx_aload_n C 1 (gDec_at D_X10_foldAll 20 rfl) rfl rfl ?_
      refine gx_iload_n C 2 (gDec_at D_X10_foldAll 21 rfl) rfl rfl ?_
      obtain ⟨v10, hv9, hF⟩ := gBind hF
      refine gx_callV1 C (st := []) 1 [.int x1] (m_X10_nextFold w v8 A0 x1 hv9) gX10_foldAll_X10_nextFold rfl rfl rfl hy_X10_nextFold (Nat.le_of_ble_eq_true rfl) (Nat.le_of_ble_eq_true rfl) (is_X10_sh A0) rfl rfl rfl (Nat.le_of_ble_eq_true rfl) (gDec_at D_X10_foldAll 22 rfl) ?_
      refine gx_istore_n C (lv' := [(3, .int v10), (2, .int (x2 + 1)), (0, .ref a0), (1, .int x1)]) (gDec_at D_X10_foldAll 23 rfl) rfl (Nat.le_of_ble_eq_true rfl) rfl ?_
      refine gx_goto C 22 (gDec_at D_X10_foldAll 24 rfl) (by decide) ?_
      exact gx_sub [2, 3, 1, 0] rfl (ih (x2 + 1) v10 v8 hF)
def f_X10_foldAll (a0 : Nat) (x1 : Int32) (h : gHp) : Option (Int32 × gHp) := (f_X10_open a0 h).bind fun v2 => if v2 = 0 then some ((-4), h) else (f_X10_record a0 h).bind fun v4 => (f_X10_nextFold a0 x1 v4).bind fun v6 => (f_X10_foldAll_22 a0 x1 gFuel 0 v6 v4).bind fun v11 => some (v11.1, v11.2)
set_option maxRecDepth 20000 in
set_option maxHeartbeats 4000000 in
theorem m_X10_foldAll (w : gWd) (h : gHp) {a0 : Nat} (A0 : is_X10 w a0) (x1 : Int32) {o : Int32 × gHp} (hF : f_X10_foldAll a0 x1 h = some o) : gMet w yX10_foldAll wsX10_foldAll rm_X10_foldAll [.ref a0, .int x1] h (some (.int o.1)) o.2 := by
  refine gMet_of (cc := cX10_foldAll) (maxL := 4) (ret := (some .int)) (fr := 4) (lo := 88) (own := RX10) [(0, .ref a0), (1, .int x1)] (by decide) rfl rfl (Nat.le_of_ble_eq_true rfl) rfl (Nat.le_refl _) (Nat.le_refl _) (fun g C E => ?_)
  rw [f_X10_foldAll] at hF
  refine gx_aload_n C 0 (gDec_at D_X10_foldAll 0 rfl) rfl rfl ?_
  obtain ⟨v2, hv1, hF⟩ := gBind hF
  refine gx_callV1 C (st := []) 0 [] (m_X10_open w h A0 hv1) gX10_foldAll_X10_open rfl rfl rfl hy_X10_open (Nat.le_of_ble_eq_true rfl) (Nat.le_of_ble_eq_true rfl) (is_X10_sh A0) rfl rfl rfl (Nat.le_of_ble_eq_true rfl) (gDec_at D_X10_foldAll 1 rfl) ?_
  refine gx_if_ne C 10 (gDec_at D_X10_foldAll 2 rfl) (by decide) (fun c => ?_) (fun c => ?_)
  · replace hF := gNeg c hF
    refine gx_aload_n C 0 (gDec_at D_X10_foldAll 5 rfl) rfl rfl ?_
    obtain ⟨v4, hv3, hF⟩ := gBind hF
    refine gx_callV0 C (st := []) 0 [] (m_X10_record w h A0 hv3) gX10_foldAll_X10_record rfl rfl rfl hy_X10_record (Nat.le_of_ble_eq_true rfl) (Nat.le_of_ble_eq_true rfl) (is_X10_sh A0) rfl rfl rfl (Nat.le_of_ble_eq_true rfl) (gDec_at D_X10_foldAll 6 rfl) ?_
    refine gx_iconst C (v := 0) (gDec_at D_X10_foldAll 7 rfl) (by decide) ?_
    refine gx_istore_n C (lv' := [(2, .int 0), (0, .ref a0), (1, .int x1)]) (gDec_at D_X10_foldAll 8 rfl) rfl (Nat.le_of_ble_eq_true rfl) rfl ?_
    refine gx_aload_n C 1 (gDec_at D_X10_foldAll 9 rfl) rfl rfl ?_
    refine gx_iload_n C 2 (gDec_at D_X10_foldAll 10 rfl) rfl rfl ?_
    obtain ⟨v6, hv5, hF⟩ := gBind hF
    refine gx_callV1 C (st := []) 1 [.int x1] (m_X10_nextFold w v4 A0 x1 hv5) gX10_foldAll_X10_nextFold rfl rfl rfl hy_X10_nextFold (Nat.le_of_ble_eq_true rfl) (Nat.le_of_ble_eq_true rfl) (is_X10_sh A0) rfl rfl rfl (Nat.le_of_ble_eq_true rfl) (gDec_at D_X10_foldAll 11 rfl) ?_
    refine gx_istore_n C (lv' := [(3, .int v6), (2, .int 0), (0, .ref a0), (1, .int x1)]) (gDec_at D_X10_foldAll 12 rfl) rfl (Nat.le_of_ble_eq_true rfl) rfl ?_
    obtain ⟨v11, hv12, hF⟩ := gBind hF
    have k13 : gX w g 4 v11.2 45 [(2, .int v11.1)] [] := by
      refine gx_iload_n C 0 (gDec_at D_X10_foldAll 25 rfl) rfl rfl ?_
      obtain rfl := Option.some.inj hF
      exact gx_iret C E (gDec_at D_X10_foldAll 26 rfl)
    exact gx_sub [2, 3, 1, 0] rfl (w_X10_foldAll_22 C A0 x1 k13 gFuel 0 v6 v4 hv12)
  · replace hF := gPos c hF
    refine gx_bipush C (v := (-4)) (gDec_at D_X10_foldAll 3 rfl) (by decide) ?_
    obtain rfl := Option.some.inj hF
    exact gx_iret C E (gDec_at D_X10_foldAll 4 rfl)
/-! LadderBenchModel.unfold -/
def rm_X10_unfold : Room := { frames := 2, cells := 0, slots := 0, locals := 43 }
set_option maxRecDepth 20000 in
theorem ggX10_unfold_X10_isFolded : GoodIn wsX10_unfold wsX10_isFolded := goodIn_r _ [21, 14, 15, 16, 5, 17, 1, 28, 29, 30, 31, 32, 33, 34, 35, 36, 37, 38, 39, 40, 41, 42, 43, 44, 45, 46, 47, 48, 49, 50, 51, 52, 53] (by decide +kernel) (by decide +kernel)
set_option maxRecDepth 20000 in
theorem gX10_unfold_X10_isFolded : GoodIn wsX10_unfold (wsV RX10 142 RX10 yX10_isFolded wsX10_isFolded) := goodIn_app (goodIn_of _ (by decide +kernel)) ggX10_unfold_X10_isFolded
set_option maxRecDepth 20000 in
theorem ggX10_unfold_X10_noPart : GoodIn wsX10_unfold wsX10_noPart := goodIn_r _ [6, 7, 8, 9, 5, 10, 1, 11, 12, 13, 28, 29, 30, 31, 32, 33, 34, 35, 36, 37, 38, 39, 40, 41, 42, 43, 44, 45, 46, 47, 48, 49, 50, 51, 52, 53] (by decide +kernel) (by decide +kernel)
set_option maxRecDepth 20000 in
theorem gX10_unfold_X10_noPart : GoodIn wsX10_unfold (wsV RX10 145 RX10 yX10_noPart wsX10_noPart) := goodIn_app (goodIn_of _ (by decide +kernel)) ggX10_unfold_X10_noPart
set_option maxRecDepth 20000 in
theorem ggX10_unfold_X10_ofPart : GoodIn wsX10_unfold wsX10_ofPart := goodIn_r _ [17, 1, 28, 29, 30, 31, 32, 33, 34, 35, 36, 37, 38, 39, 40, 41, 42, 43, 44, 45, 46, 47, 48, 49, 50, 51, 52, 53] (by decide +kernel) (by decide +kernel)
set_option maxRecDepth 20000 in
theorem gX10_unfold_X10_ofPart : GoodIn wsX10_unfold (wsV RX10 130 RX10 yX10_ofPart wsX10_ofPart) := goodIn_app (goodIn_of _ (by decide +kernel)) ggX10_unfold_X10_ofPart
set_option maxRecDepth 20000 in
theorem ggX10_unfold_X10_record : GoodIn wsX10_unfold wsX10_record := goodIn_r _ [25, 26, 27, 1, 28, 29, 30, 31, 32, 33, 34, 35, 36, 37, 38, 39, 40, 41, 42, 43, 44, 45, 46, 47, 48, 49, 50, 51, 52, 53] (by decide +kernel) (by decide +kernel)
set_option maxRecDepth 20000 in
theorem gX10_unfold_X10_record : GoodIn wsX10_unfold (wsV RX10 99 RX10 yX10_record wsX10_record) := goodIn_app (goodIn_of _ (by decide +kernel)) ggX10_unfold_X10_record
theorem hy_X10_unfold : yX10_unfold.cls = RX10 ∧ yX10_unfold.cls ≠ "java/lang/invoke/MethodHandle" ∧ yX10_unfold.cls ≠ "java/lang/invoke/VarHandle" ∧ (parseMethodDescriptor yX10_unfold.desc).map (fun d => d.parameters.length) = some 1 := by decide +kernel
set_option maxRecDepth 100000 in
theorem D_X10_unfold : gDec cX10_unfold [(0, (.aload_n 0, 1)), (1, (.iload_n 1, 1)), (2, (.invokevirtual 145, 3)), (5, (.ifCond .eq 5, 3)), (8, (.iconst (-1), 1)), (9, (.ireturn, 1)), (10, (.aload_n 0, 1)), (11, (.iload_n 1, 1)), (12, (.iconst 0, 1)), (13, (.invokevirtual 130, 3)), (16, (.ifCond .ne 6, 3)), (19, (.bipush (-3), 2)), (21, (.ireturn, 1)), (22, (.aload_n 0, 1)), (23, (.iload_n 1, 1)), (24, (.invokevirtual 142, 3)), (27, (.ifCond .ne 6, 3)), (30, (.bipush (-4), 2)), (32, (.ireturn, 1)), (33, (.aload_n 0, 1)), (34, (.invokevirtual 99, 3)), (37, (.iconst 0, 1)), (38, (.istore_n 2, 1)), (39, (.iload_n 1, 1)), (40, (.istore_n 3, 1)), (41, (.iload_n 3, 1)), (42, (.bipush (-4), 2)), (44, (.if_icmp .eq 43, 3)), (47, (.iload_n 2, 1)), (48, (.aload_n 0, 1)), (49, (.iload_n 3, 1)), (50, (.invokevirtual 142, 3)), (53, (.ifCond .eq 7, 3)), (56, (.iconst 1, 1)), (57, (.goto 4, 3)), (60, (.iconst 0, 1)), (61, (.iadd, 1)), (62, (.istore_n 2, 1)), (63, (.aload_n 0, 1)), (64, (.getfield 7, 3)), (67, (.bipush 26, 2)), (69, (.iconst 5, 1)), (70, (.iload_n 3, 1)), (71, (.imul, 1)), (72, (.iadd, 1)), (73, (.iconst 4, 1)), (74, (.iadd, 1)), (75, (.lconst 0, 1)), (76, (.lastore, 1)), (77, (.aload_n 0, 1)), (78, (.iload_n 3, 1)), (79, (.iconst 1, 1)), (80, (.invokevirtual 130, 3)), (83, (.istore_n 3, 1)), (84, (.goto (-43), 3)), (87, (.iload_n 2, 1)), (88, (.ireturn, 1))] = true := by decide +kernel
set_option maxRecDepth 100000 in
theorem in_X10_unfold_X10 : ∀ x ∈ u_ws RX10 TX10 26, x ∈ wsX10_unfold := by decide +kernel
theorem fl_X10_unfold_7 : gF wsX10_unfold RX10 7 10 0 := ⟨RX10, TX10, 26, rfl, by decide, in_X10_unfold_X10, by decide +kernel⟩
def f_X10_unfold_41 (a0 : Nat) : Nat → Int32 → Int32 → gHp → Option (Int32 × gHp)
  | 0, _, _, _ => none
  | n + 1, x2, x3, h => if x3 = (-4) then some (x2, h) else (f_X10_isFolded a0 x3 h).bind fun v10 => (if v10 = true then some 1 else some 0 : Option (Int32)).bind fun v11 => if gIn ((26 + (5 * x3)) + 4) 141 then (f_X10_ofPart a0 x3 1 (gsL h (a0 + 1) (gN ((26 + (5 * x3)) + 4)) 0)).bind fun v16 => f_X10_unfold_41 a0 n (x2 + v11) v16 (gsL h (a0 + 1) (gN ((26 + (5 * x3)) + 4)) 0) else none
set_option maxRecDepth 20000 in
set_option maxHeartbeats 4000000 in
theorem w_X10_unfold_41 {w : gWd} {g : gCx} (C : gC w g cX10_unfold wsX10_unfold RX10 4 2 43) {a0 : Nat} (A0 : is_X10 w a0)  {o : Int32 × gHp} (hk : gX w g 4 o.2 87 [(2, .int o.1)] []) : ∀ (n : Nat) (x2 : Int32) (x3 : Int32) (h : gHp), f_X10_unfold_41 a0 n x2 x3 h = some o → gX w g 4 h 41 [(0, .ref a0), (2, .int x2), (3, .int x3)] [] := by
  intro n
  induction n with
  | zero => intro _ _ _ hF; cases hF
  | succ n ih =>
    intro x2 x3 h hF
    rw [f_X10_unfold_41] at hF
    refine gx_iload_n C 2 (gDec_at D_X10_unfold 25 rfl) rfl rfl ?_
    refine gx_bipush C (v := (-4)) (gDec_at D_X10_unfold 26 rfl) (by decide) ?_
    refine gx_icmp_eq C 87 (gDec_at D_X10_unfold 27 rfl) (by decide) (fun c => ?_) (fun c => ?_)
    · replace hF := gPos c hF
      obtain rfl := Option.some.inj hF
      exact gx_sub [1] rfl hk
    · replace hF := gNeg c hF
      refine gx_iload_n C 1 (gDec_at D_X10_unfold 28 rfl) rfl rfl ?_
      refine gx_aload_n C 0 (gDec_at D_X10_unfold 29 rfl) rfl rfl ?_
      refine gx_iload_n C 2 (gDec_at D_X10_unfold 30 rfl) rfl rfl ?_
      obtain ⟨v10, hv9, hF⟩ := gBind hF
      refine gx_callV1 C (st := .int x2 :: []) 1 [.int x3] (m_X10_isFolded w h A0 x3 hv9) gX10_unfold_X10_isFolded rfl rfl rfl hy_X10_isFolded (Nat.le_of_ble_eq_true rfl) (Nat.le_of_ble_eq_true rfl) (is_X10_sh A0) rfl rfl rfl (Nat.le_of_ble_eq_true rfl) (gDec_at D_X10_unfold 31 rfl) ?_
      obtain ⟨v11, hv12, hF⟩ := gBind hF
      have k13 : gX w g 4 h 61 [(0, .ref a0), (3, .int x3)] (.int v11 :: .int x2 :: []) := by
        refine gx_iadd C (gDec_at D_X10_unfold 36 rfl) ?_
        refine gx_istore_n C (lv' := [(2, .int (x2 + v11)), (0, .ref a0), (3, .int x3)]) (gDec_at D_X10_unfold 37 rfl) rfl (Nat.le_of_ble_eq_true rfl) rfl ?_
        refine gx_aload_n C 1 (gDec_at D_X10_unfold 38 rfl) rfl rfl ?_
        refine gx_getr C fl_X10_unfold_7 (is_X10_sh A0) rfl (gDec_at D_X10_unfold 39 rfl) ?_
        refine gx_bipush C (v := 26) (gDec_at D_X10_unfold 40 rfl) (by decide) ?_
        refine gx_iconst C (v := 5) (gDec_at D_X10_unfold 41 rfl) (by decide) ?_
        refine gx_iload_n C 2 (gDec_at D_X10_unfold 42 rfl) rfl rfl ?_
        refine gx_imul C (gDec_at D_X10_unfold 43 rfl) ?_
        refine gx_iadd C (gDec_at D_X10_unfold 44 rfl) ?_
        refine gx_iconst C (v := 4) (gDec_at D_X10_unfold 45 rfl) (by decide) ?_
        refine gx_iadd C (gDec_at D_X10_unfold 46 rfl) ?_
        refine gx_lconst C (v := 0) (gDec_at D_X10_unfold 47 rfl) (by decide) ?_
        obtain ⟨b14, hF⟩ := gGd hF
        refine gx_lastore C (is_X10_now A0) b14 (gDec_at D_X10_unfold 48 rfl) ?_
        refine gx_aload_n C 1 (gDec_at D_X10_unfold 49 rfl) rfl rfl ?_
        refine gx_iload_n C 2 (gDec_at D_X10_unfold 50 rfl) rfl rfl ?_
        refine gx_iconst C (v := 1) (gDec_at D_X10_unfold 51 rfl) (by decide) ?_
        obtain ⟨v16, hv15, hF⟩ := gBind hF
        refine gx_callV1 C (st := []) 2 [.int x3, .int 1] (m_X10_ofPart w (gsL h (a0 + 1) (gN ((26 + (5 * x3)) + 4)) 0) A0 x3 1 hv15) gX10_unfold_X10_ofPart rfl rfl rfl hy_X10_ofPart (Nat.le_of_ble_eq_true rfl) (Nat.le_of_ble_eq_true rfl) (is_X10_sh A0) rfl rfl rfl (Nat.le_of_ble_eq_true rfl) (gDec_at D_X10_unfold 52 rfl) ?_
        refine gx_istore_n C (lv' := [(3, .int v16), (2, .int (x2 + v11)), (0, .ref a0)]) (gDec_at D_X10_unfold 53 rfl) rfl (Nat.le_of_ble_eq_true rfl) rfl ?_
        refine gx_goto C 41 (gDec_at D_X10_unfold 54 rfl) (by decide) ?_
        exact gx_sub [2, 1, 0] rfl (ih (x2 + v11) v16 (gsL h (a0 + 1) (gN ((26 + (5 * x3)) + 4)) 0) hF)
      replace hF := hv12
      refine gx_ifz_eq C 60 (gDec_at D_X10_unfold 32 rfl) (by decide) (fun c => ?_) (fun c => ?_)
      · replace hF := gNeg c hF
        refine gx_iconst C (v := 0) (gDec_at D_X10_unfold 35 rfl) (by decide) ?_
        obtain rfl := Option.some.inj hF
        exact gx_sub [0, 2] rfl k13
      · replace hF := gPos c hF
        refine gx_iconst C (v := 1) (gDec_at D_X10_unfold 33 rfl) (by decide) ?_
        refine gx_goto C 61 (gDec_at D_X10_unfold 34 rfl) (by decide) ?_
        obtain rfl := Option.some.inj hF
        exact gx_sub [0, 2] rfl k13
def f_X10_unfold (a0 : Nat) (x1 : Int32) (h : gHp) : Option (Int32 × gHp) := (f_X10_noPart a0 x1 h).bind fun v2 => if v2 = true then some ((-1), h) else (f_X10_ofPart a0 x1 0 h).bind fun v4 => if v4 = 0 then some ((-3), h) else (f_X10_isFolded a0 x1 h).bind fun v6 => if v6 = true then (f_X10_record a0 h).bind fun v8 => (f_X10_unfold_41 a0 gFuel 0 x1 v8).bind fun v17 => some (v17.1, v17.2) else some ((-4), h)
set_option maxRecDepth 20000 in
set_option maxHeartbeats 4000000 in
theorem m_X10_unfold (w : gWd) (h : gHp) {a0 : Nat} (A0 : is_X10 w a0) (x1 : Int32) {o : Int32 × gHp} (hF : f_X10_unfold a0 x1 h = some o) : gMet w yX10_unfold wsX10_unfold rm_X10_unfold [.ref a0, .int x1] h (some (.int o.1)) o.2 := by
  refine gMet_of (cc := cX10_unfold) (maxL := 4) (ret := (some .int)) (fr := 2) (lo := 43) (own := RX10) [(0, .ref a0), (1, .int x1)] (by decide) rfl rfl (Nat.le_of_ble_eq_true rfl) rfl (Nat.le_refl _) (Nat.le_refl _) (fun g C E => ?_)
  rw [f_X10_unfold] at hF
  refine gx_aload_n C 0 (gDec_at D_X10_unfold 0 rfl) rfl rfl ?_
  refine gx_iload_n C 1 (gDec_at D_X10_unfold 1 rfl) rfl rfl ?_
  obtain ⟨v2, hv1, hF⟩ := gBind hF
  refine gx_callV1 C (st := []) 1 [.int x1] (m_X10_noPart w h A0 x1 hv1) gX10_unfold_X10_noPart rfl rfl rfl hy_X10_noPart (Nat.le_of_ble_eq_true rfl) (Nat.le_of_ble_eq_true rfl) (is_X10_sh A0) rfl rfl rfl (Nat.le_of_ble_eq_true rfl) (gDec_at D_X10_unfold 2 rfl) ?_
  refine gx_ifz_eq C 10 (gDec_at D_X10_unfold 3 rfl) (by decide) (fun c => ?_) (fun c => ?_)
  · replace hF := gNeg c hF
    refine gx_aload_n C 0 (gDec_at D_X10_unfold 6 rfl) rfl rfl ?_
    refine gx_iload_n C 1 (gDec_at D_X10_unfold 7 rfl) rfl rfl ?_
    refine gx_iconst C (v := 0) (gDec_at D_X10_unfold 8 rfl) (by decide) ?_
    obtain ⟨v4, hv3, hF⟩ := gBind hF
    refine gx_callV1 C (st := []) 2 [.int x1, .int 0] (m_X10_ofPart w h A0 x1 0 hv3) gX10_unfold_X10_ofPart rfl rfl rfl hy_X10_ofPart (Nat.le_of_ble_eq_true rfl) (Nat.le_of_ble_eq_true rfl) (is_X10_sh A0) rfl rfl rfl (Nat.le_of_ble_eq_true rfl) (gDec_at D_X10_unfold 9 rfl) ?_
    refine gx_if_ne C 22 (gDec_at D_X10_unfold 10 rfl) (by decide) (fun c => ?_) (fun c => ?_)
    · replace hF := gNeg c hF
      refine gx_aload_n C 0 (gDec_at D_X10_unfold 13 rfl) rfl rfl ?_
      refine gx_iload_n C 1 (gDec_at D_X10_unfold 14 rfl) rfl rfl ?_
      obtain ⟨v6, hv5, hF⟩ := gBind hF
      refine gx_callV1 C (st := []) 1 [.int x1] (m_X10_isFolded w h A0 x1 hv5) gX10_unfold_X10_isFolded rfl rfl rfl hy_X10_isFolded (Nat.le_of_ble_eq_true rfl) (Nat.le_of_ble_eq_true rfl) (is_X10_sh A0) rfl rfl rfl (Nat.le_of_ble_eq_true rfl) (gDec_at D_X10_unfold 15 rfl) ?_
      refine gx_ifz_ne C 33 (gDec_at D_X10_unfold 16 rfl) (by decide) (fun c => ?_) (fun c => ?_)
      · replace hF := gPos c hF
        refine gx_aload_n C 0 (gDec_at D_X10_unfold 19 rfl) rfl rfl ?_
        obtain ⟨v8, hv7, hF⟩ := gBind hF
        refine gx_callV0 C (st := []) 0 [] (m_X10_record w h A0 hv7) gX10_unfold_X10_record rfl rfl rfl hy_X10_record (Nat.le_of_ble_eq_true rfl) (Nat.le_of_ble_eq_true rfl) (is_X10_sh A0) rfl rfl rfl (Nat.le_of_ble_eq_true rfl) (gDec_at D_X10_unfold 20 rfl) ?_
        refine gx_iconst C (v := 0) (gDec_at D_X10_unfold 21 rfl) (by decide) ?_
        refine gx_istore_n C (lv' := [(2, .int 0), (0, .ref a0), (1, .int x1)]) (gDec_at D_X10_unfold 22 rfl) rfl (Nat.le_of_ble_eq_true rfl) rfl ?_
        refine gx_iload_n C 2 (gDec_at D_X10_unfold 23 rfl) rfl rfl ?_
        refine gx_istore_n C (lv' := [(3, .int x1), (2, .int 0), (0, .ref a0), (1, .int x1)]) (gDec_at D_X10_unfold 24 rfl) rfl (Nat.le_of_ble_eq_true rfl) rfl ?_
        obtain ⟨v17, hv18, hF⟩ := gBind hF
        have k19 : gX w g 4 v17.2 87 [(2, .int v17.1)] [] := by
          refine gx_iload_n C 0 (gDec_at D_X10_unfold 55 rfl) rfl rfl ?_
          obtain rfl := Option.some.inj hF
          exact gx_iret C E (gDec_at D_X10_unfold 56 rfl)
        exact gx_sub [2, 1, 0] rfl (w_X10_unfold_41 C A0 k19 gFuel 0 x1 v8 hv18)
      · replace hF := gNeg c hF
        refine gx_bipush C (v := (-4)) (gDec_at D_X10_unfold 17 rfl) (by decide) ?_
        obtain rfl := Option.some.inj hF
        exact gx_iret C E (gDec_at D_X10_unfold 18 rfl)
    · replace hF := gPos c hF
      refine gx_bipush C (v := (-3)) (gDec_at D_X10_unfold 11 rfl) (by decide) ?_
      obtain rfl := Option.some.inj hF
      exact gx_iret C E (gDec_at D_X10_unfold 12 rfl)
  · replace hF := gPos c hF
    refine gx_iconst C (v := (-1)) (gDec_at D_X10_unfold 4 rfl) (by decide) ?_
    obtain rfl := Option.some.inj hF
    exact gx_iret C E (gDec_at D_X10_unfold 5 rfl)
/-! LadderBenchModel.divisor -/
def rm_X10_divisor : Room := { frames := 0, cells := 0, slots := 0, locals := 0 }
theorem hy_X10_divisor : yX10_divisor.cls ≠ "java/lang/invoke/MethodHandle" ∧ yX10_divisor.cls ≠ "java/lang/invoke/VarHandle" ∧ (parseMethodDescriptor yX10_divisor.desc).map (fun d => d.parameters.length) = some 2 := by decide +kernel
set_option maxRecDepth 100000 in
theorem D_X10_divisor : gDec cX10_divisor [(0, (.lload_n 0, 1)), (1, (.lconst 0, 1)), (2, (.lcmp, 1)), (3, (.ifCond .ge 8, 3)), (6, (.lload_n 0, 1)), (7, (.lneg, 1)), (8, (.goto 4, 3)), (11, (.lload_n 0, 1)), (12, (.lstore 4, 2)), (14, (.lload_n 2, 1)), (15, (.lconst 0, 1)), (16, (.lcmp, 1)), (17, (.ifCond .ge 8, 3)), (20, (.lload_n 2, 1)), (21, (.lneg, 1)), (22, (.goto 4, 3)), (25, (.lload_n 2, 1)), (26, (.lstore 6, 2)), (28, (.lload 6, 2)), (30, (.lconst 0, 1)), (31, (.lcmp, 1)), (32, (.ifCond .eq 21, 3)), (35, (.lload 4, 2)), (37, (.lload 6, 2)), (39, (.lrem, 1)), (40, (.lstore 8, 2)), (42, (.lload 6, 2)), (44, (.lstore 4, 2)), (46, (.lload 8, 2)), (48, (.lstore 6, 2)), (50, (.goto (-22), 3)), (53, (.lload 4, 2)), (55, (.lreturn, 1))] = true := by decide +kernel
def f_X10_divisor_28 (h : gHp) : Nat → Int64 → Int64 → Option (Int64)
  | 0, _, _ => none
  | n + 1, l4, l6 => if l6 = 0 then some l4 else if l6 = 0 then none else f_X10_divisor_28 h n l6 (l4 - l4 / l6 * l6)
set_option maxRecDepth 20000 in
set_option maxHeartbeats 4000000 in
theorem w_X10_divisor_28 {w : gWd} {g : gCx} (C : gC w g cX10_divisor wsX10_divisor RX10 10 0 0) (h : gHp)  {o : Int64} (hk : gX w g 10 h 53 [(4, .long o)] []) : ∀ (n : Nat) (l4 : Int64) (l6 : Int64), f_X10_divisor_28 h n l4 l6 = some o → gX w g 10 h 28 [(4, .long l4), (6, .long l6)] [] := by
  intro n
  induction n with
  | zero => intro _ _ hF; cases hF
  | succ n ih =>
    intro l4 l6 hF
    rw [f_X10_divisor_28] at hF
    refine gx_lload C 1 (gDec_at D_X10_divisor 18 rfl) rfl ?_
    refine gx_lconst C (v := 0) (gDec_at D_X10_divisor 19 rfl) (by decide) ?_
    refine gx_lcmp_eq C 53 (gDec_at D_X10_divisor 20 rfl) (gDec_at D_X10_divisor 21 rfl) (by decide) (fun c => ?_) (fun c => ?_)
    · replace hF := gPos c hF
      obtain rfl := Option.some.inj hF
      exact gx_sub [0] rfl hk
    · replace hF := gNeg c hF
      refine gx_lload C 0 (gDec_at D_X10_divisor 22 rfl) rfl ?_
      refine gx_lload C 1 (gDec_at D_X10_divisor 23 rfl) rfl ?_
      obtain ⟨z7, hF⟩ := gGn hF
      refine gx_lrem C (gDec_at D_X10_divisor 24 rfl) z7 ?_
      refine gx_lstore C (lv' := [(8, .long (l4 - l4 / l6 * l6)), (4, .long l4), (6, .long l6)]) (gDec_at D_X10_divisor 25 rfl) (Nat.le_of_ble_eq_true rfl) rfl ?_
      refine gx_lload C 2 (gDec_at D_X10_divisor 26 rfl) rfl ?_
      refine gx_lstore C (lv' := [(4, .long l6), (8, .long (l4 - l4 / l6 * l6)), (6, .long l6)]) (gDec_at D_X10_divisor 27 rfl) (Nat.le_of_ble_eq_true rfl) rfl ?_
      refine gx_lload C 1 (gDec_at D_X10_divisor 28 rfl) rfl ?_
      refine gx_lstore C (lv' := [(6, .long (l4 - l4 / l6 * l6)), (4, .long l6), (8, .long (l4 - l4 / l6 * l6))]) (gDec_at D_X10_divisor 29 rfl) (Nat.le_of_ble_eq_true rfl) rfl ?_
      refine gx_goto C 28 (gDec_at D_X10_divisor 30 rfl) (by decide) ?_
      exact gx_sub [1, 0] rfl (ih l6 (l4 - l4 / l6 * l6) hF)
def f_X10_divisor (l0 : Int64) (l2 : Int64) (h : gHp) : Option (Int64) := (if 0 ≤ l0 then some l0 else some (-l0) : Option (Int64)).bind fun v1 => (if 0 ≤ l2 then some l2 else some (-l2) : Option (Int64)).bind fun v4 => (f_X10_divisor_28 h gFuel v1 v4).bind fun v8 => some v8
set_option maxRecDepth 20000 in
set_option maxHeartbeats 4000000 in
theorem m_X10_divisor (w : gWd) (h : gHp) (l0 : Int64) (l2 : Int64) {o : Int64} (hF : f_X10_divisor l0 l2 h = some o) : gMet w yX10_divisor wsX10_divisor rm_X10_divisor [.long l0, .long l2] h (some (.long o)) h := by
  refine gMet_of (cc := cX10_divisor) (maxL := 10) (ret := (some .long)) (fr := 0) (lo := 0) (own := RX10) [(0, .long l0), (2, .long l2)] (by decide) rfl rfl (Nat.le_of_ble_eq_true rfl) rfl (Nat.le_refl _) (Nat.le_refl _) (fun g C E => ?_)
  rw [f_X10_divisor] at hF
  refine gx_lload_n C 0 (gDec_at D_X10_divisor 0 rfl) rfl rfl ?_
  refine gx_lconst C (v := 0) (gDec_at D_X10_divisor 1 rfl) (by decide) ?_
  obtain ⟨v1, hv2, hF⟩ := gBind hF
  have k3 : gX w g 10 h 12 [(2, .long l2)] (.long v1 :: []) := by
    refine gx_lstore C (lv' := [(4, .long v1), (2, .long l2)]) (gDec_at D_X10_divisor 8 rfl) (Nat.le_of_ble_eq_true rfl) rfl ?_
    refine gx_lload_n C 1 (gDec_at D_X10_divisor 9 rfl) rfl rfl ?_
    refine gx_lconst C (v := 0) (gDec_at D_X10_divisor 10 rfl) (by decide) ?_
    obtain ⟨v4, hv5, hF⟩ := gBind hF
    have k6 : gX w g 10 h 26 [(4, .long v1)] (.long v4 :: []) := by
      refine gx_lstore C (lv' := [(6, .long v4), (4, .long v1)]) (gDec_at D_X10_divisor 17 rfl) (Nat.le_of_ble_eq_true rfl) rfl ?_
      obtain ⟨v8, hv9, hF⟩ := gBind hF
      have k10 : gX w g 10 h 53 [(4, .long v8)] [] := by
        refine gx_lload C 0 (gDec_at D_X10_divisor 31 rfl) rfl ?_
        obtain rfl := Option.some.inj hF
        exact gx_lret C E (gDec_at D_X10_divisor 32 rfl)
      exact gx_sub [1, 0] rfl (w_X10_divisor_28 C h k10 gFuel v1 v4 hv9)
    replace hF := hv5
    refine gx_lcmp_ge C 25 (gDec_at D_X10_divisor 11 rfl) (gDec_at D_X10_divisor 12 rfl) (by decide) (fun c => ?_) (fun c => ?_)
    · replace hF := gPos c hF
      refine gx_lload_n C 1 (gDec_at D_X10_divisor 16 rfl) rfl rfl ?_
      obtain rfl := Option.some.inj hF
      exact gx_sub [0] rfl k6
    · replace hF := gNeg c hF
      refine gx_lload_n C 1 (gDec_at D_X10_divisor 13 rfl) rfl rfl ?_
      refine gx_lneg C (gDec_at D_X10_divisor 14 rfl) ?_
      refine gx_goto C 26 (gDec_at D_X10_divisor 15 rfl) (by decide) ?_
      obtain rfl := Option.some.inj hF
      exact gx_sub [0] rfl k6
  replace hF := hv2
  refine gx_lcmp_ge C 11 (gDec_at D_X10_divisor 2 rfl) (gDec_at D_X10_divisor 3 rfl) (by decide) (fun c => ?_) (fun c => ?_)
  · replace hF := gPos c hF
    refine gx_lload_n C 0 (gDec_at D_X10_divisor 7 rfl) rfl rfl ?_
    obtain rfl := Option.some.inj hF
    exact gx_sub [1] rfl k3
  · replace hF := gNeg c hF
    refine gx_lload_n C 0 (gDec_at D_X10_divisor 4 rfl) rfl rfl ?_
    refine gx_lneg C (gDec_at D_X10_divisor 5 rfl) ?_
    refine gx_goto C 12 (gDec_at D_X10_divisor 6 rfl) (by decide) ?_
    obtain rfl := Option.some.inj hF
    exact gx_sub [1] rfl k3
/-! LadderBenchModel.becomes -/
def rm_X10_becomes : Room := { frames := 1, cells := 0, slots := 0, locals := 29 }
set_option maxRecDepth 20000 in
theorem ggX10_becomes_X10_divisor : GoodIn wsX10_becomes wsX10_divisor := goodIn_r _ [6] (by decide +kernel) (by decide +kernel)
set_option maxRecDepth 20000 in
theorem gX10_becomes_X10_divisor : GoodIn wsX10_becomes (va_wsS RX10 161 yX10_divisor wsX10_divisor) := goodIn_app (goodIn_of _ (by decide +kernel)) ggX10_becomes_X10_divisor
theorem hy_X10_becomes : yX10_becomes.cls = RX10 ∧ yX10_becomes.cls ≠ "java/lang/invoke/MethodHandle" ∧ yX10_becomes.cls ≠ "java/lang/invoke/VarHandle" ∧ (parseMethodDescriptor yX10_becomes.desc).map (fun d => d.parameters.length) = some 2 := by decide +kernel
set_option maxRecDepth 100000 in
theorem D_X10_becomes : gDec cX10_becomes [(0, (.lload_n 1, 1)), (1, (.lload_n 3, 1)), (2, (.invokestatic 161, 3)), (5, (.lstore 5, 2)), (7, (.aload_n 0, 1)), (8, (.lload_n 1, 1)), (9, (.lload 5, 2)), (11, (.ldiv, 1)), (12, (.putfield 165, 3)), (15, (.aload_n 0, 1)), (16, (.lload_n 3, 1)), (17, (.lload 5, 2)), (19, (.ldiv, 1)), (20, (.putfield 169, 3)), (23, (.return_, 1))] = true := by decide +kernel
set_option maxRecDepth 100000 in
theorem in_X10_becomes_X10 : ∀ x ∈ u_ws RX10 TX10 26, x ∈ wsX10_becomes := by decide +kernel
theorem flw_X10_becomes_165 : gFw wsX10_becomes RX10 165 10 17 .long := ⟨RX10, TX10, 26, tyX10, rfl, by decide, in_X10_becomes_X10, by decide +kernel, tyX10_ok, nmX10, rfl, by decide +kernel⟩
theorem flw_X10_becomes_169 : gFw wsX10_becomes RX10 169 10 18 .long := ⟨RX10, TX10, 26, tyX10, rfl, by decide, in_X10_becomes_X10, by decide +kernel, tyX10_ok, nmX10, rfl, by decide +kernel⟩
def f_X10_becomes (a0 : Nat) (l1 : Int64) (l3 : Int64) (h : gHp) : Option (gHp) := (f_X10_divisor l1 l3 h).bind fun v2 => if v2 = 0 then none else if v2 = 0 then none else some (gsL (gsL h a0 17 (l1 / v2)) a0 18 (l3 / v2))
set_option maxRecDepth 20000 in
set_option maxHeartbeats 4000000 in
theorem m_X10_becomes (w : gWd) (h : gHp) {a0 : Nat} (A0 : is_X10 w a0) (l1 : Int64) (l3 : Int64) {o : gHp} (hF : f_X10_becomes a0 l1 l3 h = some o) : gMet w yX10_becomes wsX10_becomes rm_X10_becomes [.ref a0, .long l1, .long l3] h (none) o := by
  refine gMet_of (cc := cX10_becomes) (maxL := 7) (ret := none) (fr := 1) (lo := 29) (own := RX10) [(0, .ref a0), (1, .long l1), (3, .long l3)] (by decide) rfl rfl (Nat.le_of_ble_eq_true rfl) rfl (Nat.le_refl _) (Nat.le_refl _) (fun g C E => ?_)
  rw [f_X10_becomes] at hF
  refine gx_lload_n C 1 (gDec_at D_X10_becomes 0 rfl) rfl rfl ?_
  refine gx_lload_n C 2 (gDec_at D_X10_becomes 1 rfl) rfl rfl ?_
  obtain ⟨v2, hv1, hF⟩ := gBind hF
  refine gx_callS1 C (st := []) 2 [.long l1, .long l3] (m_X10_divisor w h l1 l3 hv1) gX10_becomes_X10_divisor rfl rfl rfl hy_X10_divisor (Nat.le_of_ble_eq_true rfl) (Nat.le_of_ble_eq_true rfl) rfl rfl (Nat.le_of_ble_eq_true rfl) (gDec_at D_X10_becomes 2 rfl) ?_
  refine gx_lstore C (lv' := [(5, .long v2), (0, .ref a0), (1, .long l1), (3, .long l3)]) (gDec_at D_X10_becomes 3 rfl) (Nat.le_of_ble_eq_true rfl) rfl ?_
  refine gx_aload_n C 1 (gDec_at D_X10_becomes 4 rfl) rfl rfl ?_
  refine gx_lload_n C 2 (gDec_at D_X10_becomes 5 rfl) rfl rfl ?_
  refine gx_lload C 0 (gDec_at D_X10_becomes 6 rfl) rfl ?_
  obtain ⟨z3, hF⟩ := gGn hF
  refine gx_ldiv C (gDec_at D_X10_becomes 7 rfl) z3 ?_
  refine gx_putL C flw_X10_becomes_165 (is_X10_sh A0) rfl rfl rfl (gDec_at D_X10_becomes 8 rfl) ?_
  refine gx_aload_n C 1 (gDec_at D_X10_becomes 9 rfl) rfl rfl ?_
  refine gx_lload_n C 3 (gDec_at D_X10_becomes 10 rfl) rfl rfl ?_
  refine gx_lload C 0 (gDec_at D_X10_becomes 11 rfl) rfl ?_
  obtain ⟨z4, hF⟩ := gGn hF
  refine gx_ldiv C (gDec_at D_X10_becomes 12 rfl) z4 ?_
  refine gx_putL C flw_X10_becomes_169 (is_X10_sh A0) rfl rfl rfl (gDec_at D_X10_becomes 13 rfl) ?_
  obtain rfl := Option.some.inj hF
  exact gx_vret C E (gDec_at D_X10_becomes 14 rfl)
