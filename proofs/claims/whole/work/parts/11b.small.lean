/-! LadderBench$Line.startsWith -/
def rm_X4_startsWith : Room := { frames := 4, cells := 0, slots := 0, locals := 85 }
set_option maxRecDepth 20000 in
theorem ggX4_startsWith_J0_charAt_5068e : GoodIn wsX4_startsWith wsJ0_charAt_5068e := goodIn_r _ [18, 8, 19, 20, 21, 6, 22, 13, 14, 23, 24, 25, 26, 27, 28, 29, 30, 31, 32, 33, 34, 35, 36, 37, 38, 39, 40, 41, 42, 43, 44, 45, 46, 47, 48, 49, 50, 51] (by decide +kernel) (by decide +kernel)
set_option maxRecDepth 20000 in
theorem gX4_startsWith_J0_charAt_5068e : GoodIn wsX4_startsWith (wsV RX4 24 RJ0 yJ0_charAt_5068e wsJ0_charAt_5068e) := goodIn_app (goodIn_of _ (by decide +kernel)) ggX4_startsWith_J0_charAt_5068e
set_option maxRecDepth 20000 in
theorem ggX4_startsWith_J0_length_8abf5 : GoodIn wsX4_startsWith wsJ0_length_8abf5 := goodIn_r _ [7, 8, 9, 10, 11, 6, 12, 13, 14] (by decide +kernel) (by decide +kernel)
set_option maxRecDepth 20000 in
theorem gX4_startsWith_J0_length_8abf5 : GoodIn wsX4_startsWith (wsV RX4 19 RJ0 yJ0_length_8abf5 wsJ0_length_8abf5) := goodIn_app (goodIn_of _ (by decide +kernel)) ggX4_startsWith_J0_length_8abf5
theorem hy_X4_startsWith : yX4_startsWith.cls = RX4 ∧ yX4_startsWith.cls ≠ "java/lang/invoke/MethodHandle" ∧ yX4_startsWith.cls ≠ "java/lang/invoke/VarHandle" ∧ (parseMethodDescriptor yX4_startsWith.desc).map (fun d => d.parameters.length) = some 2 := by decide +kernel
set_option maxRecDepth 100000 in
theorem D_X4_startsWith : gDec cX4_startsWith [(0, (.iload_n 2, 1)), (1, (.aload_n 1, 1)), (2, (.invokevirtual 19, 3)), (5, (.if_icmp .ne 11, 3)), (8, (.iload_n 2, 1)), (9, (.aload_n 0, 1)), (10, (.getfield 15, 3)), (13, (.if_icmp .le 5, 3)), (16, (.iconst 0, 1)), (17, (.ireturn, 1)), (18, (.iconst 0, 1)), (19, (.istore_n 3, 1)), (20, (.iload_n 3, 1)), (21, (.iload_n 2, 1)), (22, (.if_icmp .ge 25, 3)), (25, (.aload_n 0, 1)), (26, (.getfield 9, 3)), (29, (.iload_n 3, 1)), (30, (.caload, 1)), (31, (.aload_n 1, 1)), (32, (.iload_n 3, 1)), (33, (.invokevirtual 24, 3)), (36, (.if_icmp .eq 5, 3)), (39, (.iconst 0, 1)), (40, (.ireturn, 1)), (41, (.iinc 3 1, 3)), (44, (.goto (-24), 3)), (47, (.iconst 1, 1)), (48, (.ireturn, 1))] = true := by decide +kernel
set_option maxRecDepth 100000 in
theorem in_X4_startsWith_X4 : ∀ x ∈ u_ws RX4 TX4 2, x ∈ wsX4_startsWith := by decide +kernel
theorem fl_X4_startsWith_15 : gF wsX4_startsWith RX4 15 4 1 := ⟨RX4, TX4, 2, rfl, by decide, in_X4_startsWith_X4, by decide +kernel⟩
theorem fl_X4_startsWith_9 : gF wsX4_startsWith RX4 9 4 0 := ⟨RX4, TX4, 2, rfl, by decide, in_X4_startsWith_X4, by decide +kernel⟩
def f_X4_startsWith_20 (a0 : Nat) (i1 : Nat) (x2 : Int32) (h : gHp) : Nat → Int32 → Option (Bool)
  | 0, _ => none
  | n + 1, x3 => if x2 ≤ x3 then some true else if gIn x3 40 then (f_J0_charAt_5068e i1 x3 h).bind fun v5 => if (h.1 (a0 + 1) (gN x3)) = v5 then f_X4_startsWith_20 a0 i1 x2 h n (x3 + 1) else some false else none
set_option maxRecDepth 20000 in
set_option maxHeartbeats 4000000 in
theorem w_X4_startsWith_20 {w : gWd} {g : gCx} (C : gC w g cX4_startsWith wsX4_startsWith RX4 4 4 85) {a0 : Nat} (A0 : is_X4 w a0) {i1 : Nat} (A1 : i1 < 6) (x2 : Int32) (h : gHp)  {o : Bool} (E : gEn w g (some .boolean) (some (.int (gZ o))) h) : ∀ (n : Nat) (x3 : Int32), f_X4_startsWith_20 a0 i1 x2 h n x3 = some o → gX w g 4 h 20 [(0, .ref a0), (1, .ref (gAK w i1)), (2, .int x2), (3, .int x3)] [] := by
  intro n
  induction n with
  | zero => intro _ hF; cases hF
  | succ n ih =>
    intro x3 hF
    rw [f_X4_startsWith_20] at hF
    refine gx_iload_n C 3 (gDec_at D_X4_startsWith 12 rfl) rfl rfl ?_
    refine gx_iload_n C 2 (gDec_at D_X4_startsWith 13 rfl) rfl rfl ?_
    refine gx_icmp_ge C 47 (gDec_at D_X4_startsWith 14 rfl) (by decide) (fun c => ?_) (fun c => ?_)
    · replace hF := gPos c hF
      refine gx_iconst C (v := 1) (gDec_at D_X4_startsWith 27 rfl) (by decide) ?_
      obtain rfl := Option.some.inj hF
      exact gx_zret (b := true) C E (gDec_at D_X4_startsWith 28 rfl)
    · replace hF := gNeg c hF
      refine gx_aload_n C 0 (gDec_at D_X4_startsWith 15 rfl) rfl rfl ?_
      refine gx_getr C fl_X4_startsWith_9 (is_X4_sh A0) rfl (gDec_at D_X4_startsWith 16 rfl) ?_
      refine gx_iload_n C 3 (gDec_at D_X4_startsWith 17 rfl) rfl rfl ?_
      obtain ⟨b3, hF⟩ := gGd hF
      refine gx_caload C (is_X4_characters A0) b3 (gDec_at D_X4_startsWith 18 rfl) ?_
      refine gx_aload_n C 1 (gDec_at D_X4_startsWith 19 rfl) rfl rfl ?_
      refine gx_iload_n C 3 (gDec_at D_X4_startsWith 20 rfl) rfl rfl ?_
      obtain ⟨v5, hv4, hF⟩ := gBind hF
      refine gx_callVS1 C (st := .int (h.1 (a0 + 1) (gN x3)) :: []) 1 [.int x3] (m_J0_charAt_5068e w h A1 x3 hv4) gX4_startsWith_J0_charAt_5068e rfl rfl rfl hy_J0_charAt_5068e (Nat.le_of_ble_eq_true rfl) (Nat.le_of_ble_eq_true rfl) A1 rfl rfl (Nat.le_of_ble_eq_true rfl) (gDec_at D_X4_startsWith 21 rfl) ?_
      refine gx_icmp_eq C 41 (gDec_at D_X4_startsWith 22 rfl) (by decide) (fun c => ?_) (fun c => ?_)
      · replace hF := gPos c hF
        refine gx_iinc C (j := 3) (v := x3 + 1) (lv' := [(3, .int (x3 + 1)), (0, .ref a0), (1, .ref (gAK w i1)), (2, .int x2)]) (gDec_at D_X4_startsWith 25 rfl) rfl (by rfl) (Nat.le_of_ble_eq_true rfl) rfl ?_
        refine gx_goto C 20 (gDec_at D_X4_startsWith 26 rfl) (by decide) ?_
        exact gx_sub [1, 2, 3, 0] rfl (ih (x3 + 1) hF)
      · replace hF := gNeg c hF
        refine gx_iconst C (v := 0) (gDec_at D_X4_startsWith 23 rfl) (by decide) ?_
        obtain rfl := Option.some.inj hF
        exact gx_zret (b := false) C E (gDec_at D_X4_startsWith 24 rfl)
def f_X4_startsWith (a0 : Nat) (i1 : Nat) (x2 : Int32) (h : gHp) : Option (Bool) := (f_J0_length_8abf5 i1 h).bind fun v2 => if x2 = v2 then if x2 ≤ (h.1 a0 1) then f_X4_startsWith_20 a0 i1 x2 h gFuel 0 else some false else some false
set_option maxRecDepth 20000 in
set_option maxHeartbeats 4000000 in
theorem m_X4_startsWith (w : gWd) (h : gHp) {a0 : Nat} (A0 : is_X4 w a0) {i1 : Nat} (A1 : i1 < 6) (x2 : Int32) {o : Bool} (hF : f_X4_startsWith a0 i1 x2 h = some o) : gMet w yX4_startsWith wsX4_startsWith rm_X4_startsWith [.ref a0, .ref (gAK w i1), .int x2] h (some (.int (gZ o))) h := by
  refine gMet_of (cc := cX4_startsWith) (maxL := 4) (ret := (some .boolean)) (fr := 4) (lo := 85) (own := RX4) [(0, .ref a0), (1, .ref (gAK w i1)), (2, .int x2)] (by decide) rfl rfl (Nat.le_of_ble_eq_true rfl) rfl (Nat.le_refl _) (Nat.le_refl _) (fun g C E => ?_)
  rw [f_X4_startsWith] at hF
  refine gx_iload_n C 2 (gDec_at D_X4_startsWith 0 rfl) rfl rfl ?_
  refine gx_aload_n C 1 (gDec_at D_X4_startsWith 1 rfl) rfl rfl ?_
  obtain ⟨v2, hv1, hF⟩ := gBind hF
  refine gx_callVS1 C (st := .int x2 :: []) 0 [] (m_J0_length_8abf5 w h A1 hv1) gX4_startsWith_J0_length_8abf5 rfl rfl rfl hy_J0_length_8abf5 (Nat.le_of_ble_eq_true rfl) (Nat.le_of_ble_eq_true rfl) A1 rfl rfl (Nat.le_of_ble_eq_true rfl) (gDec_at D_X4_startsWith 2 rfl) ?_
  refine gx_icmp_ne C 16 (gDec_at D_X4_startsWith 3 rfl) (by decide) (fun c => ?_) (fun c => ?_)
  · replace hF := gNeg c hF
    refine gx_iconst C (v := 0) (gDec_at D_X4_startsWith 8 rfl) (by decide) ?_
    obtain rfl := Option.some.inj hF
    exact gx_zret (b := false) C E (gDec_at D_X4_startsWith 9 rfl)
  · replace hF := gPos c hF
    refine gx_iload_n C 2 (gDec_at D_X4_startsWith 4 rfl) rfl rfl ?_
    refine gx_aload_n C 0 (gDec_at D_X4_startsWith 5 rfl) rfl rfl ?_
    refine gx_geti C fl_X4_startsWith_15 (is_X4_sh A0) rfl (gDec_at D_X4_startsWith 6 rfl) ?_
    refine gx_icmp_le C 18 (gDec_at D_X4_startsWith 7 rfl) (by decide) (fun c => ?_) (fun c => ?_)
    · replace hF := gPos c hF
      refine gx_iconst C (v := 0) (gDec_at D_X4_startsWith 10 rfl) (by decide) ?_
      refine gx_istore_n C (lv' := [(3, .int 0), (0, .ref a0), (1, .ref (gAK w i1)), (2, .int x2)]) (gDec_at D_X4_startsWith 11 rfl) rfl (Nat.le_of_ble_eq_true rfl) rfl ?_
      exact gx_sub [1, 2, 3, 0] rfl (w_X4_startsWith_20 C A0 A1 x2 h   E gFuel 0 hF)
    · replace hF := gNeg c hF
      refine gx_iconst C (v := 0) (gDec_at D_X4_startsWith 8 rfl) (by decide) ?_
      obtain rfl := Option.some.inj hF
      exact gx_zret (b := false) C E (gDec_at D_X4_startsWith 9 rfl)
/-! LadderBench$Network.hasArm -/
def rm_X5_hasArm : Room := { frames := 0, cells := 0, slots := 0, locals := 0 }
theorem hy_X5_hasArm : yX5_hasArm.cls = RX5 ∧ yX5_hasArm.cls ≠ "java/lang/invoke/MethodHandle" ∧ yX5_hasArm.cls ≠ "java/lang/invoke/VarHandle" ∧ (parseMethodDescriptor yX5_hasArm.desc).map (fun d => d.parameters.length) = some 1 := by decide +kernel
set_option maxRecDepth 100000 in
theorem D_X5_hasArm : gDec cX5_hasArm [(0, (.iload_n 1, 1)), (1, (.ifCond .lt 23, 3)), (4, (.iload_n 1, 1)), (5, (.bipush 6, 2)), (7, (.if_icmp .ge 17, 3)), (10, (.aload_n 0, 1)), (11, (.getfield 21, 3)), (14, (.iload_n 1, 1)), (15, (.iaload, 1)), (16, (.iconst (-1), 1)), (17, (.if_icmp .eq 7, 3)), (20, (.iconst 1, 1)), (21, (.goto 4, 3)), (24, (.iconst 0, 1)), (25, (.ireturn, 1))] = true := by decide +kernel
set_option maxRecDepth 100000 in
theorem in_X5_hasArm_X5 : ∀ x ∈ u_ws RX5 TX5 5, x ∈ wsX5_hasArm := by decide +kernel
theorem fl_X5_hasArm_21 : gF wsX5_hasArm RX5 21 5 3 := ⟨RX5, TX5, 5, rfl, by decide, in_X5_hasArm_X5, by decide +kernel⟩
def f_X5_hasArm (a0 : Nat) (x1 : Int32) (h : gHp) : Option (Bool) := if x1 < 0 then some false else if 6 ≤ x1 then some false else if gIn x1 6 then if (h.1 (a0 + 4) (gN x1)) = (-1) then some false else some true else none
set_option maxRecDepth 20000 in
set_option maxHeartbeats 4000000 in
theorem m_X5_hasArm (w : gWd) (h : gHp) {a0 : Nat} (A0 : is_X5 w a0) (x1 : Int32) {o : Bool} (hF : f_X5_hasArm a0 x1 h = some o) : gMet w yX5_hasArm wsX5_hasArm rm_X5_hasArm [.ref a0, .int x1] h (some (.int (gZ o))) h := by
  refine gMet_of (cc := cX5_hasArm) (maxL := 2) (ret := (some .boolean)) (fr := 0) (lo := 0) (own := RX5) [(0, .ref a0), (1, .int x1)] (by decide) rfl rfl (Nat.le_of_ble_eq_true rfl) rfl (Nat.le_refl _) (Nat.le_refl _) (fun g C E => ?_)
  rw [f_X5_hasArm] at hF
  refine gx_iload_n C 1 (gDec_at D_X5_hasArm 0 rfl) rfl rfl ?_
  refine gx_if_lt C 24 (gDec_at D_X5_hasArm 1 rfl) (by decide) (fun c => ?_) (fun c => ?_)
  · replace hF := gPos c hF
    refine gx_iconst C (v := 0) (gDec_at D_X5_hasArm 13 rfl) (by decide) ?_
    obtain rfl := Option.some.inj hF
    exact gx_zret (b := false) C E (gDec_at D_X5_hasArm 14 rfl)
  · replace hF := gNeg c hF
    refine gx_iload_n C 1 (gDec_at D_X5_hasArm 2 rfl) rfl rfl ?_
    refine gx_bipush C (v := 6) (gDec_at D_X5_hasArm 3 rfl) (by decide) ?_
    refine gx_icmp_ge C 24 (gDec_at D_X5_hasArm 4 rfl) (by decide) (fun c => ?_) (fun c => ?_)
    · replace hF := gPos c hF
      refine gx_iconst C (v := 0) (gDec_at D_X5_hasArm 13 rfl) (by decide) ?_
      obtain rfl := Option.some.inj hF
      exact gx_zret (b := false) C E (gDec_at D_X5_hasArm 14 rfl)
    · replace hF := gNeg c hF
      refine gx_aload_n C 0 (gDec_at D_X5_hasArm 5 rfl) rfl rfl ?_
      refine gx_getr C fl_X5_hasArm_21 (is_X5_sh A0) rfl (gDec_at D_X5_hasArm 6 rfl) ?_
      refine gx_iload_n C 1 (gDec_at D_X5_hasArm 7 rfl) rfl rfl ?_
      obtain ⟨b1, hF⟩ := gGd hF
      refine gx_iaload C (is_X5_partOfArm A0) b1 (gDec_at D_X5_hasArm 8 rfl) ?_
      refine gx_iconst C (v := (-1)) (gDec_at D_X5_hasArm 9 rfl) (by decide) ?_
      refine gx_icmp_eq C 24 (gDec_at D_X5_hasArm 10 rfl) (by decide) (fun c => ?_) (fun c => ?_)
      · replace hF := gPos c hF
        refine gx_iconst C (v := 0) (gDec_at D_X5_hasArm 13 rfl) (by decide) ?_
        obtain rfl := Option.some.inj hF
        exact gx_zret (b := false) C E (gDec_at D_X5_hasArm 14 rfl)
      · replace hF := gNeg c hF
        refine gx_iconst C (v := 1) (gDec_at D_X5_hasArm 11 rfl) (by decide) ?_
        refine gx_goto C 25 (gDec_at D_X5_hasArm 12 rfl) (by decide) ?_
        obtain rfl := Option.some.inj hF
        exact gx_zret (b := true) C E (gDec_at D_X5_hasArm 14 rfl)
/-! LadderBench$Network.hasPart -/
def rm_X5_hasPart : Room := { frames := 0, cells := 0, slots := 0, locals := 0 }
theorem hy_X5_hasPart : yX5_hasPart.cls = RX5 ∧ yX5_hasPart.cls ≠ "java/lang/invoke/MethodHandle" ∧ yX5_hasPart.cls ≠ "java/lang/invoke/VarHandle" ∧ (parseMethodDescriptor yX5_hasPart.desc).map (fun d => d.parameters.length) = some 1 := by decide +kernel
set_option maxRecDepth 100000 in
theorem D_X5_hasPart : gDec cX5_hasPart [(0, (.iload_n 1, 1)), (1, (.ifCond .lt 15, 3)), (4, (.iload_n 1, 1)), (5, (.aload_n 0, 1)), (6, (.getfield 24, 3)), (9, (.if_icmp .ge 7, 3)), (12, (.iconst 1, 1)), (13, (.goto 4, 3)), (16, (.iconst 0, 1)), (17, (.ireturn, 1))] = true := by decide +kernel
set_option maxRecDepth 100000 in
theorem in_X5_hasPart_X5 : ∀ x ∈ u_ws RX5 TX5 5, x ∈ wsX5_hasPart := by decide +kernel
theorem fl_X5_hasPart_24 : gF wsX5_hasPart RX5 24 5 4 := ⟨RX5, TX5, 5, rfl, by decide, in_X5_hasPart_X5, by decide +kernel⟩
def f_X5_hasPart (a0 : Nat) (x1 : Int32) (h : gHp) : Option (Bool) := if x1 < 0 then some false else if (h.1 a0 4) ≤ x1 then some false else some true
set_option maxRecDepth 20000 in
set_option maxHeartbeats 4000000 in
theorem m_X5_hasPart (w : gWd) (h : gHp) {a0 : Nat} (A0 : is_X5 w a0) (x1 : Int32) {o : Bool} (hF : f_X5_hasPart a0 x1 h = some o) : gMet w yX5_hasPart wsX5_hasPart rm_X5_hasPart [.ref a0, .int x1] h (some (.int (gZ o))) h := by
  refine gMet_of (cc := cX5_hasPart) (maxL := 2) (ret := (some .boolean)) (fr := 0) (lo := 0) (own := RX5) [(0, .ref a0), (1, .int x1)] (by decide) rfl rfl (Nat.le_of_ble_eq_true rfl) rfl (Nat.le_refl _) (Nat.le_refl _) (fun g C E => ?_)
  rw [f_X5_hasPart] at hF
  refine gx_iload_n C 1 (gDec_at D_X5_hasPart 0 rfl) rfl rfl ?_
  refine gx_if_lt C 16 (gDec_at D_X5_hasPart 1 rfl) (by decide) (fun c => ?_) (fun c => ?_)
  · replace hF := gPos c hF
    refine gx_iconst C (v := 0) (gDec_at D_X5_hasPart 8 rfl) (by decide) ?_
    obtain rfl := Option.some.inj hF
    exact gx_zret (b := false) C E (gDec_at D_X5_hasPart 9 rfl)
  · replace hF := gNeg c hF
    refine gx_iload_n C 1 (gDec_at D_X5_hasPart 2 rfl) rfl rfl ?_
    refine gx_aload_n C 0 (gDec_at D_X5_hasPart 3 rfl) rfl rfl ?_
    refine gx_geti C fl_X5_hasPart_24 (is_X5_sh A0) rfl (gDec_at D_X5_hasPart 4 rfl) ?_
    refine gx_icmp_ge C 16 (gDec_at D_X5_hasPart 5 rfl) (by decide) (fun c => ?_) (fun c => ?_)
    · replace hF := gPos c hF
      refine gx_iconst C (v := 0) (gDec_at D_X5_hasPart 8 rfl) (by decide) ?_
      obtain rfl := Option.some.inj hF
      exact gx_zret (b := false) C E (gDec_at D_X5_hasPart 9 rfl)
    · replace hF := gNeg c hF
      refine gx_iconst C (v := 1) (gDec_at D_X5_hasPart 6 rfl) (by decide) ?_
      refine gx_goto C 17 (gDec_at D_X5_hasPart 7 rfl) (by decide) ?_
      obtain rfl := Option.some.inj hF
      exact gx_zret (b := true) C E (gDec_at D_X5_hasPart 9 rfl)
/-! LadderBench$Network.findWayUp -/
def rm_X5_findWayUp : Room := { frames := 1, cells := 0, slots := 0, locals := 21 }
set_option maxRecDepth 20000 in
theorem ggX5_findWayUp_X5_hasPart : GoodIn wsX5_findWayUp wsX5_hasPart := goodIn_r _ [6, 7, 8, 9, 10, 11, 12] (by decide +kernel) (by decide +kernel)
set_option maxRecDepth 20000 in
theorem gX5_findWayUp_X5_hasPart : GoodIn wsX5_findWayUp (wsV RX5 37 RX5 yX5_hasPart wsX5_hasPart) := goodIn_app (goodIn_of _ (by decide +kernel)) ggX5_findWayUp_X5_hasPart
theorem hy_X5_findWayUp : yX5_findWayUp.cls = RX5 ∧ yX5_findWayUp.cls ≠ "java/lang/invoke/MethodHandle" ∧ yX5_findWayUp.cls ≠ "java/lang/invoke/VarHandle" ∧ (parseMethodDescriptor yX5_findWayUp.desc).map (fun d => d.parameters.length) = some 1 := by decide +kernel
set_option maxRecDepth 100000 in
theorem D_X5_findWayUp : gDec cX5_findWayUp [(0, (.iconst 0, 1)), (1, (.istore_n 2, 1)), (2, (.iload_n 1, 1)), (3, (.istore_n 3, 1)), (4, (.iconst 0, 1)), (5, (.istore 4, 2)), (7, (.iload 4, 2)), (9, (.bipush 11, 2)), (11, (.if_icmp .ge 30, 3)), (14, (.aload_n 0, 1)), (15, (.iload_n 3, 1)), (16, (.invokevirtual 37, 3)), (19, (.ifCond .eq 22, 3)), (22, (.iload_n 2, 1)), (23, (.iconst 1, 1)), (24, (.iload_n 3, 1)), (25, (.ishl, 1)), (26, (.ior, 1)), (27, (.istore_n 2, 1)), (28, (.aload_n 0, 1)), (29, (.getfield 15, 3)), (32, (.iload_n 3, 1)), (33, (.iaload, 1)), (34, (.istore_n 3, 1)), (35, (.iinc 4 1, 3)), (38, (.goto (-31), 3)), (41, (.iload_n 2, 1)), (42, (.ireturn, 1))] = true := by decide +kernel
set_option maxRecDepth 100000 in
theorem in_X5_findWayUp_X5 : ∀ x ∈ u_ws RX5 TX5 5, x ∈ wsX5_findWayUp := by decide +kernel
theorem fl_X5_findWayUp_15 : gF wsX5_findWayUp RX5 15 5 1 := ⟨RX5, TX5, 5, rfl, by decide, in_X5_findWayUp_X5, by decide +kernel⟩
def f_X5_findWayUp_7 (a0 : Nat) (h : gHp) : Nat → Int32 → Int32 → Int32 → Option (Int32)
  | 0, _, _, _ => none
  | n + 1, x2, x3, x4 => if 11 ≤ x4 then some x2 else (f_X5_hasPart a0 x3 h).bind fun v2 => if v2 = true then if gIn x3 11 then f_X5_findWayUp_7 a0 h n (x2 ||| (1 <<< (x3 &&& 31))) (h.1 (a0 + 2) (gN x3)) (x4 + 1) else none else some x2
set_option maxRecDepth 20000 in
set_option maxHeartbeats 4000000 in
theorem w_X5_findWayUp_7 {w : gWd} {g : gCx} (C : gC w g cX5_findWayUp wsX5_findWayUp RX5 5 1 21) {a0 : Nat} (A0 : is_X5 w a0) (h : gHp)  {o : Int32} (hk : gX w g 5 h 41 [(2, .int o)] []) : ∀ (n : Nat) (x2 : Int32) (x3 : Int32) (x4 : Int32), f_X5_findWayUp_7 a0 h n x2 x3 x4 = some o → gX w g 5 h 7 [(0, .ref a0), (2, .int x2), (3, .int x3), (4, .int x4)] [] := by
  intro n
  induction n with
  | zero => intro _ _ _ hF; cases hF
  | succ n ih =>
    intro x2 x3 x4 hF
    rw [f_X5_findWayUp_7] at hF
    refine gx_iload C 3 (gDec_at D_X5_findWayUp 6 rfl) rfl ?_
    refine gx_bipush C (v := 11) (gDec_at D_X5_findWayUp 7 rfl) (by decide) ?_
    refine gx_icmp_ge C 41 (gDec_at D_X5_findWayUp 8 rfl) (by decide) (fun c => ?_) (fun c => ?_)
    · replace hF := gPos c hF
      obtain rfl := Option.some.inj hF
      exact gx_sub [1] rfl hk
    · replace hF := gNeg c hF
      refine gx_aload_n C 0 (gDec_at D_X5_findWayUp 9 rfl) rfl rfl ?_
      refine gx_iload_n C 2 (gDec_at D_X5_findWayUp 10 rfl) rfl rfl ?_
      obtain ⟨v2, hv1, hF⟩ := gBind hF
      refine gx_callV1 C (st := []) 1 [.int x3] (m_X5_hasPart w h A0 x3 hv1) gX5_findWayUp_X5_hasPart rfl rfl rfl hy_X5_hasPart (Nat.le_of_ble_eq_true rfl) (Nat.le_of_ble_eq_true rfl) (is_X5_sh A0) rfl rfl rfl (Nat.le_of_ble_eq_true rfl) (gDec_at D_X5_findWayUp 11 rfl) ?_
      refine gx_ifz_eq C 41 (gDec_at D_X5_findWayUp 12 rfl) (by decide) (fun c => ?_) (fun c => ?_)
      · replace hF := gNeg c hF
        obtain rfl := Option.some.inj hF
        exact gx_sub [1] rfl hk
      · replace hF := gPos c hF
        refine gx_iload_n C 1 (gDec_at D_X5_findWayUp 13 rfl) rfl rfl ?_
        refine gx_iconst C (v := 1) (gDec_at D_X5_findWayUp 14 rfl) (by decide) ?_
        refine gx_iload_n C 2 (gDec_at D_X5_findWayUp 15 rfl) rfl rfl ?_
        refine gx_ishl C (gDec_at D_X5_findWayUp 16 rfl) ?_
        refine gx_ior C (gDec_at D_X5_findWayUp 17 rfl) ?_
        refine gx_istore_n C (lv' := [(2, .int (x2 ||| (1 <<< (x3 &&& 31)))), (0, .ref a0), (3, .int x3), (4, .int x4)]) (gDec_at D_X5_findWayUp 18 rfl) rfl (Nat.le_of_ble_eq_true rfl) rfl ?_
        refine gx_aload_n C 1 (gDec_at D_X5_findWayUp 19 rfl) rfl rfl ?_
        refine gx_getr C fl_X5_findWayUp_15 (is_X5_sh A0) rfl (gDec_at D_X5_findWayUp 20 rfl) ?_
        refine gx_iload_n C 2 (gDec_at D_X5_findWayUp 21 rfl) rfl rfl ?_
        obtain ⟨b3, hF⟩ := gGd hF
        refine gx_iaload C (is_X5_around A0) b3 (gDec_at D_X5_findWayUp 22 rfl) ?_
        refine gx_istore_n C (lv' := [(3, .int (h.1 (a0 + 2) (gN x3))), (2, .int (x2 ||| (1 <<< (x3 &&& 31)))), (0, .ref a0), (4, .int x4)]) (gDec_at D_X5_findWayUp 23 rfl) rfl (Nat.le_of_ble_eq_true rfl) rfl ?_
        refine gx_iinc C (j := 3) (v := x4 + 1) (lv' := [(4, .int (x4 + 1)), (3, .int (h.1 (a0 + 2) (gN x3))), (2, .int (x2 ||| (1 <<< (x3 &&& 31)))), (0, .ref a0)]) (gDec_at D_X5_findWayUp 24 rfl) rfl (by rfl) (Nat.le_of_ble_eq_true rfl) rfl ?_
        refine gx_goto C 7 (gDec_at D_X5_findWayUp 25 rfl) (by decide) ?_
        exact gx_sub [3, 2, 1, 0] rfl (ih (x2 ||| (1 <<< (x3 &&& 31))) (h.1 (a0 + 2) (gN x3)) (x4 + 1) hF)
def f_X5_findWayUp (a0 : Nat) (x1 : Int32) (h : gHp) : Option (Int32) := (f_X5_findWayUp_7 a0 h gFuel 0 x1 0).bind fun v4 => some v4
set_option maxRecDepth 20000 in
set_option maxHeartbeats 4000000 in
theorem m_X5_findWayUp (w : gWd) (h : gHp) {a0 : Nat} (A0 : is_X5 w a0) (x1 : Int32) {o : Int32} (hF : f_X5_findWayUp a0 x1 h = some o) : gMet w yX5_findWayUp wsX5_findWayUp rm_X5_findWayUp [.ref a0, .int x1] h (some (.int o)) h := by
  refine gMet_of (cc := cX5_findWayUp) (maxL := 5) (ret := (some .int)) (fr := 1) (lo := 21) (own := RX5) [(0, .ref a0), (1, .int x1)] (by decide) rfl rfl (Nat.le_of_ble_eq_true rfl) rfl (Nat.le_refl _) (Nat.le_refl _) (fun g C E => ?_)
  rw [f_X5_findWayUp] at hF
  refine gx_iconst C (v := 0) (gDec_at D_X5_findWayUp 0 rfl) (by decide) ?_
  refine gx_istore_n C (lv' := [(2, .int 0), (0, .ref a0), (1, .int x1)]) (gDec_at D_X5_findWayUp 1 rfl) rfl (Nat.le_of_ble_eq_true rfl) rfl ?_
  refine gx_iload_n C 2 (gDec_at D_X5_findWayUp 2 rfl) rfl rfl ?_
  refine gx_istore_n C (lv' := [(3, .int x1), (2, .int 0), (0, .ref a0), (1, .int x1)]) (gDec_at D_X5_findWayUp 3 rfl) rfl (Nat.le_of_ble_eq_true rfl) rfl ?_
  refine gx_iconst C (v := 0) (gDec_at D_X5_findWayUp 4 rfl) (by decide) ?_
  refine gx_istore C (lv' := [(4, .int 0), (3, .int x1), (2, .int 0), (0, .ref a0), (1, .int x1)]) (gDec_at D_X5_findWayUp 5 rfl) (Nat.le_of_ble_eq_true rfl) rfl ?_
  obtain ⟨v4, hv5, hF⟩ := gBind hF
  have k6 : gX w g 5 h 41 [(2, .int v4)] [] := by
    refine gx_iload_n C 0 (gDec_at D_X5_findWayUp 26 rfl) rfl rfl ?_
    obtain rfl := Option.some.inj hF
    exact gx_iret C E (gDec_at D_X5_findWayUp 27 rfl)
  exact gx_sub [3, 2, 1, 0] rfl (w_X5_findWayUp_7 C A0 h k6 gFuel 0 x1 0 hv5)
/-! LadderBench$Network.isKind -/
def rm_X5_isKind : Room := { frames := 1, cells := 0, slots := 0, locals := 21 }
set_option maxRecDepth 20000 in
theorem ggX5_isKind_X5_hasPart : GoodIn wsX5_isKind wsX5_hasPart := goodIn_r _ [6, 7, 8, 9, 10, 11, 12] (by decide +kernel) (by decide +kernel)
set_option maxRecDepth 20000 in
theorem gX5_isKind_X5_hasPart : GoodIn wsX5_isKind (wsV RX5 37 RX5 yX5_hasPart wsX5_hasPart) := goodIn_app (goodIn_of _ (by decide +kernel)) ggX5_isKind_X5_hasPart
theorem hy_X5_isKind : yX5_isKind.cls = RX5 ∧ yX5_isKind.cls ≠ "java/lang/invoke/MethodHandle" ∧ yX5_isKind.cls ≠ "java/lang/invoke/VarHandle" ∧ (parseMethodDescriptor yX5_isKind.desc).map (fun d => d.parameters.length) = some 2 := by decide +kernel
set_option maxRecDepth 100000 in
theorem D_X5_isKind : gDec cX5_isKind [(0, (.aload_n 0, 1)), (1, (.iload_n 1, 1)), (2, (.invokevirtual 37, 3)), (5, (.ifCond .eq 17, 3)), (8, (.aload_n 0, 1)), (9, (.getfield 9, 3)), (12, (.iload_n 1, 1)), (13, (.iaload, 1)), (14, (.iload_n 2, 1)), (15, (.if_icmp .ne 7, 3)), (18, (.iconst 1, 1)), (19, (.goto 4, 3)), (22, (.iconst 0, 1)), (23, (.ireturn, 1))] = true := by decide +kernel
set_option maxRecDepth 100000 in
theorem in_X5_isKind_X5 : ∀ x ∈ u_ws RX5 TX5 5, x ∈ wsX5_isKind := by decide +kernel
theorem fl_X5_isKind_9 : gF wsX5_isKind RX5 9 5 0 := ⟨RX5, TX5, 5, rfl, by decide, in_X5_isKind_X5, by decide +kernel⟩
def f_X5_isKind (a0 : Nat) (x1 : Int32) (x2 : Int32) (h : gHp) : Option (Bool) := (f_X5_hasPart a0 x1 h).bind fun v2 => if v2 = true then if gIn x1 11 then if (h.1 (a0 + 1) (gN x1)) = x2 then some true else some false else none else some false
set_option maxRecDepth 20000 in
set_option maxHeartbeats 4000000 in
theorem m_X5_isKind (w : gWd) (h : gHp) {a0 : Nat} (A0 : is_X5 w a0) (x1 : Int32) (x2 : Int32) {o : Bool} (hF : f_X5_isKind a0 x1 x2 h = some o) : gMet w yX5_isKind wsX5_isKind rm_X5_isKind [.ref a0, .int x1, .int x2] h (some (.int (gZ o))) h := by
  refine gMet_of (cc := cX5_isKind) (maxL := 3) (ret := (some .boolean)) (fr := 1) (lo := 21) (own := RX5) [(0, .ref a0), (1, .int x1), (2, .int x2)] (by decide) rfl rfl (Nat.le_of_ble_eq_true rfl) rfl (Nat.le_refl _) (Nat.le_refl _) (fun g C E => ?_)
  rw [f_X5_isKind] at hF
  refine gx_aload_n C 0 (gDec_at D_X5_isKind 0 rfl) rfl rfl ?_
  refine gx_iload_n C 1 (gDec_at D_X5_isKind 1 rfl) rfl rfl ?_
  obtain ⟨v2, hv1, hF⟩ := gBind hF
  refine gx_callV1 C (st := []) 1 [.int x1] (m_X5_hasPart w h A0 x1 hv1) gX5_isKind_X5_hasPart rfl rfl rfl hy_X5_hasPart (Nat.le_of_ble_eq_true rfl) (Nat.le_of_ble_eq_true rfl) (is_X5_sh A0) rfl rfl rfl (Nat.le_of_ble_eq_true rfl) (gDec_at D_X5_isKind 2 rfl) ?_
  refine gx_ifz_eq C 22 (gDec_at D_X5_isKind 3 rfl) (by decide) (fun c => ?_) (fun c => ?_)
  · replace hF := gNeg c hF
    refine gx_iconst C (v := 0) (gDec_at D_X5_isKind 12 rfl) (by decide) ?_
    obtain rfl := Option.some.inj hF
    exact gx_zret (b := false) C E (gDec_at D_X5_isKind 13 rfl)
  · replace hF := gPos c hF
    refine gx_aload_n C 0 (gDec_at D_X5_isKind 4 rfl) rfl rfl ?_
    refine gx_getr C fl_X5_isKind_9 (is_X5_sh A0) rfl (gDec_at D_X5_isKind 5 rfl) ?_
    refine gx_iload_n C 1 (gDec_at D_X5_isKind 6 rfl) rfl rfl ?_
    obtain ⟨b3, hF⟩ := gGd hF
    refine gx_iaload C (is_X5_kind A0) b3 (gDec_at D_X5_isKind 7 rfl) ?_
    refine gx_iload_n C 2 (gDec_at D_X5_isKind 8 rfl) rfl rfl ?_
    refine gx_icmp_ne C 22 (gDec_at D_X5_isKind 9 rfl) (by decide) (fun c => ?_) (fun c => ?_)
    · replace hF := gNeg c hF
      refine gx_iconst C (v := 0) (gDec_at D_X5_isKind 12 rfl) (by decide) ?_
      obtain rfl := Option.some.inj hF
      exact gx_zret (b := false) C E (gDec_at D_X5_isKind 13 rfl)
    · replace hF := gPos c hF
      refine gx_iconst C (v := 1) (gDec_at D_X5_isKind 10 rfl) (by decide) ?_
      refine gx_goto C 23 (gDec_at D_X5_isKind 11 rfl) (by decide) ?_
      obtain rfl := Option.some.inj hF
      exact gx_zret (b := true) C E (gDec_at D_X5_isKind 13 rfl)
/-! LadderBench$Notes.find -/
def rm_X7_find : Room := { frames := 0, cells := 0, slots := 0, locals := 0 }
theorem hy_X7_find : yX7_find.cls = RX7 ∧ yX7_find.cls ≠ "java/lang/invoke/MethodHandle" ∧ yX7_find.cls ≠ "java/lang/invoke/VarHandle" ∧ (parseMethodDescriptor yX7_find.desc).map (fun d => d.parameters.length) = some 1 := by decide +kernel
set_option maxRecDepth 100000 in
theorem D_X7_find : gDec cX7_find [(0, (.iconst 0, 1)), (1, (.istore_n 2, 1)), (2, (.iload_n 2, 1)), (3, (.aload_n 0, 1)), (4, (.getfield 22, 3)), (7, (.if_icmp .ge 39, 3)), (10, (.aload_n 0, 1)), (11, (.getfield 9, 3)), (14, (.iload_n 2, 1)), (15, (.laload, 1)), (16, (.aload_n 1, 1)), (17, (.getfield 26, 3)), (20, (.lcmp, 1)), (21, (.ifCond .ne 19, 3)), (24, (.aload_n 0, 1)), (25, (.getfield 15, 3)), (28, (.iload_n 2, 1)), (29, (.laload, 1)), (30, (.aload_n 1, 1)), (31, (.getfield 31, 3)), (34, (.lcmp, 1)), (35, (.ifCond .ne 5, 3)), (38, (.iload_n 2, 1)), (39, (.ireturn, 1)), (40, (.iinc 2 1, 3)), (43, (.goto (-41), 3)), (46, (.iconst (-1), 1)), (47, (.ireturn, 1))] = true := by decide +kernel
set_option maxRecDepth 100000 in
theorem in_X7_find_X2 : ∀ x ∈ u_ws RX2 TX2 2, x ∈ wsX7_find := by decide +kernel
set_option maxRecDepth 100000 in
theorem in_X7_find_X7 : ∀ x ∈ u_ws RX7 TX7 4, x ∈ wsX7_find := by decide +kernel
theorem fl_X7_find_22 : gF wsX7_find RX7 22 7 3 := ⟨RX7, TX7, 4, rfl, by decide, in_X7_find_X7, by decide +kernel⟩
theorem fl_X7_find_9 : gF wsX7_find RX7 9 7 0 := ⟨RX7, TX7, 4, rfl, by decide, in_X7_find_X7, by decide +kernel⟩
theorem fl_X7_find_26 : gF wsX7_find RX7 26 2 0 := ⟨RX2, TX2, 2, rfl, by decide, in_X7_find_X2, by decide +kernel⟩
theorem fl_X7_find_15 : gF wsX7_find RX7 15 7 1 := ⟨RX7, TX7, 4, rfl, by decide, in_X7_find_X7, by decide +kernel⟩
theorem fl_X7_find_31 : gF wsX7_find RX7 31 2 1 := ⟨RX2, TX2, 2, rfl, by decide, in_X7_find_X2, by decide +kernel⟩
def f_X7_find_2 (a0 : Nat) (a1 : Nat) (h : gHp) : Nat → Int32 → Option (Int32)
  | 0, _ => none
  | n + 1, x2 => if (h.1 a0 3) ≤ x2 then some (-1) else if gIn x2 20 then if (h.2 (a0 + 1) (gN x2)) = (h.2 a1 0) then if gIn x2 20 then if (h.2 (a0 + 2) (gN x2)) = (h.2 a1 1) then some x2 else f_X7_find_2 a0 a1 h n (x2 + 1) else none else f_X7_find_2 a0 a1 h n (x2 + 1) else none
set_option maxRecDepth 20000 in
set_option maxHeartbeats 4000000 in
theorem w_X7_find_2 {w : gWd} {g : gCx} (C : gC w g cX7_find wsX7_find RX7 3 0 0) {a0 : Nat} (A0 : is_X7 w a0) {a1 : Nat} (A1 : is_X2 w a1) (h : gHp)  {o : Int32} (E : gEn w g (some .int) (some (.int o)) h) : ∀ (n : Nat) (x2 : Int32), f_X7_find_2 a0 a1 h n x2 = some o → gX w g 3 h 2 [(0, .ref a0), (1, .ref a1), (2, .int x2)] [] := by
  intro n
  induction n with
  | zero => intro _ hF; cases hF
  | succ n ih =>
    intro x2 hF
    rw [f_X7_find_2] at hF
    refine gx_iload_n C 2 (gDec_at D_X7_find 2 rfl) rfl rfl ?_
    refine gx_aload_n C 0 (gDec_at D_X7_find 3 rfl) rfl rfl ?_
    refine gx_geti C fl_X7_find_22 (is_X7_sh A0) rfl (gDec_at D_X7_find 4 rfl) ?_
    refine gx_icmp_ge C 46 (gDec_at D_X7_find 5 rfl) (by decide) (fun c => ?_) (fun c => ?_)
    · replace hF := gPos c hF
      refine gx_iconst C (v := (-1)) (gDec_at D_X7_find 26 rfl) (by decide) ?_
      obtain rfl := Option.some.inj hF
      exact gx_iret C E (gDec_at D_X7_find 27 rfl)
    · replace hF := gNeg c hF
      refine gx_aload_n C 0 (gDec_at D_X7_find 6 rfl) rfl rfl ?_
      refine gx_getr C fl_X7_find_9 (is_X7_sh A0) rfl (gDec_at D_X7_find 7 rfl) ?_
      refine gx_iload_n C 2 (gDec_at D_X7_find 8 rfl) rfl rfl ?_
      obtain ⟨b1, hF⟩ := gGd hF
      refine gx_laload C (is_X7_upper A0) b1 (gDec_at D_X7_find 9 rfl) ?_
      refine gx_aload_n C 1 (gDec_at D_X7_find 10 rfl) rfl rfl ?_
      refine gx_getl C fl_X7_find_26 (is_X2_sh A1) rfl (gDec_at D_X7_find 11 rfl) ?_
      refine gx_lcmp_ne C 40 (gDec_at D_X7_find 12 rfl) (gDec_at D_X7_find 13 rfl) (by decide) (fun c => ?_) (fun c => ?_)
      · replace hF := gNeg c hF
        refine gx_iinc C (j := 2) (v := x2 + 1) (lv' := [(2, .int (x2 + 1)), (0, .ref a0), (1, .ref a1)]) (gDec_at D_X7_find 24 rfl) rfl (by rfl) (Nat.le_of_ble_eq_true rfl) rfl ?_
        refine gx_goto C 2 (gDec_at D_X7_find 25 rfl) (by decide) ?_
        exact gx_sub [1, 2, 0] rfl (ih (x2 + 1) hF)
      · replace hF := gPos c hF
        refine gx_aload_n C 0 (gDec_at D_X7_find 14 rfl) rfl rfl ?_
        refine gx_getr C fl_X7_find_15 (is_X7_sh A0) rfl (gDec_at D_X7_find 15 rfl) ?_
        refine gx_iload_n C 2 (gDec_at D_X7_find 16 rfl) rfl rfl ?_
        obtain ⟨b2, hF⟩ := gGd hF
        refine gx_laload C (is_X7_lower A0) b2 (gDec_at D_X7_find 17 rfl) ?_
        refine gx_aload_n C 1 (gDec_at D_X7_find 18 rfl) rfl rfl ?_
        refine gx_getl C fl_X7_find_31 (is_X2_sh A1) rfl (gDec_at D_X7_find 19 rfl) ?_
        refine gx_lcmp_ne C 40 (gDec_at D_X7_find 20 rfl) (gDec_at D_X7_find 21 rfl) (by decide) (fun c => ?_) (fun c => ?_)
        · replace hF := gNeg c hF
          refine gx_iinc C (j := 2) (v := x2 + 1) (lv' := [(2, .int (x2 + 1)), (0, .ref a0), (1, .ref a1)]) (gDec_at D_X7_find 24 rfl) rfl (by rfl) (Nat.le_of_ble_eq_true rfl) rfl ?_
          refine gx_goto C 2 (gDec_at D_X7_find 25 rfl) (by decide) ?_
          exact gx_sub [1, 2, 0] rfl (ih (x2 + 1) hF)
        · replace hF := gPos c hF
          refine gx_iload_n C 2 (gDec_at D_X7_find 22 rfl) rfl rfl ?_
          obtain rfl := Option.some.inj hF
          exact gx_iret C E (gDec_at D_X7_find 23 rfl)
def f_X7_find (a0 : Nat) (a1 : Nat) (h : gHp) : Option (Int32) := f_X7_find_2 a0 a1 h gFuel 0
set_option maxRecDepth 20000 in
set_option maxHeartbeats 4000000 in
theorem m_X7_find (w : gWd) (h : gHp) {a0 : Nat} (A0 : is_X7 w a0) {a1 : Nat} (A1 : is_X2 w a1) {o : Int32} (hF : f_X7_find a0 a1 h = some o) : gMet w yX7_find wsX7_find rm_X7_find [.ref a0, .ref a1] h (some (.int o)) h := by
  refine gMet_of (cc := cX7_find) (maxL := 3) (ret := (some .int)) (fr := 0) (lo := 0) (own := RX7) [(0, .ref a0), (1, .ref a1)] (by decide) rfl rfl (Nat.le_of_ble_eq_true rfl) rfl (Nat.le_refl _) (Nat.le_refl _) (fun g C E => ?_)
  rw [f_X7_find] at hF
  refine gx_iconst C (v := 0) (gDec_at D_X7_find 0 rfl) (by decide) ?_
  refine gx_istore_n C (lv' := [(2, .int 0), (0, .ref a0), (1, .ref a1)]) (gDec_at D_X7_find 1 rfl) rfl (Nat.le_of_ble_eq_true rfl) rfl ?_
  exact gx_sub [1, 2, 0] rfl (w_X7_find_2 C A0 A1 h   E gFuel 0 hF)
/-! LadderBench$Notes.put -/
def rm_X7_put : Room := { frames := 0, cells := 0, slots := 0, locals := 0 }
theorem hy_X7_put : yX7_put.cls = RX7 ∧ yX7_put.cls ≠ "java/lang/invoke/MethodHandle" ∧ yX7_put.cls ≠ "java/lang/invoke/VarHandle" ∧ (parseMethodDescriptor yX7_put.desc).map (fun d => d.parameters.length) = some 2 := by decide +kernel
set_option maxRecDepth 100000 in
theorem D_X7_put : gDec cX7_put [(0, (.iload_n 2, 1)), (1, (.istore_n 3, 1)), (2, (.iload_n 3, 1)), (3, (.iconst (-1), 1)), (4, (.if_icmp .ne 54, 3)), (7, (.aload_n 0, 1)), (8, (.getfield 22, 3)), (11, (.bipush 20, 2)), (13, (.if_icmp .ge 45, 3)), (16, (.aload_n 0, 1)), (17, (.getfield 22, 3)), (20, (.istore_n 3, 1)), (21, (.aload_n 0, 1)), (22, (.getfield 9, 3)), (25, (.iload_n 3, 1)), (26, (.aload_n 1, 1)), (27, (.getfield 26, 3)), (30, (.lastore, 1)), (31, (.aload_n 0, 1)), (32, (.getfield 15, 3)), (35, (.iload_n 3, 1)), (36, (.aload_n 1, 1)), (37, (.getfield 31, 3)), (40, (.lastore, 1)), (41, (.aload_n 0, 1)), (42, (.getfield 18, 3)), (45, (.iload_n 3, 1)), (46, (.iconst 0, 1)), (47, (.iastore, 1)), (48, (.aload_n 0, 1)), (49, (.dup, 1)), (50, (.getfield 22, 3)), (53, (.iconst 1, 1)), (54, (.iadd, 1)), (55, (.putfield 22, 3)), (58, (.iload_n 3, 1)), (59, (.ifCond .lt 11, 3)), (62, (.iload_n 3, 1)), (63, (.aload_n 0, 1)), (64, (.getfield 22, 3)), (67, (.if_icmp .lt 5, 3)), (70, (.iconst 0, 1)), (71, (.ireturn, 1)), (72, (.aload_n 0, 1)), (73, (.getfield 18, 3)), (76, (.iload_n 3, 1)), (77, (.dup2, 1)), (78, (.iaload, 1)), (79, (.iconst 1, 1)), (80, (.iadd, 1)), (81, (.iastore, 1)), (82, (.aload_n 0, 1)), (83, (.getfield 18, 3)), (86, (.iload_n 3, 1)), (87, (.iaload, 1)), (88, (.ireturn, 1))] = true := by decide +kernel
set_option maxRecDepth 100000 in
theorem in_X7_put_X2 : ∀ x ∈ u_ws RX2 TX2 2, x ∈ wsX7_put := by decide +kernel
set_option maxRecDepth 100000 in
theorem in_X7_put_X7 : ∀ x ∈ u_ws RX7 TX7 4, x ∈ wsX7_put := by decide +kernel
theorem fl_X7_put_22 : gF wsX7_put RX7 22 7 3 := ⟨RX7, TX7, 4, rfl, by decide, in_X7_put_X7, by decide +kernel⟩
theorem fl_X7_put_18 : gF wsX7_put RX7 18 7 2 := ⟨RX7, TX7, 4, rfl, by decide, in_X7_put_X7, by decide +kernel⟩
theorem fl_X7_put_9 : gF wsX7_put RX7 9 7 0 := ⟨RX7, TX7, 4, rfl, by decide, in_X7_put_X7, by decide +kernel⟩
theorem fl_X7_put_26 : gF wsX7_put RX7 26 2 0 := ⟨RX2, TX2, 2, rfl, by decide, in_X7_put_X2, by decide +kernel⟩
theorem fl_X7_put_15 : gF wsX7_put RX7 15 7 1 := ⟨RX7, TX7, 4, rfl, by decide, in_X7_put_X7, by decide +kernel⟩
theorem fl_X7_put_31 : gF wsX7_put RX7 31 2 1 := ⟨RX2, TX2, 2, rfl, by decide, in_X7_put_X2, by decide +kernel⟩
theorem flw_X7_put_22 : gFw wsX7_put RX7 22 7 3 .int := ⟨RX7, TX7, 4, tyX7, rfl, by decide, in_X7_put_X7, by decide +kernel, tyX7_ok, nmX7, rfl, by decide +kernel⟩
def f_X7_put (a0 : Nat) (a1 : Nat) (x2 : Int32) (h : gHp) : Option (Int32 × gHp) := (if x2 = (-1) then if 20 ≤ (h.1 a0 3) then some (x2, h) else if gIn (h.1 a0 3) 20 then if gIn (h.1 a0 3) 20 then if gIn (h.1 a0 3) 20 then some (h.1 a0 3, gsI (gsI (gsL (gsL h (a0 + 1) (gN (h.1 a0 3)) (h.2 a1 0)) (a0 + 2) (gN (h.1 a0 3)) ((gsL h (a0 + 1) (gN (h.1 a0 3)) (h.2 a1 0)).2 a1 1)) (a0 + 3) (gN (h.1 a0 3)) 0) a0 3 (((gsI (gsL (gsL h (a0 + 1) (gN (h.1 a0 3)) (h.2 a1 0)) (a0 + 2) (gN (h.1 a0 3)) ((gsL h (a0 + 1) (gN (h.1 a0 3)) (h.2 a1 0)).2 a1 1)) (a0 + 3) (gN (h.1 a0 3)) 0).1 a0 3) + 1)) else none else none else none else some (x2, h) : Option (Int32 × gHp)).bind fun v1 => if v1.1 < 0 then some (0, v1.2) else if v1.1 < (v1.2.1 a0 3) then if gIn v1.1 20 then if gIn v1.1 20 then if gIn v1.1 20 then some ((gsI v1.2 (a0 + 3) (gN v1.1) ((v1.2.1 (a0 + 3) (gN v1.1)) + 1)).1 (a0 + 3) (gN v1.1), gsI v1.2 (a0 + 3) (gN v1.1) ((v1.2.1 (a0 + 3) (gN v1.1)) + 1)) else none else none else none else some (0, v1.2)
set_option maxRecDepth 20000 in
set_option maxHeartbeats 4000000 in
theorem m_X7_put (w : gWd) (h : gHp) {a0 : Nat} (A0 : is_X7 w a0) {a1 : Nat} (A1 : is_X2 w a1) (x2 : Int32) {o : Int32 × gHp} (hF : f_X7_put a0 a1 x2 h = some o) : gMet w yX7_put wsX7_put rm_X7_put [.ref a0, .ref a1, .int x2] h (some (.int o.1)) o.2 := by
  refine gMet_of (cc := cX7_put) (maxL := 4) (ret := (some .int)) (fr := 0) (lo := 0) (own := RX7) [(0, .ref a0), (1, .ref a1), (2, .int x2)] (by decide) rfl rfl (Nat.le_of_ble_eq_true rfl) rfl (Nat.le_refl _) (Nat.le_refl _) (fun g C E => ?_)
  rw [f_X7_put] at hF
  refine gx_iload_n C 2 (gDec_at D_X7_put 0 rfl) rfl rfl ?_
  refine gx_istore_n C (lv' := [(3, .int x2), (0, .ref a0), (1, .ref a1), (2, .int x2)]) (gDec_at D_X7_put 1 rfl) rfl (Nat.le_of_ble_eq_true rfl) rfl ?_
  refine gx_iload_n C 0 (gDec_at D_X7_put 2 rfl) rfl rfl ?_
  refine gx_iconst C (v := (-1)) (gDec_at D_X7_put 3 rfl) (by decide) ?_
  obtain ⟨v1, hv2, hF⟩ := gBind hF
  have k3 : gX w g 4 v1.2 58 [(0, .ref a0), (3, .int v1.1)] ([]) := by
    refine gx_iload_n C 1 (gDec_at D_X7_put 35 rfl) rfl rfl ?_
    refine gx_if_lt C 70 (gDec_at D_X7_put 36 rfl) (by decide) (fun c => ?_) (fun c => ?_)
    · replace hF := gPos c hF
      refine gx_iconst C (v := 0) (gDec_at D_X7_put 41 rfl) (by decide) ?_
      obtain rfl := Option.some.inj hF
      exact gx_iret C E (gDec_at D_X7_put 42 rfl)
    · replace hF := gNeg c hF
      refine gx_iload_n C 1 (gDec_at D_X7_put 37 rfl) rfl rfl ?_
      refine gx_aload_n C 0 (gDec_at D_X7_put 38 rfl) rfl rfl ?_
      refine gx_geti C fl_X7_put_22 (is_X7_sh A0) rfl (gDec_at D_X7_put 39 rfl) ?_
      refine gx_icmp_lt C 72 (gDec_at D_X7_put 40 rfl) (by decide) (fun c => ?_) (fun c => ?_)
      · replace hF := gPos c hF
        refine gx_aload_n C 0 (gDec_at D_X7_put 43 rfl) rfl rfl ?_
        refine gx_getr C fl_X7_put_18 (is_X7_sh A0) rfl (gDec_at D_X7_put 44 rfl) ?_
        refine gx_iload_n C 1 (gDec_at D_X7_put 45 rfl) rfl rfl ?_
        refine gx_dup2 C (gDec_at D_X7_put 46 rfl) rfl rfl ?_
        obtain ⟨b4, hF⟩ := gGd hF
        refine gx_iaload C (is_X7_times A0) b4 (gDec_at D_X7_put 47 rfl) ?_
        refine gx_iconst C (v := 1) (gDec_at D_X7_put 48 rfl) (by decide) ?_
        refine gx_iadd C (gDec_at D_X7_put 49 rfl) ?_
        obtain ⟨b5, hF⟩ := gGd hF
        refine gx_iastore C (is_X7_times A0) b5 (gDec_at D_X7_put 50 rfl) ?_
        refine gx_aload_n C 0 (gDec_at D_X7_put 51 rfl) rfl rfl ?_
        refine gx_getr C fl_X7_put_18 (is_X7_sh A0) rfl (gDec_at D_X7_put 52 rfl) ?_
        refine gx_iload_n C 1 (gDec_at D_X7_put 53 rfl) rfl rfl ?_
        obtain ⟨b6, hF⟩ := gGd hF
        refine gx_iaload C (is_X7_times A0) b6 (gDec_at D_X7_put 54 rfl) ?_
        obtain rfl := Option.some.inj hF
        exact gx_iret C E (gDec_at D_X7_put 55 rfl)
      · replace hF := gNeg c hF
        refine gx_iconst C (v := 0) (gDec_at D_X7_put 41 rfl) (by decide) ?_
        obtain rfl := Option.some.inj hF
        exact gx_iret C E (gDec_at D_X7_put 42 rfl)
  replace hF := hv2
  refine gx_icmp_ne C 58 (gDec_at D_X7_put 4 rfl) (by decide) (fun c => ?_) (fun c => ?_)
  · replace hF := gNeg c hF
    obtain rfl := Option.some.inj hF
    exact gx_sub [1, 0] rfl k3
  · replace hF := gPos c hF
    refine gx_aload_n C 1 (gDec_at D_X7_put 5 rfl) rfl rfl ?_
    refine gx_geti C fl_X7_put_22 (is_X7_sh A0) rfl (gDec_at D_X7_put 6 rfl) ?_
    refine gx_bipush C (v := 20) (gDec_at D_X7_put 7 rfl) (by decide) ?_
    refine gx_icmp_ge C 58 (gDec_at D_X7_put 8 rfl) (by decide) (fun c => ?_) (fun c => ?_)
    · replace hF := gPos c hF
      obtain rfl := Option.some.inj hF
      exact gx_sub [1, 0] rfl k3
    · replace hF := gNeg c hF
      refine gx_aload_n C 1 (gDec_at D_X7_put 9 rfl) rfl rfl ?_
      refine gx_geti C fl_X7_put_22 (is_X7_sh A0) rfl (gDec_at D_X7_put 10 rfl) ?_
      refine gx_istore_n C (lv' := [(3, .int (h.1 a0 3)), (0, .ref a0), (1, .ref a1), (2, .int x2)]) (gDec_at D_X7_put 11 rfl) rfl (Nat.le_of_ble_eq_true rfl) rfl ?_
      refine gx_aload_n C 1 (gDec_at D_X7_put 12 rfl) rfl rfl ?_
      refine gx_getr C fl_X7_put_9 (is_X7_sh A0) rfl (gDec_at D_X7_put 13 rfl) ?_
      refine gx_iload_n C 0 (gDec_at D_X7_put 14 rfl) rfl rfl ?_
      refine gx_aload_n C 2 (gDec_at D_X7_put 15 rfl) rfl rfl ?_
      refine gx_getl C fl_X7_put_26 (is_X2_sh A1) rfl (gDec_at D_X7_put 16 rfl) ?_
      obtain ⟨b7, hF⟩ := gGd hF
      refine gx_lastore C (is_X7_upper A0) b7 (gDec_at D_X7_put 17 rfl) ?_
      refine gx_aload_n C 1 (gDec_at D_X7_put 18 rfl) rfl rfl ?_
      refine gx_getr C fl_X7_put_15 (is_X7_sh A0) rfl (gDec_at D_X7_put 19 rfl) ?_
      refine gx_iload_n C 0 (gDec_at D_X7_put 20 rfl) rfl rfl ?_
      refine gx_aload_n C 2 (gDec_at D_X7_put 21 rfl) rfl rfl ?_
      refine gx_getl C fl_X7_put_31 (is_X2_sh A1) rfl (gDec_at D_X7_put 22 rfl) ?_
      obtain ⟨b8, hF⟩ := gGd hF
      refine gx_lastore C (is_X7_lower A0) b8 (gDec_at D_X7_put 23 rfl) ?_
      refine gx_aload_n C 1 (gDec_at D_X7_put 24 rfl) rfl rfl ?_
      refine gx_getr C fl_X7_put_18 (is_X7_sh A0) rfl (gDec_at D_X7_put 25 rfl) ?_
      refine gx_iload_n C 0 (gDec_at D_X7_put 26 rfl) rfl rfl ?_
      refine gx_iconst C (v := 0) (gDec_at D_X7_put 27 rfl) (by decide) ?_
      obtain ⟨b9, hF⟩ := gGd hF
      refine gx_iastore C (is_X7_times A0) b9 (gDec_at D_X7_put 28 rfl) ?_
      refine gx_aload_n C 1 (gDec_at D_X7_put 29 rfl) rfl rfl ?_
      refine gx_dup C (gDec_at D_X7_put 30 rfl) rfl ?_
      refine gx_geti C fl_X7_put_22 (is_X7_sh A0) rfl (gDec_at D_X7_put 31 rfl) ?_
      refine gx_iconst C (v := 1) (gDec_at D_X7_put 32 rfl) (by decide) ?_
      refine gx_iadd C (gDec_at D_X7_put 33 rfl) ?_
      refine gx_putI C flw_X7_put_22 (is_X7_sh A0) rfl rfl rfl (gDec_at D_X7_put 34 rfl) ?_
      obtain rfl := Option.some.inj hF
      exact gx_sub [1, 0] rfl k3
/-! LadderBench$Network.countParts -/
def rm_X5_countParts : Room := { frames := 0, cells := 0, slots := 0, locals := 0 }
theorem hy_X5_countParts : yX5_countParts.cls = RX5 ∧ yX5_countParts.cls ≠ "java/lang/invoke/MethodHandle" ∧ yX5_countParts.cls ≠ "java/lang/invoke/VarHandle" ∧ (parseMethodDescriptor yX5_countParts.desc).map (fun d => d.parameters.length) = some 1 := by decide +kernel
set_option maxRecDepth 100000 in
theorem D_X5_countParts : gDec cX5_countParts [(0, (.iconst 0, 1)), (1, (.istore_n 2, 1)), (2, (.iconst 0, 1)), (3, (.istore_n 3, 1)), (4, (.iload_n 3, 1)), (5, (.iload_n 1, 1)), (6, (.if_icmp .ge 22, 3)), (9, (.aload_n 0, 1)), (10, (.getfield 15, 3)), (13, (.iload_n 3, 1)), (14, (.iaload, 1)), (15, (.iload_n 1, 1)), (16, (.if_icmp .ne 6, 3)), (19, (.iinc 2 1, 3)), (22, (.iinc 3 1, 3)), (25, (.goto (-21), 3)), (28, (.iload_n 2, 1)), (29, (.ireturn, 1))] = true := by decide +kernel
set_option maxRecDepth 100000 in
theorem in_X5_countParts_X5 : ∀ x ∈ u_ws RX5 TX5 5, x ∈ wsX5_countParts := by decide +kernel
theorem fl_X5_countParts_15 : gF wsX5_countParts RX5 15 5 1 := ⟨RX5, TX5, 5, rfl, by decide, in_X5_countParts_X5, by decide +kernel⟩
def f_X5_countParts_4 (a0 : Nat) (x1 : Int32) (h : gHp) : Nat → Int32 → Int32 → Option (Int32)
  | 0, _, _ => none
  | n + 1, x2, x3 => if x1 ≤ x3 then some x2 else if gIn x3 11 then if (h.1 (a0 + 2) (gN x3)) = x1 then f_X5_countParts_4 a0 x1 h n (x2 + 1) (x3 + 1) else f_X5_countParts_4 a0 x1 h n x2 (x3 + 1) else none
set_option maxRecDepth 20000 in
set_option maxHeartbeats 4000000 in
theorem w_X5_countParts_4 {w : gWd} {g : gCx} (C : gC w g cX5_countParts wsX5_countParts RX5 4 0 0) {a0 : Nat} (A0 : is_X5 w a0) (x1 : Int32) (h : gHp)  {o : Int32} (hk : gX w g 4 h 28 [(2, .int o)] []) : ∀ (n : Nat) (x2 : Int32) (x3 : Int32), f_X5_countParts_4 a0 x1 h n x2 x3 = some o → gX w g 4 h 4 [(0, .ref a0), (1, .int x1), (2, .int x2), (3, .int x3)] [] := by
  intro n
  induction n with
  | zero => intro _ _ hF; cases hF
  | succ n ih =>
    intro x2 x3 hF
    rw [f_X5_countParts_4] at hF
    refine gx_iload_n C 3 (gDec_at D_X5_countParts 4 rfl) rfl rfl ?_
    refine gx_iload_n C 1 (gDec_at D_X5_countParts 5 rfl) rfl rfl ?_
    refine gx_icmp_ge C 28 (gDec_at D_X5_countParts 6 rfl) (by decide) (fun c => ?_) (fun c => ?_)
    · replace hF := gPos c hF
      obtain rfl := Option.some.inj hF
      exact gx_sub [2] rfl hk
    · replace hF := gNeg c hF
      refine gx_aload_n C 0 (gDec_at D_X5_countParts 7 rfl) rfl rfl ?_
      refine gx_getr C fl_X5_countParts_15 (is_X5_sh A0) rfl (gDec_at D_X5_countParts 8 rfl) ?_
      refine gx_iload_n C 3 (gDec_at D_X5_countParts 9 rfl) rfl rfl ?_
      obtain ⟨b1, hF⟩ := gGd hF
      refine gx_iaload C (is_X5_around A0) b1 (gDec_at D_X5_countParts 10 rfl) ?_
      refine gx_iload_n C 1 (gDec_at D_X5_countParts 11 rfl) rfl rfl ?_
      refine gx_icmp_ne C 22 (gDec_at D_X5_countParts 12 rfl) (by decide) (fun c => ?_) (fun c => ?_)
      · replace hF := gNeg c hF
        refine gx_iinc C (j := 3) (v := x3 + 1) (lv' := [(3, .int (x3 + 1)), (0, .ref a0), (1, .int x1), (2, .int x2)]) (gDec_at D_X5_countParts 14 rfl) rfl (by rfl) (Nat.le_of_ble_eq_true rfl) rfl ?_
        refine gx_goto C 4 (gDec_at D_X5_countParts 15 rfl) (by decide) ?_
        exact gx_sub [1, 2, 3, 0] rfl (ih x2 (x3 + 1) hF)
      · replace hF := gPos c hF
        refine gx_iinc C (j := 2) (v := x2 + 1) (lv' := [(2, .int (x2 + 1)), (0, .ref a0), (1, .int x1), (3, .int x3)]) (gDec_at D_X5_countParts 13 rfl) rfl (by rfl) (Nat.le_of_ble_eq_true rfl) rfl ?_
        refine gx_iinc C (j := 3) (v := x3 + 1) (lv' := [(3, .int (x3 + 1)), (2, .int (x2 + 1)), (0, .ref a0), (1, .int x1)]) (gDec_at D_X5_countParts 14 rfl) rfl (by rfl) (Nat.le_of_ble_eq_true rfl) rfl ?_
        refine gx_goto C 4 (gDec_at D_X5_countParts 15 rfl) (by decide) ?_
        exact gx_sub [2, 3, 1, 0] rfl (ih (x2 + 1) (x3 + 1) hF)
def f_X5_countParts (a0 : Nat) (x1 : Int32) (h : gHp) : Option (Int32) := (f_X5_countParts_4 a0 x1 h gFuel 0 0).bind fun v2 => some v2
set_option maxRecDepth 20000 in
set_option maxHeartbeats 4000000 in
theorem m_X5_countParts (w : gWd) (h : gHp) {a0 : Nat} (A0 : is_X5 w a0) (x1 : Int32) {o : Int32} (hF : f_X5_countParts a0 x1 h = some o) : gMet w yX5_countParts wsX5_countParts rm_X5_countParts [.ref a0, .int x1] h (some (.int o)) h := by
  refine gMet_of (cc := cX5_countParts) (maxL := 4) (ret := (some .int)) (fr := 0) (lo := 0) (own := RX5) [(0, .ref a0), (1, .int x1)] (by decide) rfl rfl (Nat.le_of_ble_eq_true rfl) rfl (Nat.le_refl _) (Nat.le_refl _) (fun g C E => ?_)
  rw [f_X5_countParts] at hF
  refine gx_iconst C (v := 0) (gDec_at D_X5_countParts 0 rfl) (by decide) ?_
  refine gx_istore_n C (lv' := [(2, .int 0), (0, .ref a0), (1, .int x1)]) (gDec_at D_X5_countParts 1 rfl) rfl (Nat.le_of_ble_eq_true rfl) rfl ?_
  refine gx_iconst C (v := 0) (gDec_at D_X5_countParts 2 rfl) (by decide) ?_
  refine gx_istore_n C (lv' := [(3, .int 0), (2, .int 0), (0, .ref a0), (1, .int x1)]) (gDec_at D_X5_countParts 3 rfl) rfl (Nat.le_of_ble_eq_true rfl) rfl ?_
  obtain ⟨v2, hv3, hF⟩ := gBind hF
  have k4 : gX w g 4 h 28 [(2, .int v2)] [] := by
    refine gx_iload_n C 0 (gDec_at D_X5_countParts 16 rfl) rfl rfl ?_
    obtain rfl := Option.some.inj hF
    exact gx_iret C E (gDec_at D_X5_countParts 17 rfl)
  exact gx_sub [2, 3, 1, 0] rfl (w_X5_countParts_4 C A0 x1 h k4 gFuel 0 0 hv3)
/-! LadderBench$Network.countArms -/
def rm_X5_countArms : Room := { frames := 2, cells := 0, slots := 0, locals := 45 }
set_option maxRecDepth 20000 in
theorem ggX5_countArms_X5_findWayUp : GoodIn wsX5_countArms wsX5_findWayUp := goodIn_r _ [10, 11, 12, 13, 14, 5, 15, 16, 17, 18, 19, 20, 21] (by decide +kernel) (by decide +kernel)
set_option maxRecDepth 20000 in
theorem gX5_countArms_X5_findWayUp : GoodIn wsX5_countArms (wsV RX5 44 RX5 yX5_findWayUp wsX5_findWayUp) := goodIn_app (goodIn_of _ (by decide +kernel)) ggX5_countArms_X5_findWayUp
set_option maxRecDepth 20000 in
theorem ggX5_countArms_X5_hasArm : GoodIn wsX5_countArms wsX5_hasArm := goodIn_r _ [6, 1, 17, 18, 19, 20, 21] (by decide +kernel) (by decide +kernel)
set_option maxRecDepth 20000 in
theorem gX5_countArms_X5_hasArm : GoodIn wsX5_countArms (wsV RX5 41 RX5 yX5_hasArm wsX5_hasArm) := goodIn_app (goodIn_of _ (by decide +kernel)) ggX5_countArms_X5_hasArm
theorem hy_X5_countArms : yX5_countArms.cls = RX5 ∧ yX5_countArms.cls ≠ "java/lang/invoke/MethodHandle" ∧ yX5_countArms.cls ≠ "java/lang/invoke/VarHandle" ∧ (parseMethodDescriptor yX5_countArms.desc).map (fun d => d.parameters.length) = some 1 := by decide +kernel
set_option maxRecDepth 100000 in
theorem D_X5_countArms : gDec cX5_countArms [(0, (.iconst 0, 1)), (1, (.istore_n 2, 1)), (2, (.iconst 0, 1)), (3, (.istore_n 3, 1)), (4, (.iload_n 3, 1)), (5, (.bipush 6, 2)), (7, (.if_icmp .ge 38, 3)), (10, (.aload_n 0, 1)), (11, (.iload_n 3, 1)), (12, (.invokevirtual 41, 3)), (15, (.ifCond .eq 24, 3)), (18, (.aload_n 0, 1)), (19, (.aload_n 0, 1)), (20, (.getfield 21, 3)), (23, (.iload_n 3, 1)), (24, (.iaload, 1)), (25, (.invokevirtual 44, 3)), (28, (.iload_n 1, 1)), (29, (.ishr, 1)), (30, (.iconst 1, 1)), (31, (.iand, 1)), (32, (.iconst 1, 1)), (33, (.if_icmp .ne 6, 3)), (36, (.iinc 2 1, 3)), (39, (.iinc 3 1, 3)), (42, (.goto (-38), 3)), (45, (.iload_n 2, 1)), (46, (.ireturn, 1))] = true := by decide +kernel
set_option maxRecDepth 100000 in
theorem in_X5_countArms_X5 : ∀ x ∈ u_ws RX5 TX5 5, x ∈ wsX5_countArms := by decide +kernel
theorem fl_X5_countArms_21 : gF wsX5_countArms RX5 21 5 3 := ⟨RX5, TX5, 5, rfl, by decide, in_X5_countArms_X5, by decide +kernel⟩
def f_X5_countArms_4 (a0 : Nat) (x1 : Int32) (h : gHp) : Nat → Int32 → Int32 → Option (Int32)
  | 0, _, _ => none
  | n + 1, x2, x3 => if 6 ≤ x3 then some x2 else (f_X5_hasArm a0 x3 h).bind fun v2 => if v2 = true then if gIn x3 6 then (f_X5_findWayUp a0 (h.1 (a0 + 4) (gN x3)) h).bind fun v5 => if ((v5 >>> (x1 &&& 31)) &&& 1) = 1 then f_X5_countArms_4 a0 x1 h n (x2 + 1) (x3 + 1) else f_X5_countArms_4 a0 x1 h n x2 (x3 + 1) else none else f_X5_countArms_4 a0 x1 h n x2 (x3 + 1)
set_option maxRecDepth 20000 in
set_option maxHeartbeats 4000000 in
theorem w_X5_countArms_4 {w : gWd} {g : gCx} (C : gC w g cX5_countArms wsX5_countArms RX5 4 2 45) {a0 : Nat} (A0 : is_X5 w a0) (x1 : Int32) (h : gHp)  {o : Int32} (hk : gX w g 4 h 45 [(2, .int o)] []) : ∀ (n : Nat) (x2 : Int32) (x3 : Int32), f_X5_countArms_4 a0 x1 h n x2 x3 = some o → gX w g 4 h 4 [(0, .ref a0), (1, .int x1), (2, .int x2), (3, .int x3)] [] := by
  intro n
  induction n with
  | zero => intro _ _ hF; cases hF
  | succ n ih =>
    intro x2 x3 hF
    rw [f_X5_countArms_4] at hF
    refine gx_iload_n C 3 (gDec_at D_X5_countArms 4 rfl) rfl rfl ?_
    refine gx_bipush C (v := 6) (gDec_at D_X5_countArms 5 rfl) (by decide) ?_
    refine gx_icmp_ge C 45 (gDec_at D_X5_countArms 6 rfl) (by decide) (fun c => ?_) (fun c => ?_)
    · replace hF := gPos c hF
      obtain rfl := Option.some.inj hF
      exact gx_sub [2] rfl hk
    · replace hF := gNeg c hF
      refine gx_aload_n C 0 (gDec_at D_X5_countArms 7 rfl) rfl rfl ?_
      refine gx_iload_n C 3 (gDec_at D_X5_countArms 8 rfl) rfl rfl ?_
      obtain ⟨v2, hv1, hF⟩ := gBind hF
      refine gx_callV1 C (st := []) 1 [.int x3] (m_X5_hasArm w h A0 x3 hv1) gX5_countArms_X5_hasArm rfl rfl rfl hy_X5_hasArm (Nat.le_of_ble_eq_true rfl) (Nat.le_of_ble_eq_true rfl) (is_X5_sh A0) rfl rfl rfl (Nat.le_of_ble_eq_true rfl) (gDec_at D_X5_countArms 9 rfl) ?_
      refine gx_ifz_eq C 39 (gDec_at D_X5_countArms 10 rfl) (by decide) (fun c => ?_) (fun c => ?_)
      · replace hF := gNeg c hF
        refine gx_iinc C (j := 3) (v := x3 + 1) (lv' := [(3, .int (x3 + 1)), (0, .ref a0), (1, .int x1), (2, .int x2)]) (gDec_at D_X5_countArms 24 rfl) rfl (by rfl) (Nat.le_of_ble_eq_true rfl) rfl ?_
        refine gx_goto C 4 (gDec_at D_X5_countArms 25 rfl) (by decide) ?_
        exact gx_sub [1, 2, 3, 0] rfl (ih x2 (x3 + 1) hF)
      · replace hF := gPos c hF
        refine gx_aload_n C 0 (gDec_at D_X5_countArms 11 rfl) rfl rfl ?_
        refine gx_aload_n C 0 (gDec_at D_X5_countArms 12 rfl) rfl rfl ?_
        refine gx_getr C fl_X5_countArms_21 (is_X5_sh A0) rfl (gDec_at D_X5_countArms 13 rfl) ?_
        refine gx_iload_n C 3 (gDec_at D_X5_countArms 14 rfl) rfl rfl ?_
        obtain ⟨b3, hF⟩ := gGd hF
        refine gx_iaload C (is_X5_partOfArm A0) b3 (gDec_at D_X5_countArms 15 rfl) ?_
        obtain ⟨v5, hv4, hF⟩ := gBind hF
        refine gx_callV1 C (st := []) 1 [.int (h.1 (a0 + 4) (gN x3))] (m_X5_findWayUp w h A0 (h.1 (a0 + 4) (gN x3)) hv4) gX5_countArms_X5_findWayUp rfl rfl rfl hy_X5_findWayUp (Nat.le_of_ble_eq_true rfl) (Nat.le_of_ble_eq_true rfl) (is_X5_sh A0) rfl rfl rfl (Nat.le_of_ble_eq_true rfl) (gDec_at D_X5_countArms 16 rfl) ?_
        refine gx_iload_n C 1 (gDec_at D_X5_countArms 17 rfl) rfl rfl ?_
        refine gx_ishr C (gDec_at D_X5_countArms 18 rfl) ?_
        refine gx_iconst C (v := 1) (gDec_at D_X5_countArms 19 rfl) (by decide) ?_
        refine gx_iand C (gDec_at D_X5_countArms 20 rfl) ?_
        refine gx_iconst C (v := 1) (gDec_at D_X5_countArms 21 rfl) (by decide) ?_
        refine gx_icmp_ne C 39 (gDec_at D_X5_countArms 22 rfl) (by decide) (fun c => ?_) (fun c => ?_)
        · replace hF := gNeg c hF
          refine gx_iinc C (j := 3) (v := x3 + 1) (lv' := [(3, .int (x3 + 1)), (0, .ref a0), (1, .int x1), (2, .int x2)]) (gDec_at D_X5_countArms 24 rfl) rfl (by rfl) (Nat.le_of_ble_eq_true rfl) rfl ?_
          refine gx_goto C 4 (gDec_at D_X5_countArms 25 rfl) (by decide) ?_
          exact gx_sub [1, 2, 3, 0] rfl (ih x2 (x3 + 1) hF)
        · replace hF := gPos c hF
          refine gx_iinc C (j := 2) (v := x2 + 1) (lv' := [(2, .int (x2 + 1)), (0, .ref a0), (1, .int x1), (3, .int x3)]) (gDec_at D_X5_countArms 23 rfl) rfl (by rfl) (Nat.le_of_ble_eq_true rfl) rfl ?_
          refine gx_iinc C (j := 3) (v := x3 + 1) (lv' := [(3, .int (x3 + 1)), (2, .int (x2 + 1)), (0, .ref a0), (1, .int x1)]) (gDec_at D_X5_countArms 24 rfl) rfl (by rfl) (Nat.le_of_ble_eq_true rfl) rfl ?_
          refine gx_goto C 4 (gDec_at D_X5_countArms 25 rfl) (by decide) ?_
          exact gx_sub [2, 3, 1, 0] rfl (ih (x2 + 1) (x3 + 1) hF)
def f_X5_countArms (a0 : Nat) (x1 : Int32) (h : gHp) : Option (Int32) := (f_X5_countArms_4 a0 x1 h gFuel 0 0).bind fun v6 => some v6
set_option maxRecDepth 20000 in
set_option maxHeartbeats 4000000 in
theorem m_X5_countArms (w : gWd) (h : gHp) {a0 : Nat} (A0 : is_X5 w a0) (x1 : Int32) {o : Int32} (hF : f_X5_countArms a0 x1 h = some o) : gMet w yX5_countArms wsX5_countArms rm_X5_countArms [.ref a0, .int x1] h (some (.int o)) h := by
  refine gMet_of (cc := cX5_countArms) (maxL := 4) (ret := (some .int)) (fr := 2) (lo := 45) (own := RX5) [(0, .ref a0), (1, .int x1)] (by decide) rfl rfl (Nat.le_of_ble_eq_true rfl) rfl (Nat.le_refl _) (Nat.le_refl _) (fun g C E => ?_)
  rw [f_X5_countArms] at hF
  refine gx_iconst C (v := 0) (gDec_at D_X5_countArms 0 rfl) (by decide) ?_
  refine gx_istore_n C (lv' := [(2, .int 0), (0, .ref a0), (1, .int x1)]) (gDec_at D_X5_countArms 1 rfl) rfl (Nat.le_of_ble_eq_true rfl) rfl ?_
  refine gx_iconst C (v := 0) (gDec_at D_X5_countArms 2 rfl) (by decide) ?_
  refine gx_istore_n C (lv' := [(3, .int 0), (2, .int 0), (0, .ref a0), (1, .int x1)]) (gDec_at D_X5_countArms 3 rfl) rfl (Nat.le_of_ble_eq_true rfl) rfl ?_
  obtain ⟨v6, hv7, hF⟩ := gBind hF
  have k8 : gX w g 4 h 45 [(2, .int v6)] [] := by
    refine gx_iload_n C 0 (gDec_at D_X5_countArms 26 rfl) rfl rfl ?_
    obtain rfl := Option.some.inj hF
    exact gx_iret C E (gDec_at D_X5_countArms 27 rfl)
  exact gx_sub [2, 3, 1, 0] rfl (w_X5_countArms_4 C A0 x1 h k8 gFuel 0 0 hv7)
/-! LadderBench$Network.findFirst -/
def rm_X5_findFirst : Room := { frames := 0, cells := 0, slots := 0, locals := 0 }
theorem hy_X5_findFirst : yX5_findFirst.cls = RX5 ∧ yX5_findFirst.cls ≠ "java/lang/invoke/MethodHandle" ∧ yX5_findFirst.cls ≠ "java/lang/invoke/VarHandle" ∧ (parseMethodDescriptor yX5_findFirst.desc).map (fun d => d.parameters.length) = some 1 := by decide +kernel
set_option maxRecDepth 100000 in
theorem D_X5_findFirst : gDec cX5_findFirst [(0, (.iconst 0, 1)), (1, (.istore_n 2, 1)), (2, (.iload_n 2, 1)), (3, (.iload_n 1, 1)), (4, (.if_icmp .ge 21, 3)), (7, (.aload_n 0, 1)), (8, (.getfield 15, 3)), (11, (.iload_n 2, 1)), (12, (.iaload, 1)), (13, (.iload_n 1, 1)), (14, (.if_icmp .ne 5, 3)), (17, (.iload_n 2, 1)), (18, (.ireturn, 1)), (19, (.iinc 2 1, 3)), (22, (.goto (-20), 3)), (25, (.iconst (-1), 1)), (26, (.ireturn, 1))] = true := by decide +kernel
set_option maxRecDepth 100000 in
theorem in_X5_findFirst_X5 : ∀ x ∈ u_ws RX5 TX5 5, x ∈ wsX5_findFirst := by decide +kernel
theorem fl_X5_findFirst_15 : gF wsX5_findFirst RX5 15 5 1 := ⟨RX5, TX5, 5, rfl, by decide, in_X5_findFirst_X5, by decide +kernel⟩
def f_X5_findFirst_2 (a0 : Nat) (x1 : Int32) (h : gHp) : Nat → Int32 → Option (Int32)
  | 0, _ => none
  | n + 1, x2 => if x1 ≤ x2 then some (-1) else if gIn x2 11 then if (h.1 (a0 + 2) (gN x2)) = x1 then some x2 else f_X5_findFirst_2 a0 x1 h n (x2 + 1) else none
set_option maxRecDepth 20000 in
set_option maxHeartbeats 4000000 in
theorem w_X5_findFirst_2 {w : gWd} {g : gCx} (C : gC w g cX5_findFirst wsX5_findFirst RX5 3 0 0) {a0 : Nat} (A0 : is_X5 w a0) (x1 : Int32) (h : gHp)  {o : Int32} (E : gEn w g (some .int) (some (.int o)) h) : ∀ (n : Nat) (x2 : Int32), f_X5_findFirst_2 a0 x1 h n x2 = some o → gX w g 3 h 2 [(0, .ref a0), (1, .int x1), (2, .int x2)] [] := by
  intro n
  induction n with
  | zero => intro _ hF; cases hF
  | succ n ih =>
    intro x2 hF
    rw [f_X5_findFirst_2] at hF
    refine gx_iload_n C 2 (gDec_at D_X5_findFirst 2 rfl) rfl rfl ?_
    refine gx_iload_n C 1 (gDec_at D_X5_findFirst 3 rfl) rfl rfl ?_
    refine gx_icmp_ge C 25 (gDec_at D_X5_findFirst 4 rfl) (by decide) (fun c => ?_) (fun c => ?_)
    · replace hF := gPos c hF
      refine gx_iconst C (v := (-1)) (gDec_at D_X5_findFirst 15 rfl) (by decide) ?_
      obtain rfl := Option.some.inj hF
      exact gx_iret C E (gDec_at D_X5_findFirst 16 rfl)
    · replace hF := gNeg c hF
      refine gx_aload_n C 0 (gDec_at D_X5_findFirst 5 rfl) rfl rfl ?_
      refine gx_getr C fl_X5_findFirst_15 (is_X5_sh A0) rfl (gDec_at D_X5_findFirst 6 rfl) ?_
      refine gx_iload_n C 2 (gDec_at D_X5_findFirst 7 rfl) rfl rfl ?_
      obtain ⟨b1, hF⟩ := gGd hF
      refine gx_iaload C (is_X5_around A0) b1 (gDec_at D_X5_findFirst 8 rfl) ?_
      refine gx_iload_n C 1 (gDec_at D_X5_findFirst 9 rfl) rfl rfl ?_
      refine gx_icmp_ne C 19 (gDec_at D_X5_findFirst 10 rfl) (by decide) (fun c => ?_) (fun c => ?_)
      · replace hF := gNeg c hF
        refine gx_iinc C (j := 2) (v := x2 + 1) (lv' := [(2, .int (x2 + 1)), (0, .ref a0), (1, .int x1)]) (gDec_at D_X5_findFirst 13 rfl) rfl (by rfl) (Nat.le_of_ble_eq_true rfl) rfl ?_
        refine gx_goto C 2 (gDec_at D_X5_findFirst 14 rfl) (by decide) ?_
        exact gx_sub [1, 2, 0] rfl (ih (x2 + 1) hF)
      · replace hF := gPos c hF
        refine gx_iload_n C 2 (gDec_at D_X5_findFirst 11 rfl) rfl rfl ?_
        obtain rfl := Option.some.inj hF
        exact gx_iret C E (gDec_at D_X5_findFirst 12 rfl)
def f_X5_findFirst (a0 : Nat) (x1 : Int32) (h : gHp) : Option (Int32) := f_X5_findFirst_2 a0 x1 h gFuel 0
set_option maxRecDepth 20000 in
set_option maxHeartbeats 4000000 in
theorem m_X5_findFirst (w : gWd) (h : gHp) {a0 : Nat} (A0 : is_X5 w a0) (x1 : Int32) {o : Int32} (hF : f_X5_findFirst a0 x1 h = some o) : gMet w yX5_findFirst wsX5_findFirst rm_X5_findFirst [.ref a0, .int x1] h (some (.int o)) h := by
  refine gMet_of (cc := cX5_findFirst) (maxL := 3) (ret := (some .int)) (fr := 0) (lo := 0) (own := RX5) [(0, .ref a0), (1, .int x1)] (by decide) rfl rfl (Nat.le_of_ble_eq_true rfl) rfl (Nat.le_refl _) (Nat.le_refl _) (fun g C E => ?_)
  rw [f_X5_findFirst] at hF
  refine gx_iconst C (v := 0) (gDec_at D_X5_findFirst 0 rfl) (by decide) ?_
  refine gx_istore_n C (lv' := [(2, .int 0), (0, .ref a0), (1, .int x1)]) (gDec_at D_X5_findFirst 1 rfl) rfl (Nat.le_of_ble_eq_true rfl) rfl ?_
  exact gx_sub [1, 2, 0] rfl (w_X5_findFirst_2 C A0 x1 h   E gFuel 0 hF)
