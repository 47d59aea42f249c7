/-! LadderBench$Line.append -/
def rm_X4_append : Room := { frames := 0, cells := 0, slots := 0, locals := 0 }
theorem hy_X4_append : yX4_append.cls = RX4 ∧ yX4_append.cls ≠ "java/lang/invoke/MethodHandle" ∧ yX4_append.cls ≠ "java/lang/invoke/VarHandle" ∧ (parseMethodDescriptor yX4_append.desc).map (fun d => d.parameters.length) = some 1 := by decide +kernel
set_option maxRecDepth 100000 in
theorem D_X4_append : gDec cX4_append [(0, (.aload_n 0, 1)), (1, (.getfield 15, 3)), (4, (.bipush 40, 2)), (6, (.if_icmp .ge 23, 3)), (9, (.aload_n 0, 1)), (10, (.getfield 9, 3)), (13, (.aload_n 0, 1)), (14, (.getfield 15, 3)), (17, (.iload_n 1, 1)), (18, (.castore, 1)), (19, (.aload_n 0, 1)), (20, (.dup, 1)), (21, (.getfield 15, 3)), (24, (.iconst 1, 1)), (25, (.iadd, 1)), (26, (.putfield 15, 3)), (29, (.return_, 1))] = true := by decide +kernel
set_option maxRecDepth 100000 in
theorem in_X4_append_X4 : ∀ x ∈ u_ws RX4 TX4 2, x ∈ wsX4_append := by decide +kernel
theorem fl_X4_append_15 : gF wsX4_append RX4 15 4 1 := ⟨RX4, TX4, 2, rfl, by decide, in_X4_append_X4, by decide +kernel⟩
theorem fl_X4_append_9 : gF wsX4_append RX4 9 4 0 := ⟨RX4, TX4, 2, rfl, by decide, in_X4_append_X4, by decide +kernel⟩
theorem flw_X4_append_15 : gFw wsX4_append RX4 15 4 1 .int := ⟨RX4, TX4, 2, tyX4, rfl, by decide, in_X4_append_X4, by decide +kernel, tyX4_ok, nmX4, rfl, by decide +kernel⟩
def f_X4_append (a0 : Nat) (x1 : Int32) (h : gHp) : Option (gHp) := if 40 ≤ (h.1 a0 1) then some h else if gIn (h.1 a0 1) 40 then some (gsI (gsI h (a0 + 1) (gN (h.1 a0 1)) (vp_nar .char x1)) a0 1 (((gsI h (a0 + 1) (gN (h.1 a0 1)) (vp_nar .char x1)).1 a0 1) + 1)) else none
set_option maxRecDepth 20000 in
set_option maxHeartbeats 4000000 in
theorem m_X4_append (w : gWd) (h : gHp) {a0 : Nat} (A0 : is_X4 w a0) (x1 : Int32) {o : gHp} (hF : f_X4_append a0 x1 h = some o) : gMet w yX4_append wsX4_append rm_X4_append [.ref a0, .int x1] h (none) o := by
  refine gMet_of (cc := cX4_append) (maxL := 2) (ret := none) (fr := 0) (lo := 0) (own := RX4) [(0, .ref a0), (1, .int x1)] (by decide) rfl rfl (Nat.le_of_ble_eq_true rfl) rfl (Nat.le_refl _) (Nat.le_refl _) (fun g C E => ?_)
  rw [f_X4_append] at hF
  refine gx_aload_n C 0 (gDec_at D_X4_append 0 rfl) rfl rfl ?_
  refine gx_geti C fl_X4_append_15 (is_X4_sh A0) rfl (gDec_at D_X4_append 1 rfl) ?_
  refine gx_bipush C (v := 40) (gDec_at D_X4_append 2 rfl) (by decide) ?_
  refine gx_icmp_ge C 29 (gDec_at D_X4_append 3 rfl) (by decide) (fun c => ?_) (fun c => ?_)
  · replace hF := gPos c hF
    obtain rfl := Option.some.inj hF
    exact gx_vret C E (gDec_at D_X4_append 16 rfl)
  · replace hF := gNeg c hF
    refine gx_aload_n C 0 (gDec_at D_X4_append 4 rfl) rfl rfl ?_
    refine gx_getr C fl_X4_append_9 (is_X4_sh A0) rfl (gDec_at D_X4_append 5 rfl) ?_
    refine gx_aload_n C 0 (gDec_at D_X4_append 6 rfl) rfl rfl ?_
    refine gx_geti C fl_X4_append_15 (is_X4_sh A0) rfl (gDec_at D_X4_append 7 rfl) ?_
    refine gx_iload_n C 1 (gDec_at D_X4_append 8 rfl) rfl rfl ?_
    obtain ⟨b1, hF⟩ := gGd hF
    refine gx_castore C (is_X4_characters A0) b1 (gDec_at D_X4_append 9 rfl) ?_
    refine gx_aload_n C 0 (gDec_at D_X4_append 10 rfl) rfl rfl ?_
    refine gx_dup C (gDec_at D_X4_append 11 rfl) rfl ?_
    refine gx_geti C fl_X4_append_15 (is_X4_sh A0) rfl (gDec_at D_X4_append 12 rfl) ?_
    refine gx_iconst C (v := 1) (gDec_at D_X4_append 13 rfl) (by decide) ?_
    refine gx_iadd C (gDec_at D_X4_append 14 rfl) ?_
    refine gx_putI C flw_X4_append_15 (is_X4_sh A0) rfl rfl rfl (gDec_at D_X4_append 15 rfl) ?_
    obtain rfl := Option.some.inj hF
    exact gx_vret C E (gDec_at D_X4_append 16 rfl)
/-! LadderBench.indexOfLetter -/
def rm_X9_indexOfLetter : Room := { frames := 0, cells := 0, slots := 0, locals := 0 }
theorem hy_X9_indexOfLetter : yX9_indexOfLetter.cls ≠ "java/lang/invoke/MethodHandle" ∧ yX9_indexOfLetter.cls ≠ "java/lang/invoke/VarHandle" ∧ (parseMethodDescriptor yX9_indexOfLetter.desc).map (fun d => d.parameters.length) = some 1 := by decide +kernel
set_option maxRecDepth 100000 in
theorem D_X9_indexOfLetter : gDec cX9_indexOfLetter [(0, (.iload_n 0, 1)), (1, (.bipush 97, 2)), (3, (.if_icmp .lt 16, 3)), (6, (.iload_n 0, 1)), (7, (.bipush 103, 2)), (9, (.if_icmp .ge 10, 3)), (12, (.iload_n 0, 1)), (13, (.bipush 97, 2)), (15, (.isub, 1)), (16, (.goto 4, 3)), (19, (.iconst (-1), 1)), (20, (.ireturn, 1))] = true := by decide +kernel
def f_X9_indexOfLetter (x0 : Int32) (h : gHp) : Option (Int32) := if x0 < 97 then some (-1) else if 103 ≤ x0 then some (-1) else some (x0 - 97)
set_option maxRecDepth 20000 in
set_option maxHeartbeats 4000000 in
theorem m_X9_indexOfLetter (w : gWd) (h : gHp) (x0 : Int32) {o : Int32} (hF : f_X9_indexOfLetter x0 h = some o) : gMet w yX9_indexOfLetter wsX9_indexOfLetter rm_X9_indexOfLetter [.int x0] h (some (.int o)) h := by
  refine gMet_of (cc := cX9_indexOfLetter) (maxL := 1) (ret := (some .int)) (fr := 0) (lo := 0) (own := RX9) [(0, .int x0)] (by decide) rfl rfl (Nat.le_of_ble_eq_true rfl) rfl (Nat.le_refl _) (Nat.le_refl _) (fun g C E => ?_)
  rw [f_X9_indexOfLetter] at hF
  refine gx_iload_n C 0 (gDec_at D_X9_indexOfLetter 0 rfl) rfl rfl ?_
  refine gx_bipush C (v := 97) (gDec_at D_X9_indexOfLetter 1 rfl) (by decide) ?_
  refine gx_icmp_lt C 19 (gDec_at D_X9_indexOfLetter 2 rfl) (by decide) (fun c => ?_) (fun c => ?_)
  · replace hF := gPos c hF
    refine gx_iconst C (v := (-1)) (gDec_at D_X9_indexOfLetter 10 rfl) (by decide) ?_
    obtain rfl := Option.some.inj hF
    exact gx_iret C E (gDec_at D_X9_indexOfLetter 11 rfl)
  · replace hF := gNeg c hF
    refine gx_iload_n C 0 (gDec_at D_X9_indexOfLetter 3 rfl) rfl rfl ?_
    refine gx_bipush C (v := 103) (gDec_at D_X9_indexOfLetter 4 rfl) (by decide) ?_
    refine gx_icmp_ge C 19 (gDec_at D_X9_indexOfLetter 5 rfl) (by decide) (fun c => ?_) (fun c => ?_)
    · replace hF := gPos c hF
      refine gx_iconst C (v := (-1)) (gDec_at D_X9_indexOfLetter 10 rfl) (by decide) ?_
      obtain rfl := Option.some.inj hF
      exact gx_iret C E (gDec_at D_X9_indexOfLetter 11 rfl)
    · replace hF := gNeg c hF
      refine gx_iload_n C 0 (gDec_at D_X9_indexOfLetter 6 rfl) rfl rfl ?_
      refine gx_bipush C (v := 97) (gDec_at D_X9_indexOfLetter 7 rfl) (by decide) ?_
      refine gx_isub C (gDec_at D_X9_indexOfLetter 8 rfl) ?_
      refine gx_goto C 20 (gDec_at D_X9_indexOfLetter 9 rfl) (by decide) ?_
      obtain rfl := Option.some.inj hF
      exact gx_iret C E (gDec_at D_X9_indexOfLetter 11 rfl)
/-! LadderBench$Network.copy -/
def rm_X5_copy : Room := { frames := 0, cells := 0, slots := 0, locals := 0 }
theorem hy_X5_copy : yX5_copy.cls = RX5 ∧ yX5_copy.cls ≠ "java/lang/invoke/MethodHandle" ∧ yX5_copy.cls ≠ "java/lang/invoke/VarHandle" ∧ (parseMethodDescriptor yX5_copy.desc).map (fun d => d.parameters.length) = some 1 := by decide +kernel
set_option maxRecDepth 100000 in
theorem D_X5_copy : gDec cX5_copy [(0, (.iconst 0, 1)), (1, (.istore_n 2, 1)), (2, (.iload_n 2, 1)), (3, (.bipush 11, 2)), (5, (.if_icmp .ge 45, 3)), (8, (.aload_n 0, 1)), (9, (.getfield 9, 3)), (12, (.iload_n 2, 1)), (13, (.aload_n 1, 1)), (14, (.getfield 9, 3)), (17, (.iload_n 2, 1)), (18, (.iaload, 1)), (19, (.iastore, 1)), (20, (.aload_n 0, 1)), (21, (.getfield 15, 3)), (24, (.iload_n 2, 1)), (25, (.aload_n 1, 1)), (26, (.getfield 15, 3)), (29, (.iload_n 2, 1)), (30, (.iaload, 1)), (31, (.iastore, 1)), (32, (.aload_n 0, 1)), (33, (.getfield 18, 3)), (36, (.iload_n 2, 1)), (37, (.aload_n 1, 1)), (38, (.getfield 18, 3)), (41, (.iload_n 2, 1)), (42, (.iaload, 1)), (43, (.iastore, 1)), (44, (.iinc 2 1, 3)), (47, (.goto (-45), 3)), (50, (.iconst 0, 1)), (51, (.istore_n 2, 1)), (52, (.iload_n 2, 1)), (53, (.bipush 6, 2)), (55, (.if_icmp .ge 21, 3)), (58, (.aload_n 0, 1)), (59, (.getfield 21, 3)), (62, (.iload_n 2, 1)), (63, (.aload_n 1, 1)), (64, (.getfield 21, 3)), (67, (.iload_n 2, 1)), (68, (.iaload, 1)), (69, (.iastore, 1)), (70, (.iinc 2 1, 3)), (73, (.goto (-21), 3)), (76, (.aload_n 0, 1)), (77, (.aload_n 1, 1)), (78, (.getfield 24, 3)), (81, (.putfield 24, 3)), (84, (.return_, 1))] = true := by decide +kernel
set_option maxRecDepth 100000 in
theorem in_X5_copy_X5 : ∀ x ∈ u_ws RX5 TX5 5, x ∈ wsX5_copy := by decide +kernel
theorem fl_X5_copy_9 : gF wsX5_copy RX5 9 5 0 := ⟨RX5, TX5, 5, rfl, by decide, in_X5_copy_X5, by decide +kernel⟩
theorem fl_X5_copy_15 : gF wsX5_copy RX5 15 5 1 := ⟨RX5, TX5, 5, rfl, by decide, in_X5_copy_X5, by decide +kernel⟩
theorem fl_X5_copy_18 : gF wsX5_copy RX5 18 5 2 := ⟨RX5, TX5, 5, rfl, by decide, in_X5_copy_X5, by decide +kernel⟩
theorem fl_X5_copy_21 : gF wsX5_copy RX5 21 5 3 := ⟨RX5, TX5, 5, rfl, by decide, in_X5_copy_X5, by decide +kernel⟩
theorem fl_X5_copy_24 : gF wsX5_copy RX5 24 5 4 := ⟨RX5, TX5, 5, rfl, by decide, in_X5_copy_X5, by decide +kernel⟩
theorem flw_X5_copy_24 : gFw wsX5_copy RX5 24 5 4 .int := ⟨RX5, TX5, 5, tyX5, rfl, by decide, in_X5_copy_X5, by decide +kernel, tyX5_ok, nmX5, rfl, by decide +kernel⟩
def f_X5_copy_2 (a0 : Nat) (a1 : Nat) : Nat → Int32 → gHp → Option (gHp)
  | 0, _, _ => none
  | n + 1, x2, h => if 11 ≤ x2 then some h else if gIn x2 11 then if gIn x2 11 then if gIn x2 11 then if gIn x2 11 then if gIn x2 11 then if gIn x2 11 then f_X5_copy_2 a0 a1 n (x2 + 1) (gsI (gsI (gsI h (a0 + 1) (gN x2) (h.1 (a1 + 1) (gN x2))) (a0 + 2) (gN x2) ((gsI h (a0 + 1) (gN x2) (h.1 (a1 + 1) (gN x2))).1 (a1 + 2) (gN x2))) (a0 + 3) (gN x2) ((gsI (gsI h (a0 + 1) (gN x2) (h.1 (a1 + 1) (gN x2))) (a0 + 2) (gN x2) ((gsI h (a0 + 1) (gN x2) (h.1 (a1 + 1) (gN x2))).1 (a1 + 2) (gN x2))).1 (a1 + 3) (gN x2))) else none else none else none else none else none else none
set_option maxRecDepth 20000 in
set_option maxHeartbeats 4000000 in
theorem w_X5_copy_2 {w : gWd} {g : gCx} (C : gC w g cX5_copy wsX5_copy RX5 3 0 0) {a0 : Nat} (A0 : is_X5 w a0) {a1 : Nat} (A1 : is_X5 w a1)  {o : gHp} (hk : gX w g 3 o 50 [(0, .ref a0), (1, .ref a1)] []) : ∀ (n : Nat) (x2 : Int32) (h : gHp), f_X5_copy_2 a0 a1 n x2 h = some o → gX w g 3 h 2 [(0, .ref a0), (1, .ref a1), (2, .int x2)] [] := by
  intro n
  induction n with
  | zero => intro _ _ hF; cases hF
  | succ n ih =>
    intro x2 h hF
    rw [f_X5_copy_2] at hF
    refine gx_iload_n C 2 (gDec_at D_X5_copy 2 rfl) rfl rfl ?_
    refine gx_bipush C (v := 11) (gDec_at D_X5_copy 3 rfl) (by decide) ?_
    refine gx_icmp_ge C 50 (gDec_at D_X5_copy 4 rfl) (by decide) (fun c => ?_) (fun c => ?_)
    · replace hF := gPos c hF
      obtain rfl := Option.some.inj hF
      exact gx_sub [0, 1] rfl hk
    · replace hF := gNeg c hF
      refine gx_aload_n C 0 (gDec_at D_X5_copy 5 rfl) rfl rfl ?_
      refine gx_getr C fl_X5_copy_9 (is_X5_sh A0) rfl (gDec_at D_X5_copy 6 rfl) ?_
      refine gx_iload_n C 2 (gDec_at D_X5_copy 7 rfl) rfl rfl ?_
      refine gx_aload_n C 1 (gDec_at D_X5_copy 8 rfl) rfl rfl ?_
      refine gx_getr C fl_X5_copy_9 (is_X5_sh A1) rfl (gDec_at D_X5_copy 9 rfl) ?_
      refine gx_iload_n C 2 (gDec_at D_X5_copy 10 rfl) rfl rfl ?_
      obtain ⟨b1, hF⟩ := gGd hF
      refine gx_iaload C (is_X5_kind A1) b1 (gDec_at D_X5_copy 11 rfl) ?_
      obtain ⟨b2, hF⟩ := gGd hF
      refine gx_iastore C (is_X5_kind A0) b2 (gDec_at D_X5_copy 12 rfl) ?_
      refine gx_aload_n C 0 (gDec_at D_X5_copy 13 rfl) rfl rfl ?_
      refine gx_getr C fl_X5_copy_15 (is_X5_sh A0) rfl (gDec_at D_X5_copy 14 rfl) ?_
      refine gx_iload_n C 2 (gDec_at D_X5_copy 15 rfl) rfl rfl ?_
      refine gx_aload_n C 1 (gDec_at D_X5_copy 16 rfl) rfl rfl ?_
      refine gx_getr C fl_X5_copy_15 (is_X5_sh A1) rfl (gDec_at D_X5_copy 17 rfl) ?_
      refine gx_iload_n C 2 (gDec_at D_X5_copy 18 rfl) rfl rfl ?_
      obtain ⟨b3, hF⟩ := gGd hF
      refine gx_iaload C (is_X5_around A1) b3 (gDec_at D_X5_copy 19 rfl) ?_
      obtain ⟨b4, hF⟩ := gGd hF
      refine gx_iastore C (is_X5_around A0) b4 (gDec_at D_X5_copy 20 rfl) ?_
      refine gx_aload_n C 0 (gDec_at D_X5_copy 21 rfl) rfl rfl ?_
      refine gx_getr C fl_X5_copy_18 (is_X5_sh A0) rfl (gDec_at D_X5_copy 22 rfl) ?_
      refine gx_iload_n C 2 (gDec_at D_X5_copy 23 rfl) rfl rfl ?_
      refine gx_aload_n C 1 (gDec_at D_X5_copy 24 rfl) rfl rfl ?_
      refine gx_getr C fl_X5_copy_18 (is_X5_sh A1) rfl (gDec_at D_X5_copy 25 rfl) ?_
      refine gx_iload_n C 2 (gDec_at D_X5_copy 26 rfl) rfl rfl ?_
      obtain ⟨b5, hF⟩ := gGd hF
      refine gx_iaload C (is_X5_letter A1) b5 (gDec_at D_X5_copy 27 rfl) ?_
      obtain ⟨b6, hF⟩ := gGd hF
      refine gx_iastore C (is_X5_letter A0) b6 (gDec_at D_X5_copy 28 rfl) ?_
      refine gx_iinc C (j := 2) (v := x2 + 1) (lv' := [(2, .int (x2 + 1)), (0, .ref a0), (1, .ref a1)]) (gDec_at D_X5_copy 29 rfl) rfl (by rfl) (Nat.le_of_ble_eq_true rfl) rfl ?_
      refine gx_goto C 2 (gDec_at D_X5_copy 30 rfl) (by decide) ?_
      exact gx_sub [1, 2, 0] rfl (ih (x2 + 1) (gsI (gsI (gsI h (a0 + 1) (gN x2) (h.1 (a1 + 1) (gN x2))) (a0 + 2) (gN x2) ((gsI h (a0 + 1) (gN x2) (h.1 (a1 + 1) (gN x2))).1 (a1 + 2) (gN x2))) (a0 + 3) (gN x2) ((gsI (gsI h (a0 + 1) (gN x2) (h.1 (a1 + 1) (gN x2))) (a0 + 2) (gN x2) ((gsI h (a0 + 1) (gN x2) (h.1 (a1 + 1) (gN x2))).1 (a1 + 2) (gN x2))).1 (a1 + 3) (gN x2))) hF)
def f_X5_copy_52 (a0 : Nat) (a1 : Nat) : Nat → Int32 → gHp → Option (gHp)
  | 0, _, _ => none
  | n + 1, x2, h => if 6 ≤ x2 then some h else if gIn x2 6 then if gIn x2 6 then f_X5_copy_52 a0 a1 n (x2 + 1) (gsI h (a0 + 4) (gN x2) (h.1 (a1 + 4) (gN x2))) else none else none
set_option maxRecDepth 20000 in
set_option maxHeartbeats 4000000 in
theorem w_X5_copy_52 {w : gWd} {g : gCx} (C : gC w g cX5_copy wsX5_copy RX5 3 0 0) {a0 : Nat} (A0 : is_X5 w a0) {a1 : Nat} (A1 : is_X5 w a1)  {o : gHp} (hk : gX w g 3 o 76 [(0, .ref a0), (1, .ref a1)] []) : ∀ (n : Nat) (x2 : Int32) (h : gHp), f_X5_copy_52 a0 a1 n x2 h = some o → gX w g 3 h 52 [(0, .ref a0), (1, .ref a1), (2, .int x2)] [] := by
  intro n
  induction n with
  | zero => intro _ _ hF; cases hF
  | succ n ih =>
    intro x2 h hF
    rw [f_X5_copy_52] at hF
    refine gx_iload_n C 2 (gDec_at D_X5_copy 33 rfl) rfl rfl ?_
    refine gx_bipush C (v := 6) (gDec_at D_X5_copy 34 rfl) (by decide) ?_
    refine gx_icmp_ge C 76 (gDec_at D_X5_copy 35 rfl) (by decide) (fun c => ?_) (fun c => ?_)
    · replace hF := gPos c hF
      obtain rfl := Option.some.inj hF
      exact gx_sub [0, 1] rfl hk
    · replace hF := gNeg c hF
      refine gx_aload_n C 0 (gDec_at D_X5_copy 36 rfl) rfl rfl ?_
      refine gx_getr C fl_X5_copy_21 (is_X5_sh A0) rfl (gDec_at D_X5_copy 37 rfl) ?_
      refine gx_iload_n C 2 (gDec_at D_X5_copy 38 rfl) rfl rfl ?_
      refine gx_aload_n C 1 (gDec_at D_X5_copy 39 rfl) rfl rfl ?_
      refine gx_getr C fl_X5_copy_21 (is_X5_sh A1) rfl (gDec_at D_X5_copy 40 rfl) ?_
      refine gx_iload_n C 2 (gDec_at D_X5_copy 41 rfl) rfl rfl ?_
      obtain ⟨b10, hF⟩ := gGd hF
      refine gx_iaload C (is_X5_partOfArm A1) b10 (gDec_at D_X5_copy 42 rfl) ?_
      obtain ⟨b11, hF⟩ := gGd hF
      refine gx_iastore C (is_X5_partOfArm A0) b11 (gDec_at D_X5_copy 43 rfl) ?_
      refine gx_iinc C (j := 2) (v := x2 + 1) (lv' := [(2, .int (x2 + 1)), (0, .ref a0), (1, .ref a1)]) (gDec_at D_X5_copy 44 rfl) rfl (by rfl) (Nat.le_of_ble_eq_true rfl) rfl ?_
      refine gx_goto C 52 (gDec_at D_X5_copy 45 rfl) (by decide) ?_
      exact gx_sub [1, 2, 0] rfl (ih (x2 + 1) (gsI h (a0 + 4) (gN x2) (h.1 (a1 + 4) (gN x2))) hF)
def f_X5_copy (a0 : Nat) (a1 : Nat) (h : gHp) : Option (gHp) := (f_X5_copy_2 a0 a1 gFuel 0 h).bind fun v7 => (f_X5_copy_52 a0 a1 gFuel 0 v7).bind fun v12 => some (gsI v12 a0 4 (v12.1 a1 4))
set_option maxRecDepth 20000 in
set_option maxHeartbeats 4000000 in
theorem m_X5_copy (w : gWd) (h : gHp) {a0 : Nat} (A0 : is_X5 w a0) {a1 : Nat} (A1 : is_X5 w a1) {o : gHp} (hF : f_X5_copy a0 a1 h = some o) : gMet w yX5_copy wsX5_copy rm_X5_copy [.ref a0, .ref a1] h (none) o := by
  refine gMet_of (cc := cX5_copy) (maxL := 3) (ret := none) (fr := 0) (lo := 0) (own := RX5) [(0, .ref a0), (1, .ref a1)] (by decide) rfl rfl (Nat.le_of_ble_eq_true rfl) rfl (Nat.le_refl _) (Nat.le_refl _) (fun g C E => ?_)
  rw [f_X5_copy] at hF
  refine gx_iconst C (v := 0) (gDec_at D_X5_copy 0 rfl) (by decide) ?_
  refine gx_istore_n C (lv' := [(2, .int 0), (0, .ref a0), (1, .ref a1)]) (gDec_at D_X5_copy 1 rfl) rfl (Nat.le_of_ble_eq_true rfl) rfl ?_
  obtain ⟨v7, hv8, hF⟩ := gBind hF
  have k9 : gX w g 3 v7 50 [(0, .ref a0), (1, .ref a1)] [] := by
    refine gx_iconst C (v := 0) (gDec_at D_X5_copy 31 rfl) (by decide) ?_
    refine gx_istore_n C (lv' := [(2, .int 0), (0, .ref a0), (1, .ref a1)]) (gDec_at D_X5_copy 32 rfl) rfl (Nat.le_of_ble_eq_true rfl) rfl ?_
    obtain ⟨v12, hv13, hF⟩ := gBind hF
    have k14 : gX w g 3 v12 76 [(0, .ref a0), (1, .ref a1)] [] := by
      refine gx_aload_n C 0 (gDec_at D_X5_copy 46 rfl) rfl rfl ?_
      refine gx_aload_n C 1 (gDec_at D_X5_copy 47 rfl) rfl rfl ?_
      refine gx_geti C fl_X5_copy_24 (is_X5_sh A1) rfl (gDec_at D_X5_copy 48 rfl) ?_
      refine gx_putI C flw_X5_copy_24 (is_X5_sh A0) rfl rfl rfl (gDec_at D_X5_copy 49 rfl) ?_
      obtain rfl := Option.some.inj hF
      exact gx_vret C E (gDec_at D_X5_copy 50 rfl)
    exact gx_sub [1, 2, 0] rfl (w_X5_copy_52 C A0 A1 k14 gFuel 0 v7 hv13)
  exact gx_sub [1, 2, 0] rfl (w_X5_copy_2 C A0 A1 k9 gFuel 0 h hv8)
/-! LadderBench$Notes.copy -/
def rm_X7_copy : Room := { frames := 0, cells := 0, slots := 0, locals := 0 }
theorem hy_X7_copy : yX7_copy.cls = RX7 ∧ yX7_copy.cls ≠ "java/lang/invoke/MethodHandle" ∧ yX7_copy.cls ≠ "java/lang/invoke/VarHandle" ∧ (parseMethodDescriptor yX7_copy.desc).map (fun d => d.parameters.length) = some 1 := by decide +kernel
set_option maxRecDepth 100000 in
theorem D_X7_copy : gDec cX7_copy [(0, (.iconst 0, 1)), (1, (.istore_n 2, 1)), (2, (.iload_n 2, 1)), (3, (.bipush 20, 2)), (5, (.if_icmp .ge 45, 3)), (8, (.aload_n 0, 1)), (9, (.getfield 9, 3)), (12, (.iload_n 2, 1)), (13, (.aload_n 1, 1)), (14, (.getfield 9, 3)), (17, (.iload_n 2, 1)), (18, (.laload, 1)), (19, (.lastore, 1)), (20, (.aload_n 0, 1)), (21, (.getfield 15, 3)), (24, (.iload_n 2, 1)), (25, (.aload_n 1, 1)), (26, (.getfield 15, 3)), (29, (.iload_n 2, 1)), (30, (.laload, 1)), (31, (.lastore, 1)), (32, (.aload_n 0, 1)), (33, (.getfield 18, 3)), (36, (.iload_n 2, 1)), (37, (.aload_n 1, 1)), (38, (.getfield 18, 3)), (41, (.iload_n 2, 1)), (42, (.iaload, 1)), (43, (.iastore, 1)), (44, (.iinc 2 1, 3)), (47, (.goto (-45), 3)), (50, (.aload_n 0, 1)), (51, (.aload_n 1, 1)), (52, (.getfield 22, 3)), (55, (.putfield 22, 3)), (58, (.return_, 1))] = true := by decide +kernel
set_option maxRecDepth 100000 in
theorem in_X7_copy_X7 : ∀ x ∈ u_ws RX7 TX7 4, x ∈ wsX7_copy := by decide +kernel
theorem fl_X7_copy_9 : gF wsX7_copy RX7 9 7 0 := ⟨RX7, TX7, 4, rfl, by decide, in_X7_copy_X7, by decide +kernel⟩
theorem fl_X7_copy_15 : gF wsX7_copy RX7 15 7 1 := ⟨RX7, TX7, 4, rfl, by decide, in_X7_copy_X7, by decide +kernel⟩
theorem fl_X7_copy_18 : gF wsX7_copy RX7 18 7 2 := ⟨RX7, TX7, 4, rfl, by decide, in_X7_copy_X7, by decide +kernel⟩
theorem fl_X7_copy_22 : gF wsX7_copy RX7 22 7 3 := ⟨RX7, TX7, 4, rfl, by decide, in_X7_copy_X7, by decide +kernel⟩
theorem flw_X7_copy_22 : gFw wsX7_copy RX7 22 7 3 .int := ⟨RX7, TX7, 4, tyX7, rfl, by decide, in_X7_copy_X7, by decide +kernel, tyX7_ok, nmX7, rfl, by decide +kernel⟩
def f_X7_copy_2 (a0 : Nat) (a1 : Nat) : Nat → Int32 → gHp → Option (gHp)
  | 0, _, _ => none
  | n + 1, x2, h => if 20 ≤ x2 then some h else if gIn x2 20 then if gIn x2 20 then if gIn x2 20 then if gIn x2 20 then if gIn x2 20 then if gIn x2 20 then f_X7_copy_2 a0 a1 n (x2 + 1) (gsI (gsL (gsL h (a0 + 1) (gN x2) (h.2 (a1 + 1) (gN x2))) (a0 + 2) (gN x2) ((gsL h (a0 + 1) (gN x2) (h.2 (a1 + 1) (gN x2))).2 (a1 + 2) (gN x2))) (a0 + 3) (gN x2) ((gsL (gsL h (a0 + 1) (gN x2) (h.2 (a1 + 1) (gN x2))) (a0 + 2) (gN x2) ((gsL h (a0 + 1) (gN x2) (h.2 (a1 + 1) (gN x2))).2 (a1 + 2) (gN x2))).1 (a1 + 3) (gN x2))) else none else none else none else none else none else none
set_option maxRecDepth 20000 in
set_option maxHeartbeats 4000000 in
theorem w_X7_copy_2 {w : gWd} {g : gCx} (C : gC w g cX7_copy wsX7_copy RX7 3 0 0) {a0 : Nat} (A0 : is_X7 w a0) {a1 : Nat} (A1 : is_X7 w a1)  {o : gHp} (hk : gX w g 3 o 50 [(0, .ref a0), (1, .ref a1)] []) : ∀ (n : Nat) (x2 : Int32) (h : gHp), f_X7_copy_2 a0 a1 n x2 h = some o → gX w g 3 h 2 [(0, .ref a0), (1, .ref a1), (2, .int x2)] [] := by
  intro n
  induction n with
  | zero => intro _ _ hF; cases hF
  | succ n ih =>
    intro x2 h hF
    rw [f_X7_copy_2] at hF
    refine gx_iload_n C 2 (gDec_at D_X7_copy 2 rfl) rfl rfl ?_
    refine gx_bipush C (v := 20) (gDec_at D_X7_copy 3 rfl) (by decide) ?_
    refine gx_icmp_ge C 50 (gDec_at D_X7_copy 4 rfl) (by decide) (fun c => ?_) (fun c => ?_)
    · replace hF := gPos c hF
      obtain rfl := Option.some.inj hF
      exact gx_sub [0, 1] rfl hk
    · replace hF := gNeg c hF
      refine gx_aload_n C 0 (gDec_at D_X7_copy 5 rfl) rfl rfl ?_
      refine gx_getr C fl_X7_copy_9 (is_X7_sh A0) rfl (gDec_at D_X7_copy 6 rfl) ?_
      refine gx_iload_n C 2 (gDec_at D_X7_copy 7 rfl) rfl rfl ?_
      refine gx_aload_n C 1 (gDec_at D_X7_copy 8 rfl) rfl rfl ?_
      refine gx_getr C fl_X7_copy_9 (is_X7_sh A1) rfl (gDec_at D_X7_copy 9 rfl) ?_
      refine gx_iload_n C 2 (gDec_at D_X7_copy 10 rfl) rfl rfl ?_
      obtain ⟨b1, hF⟩ := gGd hF
      refine gx_laload C (is_X7_upper A1) b1 (gDec_at D_X7_copy 11 rfl) ?_
      obtain ⟨b2, hF⟩ := gGd hF
      refine gx_lastore C (is_X7_upper A0) b2 (gDec_at D_X7_copy 12 rfl) ?_
      refine gx_aload_n C 0 (gDec_at D_X7_copy 13 rfl) rfl rfl ?_
      refine gx_getr C fl_X7_copy_15 (is_X7_sh A0) rfl (gDec_at D_X7_copy 14 rfl) ?_
      refine gx_iload_n C 2 (gDec_at D_X7_copy 15 rfl) rfl rfl ?_
      refine gx_aload_n C 1 (gDec_at D_X7_copy 16 rfl) rfl rfl ?_
      refine gx_getr C fl_X7_copy_15 (is_X7_sh A1) rfl (gDec_at D_X7_copy 17 rfl) ?_
      refine gx_iload_n C 2 (gDec_at D_X7_copy 18 rfl) rfl rfl ?_
      obtain ⟨b3, hF⟩ := gGd hF
      refine gx_laload C (is_X7_lower A1) b3 (gDec_at D_X7_copy 19 rfl) ?_
      obtain ⟨b4, hF⟩ := gGd hF
      refine gx_lastore C (is_X7_lower A0) b4 (gDec_at D_X7_copy 20 rfl) ?_
      refine gx_aload_n C 0 (gDec_at D_X7_copy 21 rfl) rfl rfl ?_
      refine gx_getr C fl_X7_copy_18 (is_X7_sh A0) rfl (gDec_at D_X7_copy 22 rfl) ?_
      refine gx_iload_n C 2 (gDec_at D_X7_copy 23 rfl) rfl rfl ?_
      refine gx_aload_n C 1 (gDec_at D_X7_copy 24 rfl) rfl rfl ?_
      refine gx_getr C fl_X7_copy_18 (is_X7_sh A1) rfl (gDec_at D_X7_copy 25 rfl) ?_
      refine gx_iload_n C 2 (gDec_at D_X7_copy 26 rfl) rfl rfl ?_
      obtain ⟨b5, hF⟩ := gGd hF
      refine gx_iaload C (is_X7_times A1) b5 (gDec_at D_X7_copy 27 rfl) ?_
      obtain ⟨b6, hF⟩ := gGd hF
      refine gx_iastore C (is_X7_times A0) b6 (gDec_at D_X7_copy 28 rfl) ?_
      refine gx_iinc C (j := 2) (v := x2 + 1) (lv' := [(2, .int (x2 + 1)), (0, .ref a0), (1, .ref a1)]) (gDec_at D_X7_copy 29 rfl) rfl (by rfl) (Nat.le_of_ble_eq_true rfl) rfl ?_
      refine gx_goto C 2 (gDec_at D_X7_copy 30 rfl) (by decide) ?_
      exact gx_sub [1, 2, 0] rfl (ih (x2 + 1) (gsI (gsL (gsL h (a0 + 1) (gN x2) (h.2 (a1 + 1) (gN x2))) (a0 + 2) (gN x2) ((gsL h (a0 + 1) (gN x2) (h.2 (a1 + 1) (gN x2))).2 (a1 + 2) (gN x2))) (a0 + 3) (gN x2) ((gsL (gsL h (a0 + 1) (gN x2) (h.2 (a1 + 1) (gN x2))) (a0 + 2) (gN x2) ((gsL h (a0 + 1) (gN x2) (h.2 (a1 + 1) (gN x2))).2 (a1 + 2) (gN x2))).1 (a1 + 3) (gN x2))) hF)
def f_X7_copy (a0 : Nat) (a1 : Nat) (h : gHp) : Option (gHp) := (f_X7_copy_2 a0 a1 gFuel 0 h).bind fun v7 => some (gsI v7 a0 3 (v7.1 a1 3))
set_option maxRecDepth 20000 in
set_option maxHeartbeats 4000000 in
theorem m_X7_copy (w : gWd) (h : gHp) {a0 : Nat} (A0 : is_X7 w a0) {a1 : Nat} (A1 : is_X7 w a1) {o : gHp} (hF : f_X7_copy a0 a1 h = some o) : gMet w yX7_copy wsX7_copy rm_X7_copy [.ref a0, .ref a1] h (none) o := by
  refine gMet_of (cc := cX7_copy) (maxL := 3) (ret := none) (fr := 0) (lo := 0) (own := RX7) [(0, .ref a0), (1, .ref a1)] (by decide) rfl rfl (Nat.le_of_ble_eq_true rfl) rfl (Nat.le_refl _) (Nat.le_refl _) (fun g C E => ?_)
  rw [f_X7_copy] at hF
  refine gx_iconst C (v := 0) (gDec_at D_X7_copy 0 rfl) (by decide) ?_
  refine gx_istore_n C (lv' := [(2, .int 0), (0, .ref a0), (1, .ref a1)]) (gDec_at D_X7_copy 1 rfl) rfl (Nat.le_of_ble_eq_true rfl) rfl ?_
  obtain ⟨v7, hv8, hF⟩ := gBind hF
  have k9 : gX w g 3 v7 50 [(0, .ref a0), (1, .ref a1)] [] := by
    refine gx_aload_n C 0 (gDec_at D_X7_copy 31 rfl) rfl rfl ?_
    refine gx_aload_n C 1 (gDec_at D_X7_copy 32 rfl) rfl rfl ?_
    refine gx_geti C fl_X7_copy_22 (is_X7_sh A1) rfl (gDec_at D_X7_copy 33 rfl) ?_
    refine gx_putI C flw_X7_copy_22 (is_X7_sh A0) rfl rfl rfl (gDec_at D_X7_copy 34 rfl) ?_
    obtain rfl := Option.some.inj hF
    exact gx_vret C E (gDec_at D_X7_copy 35 rfl)
  exact gx_sub [1, 2, 0] rfl (w_X7_copy_2 C A0 A1 k9 gFuel 0 h hv8)
/-! LadderBench$Network.clear -/
def rm_X5_clear : Room := { frames := 0, cells := 0, slots := 0, locals := 0 }
theorem hy_X5_clear : yX5_clear.cls = RX5 ∧ yX5_clear.cls ≠ "java/lang/invoke/MethodHandle" ∧ yX5_clear.cls ≠ "java/lang/invoke/VarHandle" ∧ (parseMethodDescriptor yX5_clear.desc).map (fun d => d.parameters.length) = some 0 := by decide +kernel
set_option maxRecDepth 100000 in
theorem D_X5_clear : gDec cX5_clear [(0, (.aload_n 0, 1)), (1, (.iconst 0, 1)), (2, (.putfield 24, 3)), (5, (.iconst 0, 1)), (6, (.istore_n 1, 1)), (7, (.iload_n 1, 1)), (8, (.bipush 6, 2)), (10, (.if_icmp .ge 16, 3)), (13, (.aload_n 0, 1)), (14, (.getfield 21, 3)), (17, (.iload_n 1, 1)), (18, (.iconst (-1), 1)), (19, (.iastore, 1)), (20, (.iinc 1 1, 3)), (23, (.goto (-16), 3)), (26, (.return_, 1))] = true := by decide +kernel
set_option maxRecDepth 100000 in
theorem in_X5_clear_X5 : ∀ x ∈ u_ws RX5 TX5 5, x ∈ wsX5_clear := by decide +kernel
theorem flw_X5_clear_24 : gFw wsX5_clear RX5 24 5 4 .int := ⟨RX5, TX5, 5, tyX5, rfl, by decide, in_X5_clear_X5, by decide +kernel, tyX5_ok, nmX5, rfl, by decide +kernel⟩
theorem fl_X5_clear_21 : gF wsX5_clear RX5 21 5 3 := ⟨RX5, TX5, 5, rfl, by decide, in_X5_clear_X5, by decide +kernel⟩
def f_X5_clear_7 (a0 : Nat) : Nat → Int32 → gHp → Option (gHp)
  | 0, _, _ => none
  | n + 1, x1, h => if 6 ≤ x1 then some h else if gIn x1 6 then f_X5_clear_7 a0 n (x1 + 1) (gsI h (a0 + 4) (gN x1) (-1)) else none
set_option maxRecDepth 20000 in
set_option maxHeartbeats 4000000 in
theorem w_X5_clear_7 {w : gWd} {g : gCx} (C : gC w g cX5_clear wsX5_clear RX5 2 0 0) {a0 : Nat} (A0 : is_X5 w a0)  {o : gHp} (hk : gX w g 2 o 26 [] []) : ∀ (n : Nat) (x1 : Int32) (h : gHp), f_X5_clear_7 a0 n x1 h = some o → gX w g 2 h 7 [(0, .ref a0), (1, .int x1)] [] := by
  intro n
  induction n with
  | zero => intro _ _ hF; cases hF
  | succ n ih =>
    intro x1 h hF
    rw [f_X5_clear_7] at hF
    refine gx_iload_n C 1 (gDec_at D_X5_clear 5 rfl) rfl rfl ?_
    refine gx_bipush C (v := 6) (gDec_at D_X5_clear 6 rfl) (by decide) ?_
    refine gx_icmp_ge C 26 (gDec_at D_X5_clear 7 rfl) (by decide) (fun c => ?_) (fun c => ?_)
    · replace hF := gPos c hF
      obtain rfl := Option.some.inj hF
      exact gx_sub [] rfl hk
    · replace hF := gNeg c hF
      refine gx_aload_n C 0 (gDec_at D_X5_clear 8 rfl) rfl rfl ?_
      refine gx_getr C fl_X5_clear_21 (is_X5_sh A0) rfl (gDec_at D_X5_clear 9 rfl) ?_
      refine gx_iload_n C 1 (gDec_at D_X5_clear 10 rfl) rfl rfl ?_
      refine gx_iconst C (v := (-1)) (gDec_at D_X5_clear 11 rfl) (by decide) ?_
      obtain ⟨b1, hF⟩ := gGd hF
      refine gx_iastore C (is_X5_partOfArm A0) b1 (gDec_at D_X5_clear 12 rfl) ?_
      refine gx_iinc C (j := 1) (v := x1 + 1) (lv' := [(1, .int (x1 + 1)), (0, .ref a0)]) (gDec_at D_X5_clear 13 rfl) rfl (by rfl) (Nat.le_of_ble_eq_true rfl) rfl ?_
      refine gx_goto C 7 (gDec_at D_X5_clear 14 rfl) (by decide) ?_
      exact gx_sub [1, 0] rfl (ih (x1 + 1) (gsI h (a0 + 4) (gN x1) (-1)) hF)
def f_X5_clear (a0 : Nat) (h : gHp) : Option (gHp) := (f_X5_clear_7 a0 gFuel 0 (gsI h a0 4 0)).bind fun v2 => some v2
set_option maxRecDepth 20000 in
set_option maxHeartbeats 4000000 in
theorem m_X5_clear (w : gWd) (h : gHp) {a0 : Nat} (A0 : is_X5 w a0) {o : gHp} (hF : f_X5_clear a0 h = some o) : gMet w yX5_clear wsX5_clear rm_X5_clear [.ref a0] h (none) o := by
  refine gMet_of (cc := cX5_clear) (maxL := 2) (ret := none) (fr := 0) (lo := 0) (own := RX5) [(0, .ref a0)] (by decide) rfl rfl (Nat.le_of_ble_eq_true rfl) rfl (Nat.le_refl _) (Nat.le_refl _) (fun g C E => ?_)
  rw [f_X5_clear] at hF
  refine gx_aload_n C 0 (gDec_at D_X5_clear 0 rfl) rfl rfl ?_
  refine gx_iconst C (v := 0) (gDec_at D_X5_clear 1 rfl) (by decide) ?_
  refine gx_putI C flw_X5_clear_24 (is_X5_sh A0) rfl rfl rfl (gDec_at D_X5_clear 2 rfl) ?_
  refine gx_iconst C (v := 0) (gDec_at D_X5_clear 3 rfl) (by decide) ?_
  refine gx_istore_n C (lv' := [(1, .int 0), (0, .ref a0)]) (gDec_at D_X5_clear 4 rfl) rfl (Nat.le_of_ble_eq_true rfl) rfl ?_
  obtain ⟨v2, hv3, hF⟩ := gBind hF
  have k4 : gX w g 2 v2 26 [] [] := by
    obtain rfl := Option.some.inj hF
    exact gx_vret C E (gDec_at D_X5_clear 15 rfl)
  exact gx_sub [1, 0] rfl (w_X5_clear_7 C A0 k4 gFuel 0 (gsI h a0 4 0) hv3)
/-! LadderBench$Network.addPart -/
def rm_X5_addPart : Room := { frames := 0, cells := 0, slots := 0, locals := 0 }
theorem hy_X5_addPart : yX5_addPart.cls = RX5 ∧ yX5_addPart.cls ≠ "java/lang/invoke/MethodHandle" ∧ yX5_addPart.cls ≠ "java/lang/invoke/VarHandle" ∧ (parseMethodDescriptor yX5_addPart.desc).map (fun d => d.parameters.length) = some 1 := by decide +kernel
set_option maxRecDepth 100000 in
theorem D_X5_addPart : gDec cX5_addPart [(0, (.aload_n 0, 1)), (1, (.getfield 24, 3)), (4, (.bipush 11, 2)), (6, (.if_icmp .lt 5, 3)), (9, (.iconst 0, 1)), (10, (.ireturn, 1)), (11, (.aload_n 0, 1)), (12, (.getfield 9, 3)), (15, (.aload_n 0, 1)), (16, (.getfield 24, 3)), (19, (.iload_n 1, 1)), (20, (.iastore, 1)), (21, (.aload_n 0, 1)), (22, (.getfield 15, 3)), (25, (.aload_n 0, 1)), (26, (.getfield 24, 3)), (29, (.iconst (-1), 1)), (30, (.iastore, 1)), (31, (.aload_n 0, 1)), (32, (.getfield 18, 3)), (35, (.aload_n 0, 1)), (36, (.getfield 24, 3)), (39, (.iconst (-1), 1)), (40, (.iastore, 1)), (41, (.aload_n 0, 1)), (42, (.dup, 1)), (43, (.getfield 24, 3)), (46, (.iconst 1, 1)), (47, (.iadd, 1)), (48, (.putfield 24, 3)), (51, (.iconst 1, 1)), (52, (.aload_n 0, 1)), (53, (.getfield 24, 3)), (56, (.iconst 1, 1)), (57, (.isub, 1)), (58, (.ishl, 1)), (59, (.ireturn, 1))] = true := by decide +kernel
set_option maxRecDepth 100000 in
theorem in_X5_addPart_X5 : ∀ x ∈ u_ws RX5 TX5 5, x ∈ wsX5_addPart := by decide +kernel
theorem fl_X5_addPart_24 : gF wsX5_addPart RX5 24 5 4 := ⟨RX5, TX5, 5, rfl, by decide, in_X5_addPart_X5, by decide +kernel⟩
theorem fl_X5_addPart_9 : gF wsX5_addPart RX5 9 5 0 := ⟨RX5, TX5, 5, rfl, by decide, in_X5_addPart_X5, by decide +kernel⟩
theorem fl_X5_addPart_15 : gF wsX5_addPart RX5 15 5 1 := ⟨RX5, TX5, 5, rfl, by decide, in_X5_addPart_X5, by decide +kernel⟩
theorem fl_X5_addPart_18 : gF wsX5_addPart RX5 18 5 2 := ⟨RX5, TX5, 5, rfl, by decide, in_X5_addPart_X5, by decide +kernel⟩
theorem flw_X5_addPart_24 : gFw wsX5_addPart RX5 24 5 4 .int := ⟨RX5, TX5, 5, tyX5, rfl, by decide, in_X5_addPart_X5, by decide +kernel, tyX5_ok, nmX5, rfl, by decide +kernel⟩
def f_X5_addPart (a0 : Nat) (x1 : Int32) (h : gHp) : Option (Int32 × gHp) := if (h.1 a0 4) < 11 then if gIn (h.1 a0 4) 11 then if gIn ((gsI h (a0 + 1) (gN (h.1 a0 4)) x1).1 a0 4) 11 then if gIn ((gsI (gsI h (a0 + 1) (gN (h.1 a0 4)) x1) (a0 + 2) (gN ((gsI h (a0 + 1) (gN (h.1 a0 4)) x1).1 a0 4)) (-1)).1 a0 4) 11 then some (1 <<< ((((gsI (gsI (gsI (gsI h (a0 + 1) (gN (h.1 a0 4)) x1) (a0 + 2) (gN ((gsI h (a0 + 1) (gN (h.1 a0 4)) x1).1 a0 4)) (-1)) (a0 + 3) (gN ((gsI (gsI h (a0 + 1) (gN (h.1 a0 4)) x1) (a0 + 2) (gN ((gsI h (a0 + 1) (gN (h.1 a0 4)) x1).1 a0 4)) (-1)).1 a0 4)) (-1)) a0 4 (((gsI (gsI (gsI h (a0 + 1) (gN (h.1 a0 4)) x1) (a0 + 2) (gN ((gsI h (a0 + 1) (gN (h.1 a0 4)) x1).1 a0 4)) (-1)) (a0 + 3) (gN ((gsI (gsI h (a0 + 1) (gN (h.1 a0 4)) x1) (a0 + 2) (gN ((gsI h (a0 + 1) (gN (h.1 a0 4)) x1).1 a0 4)) (-1)).1 a0 4)) (-1)).1 a0 4) + 1)).1 a0 4) - 1) &&& 31), gsI (gsI (gsI (gsI h (a0 + 1) (gN (h.1 a0 4)) x1) (a0 + 2) (gN ((gsI h (a0 + 1) (gN (h.1 a0 4)) x1).1 a0 4)) (-1)) (a0 + 3) (gN ((gsI (gsI h (a0 + 1) (gN (h.1 a0 4)) x1) (a0 + 2) (gN ((gsI h (a0 + 1) (gN (h.1 a0 4)) x1).1 a0 4)) (-1)).1 a0 4)) (-1)) a0 4 (((gsI (gsI (gsI h (a0 + 1) (gN (h.1 a0 4)) x1) (a0 + 2) (gN ((gsI h (a0 + 1) (gN (h.1 a0 4)) x1).1 a0 4)) (-1)) (a0 + 3) (gN ((gsI (gsI h (a0 + 1) (gN (h.1 a0 4)) x1) (a0 + 2) (gN ((gsI h (a0 + 1) (gN (h.1 a0 4)) x1).1 a0 4)) (-1)).1 a0 4)) (-1)).1 a0 4) + 1)) else none else none else none else some (0, h)
set_option maxRecDepth 20000 in
set_option maxHeartbeats 4000000 in
theorem m_X5_addPart (w : gWd) (h : gHp) {a0 : Nat} (A0 : is_X5 w a0) (x1 : Int32) {o : Int32 × gHp} (hF : f_X5_addPart a0 x1 h = some o) : gMet w yX5_addPart wsX5_addPart rm_X5_addPart [.ref a0, .int x1] h (some (.int o.1)) o.2 := by
  refine gMet_of (cc := cX5_addPart) (maxL := 2) (ret := (some .int)) (fr := 0) (lo := 0) (own := RX5) [(0, .ref a0), (1, .int x1)] (by decide) rfl rfl (Nat.le_of_ble_eq_true rfl) rfl (Nat.le_refl _) (Nat.le_refl _) (fun g C E => ?_)
  rw [f_X5_addPart] at hF
  refine gx_aload_n C 0 (gDec_at D_X5_addPart 0 rfl) rfl rfl ?_
  refine gx_geti C fl_X5_addPart_24 (is_X5_sh A0) rfl (gDec_at D_X5_addPart 1 rfl) ?_
  refine gx_bipush C (v := 11) (gDec_at D_X5_addPart 2 rfl) (by decide) ?_
  refine gx_icmp_lt C 11 (gDec_at D_X5_addPart 3 rfl) (by decide) (fun c => ?_) (fun c => ?_)
  · replace hF := gPos c hF
    refine gx_aload_n C 0 (gDec_at D_X5_addPart 6 rfl) rfl rfl ?_
    refine gx_getr C fl_X5_addPart_9 (is_X5_sh A0) rfl (gDec_at D_X5_addPart 7 rfl) ?_
    refine gx_aload_n C 0 (gDec_at D_X5_addPart 8 rfl) rfl rfl ?_
    refine gx_geti C fl_X5_addPart_24 (is_X5_sh A0) rfl (gDec_at D_X5_addPart 9 rfl) ?_
    refine gx_iload_n C 1 (gDec_at D_X5_addPart 10 rfl) rfl rfl ?_
    obtain ⟨b1, hF⟩ := gGd hF
    refine gx_iastore C (is_X5_kind A0) b1 (gDec_at D_X5_addPart 11 rfl) ?_
    refine gx_aload_n C 0 (gDec_at D_X5_addPart 12 rfl) rfl rfl ?_
    refine gx_getr C fl_X5_addPart_15 (is_X5_sh A0) rfl (gDec_at D_X5_addPart 13 rfl) ?_
    refine gx_aload_n C 0 (gDec_at D_X5_addPart 14 rfl) rfl rfl ?_
    refine gx_geti C fl_X5_addPart_24 (is_X5_sh A0) rfl (gDec_at D_X5_addPart 15 rfl) ?_
    refine gx_iconst C (v := (-1)) (gDec_at D_X5_addPart 16 rfl) (by decide) ?_
    obtain ⟨b2, hF⟩ := gGd hF
    refine gx_iastore C (is_X5_around A0) b2 (gDec_at D_X5_addPart 17 rfl) ?_
    refine gx_aload_n C 0 (gDec_at D_X5_addPart 18 rfl) rfl rfl ?_
    refine gx_getr C fl_X5_addPart_18 (is_X5_sh A0) rfl (gDec_at D_X5_addPart 19 rfl) ?_
    refine gx_aload_n C 0 (gDec_at D_X5_addPart 20 rfl) rfl rfl ?_
    refine gx_geti C fl_X5_addPart_24 (is_X5_sh A0) rfl (gDec_at D_X5_addPart 21 rfl) ?_
    refine gx_iconst C (v := (-1)) (gDec_at D_X5_addPart 22 rfl) (by decide) ?_
    obtain ⟨b3, hF⟩ := gGd hF
    refine gx_iastore C (is_X5_letter A0) b3 (gDec_at D_X5_addPart 23 rfl) ?_
    refine gx_aload_n C 0 (gDec_at D_X5_addPart 24 rfl) rfl rfl ?_
    refine gx_dup C (gDec_at D_X5_addPart 25 rfl) rfl ?_
    refine gx_geti C fl_X5_addPart_24 (is_X5_sh A0) rfl (gDec_at D_X5_addPart 26 rfl) ?_
    refine gx_iconst C (v := 1) (gDec_at D_X5_addPart 27 rfl) (by decide) ?_
    refine gx_iadd C (gDec_at D_X5_addPart 28 rfl) ?_
    refine gx_putI C flw_X5_addPart_24 (is_X5_sh A0) rfl rfl rfl (gDec_at D_X5_addPart 29 rfl) ?_
    refine gx_iconst C (v := 1) (gDec_at D_X5_addPart 30 rfl) (by decide) ?_
    refine gx_aload_n C 0 (gDec_at D_X5_addPart 31 rfl) rfl rfl ?_
    refine gx_geti C fl_X5_addPart_24 (is_X5_sh A0) rfl (gDec_at D_X5_addPart 32 rfl) ?_
    refine gx_iconst C (v := 1) (gDec_at D_X5_addPart 33 rfl) (by decide) ?_
    refine gx_isub C (gDec_at D_X5_addPart 34 rfl) ?_
    refine gx_ishl C (gDec_at D_X5_addPart 35 rfl) ?_
    obtain rfl := Option.some.inj hF
    exact gx_iret C E (gDec_at D_X5_addPart 36 rfl)
  · replace hF := gNeg c hF
    refine gx_iconst C (v := 0) (gDec_at D_X5_addPart 4 rfl) (by decide) ?_
    obtain rfl := Option.some.inj hF
    exact gx_iret C E (gDec_at D_X5_addPart 5 rfl)
/-! LadderBench$Network.join -/
def rm_X5_join : Room := { frames := 1, cells := 0, slots := 0, locals := 21 }
set_option maxRecDepth 20000 in
theorem ggX5_join_J6_bitCount_0f7a4 : GoodIn wsX5_join wsJ6_bitCount_0f7a4 := goodIn_r _ [6, 7, 8, 9] (by decide +kernel) (by decide +kernel)
set_option maxRecDepth 20000 in
theorem gX5_join_J6_bitCount_0f7a4 : GoodIn wsX5_join (va_wsS RX5 32 yJ6_bitCount_0f7a4 wsJ6_bitCount_0f7a4) := goodIn_app (goodIn_of _ (by decide +kernel)) ggX5_join_J6_bitCount_0f7a4
set_option maxRecDepth 20000 in
theorem ggX5_join_X5_addPart : GoodIn wsX5_join wsX5_addPart := goodIn_r _ [14, 1, 15, 2, 16, 17, 18, 19, 20, 21] (by decide +kernel) (by decide +kernel)
set_option maxRecDepth 20000 in
theorem gX5_join_X5_addPart : GoodIn wsX5_join (wsV RX5 28 RX5 yX5_addPart wsX5_addPart) := goodIn_app (goodIn_of _ (by decide +kernel)) ggX5_join_X5_addPart
theorem hy_X5_join : yX5_join.cls = RX5 ∧ yX5_join.cls ≠ "java/lang/invoke/MethodHandle" ∧ yX5_join.cls ≠ "java/lang/invoke/VarHandle" ∧ (parseMethodDescriptor yX5_join.desc).map (fun d => d.parameters.length) = some 2 := by decide +kernel
set_option maxRecDepth 100000 in
theorem D_X5_join : gDec cX5_join [(0, (.iload_n 1, 1)), (1, (.invokestatic 32, 3)), (4, (.iconst 2, 1)), (5, (.if_icmp .ge 5, 3)), (8, (.iload_n 1, 1)), (9, (.ireturn, 1)), (10, (.aload_n 0, 1)), (11, (.iload_n 2, 1)), (12, (.invokevirtual 28, 3)), (15, (.istore_n 3, 1)), (16, (.iconst 0, 1)), (17, (.istore 4, 2)), (19, (.iload 4, 2)), (21, (.aload_n 0, 1)), (22, (.getfield 24, 3)), (25, (.iconst 1, 1)), (26, (.isub, 1)), (27, (.if_icmp .ge 32, 3)), (30, (.iload_n 1, 1)), (31, (.iload 4, 2)), (33, (.ishr, 1)), (34, (.iconst 1, 1)), (35, (.iand, 1)), (36, (.iconst 1, 1)), (37, (.if_icmp .ne 16, 3)), (40, (.aload_n 0, 1)), (41, (.getfield 15, 3)), (44, (.iload 4, 2)), (46, (.aload_n 0, 1)), (47, (.getfield 24, 3)), (50, (.iconst 1, 1)), (51, (.isub, 1)), (52, (.iastore, 1)), (53, (.iinc 4 1, 3)), (56, (.goto (-37), 3)), (59, (.iload_n 3, 1)), (60, (.ireturn, 1))] = true := by decide +kernel
set_option maxRecDepth 100000 in
theorem in_X5_join_X5 : ∀ x ∈ u_ws RX5 TX5 5, x ∈ wsX5_join := by decide +kernel
theorem fl_X5_join_24 : gF wsX5_join RX5 24 5 4 := ⟨RX5, TX5, 5, rfl, by decide, in_X5_join_X5, by decide +kernel⟩
theorem fl_X5_join_15 : gF wsX5_join RX5 15 5 1 := ⟨RX5, TX5, 5, rfl, by decide, in_X5_join_X5, by decide +kernel⟩
def f_X5_join_19 (a0 : Nat) (x1 : Int32) (x3 : Int32) : Nat → Int32 → gHp → Option (gHp)
  | 0, _, _ => none
  | n + 1, x4, h => if ((h.1 a0 4) - 1) ≤ x4 then some h else if ((x1 >>> (x4 &&& 31)) &&& 1) = 1 then if gIn x4 11 then f_X5_join_19 a0 x1 x3 n (x4 + 1) (gsI h (a0 + 2) (gN x4) ((h.1 a0 4) - 1)) else none else f_X5_join_19 a0 x1 x3 n (x4 + 1) h
set_option maxRecDepth 20000 in
set_option maxHeartbeats 4000000 in
theorem w_X5_join_19 {w : gWd} {g : gCx} (C : gC w g cX5_join wsX5_join RX5 5 1 21) {a0 : Nat} (A0 : is_X5 w a0) (x1 : Int32) (x3 : Int32)  {o : gHp} (hk : gX w g 5 o 59 [(3, .int x3)] []) : ∀ (n : Nat) (x4 : Int32) (h : gHp), f_X5_join_19 a0 x1 x3 n x4 h = some o → gX w g 5 h 19 [(0, .ref a0), (1, .int x1), (3, .int x3), (4, .int x4)] [] := by
  intro n
  induction n with
  | zero => intro _ _ hF; cases hF
  | succ n ih =>
    intro x4 h hF
    rw [f_X5_join_19] at hF
    refine gx_iload C 3 (gDec_at D_X5_join 12 rfl) rfl ?_
    refine gx_aload_n C 0 (gDec_at D_X5_join 13 rfl) rfl rfl ?_
    refine gx_geti C fl_X5_join_24 (is_X5_sh A0) rfl (gDec_at D_X5_join 14 rfl) ?_
    refine gx_iconst C (v := 1) (gDec_at D_X5_join 15 rfl) (by decide) ?_
    refine gx_isub C (gDec_at D_X5_join 16 rfl) ?_
    refine gx_icmp_ge C 59 (gDec_at D_X5_join 17 rfl) (by decide) (fun c => ?_) (fun c => ?_)
    · replace hF := gPos c hF
      obtain rfl := Option.some.inj hF
      exact gx_sub [2] rfl hk
    · replace hF := gNeg c hF
      refine gx_iload_n C 1 (gDec_at D_X5_join 18 rfl) rfl rfl ?_
      refine gx_iload C 3 (gDec_at D_X5_join 19 rfl) rfl ?_
      refine gx_ishr C (gDec_at D_X5_join 20 rfl) ?_
      refine gx_iconst C (v := 1) (gDec_at D_X5_join 21 rfl) (by decide) ?_
      refine gx_iand C (gDec_at D_X5_join 22 rfl) ?_
      refine gx_iconst C (v := 1) (gDec_at D_X5_join 23 rfl) (by decide) ?_
      refine gx_icmp_ne C 53 (gDec_at D_X5_join 24 rfl) (by decide) (fun c => ?_) (fun c => ?_)
      · replace hF := gNeg c hF
        refine gx_iinc C (j := 3) (v := x4 + 1) (lv' := [(4, .int (x4 + 1)), (0, .ref a0), (1, .int x1), (3, .int x3)]) (gDec_at D_X5_join 33 rfl) rfl (by rfl) (Nat.le_of_ble_eq_true rfl) rfl ?_
        refine gx_goto C 19 (gDec_at D_X5_join 34 rfl) (by decide) ?_
        exact gx_sub [1, 2, 3, 0] rfl (ih (x4 + 1) h hF)
      · replace hF := gPos c hF
        refine gx_aload_n C 0 (gDec_at D_X5_join 25 rfl) rfl rfl ?_
        refine gx_getr C fl_X5_join_15 (is_X5_sh A0) rfl (gDec_at D_X5_join 26 rfl) ?_
        refine gx_iload C 3 (gDec_at D_X5_join 27 rfl) rfl ?_
        refine gx_aload_n C 0 (gDec_at D_X5_join 28 rfl) rfl rfl ?_
        refine gx_geti C fl_X5_join_24 (is_X5_sh A0) rfl (gDec_at D_X5_join 29 rfl) ?_
        refine gx_iconst C (v := 1) (gDec_at D_X5_join 30 rfl) (by decide) ?_
        refine gx_isub C (gDec_at D_X5_join 31 rfl) ?_
        obtain ⟨b5, hF⟩ := gGd hF
        refine gx_iastore C (is_X5_around A0) b5 (gDec_at D_X5_join 32 rfl) ?_
        refine gx_iinc C (j := 3) (v := x4 + 1) (lv' := [(4, .int (x4 + 1)), (0, .ref a0), (1, .int x1), (3, .int x3)]) (gDec_at D_X5_join 33 rfl) rfl (by rfl) (Nat.le_of_ble_eq_true rfl) rfl ?_
        refine gx_goto C 19 (gDec_at D_X5_join 34 rfl) (by decide) ?_
        exact gx_sub [1, 2, 3, 0] rfl (ih (x4 + 1) (gsI h (a0 + 2) (gN x4) ((h.1 a0 4) - 1)) hF)
def f_X5_join (a0 : Nat) (x1 : Int32) (x2 : Int32) (h : gHp) : Option (Int32 × gHp) := (f_J6_bitCount_0f7a4 x1 h).bind fun v2 => if 2 ≤ v2 then (f_X5_addPart a0 x2 h).bind fun v4 => (f_X5_join_19 a0 x1 v4.1 gFuel 0 v4.2).bind fun v6 => some (v4.1, v6) else some (x1, h)
set_option maxRecDepth 20000 in
set_option maxHeartbeats 4000000 in
theorem m_X5_join (w : gWd) (h : gHp) {a0 : Nat} (A0 : is_X5 w a0) (x1 : Int32) (x2 : Int32) {o : Int32 × gHp} (hF : f_X5_join a0 x1 x2 h = some o) : gMet w yX5_join wsX5_join rm_X5_join [.ref a0, .int x1, .int x2] h (some (.int o.1)) o.2 := by
  refine gMet_of (cc := cX5_join) (maxL := 5) (ret := (some .int)) (fr := 1) (lo := 21) (own := RX5) [(0, .ref a0), (1, .int x1), (2, .int x2)] (by decide) rfl rfl (Nat.le_of_ble_eq_true rfl) rfl (Nat.le_refl _) (Nat.le_refl _) (fun g C E => ?_)
  rw [f_X5_join] at hF
  refine gx_iload_n C 1 (gDec_at D_X5_join 0 rfl) rfl rfl ?_
  obtain ⟨v2, hv1, hF⟩ := gBind hF
  refine gx_callS1 C (st := []) 1 [.int x1] (m_J6_bitCount_0f7a4 w h x1 hv1) gX5_join_J6_bitCount_0f7a4 rfl rfl rfl hy_J6_bitCount_0f7a4 (Nat.le_of_ble_eq_true rfl) (Nat.le_of_ble_eq_true rfl) rfl rfl (Nat.le_of_ble_eq_true rfl) (gDec_at D_X5_join 1 rfl) ?_
  refine gx_iconst C (v := 2) (gDec_at D_X5_join 2 rfl) (by decide) ?_
  refine gx_icmp_ge C 10 (gDec_at D_X5_join 3 rfl) (by decide) (fun c => ?_) (fun c => ?_)
  · replace hF := gPos c hF
    refine gx_aload_n C 0 (gDec_at D_X5_join 6 rfl) rfl rfl ?_
    refine gx_iload_n C 2 (gDec_at D_X5_join 7 rfl) rfl rfl ?_
    obtain ⟨v4, hv3, hF⟩ := gBind hF
    refine gx_callV1 C (st := []) 1 [.int x2] (m_X5_addPart w h A0 x2 hv3) gX5_join_X5_addPart rfl rfl rfl hy_X5_addPart (Nat.le_of_ble_eq_true rfl) (Nat.le_of_ble_eq_true rfl) (is_X5_sh A0) rfl rfl rfl (Nat.le_of_ble_eq_true rfl) (gDec_at D_X5_join 8 rfl) ?_
    refine gx_istore_n C (lv' := [(3, .int v4.1), (0, .ref a0), (1, .int x1), (2, .int x2)]) (gDec_at D_X5_join 9 rfl) rfl (Nat.le_of_ble_eq_true rfl) rfl ?_
    refine gx_iconst C (v := 0) (gDec_at D_X5_join 10 rfl) (by decide) ?_
    refine gx_istore C (lv' := [(4, .int 0), (3, .int v4.1), (0, .ref a0), (1, .int x1), (2, .int x2)]) (gDec_at D_X5_join 11 rfl) (Nat.le_of_ble_eq_true rfl) rfl ?_
    obtain ⟨v6, hv7, hF⟩ := gBind hF
    have k8 : gX w g 5 v6 59 [(3, .int v4.1)] [] := by
      refine gx_iload_n C 0 (gDec_at D_X5_join 35 rfl) rfl rfl ?_
      obtain rfl := Option.some.inj hF
      exact gx_iret C E (gDec_at D_X5_join 36 rfl)
    exact gx_sub [2, 3, 1, 0] rfl (w_X5_join_19 C A0 x1 v4.1 k8 gFuel 0 v4.2 hv7)
  · replace hF := gNeg c hF
    refine gx_iload_n C 1 (gDec_at D_X5_join 4 rfl) rfl rfl ?_
    obtain rfl := Option.some.inj hF
    exact gx_iret C E (gDec_at D_X5_join 5 rfl)
/-! LadderBench$Network.addArm -/
def rm_X5_addArm : Room := { frames := 1, cells := 0, slots := 0, locals := 21 }
set_option maxRecDepth 20000 in
theorem ggX5_addArm_X5_addPart : GoodIn wsX5_addArm wsX5_addPart := goodIn_r _ [8, 2, 9, 10, 3, 11, 12, 13, 14, 15] (by decide +kernel) (by decide +kernel)
set_option maxRecDepth 20000 in
theorem gX5_addArm_X5_addPart : GoodIn wsX5_addArm (wsV RX5 28 RX5 yX5_addPart wsX5_addPart) := goodIn_app (goodIn_of _ (by decide +kernel)) ggX5_addArm_X5_addPart
theorem hy_X5_addArm : yX5_addArm.cls = RX5 ∧ yX5_addArm.cls ≠ "java/lang/invoke/MethodHandle" ∧ yX5_addArm.cls ≠ "java/lang/invoke/VarHandle" ∧ (parseMethodDescriptor yX5_addArm.desc).map (fun d => d.parameters.length) = some 1 := by decide +kernel
set_option maxRecDepth 100000 in
theorem D_X5_addArm : gDec cX5_addArm [(0, (.aload_n 0, 1)), (1, (.iconst 0, 1)), (2, (.invokevirtual 28, 3)), (5, (.istore_n 2, 1)), (6, (.iload_n 2, 1)), (7, (.ifCond .eq 37, 3)), (10, (.iload_n 1, 1)), (11, (.ifCond .lt 33, 3)), (14, (.iload_n 1, 1)), (15, (.bipush 6, 2)), (17, (.if_icmp .ge 27, 3)), (20, (.aload_n 0, 1)), (21, (.getfield 21, 3)), (24, (.iload_n 1, 1)), (25, (.aload_n 0, 1)), (26, (.getfield 24, 3)), (29, (.iconst 1, 1)), (30, (.isub, 1)), (31, (.iastore, 1)), (32, (.aload_n 0, 1)), (33, (.getfield 18, 3)), (36, (.aload_n 0, 1)), (37, (.getfield 24, 3)), (40, (.iconst 1, 1)), (41, (.isub, 1)), (42, (.iload_n 1, 1)), (43, (.iastore, 1)), (44, (.iload_n 2, 1)), (45, (.ireturn, 1))] = true := by decide +kernel
set_option maxRecDepth 100000 in
theorem in_X5_addArm_X5 : ∀ x ∈ u_ws RX5 TX5 5, x ∈ wsX5_addArm := by decide +kernel
theorem fl_X5_addArm_21 : gF wsX5_addArm RX5 21 5 3 := ⟨RX5, TX5, 5, rfl, by decide, in_X5_addArm_X5, by decide +kernel⟩
theorem fl_X5_addArm_24 : gF wsX5_addArm RX5 24 5 4 := ⟨RX5, TX5, 5, rfl, by decide, in_X5_addArm_X5, by decide +kernel⟩
theorem fl_X5_addArm_18 : gF wsX5_addArm RX5 18 5 2 := ⟨RX5, TX5, 5, rfl, by decide, in_X5_addArm_X5, by decide +kernel⟩
def f_X5_addArm (a0 : Nat) (x1 : Int32) (h : gHp) : Option (Int32 × gHp) := (f_X5_addPart a0 0 h).bind fun v2 => if v2.1 = 0 then some (v2.1, v2.2) else if x1 < 0 then some (v2.1, v2.2) else if 6 ≤ x1 then some (v2.1, v2.2) else if gIn x1 6 then if gIn (((gsI v2.2 (a0 + 4) (gN x1) ((v2.2.1 a0 4) - 1)).1 a0 4) - 1) 11 then some (v2.1, gsI (gsI v2.2 (a0 + 4) (gN x1) ((v2.2.1 a0 4) - 1)) (a0 + 3) (gN (((gsI v2.2 (a0 + 4) (gN x1) ((v2.2.1 a0 4) - 1)).1 a0 4) - 1)) x1) else none else none
set_option maxRecDepth 20000 in
set_option maxHeartbeats 4000000 in
theorem m_X5_addArm (w : gWd) (h : gHp) {a0 : Nat} (A0 : is_X5 w a0) (x1 : Int32) {o : Int32 × gHp} (hF : f_X5_addArm a0 x1 h = some o) : gMet w yX5_addArm wsX5_addArm rm_X5_addArm [.ref a0, .int x1] h (some (.int o.1)) o.2 := by
  refine gMet_of (cc := cX5_addArm) (maxL := 3) (ret := (some .int)) (fr := 1) (lo := 21) (own := RX5) [(0, .ref a0), (1, .int x1)] (by decide) rfl rfl (Nat.le_of_ble_eq_true rfl) rfl (Nat.le_refl _) (Nat.le_refl _) (fun g C E => ?_)
  rw [f_X5_addArm] at hF
  refine gx_aload_n C 0 (gDec_at D_X5_addArm 0 rfl) rfl rfl ?_
  refine gx_iconst C (v := 0) (gDec_at D_X5_addArm 1 rfl) (by decide) ?_
  obtain ⟨v2, hv1, hF⟩ := gBind hF
  refine gx_callV1 C (st := []) 1 [.int 0] (m_X5_addPart w h A0 0 hv1) gX5_addArm_X5_addPart rfl rfl rfl hy_X5_addPart (Nat.le_of_ble_eq_true rfl) (Nat.le_of_ble_eq_true rfl) (is_X5_sh A0) rfl rfl rfl (Nat.le_of_ble_eq_true rfl) (gDec_at D_X5_addArm 2 rfl) ?_
  refine gx_istore_n C (lv' := [(2, .int v2.1), (0, .ref a0), (1, .int x1)]) (gDec_at D_X5_addArm 3 rfl) rfl (Nat.le_of_ble_eq_true rfl) rfl ?_
  refine gx_iload_n C 0 (gDec_at D_X5_addArm 4 rfl) rfl rfl ?_
  refine gx_if_eq C 44 (gDec_at D_X5_addArm 5 rfl) (by decide) (fun c => ?_) (fun c => ?_)
  · replace hF := gPos c hF
    refine gx_iload_n C 0 (gDec_at D_X5_addArm 27 rfl) rfl rfl ?_
    obtain rfl := Option.some.inj hF
    exact gx_iret C E (gDec_at D_X5_addArm 28 rfl)
  · replace hF := gNeg c hF
    refine gx_iload_n C 2 (gDec_at D_X5_addArm 6 rfl) rfl rfl ?_
    refine gx_if_lt C 44 (gDec_at D_X5_addArm 7 rfl) (by decide) (fun c => ?_) (fun c => ?_)
    · replace hF := gPos c hF
      refine gx_iload_n C 0 (gDec_at D_X5_addArm 27 rfl) rfl rfl ?_
      obtain rfl := Option.some.inj hF
      exact gx_iret C E (gDec_at D_X5_addArm 28 rfl)
    · replace hF := gNeg c hF
      refine gx_iload_n C 2 (gDec_at D_X5_addArm 8 rfl) rfl rfl ?_
      refine gx_bipush C (v := 6) (gDec_at D_X5_addArm 9 rfl) (by decide) ?_
      refine gx_icmp_ge C 44 (gDec_at D_X5_addArm 10 rfl) (by decide) (fun c => ?_) (fun c => ?_)
      · replace hF := gPos c hF
        refine gx_iload_n C 0 (gDec_at D_X5_addArm 27 rfl) rfl rfl ?_
        obtain rfl := Option.some.inj hF
        exact gx_iret C E (gDec_at D_X5_addArm 28 rfl)
      · replace hF := gNeg c hF
        refine gx_aload_n C 1 (gDec_at D_X5_addArm 11 rfl) rfl rfl ?_
        refine gx_getr C fl_X5_addArm_21 (is_X5_sh A0) rfl (gDec_at D_X5_addArm 12 rfl) ?_
        refine gx_iload_n C 2 (gDec_at D_X5_addArm 13 rfl) rfl rfl ?_
        refine gx_aload_n C 1 (gDec_at D_X5_addArm 14 rfl) rfl rfl ?_
        refine gx_geti C fl_X5_addArm_24 (is_X5_sh A0) rfl (gDec_at D_X5_addArm 15 rfl) ?_
        refine gx_iconst C (v := 1) (gDec_at D_X5_addArm 16 rfl) (by decide) ?_
        refine gx_isub C (gDec_at D_X5_addArm 17 rfl) ?_
        obtain ⟨b3, hF⟩ := gGd hF
        refine gx_iastore C (is_X5_partOfArm A0) b3 (gDec_at D_X5_addArm 18 rfl) ?_
        refine gx_aload_n C 1 (gDec_at D_X5_addArm 19 rfl) rfl rfl ?_
        refine gx_getr C fl_X5_addArm_18 (is_X5_sh A0) rfl (gDec_at D_X5_addArm 20 rfl) ?_
        refine gx_aload_n C 1 (gDec_at D_X5_addArm 21 rfl) rfl rfl ?_
        refine gx_geti C fl_X5_addArm_24 (is_X5_sh A0) rfl (gDec_at D_X5_addArm 22 rfl) ?_
        refine gx_iconst C (v := 1) (gDec_at D_X5_addArm 23 rfl) (by decide) ?_
        refine gx_isub C (gDec_at D_X5_addArm 24 rfl) ?_
        refine gx_iload_n C 2 (gDec_at D_X5_addArm 25 rfl) rfl rfl ?_
        obtain ⟨b4, hF⟩ := gGd hF
        refine gx_iastore C (is_X5_letter A0) b4 (gDec_at D_X5_addArm 26 rfl) ?_
        refine gx_iload_n C 0 (gDec_at D_X5_addArm 27 rfl) rfl rfl ?_
        obtain rfl := Option.some.inj hF
        exact gx_iret C E (gDec_at D_X5_addArm 28 rfl)
/-! LadderBench$Line.findBlank -/
def rm_X4_findBlank : Room := { frames := 0, cells := 0, slots := 0, locals := 0 }
theorem hy_X4_findBlank : yX4_findBlank.cls = RX4 ∧ yX4_findBlank.cls ≠ "java/lang/invoke/MethodHandle" ∧ yX4_findBlank.cls ≠ "java/lang/invoke/VarHandle" ∧ (parseMethodDescriptor yX4_findBlank.desc).map (fun d => d.parameters.length) = some 1 := by decide +kernel
set_option maxRecDepth 100000 in
theorem D_X4_findBlank : gDec cX4_findBlank [(0, (.iload_n 1, 1)), (1, (.istore_n 2, 1)), (2, (.iload_n 2, 1)), (3, (.aload_n 0, 1)), (4, (.getfield 15, 3)), (7, (.if_icmp .ge 20, 3)), (10, (.aload_n 0, 1)), (11, (.getfield 9, 3)), (14, (.iload_n 2, 1)), (15, (.caload, 1)), (16, (.bipush 32, 2)), (18, (.if_icmp .eq 9, 3)), (21, (.iinc 2 1, 3)), (24, (.goto (-22), 3)), (27, (.iload_n 2, 1)), (28, (.ireturn, 1))] = true := by decide +kernel
set_option maxRecDepth 100000 in
theorem in_X4_findBlank_X4 : ∀ x ∈ u_ws RX4 TX4 2, x ∈ wsX4_findBlank := by decide +kernel
theorem fl_X4_findBlank_15 : gF wsX4_findBlank RX4 15 4 1 := ⟨RX4, TX4, 2, rfl, by decide, in_X4_findBlank_X4, by decide +kernel⟩
theorem fl_X4_findBlank_9 : gF wsX4_findBlank RX4 9 4 0 := ⟨RX4, TX4, 2, rfl, by decide, in_X4_findBlank_X4, by decide +kernel⟩
def f_X4_findBlank_2 (a0 : Nat) (h : gHp) : Nat → Int32 → Option (Int32)
  | 0, _ => none
  | n + 1, x2 => if (h.1 a0 1) ≤ x2 then some x2 else if gIn x2 40 then if (h.1 (a0 + 1) (gN x2)) = 32 then some x2 else f_X4_findBlank_2 a0 h n (x2 + 1) else none
set_option maxRecDepth 20000 in
set_option maxHeartbeats 4000000 in
theorem w_X4_findBlank_2 {w : gWd} {g : gCx} (C : gC w g cX4_findBlank wsX4_findBlank RX4 3 0 0) {a0 : Nat} (A0 : is_X4 w a0) (h : gHp)  {o : Int32} (hk : gX w g 3 h 27 [(2, .int o)] []) : ∀ (n : Nat) (x2 : Int32), f_X4_findBlank_2 a0 h n x2 = some o → gX w g 3 h 2 [(0, .ref a0), (2, .int x2)] [] := by
  intro n
  induction n with
  | zero => intro _ hF; cases hF
  | succ n ih =>
    intro x2 hF
    rw [f_X4_findBlank_2] at hF
    refine gx_iload_n C 1 (gDec_at D_X4_findBlank 2 rfl) rfl rfl ?_
    refine gx_aload_n C 0 (gDec_at D_X4_findBlank 3 rfl) rfl rfl ?_
    refine gx_geti C fl_X4_findBlank_15 (is_X4_sh A0) rfl (gDec_at D_X4_findBlank 4 rfl) ?_
    refine gx_icmp_ge C 27 (gDec_at D_X4_findBlank 5 rfl) (by decide) (fun c => ?_) (fun c => ?_)
    · replace hF := gPos c hF
      obtain rfl := Option.some.inj hF
      exact gx_sub [1] rfl hk
    · replace hF := gNeg c hF
      refine gx_aload_n C 0 (gDec_at D_X4_findBlank 6 rfl) rfl rfl ?_
      refine gx_getr C fl_X4_findBlank_9 (is_X4_sh A0) rfl (gDec_at D_X4_findBlank 7 rfl) ?_
      refine gx_iload_n C 1 (gDec_at D_X4_findBlank 8 rfl) rfl rfl ?_
      obtain ⟨b1, hF⟩ := gGd hF
      refine gx_caload C (is_X4_characters A0) b1 (gDec_at D_X4_findBlank 9 rfl) ?_
      refine gx_bipush C (v := 32) (gDec_at D_X4_findBlank 10 rfl) (by decide) ?_
      refine gx_icmp_eq C 27 (gDec_at D_X4_findBlank 11 rfl) (by decide) (fun c => ?_) (fun c => ?_)
      · replace hF := gPos c hF
        obtain rfl := Option.some.inj hF
        exact gx_sub [1] rfl hk
      · replace hF := gNeg c hF
        refine gx_iinc C (j := 1) (v := x2 + 1) (lv' := [(2, .int (x2 + 1)), (0, .ref a0)]) (gDec_at D_X4_findBlank 12 rfl) rfl (by rfl) (Nat.le_of_ble_eq_true rfl) rfl ?_
        refine gx_goto C 2 (gDec_at D_X4_findBlank 13 rfl) (by decide) ?_
        exact gx_sub [1, 0] rfl (ih (x2 + 1) hF)
def f_X4_findBlank (a0 : Nat) (x1 : Int32) (h : gHp) : Option (Int32) := (f_X4_findBlank_2 a0 h gFuel x1).bind fun v2 => some v2
set_option maxRecDepth 20000 in
set_option maxHeartbeats 4000000 in
theorem m_X4_findBlank (w : gWd) (h : gHp) {a0 : Nat} (A0 : is_X4 w a0) (x1 : Int32) {o : Int32} (hF : f_X4_findBlank a0 x1 h = some o) : gMet w yX4_findBlank wsX4_findBlank rm_X4_findBlank [.ref a0, .int x1] h (some (.int o)) h := by
  refine gMet_of (cc := cX4_findBlank) (maxL := 3) (ret := (some .int)) (fr := 0) (lo := 0) (own := RX4) [(0, .ref a0), (1, .int x1)] (by decide) rfl rfl (Nat.le_of_ble_eq_true rfl) rfl (Nat.le_refl _) (Nat.le_refl _) (fun g C E => ?_)
  rw [f_X4_findBlank] at hF
  refine gx_iload_n C 1 (gDec_at D_X4_findBlank 0 rfl) rfl rfl ?_
  refine gx_istore_n C (lv' := [(2, .int x1), (0, .ref a0), (1, .int x1)]) (gDec_at D_X4_findBlank 1 rfl) rfl (Nat.le_of_ble_eq_true rfl) rfl ?_
  obtain ⟨v2, hv3, hF⟩ := gBind hF
  have k4 : gX w g 3 h 27 [(2, .int v2)] [] := by
    refine gx_iload_n C 0 (gDec_at D_X4_findBlank 14 rfl) rfl rfl ?_
    obtain rfl := Option.some.inj hF
    exact gx_iret C E (gDec_at D_X4_findBlank 15 rfl)
  exact gx_sub [1, 0] rfl (w_X4_findBlank_2 C A0 h k4 gFuel x1 hv3)
