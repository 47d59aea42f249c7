/-! LadderBenchModel.laysPart -/
def rm_X10_laysPart : Room := { frames := 0, cells := 0, slots := 0, locals := 0 }
theorem hy_X10_laysPart : yX10_laysPart.cls = RX10 ∧ yX10_laysPart.cls ≠ "java/lang/invoke/MethodHandle" ∧ yX10_laysPart.cls ≠ "java/lang/invoke/VarHandle" ∧ (parseMethodDescriptor yX10_laysPart.desc).map (fun d => d.parameters.length) = some 3 := by decide +kernel
set_option maxRecDepth 100000 in
theorem D_X10_laysPart : gDec cX10_laysPart [(0, (.aload_n 0, 1)), (1, (.getfield 71, 3)), (4, (.istore 4, 2)), (6, (.aload_n 0, 1)), (7, (.getfield 23, 3)), (10, (.iconst 5, 1)), (11, (.iload 4, 2)), (13, (.imul, 1)), (14, (.iconst 0, 1)), (15, (.iadd, 1)), (16, (.iload_n 1, 1)), (17, (.iastore, 1)), (18, (.aload_n 0, 1)), (19, (.getfield 23, 3)), (22, (.iconst 5, 1)), (23, (.iload 4, 2)), (25, (.imul, 1)), (26, (.iconst 1, 1)), (27, (.iadd, 1)), (28, (.bipush (-4), 2)), (30, (.iastore, 1)), (31, (.aload_n 0, 1)), (32, (.getfield 23, 3)), (35, (.iconst 5, 1)), (36, (.iload 4, 2)), (38, (.imul, 1)), (39, (.iconst 2, 1)), (40, (.iadd, 1)), (41, (.iload_n 2, 1)), (42, (.iastore, 1)), (43, (.aload_n 0, 1)), (44, (.getfield 23, 3)), (47, (.iconst 5, 1)), (48, (.iload 4, 2)), (50, (.imul, 1)), (51, (.iconst 3, 1)), (52, (.iadd, 1)), (53, (.iload_n 3, 1)), (54, (.iastore, 1)), (55, (.aload_n 0, 1)), (56, (.getfield 23, 3)), (59, (.iconst 5, 1)), (60, (.iload 4, 2)), (62, (.imul, 1)), (63, (.iconst 4, 1)), (64, (.iadd, 1)), (65, (.iload_n 1, 1)), (66, (.ifCond .ne 7, 3)), (69, (.iconst 1, 1)), (70, (.goto 4, 3)), (73, (.iconst 0, 1)), (74, (.iastore, 1)), (75, (.iconst 0, 1)), (76, (.istore 5, 2)), (78, (.iload 5, 2)), (80, (.iload_n 3, 1)), (81, (.if_icmp .ge 39, 3)), (84, (.aload_n 0, 1)), (85, (.dup, 1)), (86, (.getfield 74, 3)), (89, (.iconst 1, 1)), (90, (.isub, 1)), (91, (.putfield 74, 3)), (94, (.aload_n 0, 1)), (95, (.getfield 23, 3)), (98, (.iconst 5, 1)), (99, (.aload_n 0, 1)), (100, (.getfield 27, 3)), (103, (.aload_n 0, 1)), (104, (.getfield 74, 3)), (107, (.iaload, 1)), (108, (.imul, 1)), (109, (.iconst 1, 1)), (110, (.iadd, 1)), (111, (.iload 4, 2)), (113, (.iastore, 1)), (114, (.iinc 5 1, 3)), (117, (.goto (-39), 3)), (120, (.aload_n 0, 1)), (121, (.getfield 27, 3)), (124, (.aload_n 0, 1)), (125, (.getfield 74, 3)), (128, (.iload 4, 2)), (130, (.iastore, 1)), (131, (.aload_n 0, 1)), (132, (.dup, 1)), (133, (.getfield 74, 3)), (136, (.iconst 1, 1)), (137, (.iadd, 1)), (138, (.putfield 74, 3)), (141, (.aload_n 0, 1)), (142, (.dup, 1)), (143, (.getfield 71, 3)), (146, (.iconst 1, 1)), (147, (.iadd, 1)), (148, (.putfield 71, 3)), (151, (.return_, 1))] = true := by decide +kernel
set_option maxRecDepth 100000 in
theorem in_X10_laysPart_X10 : ∀ x ∈ u_ws RX10 TX10 26, x ∈ wsX10_laysPart := by decide +kernel
theorem fl_X10_laysPart_71 : gF wsX10_laysPart RX10 71 10 8 := ⟨RX10, TX10, 26, rfl, by decide, in_X10_laysPart_X10, by decide +kernel⟩
theorem fl_X10_laysPart_23 : gF wsX10_laysPart RX10 23 10 9 := ⟨RX10, TX10, 26, rfl, by decide, in_X10_laysPart_X10, by decide +kernel⟩
theorem fl_X10_laysPart_74 : gF wsX10_laysPart RX10 74 10 11 := ⟨RX10, TX10, 26, rfl, by decide, in_X10_laysPart_X10, by decide +kernel⟩
theorem flw_X10_laysPart_74 : gFw wsX10_laysPart RX10 74 10 11 .int := ⟨RX10, TX10, 26, tyX10, rfl, by decide, in_X10_laysPart_X10, by decide +kernel, tyX10_ok, nmX10, rfl, by decide +kernel⟩
theorem fl_X10_laysPart_27 : gF wsX10_laysPart RX10 27 10 10 := ⟨RX10, TX10, 26, rfl, by decide, in_X10_laysPart_X10, by decide +kernel⟩
theorem flw_X10_laysPart_71 : gFw wsX10_laysPart RX10 71 10 8 .int := ⟨RX10, TX10, 26, tyX10, rfl, by decide, in_X10_laysPart_X10, by decide +kernel, tyX10_ok, nmX10, rfl, by decide +kernel⟩
def f_X10_laysPart_78 (a0 : Nat) (x3 : Int32) (x4 : Int32) : Nat → Int32 → gHp → Option (gHp)
  | 0, _, _ => none
  | n + 1, x5, h => if x3 ≤ x5 then some h else if gIn ((gsI h a0 11 ((h.1 a0 11) - 1)).1 a0 11) 12 then if gIn ((5 * ((gsI h a0 11 ((h.1 a0 11) - 1)).1 (a0 + 6) (gN ((gsI h a0 11 ((h.1 a0 11) - 1)).1 a0 11)))) + 1) 60 then f_X10_laysPart_78 a0 x3 x4 n (x5 + 1) (gsI (gsI h a0 11 ((h.1 a0 11) - 1)) (a0 + 5) (gN ((5 * ((gsI h a0 11 ((h.1 a0 11) - 1)).1 (a0 + 6) (gN ((gsI h a0 11 ((h.1 a0 11) - 1)).1 a0 11)))) + 1)) x4) else none else none
set_option maxRecDepth 20000 in
set_option maxHeartbeats 4000000 in
theorem w_X10_laysPart_78 {w : gWd} {g : gCx} (C : gC w g cX10_laysPart wsX10_laysPart RX10 6 0 0) {a0 : Nat} (A0 : is_X10 w a0) (x3 : Int32) (x4 : Int32)  {o : gHp} (hk : gX w g 6 o 120 [(0, .ref a0), (4, .int x4)] []) : ∀ (n : Nat) (x5 : Int32) (h : gHp), f_X10_laysPart_78 a0 x3 x4 n x5 h = some o → gX w g 6 h 78 [(0, .ref a0), (3, .int x3), (4, .int x4), (5, .int x5)] [] := by
  intro n
  induction n with
  | zero => intro _ _ hF; cases hF
  | succ n ih =>
    intro x5 h hF
    rw [f_X10_laysPart_78] at hF
    refine gx_iload C 3 (gDec_at D_X10_laysPart 54 rfl) rfl ?_
    refine gx_iload_n C 1 (gDec_at D_X10_laysPart 55 rfl) rfl rfl ?_
    refine gx_icmp_ge C 120 (gDec_at D_X10_laysPart 56 rfl) (by decide) (fun c => ?_) (fun c => ?_)
    · replace hF := gPos c hF
      obtain rfl := Option.some.inj hF
      exact gx_sub [0, 2] rfl hk
    · replace hF := gNeg c hF
      refine gx_aload_n C 0 (gDec_at D_X10_laysPart 57 rfl) rfl rfl ?_
      refine gx_dup C (gDec_at D_X10_laysPart 58 rfl) rfl ?_
      refine gx_geti C fl_X10_laysPart_74 (is_X10_sh A0) rfl (gDec_at D_X10_laysPart 59 rfl) ?_
      refine gx_iconst C (v := 1) (gDec_at D_X10_laysPart 60 rfl) (by decide) ?_
      refine gx_isub C (gDec_at D_X10_laysPart 61 rfl) ?_
      refine gx_putI C flw_X10_laysPart_74 (is_X10_sh A0) rfl rfl rfl (gDec_at D_X10_laysPart 62 rfl) ?_
      refine gx_aload_n C 0 (gDec_at D_X10_laysPart 63 rfl) rfl rfl ?_
      refine gx_getr C fl_X10_laysPart_23 (is_X10_sh A0) rfl (gDec_at D_X10_laysPart 64 rfl) ?_
      refine gx_iconst C (v := 5) (gDec_at D_X10_laysPart 65 rfl) (by decide) ?_
      refine gx_aload_n C 0 (gDec_at D_X10_laysPart 66 rfl) rfl rfl ?_
      refine gx_getr C fl_X10_laysPart_27 (is_X10_sh A0) rfl (gDec_at D_X10_laysPart 67 rfl) ?_
      refine gx_aload_n C 0 (gDec_at D_X10_laysPart 68 rfl) rfl rfl ?_
      refine gx_geti C fl_X10_laysPart_74 (is_X10_sh A0) rfl (gDec_at D_X10_laysPart 69 rfl) ?_
      obtain ⟨b9, hF⟩ := gGd hF
      refine gx_iaload C (is_X10_pile A0) b9 (gDec_at D_X10_laysPart 70 rfl) ?_
      refine gx_imul C (gDec_at D_X10_laysPart 71 rfl) ?_
      refine gx_iconst C (v := 1) (gDec_at D_X10_laysPart 72 rfl) (by decide) ?_
      refine gx_iadd C (gDec_at D_X10_laysPart 73 rfl) ?_
      refine gx_iload C 2 (gDec_at D_X10_laysPart 74 rfl) rfl ?_
      obtain ⟨b10, hF⟩ := gGd hF
      refine gx_iastore C (is_X10_read A0) b10 (gDec_at D_X10_laysPart 75 rfl) ?_
      refine gx_iinc C (j := 3) (v := x5 + 1) (lv' := [(5, .int (x5 + 1)), (0, .ref a0), (3, .int x3), (4, .int x4)]) (gDec_at D_X10_laysPart 76 rfl) rfl (by rfl) (Nat.le_of_ble_eq_true rfl) rfl ?_
      refine gx_goto C 78 (gDec_at D_X10_laysPart 77 rfl) (by decide) ?_
      exact gx_sub [1, 2, 3, 0] rfl (ih (x5 + 1) (gsI (gsI h a0 11 ((h.1 a0 11) - 1)) (a0 + 5) (gN ((5 * ((gsI h a0 11 ((h.1 a0 11) - 1)).1 (a0 + 6) (gN ((gsI h a0 11 ((h.1 a0 11) - 1)).1 a0 11)))) + 1)) x4) hF)
def f_X10_laysPart (a0 : Nat) (x1 : Int32) (x2 : Int32) (x3 : Int32) (h : gHp) : Option (gHp) := if gIn ((5 * (h.1 a0 8)) + 0) 60 then if gIn ((5 * (h.1 a0 8)) + 1) 60 then if gIn ((5 * (h.1 a0 8)) + 2) 60 then if gIn ((5 * (h.1 a0 8)) + 3) 60 then (if x1 = 0 then some 1 else some 0 : Option (Int32)).bind fun v5 => if gIn ((5 * (h.1 a0 8)) + 4) 60 then (f_X10_laysPart_78 a0 x3 (h.1 a0 8) gFuel 0 (gsI (gsI (gsI (gsI (gsI h (a0 + 5) (gN ((5 * (h.1 a0 8)) + 0)) x1) (a0 + 5) (gN ((5 * (h.1 a0 8)) + 1)) (-4)) (a0 + 5) (gN ((5 * (h.1 a0 8)) + 2)) x2) (a0 + 5) (gN ((5 * (h.1 a0 8)) + 3)) x3) (a0 + 5) (gN ((5 * (h.1 a0 8)) + 4)) v5)).bind fun v11 => if gIn (v11.1 a0 11) 12 then some (gsI (gsI (gsI v11 (a0 + 6) (gN (v11.1 a0 11)) (h.1 a0 8)) a0 11 (((gsI v11 (a0 + 6) (gN (v11.1 a0 11)) (h.1 a0 8)).1 a0 11) + 1)) a0 8 (((gsI (gsI v11 (a0 + 6) (gN (v11.1 a0 11)) (h.1 a0 8)) a0 11 (((gsI v11 (a0 + 6) (gN (v11.1 a0 11)) (h.1 a0 8)).1 a0 11) + 1)).1 a0 8) + 1)) else none else none else none else none else none else none
set_option maxRecDepth 20000 in
set_option maxHeartbeats 4000000 in
theorem m_X10_laysPart (w : gWd) (h : gHp) {a0 : Nat} (A0 : is_X10 w a0) (x1 : Int32) (x2 : Int32) (x3 : Int32) {o : gHp} (hF : f_X10_laysPart a0 x1 x2 x3 h = some o) : gMet w yX10_laysPart wsX10_laysPart rm_X10_laysPart [.ref a0, .int x1, .int x2, .int x3] h (none) o := by
  refine gMet_of (cc := cX10_laysPart) (maxL := 6) (ret := none) (fr := 0) (lo := 0) (own := RX10) [(0, .ref a0), (1, .int x1), (2, .int x2), (3, .int x3)] (by decide) rfl rfl (Nat.le_of_ble_eq_true rfl) rfl (Nat.le_refl _) (Nat.le_refl _) (fun g C E => ?_)
  rw [f_X10_laysPart] at hF
  refine gx_aload_n C 0 (gDec_at D_X10_laysPart 0 rfl) rfl rfl ?_
  refine gx_geti C fl_X10_laysPart_71 (is_X10_sh A0) rfl (gDec_at D_X10_laysPart 1 rfl) ?_
  refine gx_istore C (lv' := [(4, .int (h.1 a0 8)), (0, .ref a0), (1, .int x1), (2, .int x2), (3, .int x3)]) (gDec_at D_X10_laysPart 2 rfl) (Nat.le_of_ble_eq_true rfl) rfl ?_
  refine gx_aload_n C 1 (gDec_at D_X10_laysPart 3 rfl) rfl rfl ?_
  refine gx_getr C fl_X10_laysPart_23 (is_X10_sh A0) rfl (gDec_at D_X10_laysPart 4 rfl) ?_
  refine gx_iconst C (v := 5) (gDec_at D_X10_laysPart 5 rfl) (by decide) ?_
  refine gx_iload C 0 (gDec_at D_X10_laysPart 6 rfl) rfl ?_
  refine gx_imul C (gDec_at D_X10_laysPart 7 rfl) ?_
  refine gx_iconst C (v := 0) (gDec_at D_X10_laysPart 8 rfl) (by decide) ?_
  refine gx_iadd C (gDec_at D_X10_laysPart 9 rfl) ?_
  refine gx_iload_n C 2 (gDec_at D_X10_laysPart 10 rfl) rfl rfl ?_
  obtain ⟨b1, hF⟩ := gGd hF
  refine gx_iastore C (is_X10_read A0) b1 (gDec_at D_X10_laysPart 11 rfl) ?_
  refine gx_aload_n C 1 (gDec_at D_X10_laysPart 12 rfl) rfl rfl ?_
  refine gx_getr C fl_X10_laysPart_23 (is_X10_sh A0) rfl (gDec_at D_X10_laysPart 13 rfl) ?_
  refine gx_iconst C (v := 5) (gDec_at D_X10_laysPart 14 rfl) (by decide) ?_
  refine gx_iload C 0 (gDec_at D_X10_laysPart 15 rfl) rfl ?_
  refine gx_imul C (gDec_at D_X10_laysPart 16 rfl) ?_
  refine gx_iconst C (v := 1) (gDec_at D_X10_laysPart 17 rfl) (by decide) ?_
  refine gx_iadd C (gDec_at D_X10_laysPart 18 rfl) ?_
  refine gx_bipush C (v := (-4)) (gDec_at D_X10_laysPart 19 rfl) (by decide) ?_
  obtain ⟨b2, hF⟩ := gGd hF
  refine gx_iastore C (is_X10_read A0) b2 (gDec_at D_X10_laysPart 20 rfl) ?_
  refine gx_aload_n C 1 (gDec_at D_X10_laysPart 21 rfl) rfl rfl ?_
  refine gx_getr C fl_X10_laysPart_23 (is_X10_sh A0) rfl (gDec_at D_X10_laysPart 22 rfl) ?_
  refine gx_iconst C (v := 5) (gDec_at D_X10_laysPart 23 rfl) (by decide) ?_
  refine gx_iload C 0 (gDec_at D_X10_laysPart 24 rfl) rfl ?_
  refine gx_imul C (gDec_at D_X10_laysPart 25 rfl) ?_
  refine gx_iconst C (v := 2) (gDec_at D_X10_laysPart 26 rfl) (by decide) ?_
  refine gx_iadd C (gDec_at D_X10_laysPart 27 rfl) ?_
  refine gx_iload_n C 3 (gDec_at D_X10_laysPart 28 rfl) rfl rfl ?_
  obtain ⟨b3, hF⟩ := gGd hF
  refine gx_iastore C (is_X10_read A0) b3 (gDec_at D_X10_laysPart 29 rfl) ?_
  refine gx_aload_n C 1 (gDec_at D_X10_laysPart 30 rfl) rfl rfl ?_
  refine gx_getr C fl_X10_laysPart_23 (is_X10_sh A0) rfl (gDec_at D_X10_laysPart 31 rfl) ?_
  refine gx_iconst C (v := 5) (gDec_at D_X10_laysPart 32 rfl) (by decide) ?_
  refine gx_iload C 0 (gDec_at D_X10_laysPart 33 rfl) rfl ?_
  refine gx_imul C (gDec_at D_X10_laysPart 34 rfl) ?_
  refine gx_iconst C (v := 3) (gDec_at D_X10_laysPart 35 rfl) (by decide) ?_
  refine gx_iadd C (gDec_at D_X10_laysPart 36 rfl) ?_
  refine gx_iload_n C 4 (gDec_at D_X10_laysPart 37 rfl) rfl rfl ?_
  obtain ⟨b4, hF⟩ := gGd hF
  refine gx_iastore C (is_X10_read A0) b4 (gDec_at D_X10_laysPart 38 rfl) ?_
  refine gx_aload_n C 1 (gDec_at D_X10_laysPart 39 rfl) rfl rfl ?_
  refine gx_getr C fl_X10_laysPart_23 (is_X10_sh A0) rfl (gDec_at D_X10_laysPart 40 rfl) ?_
  refine gx_iconst C (v := 5) (gDec_at D_X10_laysPart 41 rfl) (by decide) ?_
  refine gx_iload C 0 (gDec_at D_X10_laysPart 42 rfl) rfl ?_
  refine gx_imul C (gDec_at D_X10_laysPart 43 rfl) ?_
  refine gx_iconst C (v := 4) (gDec_at D_X10_laysPart 44 rfl) (by decide) ?_
  refine gx_iadd C (gDec_at D_X10_laysPart 45 rfl) ?_
  refine gx_iload_n C 2 (gDec_at D_X10_laysPart 46 rfl) rfl rfl ?_
  obtain ⟨v5, hv6, hF⟩ := gBind hF
  have k7 : gX w g 6 (gsI (gsI (gsI (gsI h (a0 + 5) (gN ((5 * (h.1 a0 8)) + 0)) x1) (a0 + 5) (gN ((5 * (h.1 a0 8)) + 1)) (-4)) (a0 + 5) (gN ((5 * (h.1 a0 8)) + 2)) x2) (a0 + 5) (gN ((5 * (h.1 a0 8)) + 3)) x3) 74 [(0, .ref a0), (3, .int x3), (4, .int (h.1 a0 8))] (.int v5 :: .int ((5 * (h.1 a0 8)) + 4) :: .ref (a0 + 5) :: []) := by
    obtain ⟨b8, hF⟩ := gGd hF
    refine gx_iastore C (is_X10_read A0) b8 (gDec_at D_X10_laysPart 51 rfl) ?_
    refine gx_iconst C (v := 0) (gDec_at D_X10_laysPart 52 rfl) (by decide) ?_
    refine gx_istore C (lv' := [(5, .int 0), (0, .ref a0), (3, .int x3), (4, .int (h.1 a0 8))]) (gDec_at D_X10_laysPart 53 rfl) (Nat.le_of_ble_eq_true rfl) rfl ?_
    obtain ⟨v11, hv12, hF⟩ := gBind hF
    have k13 : gX w g 6 v11 120 [(0, .ref a0), (4, .int (h.1 a0 8))] [] := by
      refine gx_aload_n C 0 (gDec_at D_X10_laysPart 78 rfl) rfl rfl ?_
      refine gx_getr C fl_X10_laysPart_27 (is_X10_sh A0) rfl (gDec_at D_X10_laysPart 79 rfl) ?_
      refine gx_aload_n C 0 (gDec_at D_X10_laysPart 80 rfl) rfl rfl ?_
      refine gx_geti C fl_X10_laysPart_74 (is_X10_sh A0) rfl (gDec_at D_X10_laysPart 81 rfl) ?_
      refine gx_iload C 1 (gDec_at D_X10_laysPart 82 rfl) rfl ?_
      obtain ⟨b14, hF⟩ := gGd hF
      refine gx_iastore C (is_X10_pile A0) b14 (gDec_at D_X10_laysPart 83 rfl) ?_
      refine gx_aload_n C 0 (gDec_at D_X10_laysPart 84 rfl) rfl rfl ?_
      refine gx_dup C (gDec_at D_X10_laysPart 85 rfl) rfl ?_
      refine gx_geti C fl_X10_laysPart_74 (is_X10_sh A0) rfl (gDec_at D_X10_laysPart 86 rfl) ?_
      refine gx_iconst C (v := 1) (gDec_at D_X10_laysPart 87 rfl) (by decide) ?_
      refine gx_iadd C (gDec_at D_X10_laysPart 88 rfl) ?_
      refine gx_putI C flw_X10_laysPart_74 (is_X10_sh A0) rfl rfl rfl (gDec_at D_X10_laysPart 89 rfl) ?_
      refine gx_aload_n C 0 (gDec_at D_X10_laysPart 90 rfl) rfl rfl ?_
      refine gx_dup C (gDec_at D_X10_laysPart 91 rfl) rfl ?_
      refine gx_geti C fl_X10_laysPart_71 (is_X10_sh A0) rfl (gDec_at D_X10_laysPart 92 rfl) ?_
      refine gx_iconst C (v := 1) (gDec_at D_X10_laysPart 93 rfl) (by decide) ?_
      refine gx_iadd C (gDec_at D_X10_laysPart 94 rfl) ?_
      refine gx_putI C flw_X10_laysPart_71 (is_X10_sh A0) rfl rfl rfl (gDec_at D_X10_laysPart 95 rfl) ?_
      obtain rfl := Option.some.inj hF
      exact gx_vret C E (gDec_at D_X10_laysPart 96 rfl)
    exact gx_sub [1, 2, 3, 0] rfl (w_X10_laysPart_78 C A0 x3 (h.1 a0 8) k13 gFuel 0 (gsI (gsI (gsI (gsI (gsI h (a0 + 5) (gN ((5 * (h.1 a0 8)) + 0)) x1) (a0 + 5) (gN ((5 * (h.1 a0 8)) + 1)) (-4)) (a0 + 5) (gN ((5 * (h.1 a0 8)) + 2)) x2) (a0 + 5) (gN ((5 * (h.1 a0 8)) + 3)) x3) (a0 + 5) (gN ((5 * (h.1 a0 8)) + 4)) v5) hv12)
  replace hF := hv6
  refine gx_if_ne C 73 (gDec_at D_X10_laysPart 47 rfl) (by decide) (fun c => ?_) (fun c => ?_)
  · replace hF := gNeg c hF
    refine gx_iconst C (v := 0) (gDec_at D_X10_laysPart 50 rfl) (by decide) ?_
    obtain rfl := Option.some.inj hF
    exact gx_sub [1, 4, 0] rfl k7
  · replace hF := gPos c hF
    refine gx_iconst C (v := 1) (gDec_at D_X10_laysPart 48 rfl) (by decide) ?_
    refine gx_goto C 74 (gDec_at D_X10_laysPart 49 rfl) (by decide) ?_
    obtain rfl := Option.some.inj hF
    exact gx_sub [1, 4, 0] rfl k7
/-! LadderBenchModel.endsLink -/
def rm_X10_endsLink : Room := { frames := 1, cells := 0, slots := 0, locals := 25 }
set_option maxRecDepth 20000 in
theorem ggX10_endsLink_X10_laysPart : GoodIn wsX10_endsLink wsX10_laysPart := goodIn_r _ [7, 8, 9, 10, 11, 12, 13, 14, 15, 16, 17, 18, 19, 20, 21, 22, 23, 24, 25, 26, 27, 28, 29, 30, 31, 32, 33, 34, 35, 36, 37] (by decide +kernel) (by decide +kernel)
set_option maxRecDepth 20000 in
theorem gX10_endsLink_X10_laysPart : GoodIn wsX10_endsLink (wsV RX10 77 RX10 yX10_laysPart wsX10_laysPart) := goodIn_app (goodIn_of _ (by decide +kernel)) ggX10_endsLink_X10_laysPart
theorem hy_X10_endsLink : yX10_endsLink.cls = RX10 ∧ yX10_endsLink.cls ≠ "java/lang/invoke/MethodHandle" ∧ yX10_endsLink.cls ≠ "java/lang/invoke/VarHandle" ∧ (parseMethodDescriptor yX10_endsLink.desc).map (fun d => d.parameters.length) = some 1 := by decide +kernel
set_option maxRecDepth 100000 in
theorem D_X10_endsLink : gDec cX10_endsLink [(0, (.aload_n 0, 1)), (1, (.getfield 30, 3)), (4, (.iload_n 1, 1)), (5, (.iaload, 1)), (6, (.iconst 1, 1)), (7, (.if_icmp .le 16, 3)), (10, (.aload_n 0, 1)), (11, (.iconst 2, 1)), (12, (.bipush (-4), 2)), (14, (.aload_n 0, 1)), (15, (.getfield 30, 3)), (18, (.iload_n 1, 1)), (19, (.iaload, 1)), (20, (.invokevirtual 77, 3)), (23, (.aload_n 0, 1)), (24, (.getfield 30, 3)), (27, (.iload_n 1, 1)), (28, (.iconst 0, 1)), (29, (.iastore, 1)), (30, (.aload_n 0, 1)), (31, (.getfield 33, 3)), (34, (.iload_n 1, 1)), (35, (.dup2, 1)), (36, (.iaload, 1)), (37, (.iconst 1, 1)), (38, (.iadd, 1)), (39, (.iastore, 1)), (40, (.return_, 1))] = true := by decide +kernel
set_option maxRecDepth 100000 in
theorem in_X10_endsLink_X10 : ∀ x ∈ u_ws RX10 TX10 26, x ∈ wsX10_endsLink := by decide +kernel
theorem fl_X10_endsLink_30 : gF wsX10_endsLink RX10 30 10 12 := ⟨RX10, TX10, 26, rfl, by decide, in_X10_endsLink_X10, by decide +kernel⟩
theorem fl_X10_endsLink_33 : gF wsX10_endsLink RX10 33 10 13 := ⟨RX10, TX10, 26, rfl, by decide, in_X10_endsLink_X10, by decide +kernel⟩
def f_X10_endsLink (a0 : Nat) (x1 : Int32) (h : gHp) : Option (gHp) := if gIn x1 42 then (if (h.1 (a0 + 7) (gN x1)) ≤ 1 then some h else if gIn x1 42 then (f_X10_laysPart a0 2 (-4) (h.1 (a0 + 7) (gN x1)) h).bind fun v10 => some v10 else none : Option (gHp)).bind fun v2 => if gIn x1 42 then if gIn x1 42 then if gIn x1 42 then some (gsI (gsI v2 (a0 + 7) (gN x1) 0) (a0 + 8) (gN x1) (((gsI v2 (a0 + 7) (gN x1) 0).1 (a0 + 8) (gN x1)) + 1)) else none else none else none else none
set_option maxRecDepth 20000 in
set_option maxHeartbeats 4000000 in
theorem m_X10_endsLink (w : gWd) (h : gHp) {a0 : Nat} (A0 : is_X10 w a0) (x1 : Int32) {o : gHp} (hF : f_X10_endsLink a0 x1 h = some o) : gMet w yX10_endsLink wsX10_endsLink rm_X10_endsLink [.ref a0, .int x1] h (none) o := by
  refine gMet_of (cc := cX10_endsLink) (maxL := 2) (ret := none) (fr := 1) (lo := 25) (own := RX10) [(0, .ref a0), (1, .int x1)] (by decide) rfl rfl (Nat.le_of_ble_eq_true rfl) rfl (Nat.le_refl _) (Nat.le_refl _) (fun g C E => ?_)
  rw [f_X10_endsLink] at hF
  refine gx_aload_n C 0 (gDec_at D_X10_endsLink 0 rfl) rfl rfl ?_
  refine gx_getr C fl_X10_endsLink_30 (is_X10_sh A0) rfl (gDec_at D_X10_endsLink 1 rfl) ?_
  refine gx_iload_n C 1 (gDec_at D_X10_endsLink 2 rfl) rfl rfl ?_
  obtain ⟨b1, hF⟩ := gGd hF
  refine gx_iaload C (is_X10_pieces A0) b1 (gDec_at D_X10_endsLink 3 rfl) ?_
  refine gx_iconst C (v := 1) (gDec_at D_X10_endsLink 4 rfl) (by decide) ?_
  obtain ⟨v2, hv3, hF⟩ := gBind hF
  have k4 : gX w g 2 v2 23 [(0, .ref a0), (1, .int x1)] ([]) := by
    refine gx_aload_n C 0 (gDec_at D_X10_endsLink 14 rfl) rfl rfl ?_
    refine gx_getr C fl_X10_endsLink_30 (is_X10_sh A0) rfl (gDec_at D_X10_endsLink 15 rfl) ?_
    refine gx_iload_n C 1 (gDec_at D_X10_endsLink 16 rfl) rfl rfl ?_
    refine gx_iconst C (v := 0) (gDec_at D_X10_endsLink 17 rfl) (by decide) ?_
    obtain ⟨b5, hF⟩ := gGd hF
    refine gx_iastore C (is_X10_pieces A0) b5 (gDec_at D_X10_endsLink 18 rfl) ?_
    refine gx_aload_n C 0 (gDec_at D_X10_endsLink 19 rfl) rfl rfl ?_
    refine gx_getr C fl_X10_endsLink_33 (is_X10_sh A0) rfl (gDec_at D_X10_endsLink 20 rfl) ?_
    refine gx_iload_n C 1 (gDec_at D_X10_endsLink 21 rfl) rfl rfl ?_
    refine gx_dup2 C (gDec_at D_X10_endsLink 22 rfl) rfl rfl ?_
    obtain ⟨b6, hF⟩ := gGd hF
    refine gx_iaload C (is_X10_links A0) b6 (gDec_at D_X10_endsLink 23 rfl) ?_
    refine gx_iconst C (v := 1) (gDec_at D_X10_endsLink 24 rfl) (by decide) ?_
    refine gx_iadd C (gDec_at D_X10_endsLink 25 rfl) ?_
    obtain ⟨b7, hF⟩ := gGd hF
    refine gx_iastore C (is_X10_links A0) b7 (gDec_at D_X10_endsLink 26 rfl) ?_
    obtain rfl := Option.some.inj hF
    exact gx_vret C E (gDec_at D_X10_endsLink 27 rfl)
  replace hF := hv3
  refine gx_icmp_le C 23 (gDec_at D_X10_endsLink 5 rfl) (by decide) (fun c => ?_) (fun c => ?_)
  · replace hF := gPos c hF
    obtain rfl := Option.some.inj hF
    exact gx_sub [0, 1] rfl k4
  · replace hF := gNeg c hF
    refine gx_aload_n C 0 (gDec_at D_X10_endsLink 6 rfl) rfl rfl ?_
    refine gx_iconst C (v := 2) (gDec_at D_X10_endsLink 7 rfl) (by decide) ?_
    refine gx_bipush C (v := (-4)) (gDec_at D_X10_endsLink 8 rfl) (by decide) ?_
    refine gx_aload_n C 0 (gDec_at D_X10_endsLink 9 rfl) rfl rfl ?_
    refine gx_getr C fl_X10_endsLink_30 (is_X10_sh A0) rfl (gDec_at D_X10_endsLink 10 rfl) ?_
    refine gx_iload_n C 1 (gDec_at D_X10_endsLink 11 rfl) rfl rfl ?_
    obtain ⟨b8, hF⟩ := gGd hF
    refine gx_iaload C (is_X10_pieces A0) b8 (gDec_at D_X10_endsLink 12 rfl) ?_
    obtain ⟨v10, hv9, hF⟩ := gBind hF
    refine gx_callV0 C (st := []) 3 [.int 2, .int (-4), .int (h.1 (a0 + 7) (gN x1))] (m_X10_laysPart w h A0 2 (-4) (h.1 (a0 + 7) (gN x1)) hv9) gX10_endsLink_X10_laysPart rfl rfl rfl hy_X10_laysPart (Nat.le_of_ble_eq_true rfl) (Nat.le_of_ble_eq_true rfl) (is_X10_sh A0) rfl rfl rfl (Nat.le_of_ble_eq_true rfl) (gDec_at D_X10_endsLink 13 rfl) ?_
    obtain rfl := Option.some.inj hF
    exact gx_sub [0, 1] rfl k4
/-! LadderBenchModel.endsChain -/
def rm_X10_endsChain : Room := { frames := 2, cells := 0, slots := 0, locals := 46 }
set_option maxRecDepth 20000 in
theorem ggX10_endsChain_X10_endsLink : GoodIn wsX10_endsChain wsX10_endsLink := goodIn_r _ [6, 7, 1, 8, 9, 10, 5, 11, 12, 13, 14, 15, 16, 17, 18, 19, 20, 21, 22, 23, 24, 25, 26, 27, 28, 29, 30, 31, 32, 33, 34, 35, 36, 37, 38, 39, 40, 41] (by decide +kernel) (by decide +kernel)
set_option maxRecDepth 20000 in
theorem gX10_endsChain_X10_endsLink : GoodIn wsX10_endsChain (wsV RX10 81 RX10 yX10_endsLink wsX10_endsLink) := goodIn_app (goodIn_of _ (by decide +kernel)) ggX10_endsChain_X10_endsLink
set_option maxRecDepth 20000 in
theorem ggX10_endsChain_X10_laysPart : GoodIn wsX10_endsChain wsX10_laysPart := goodIn_r _ [11, 12, 13, 14, 15, 16, 17, 18, 19, 20, 21, 22, 23, 24, 25, 26, 27, 28, 29, 30, 31, 32, 33, 34, 35, 36, 37, 38, 39, 40, 41] (by decide +kernel) (by decide +kernel)
set_option maxRecDepth 20000 in
theorem gX10_endsChain_X10_laysPart : GoodIn wsX10_endsChain (wsV RX10 77 RX10 yX10_laysPart wsX10_laysPart) := goodIn_app (goodIn_of _ (by decide +kernel)) ggX10_endsChain_X10_laysPart
theorem hy_X10_endsChain : yX10_endsChain.cls = RX10 ∧ yX10_endsChain.cls ≠ "java/lang/invoke/MethodHandle" ∧ yX10_endsChain.cls ≠ "java/lang/invoke/VarHandle" ∧ (parseMethodDescriptor yX10_endsChain.desc).map (fun d => d.parameters.length) = some 1 := by decide +kernel
set_option maxRecDepth 100000 in
theorem D_X10_endsChain : gDec cX10_endsChain [(0, (.aload_n 0, 1)), (1, (.iload_n 1, 1)), (2, (.invokevirtual 81, 3)), (5, (.aload_n 0, 1)), (6, (.getfield 33, 3)), (9, (.iload_n 1, 1)), (10, (.iaload, 1)), (11, (.iconst 1, 1)), (12, (.if_icmp .le 16, 3)), (15, (.aload_n 0, 1)), (16, (.iconst 1, 1)), (17, (.bipush (-4), 2)), (19, (.aload_n 0, 1)), (20, (.getfield 33, 3)), (23, (.iload_n 1, 1)), (24, (.iaload, 1)), (25, (.invokevirtual 77, 3)), (28, (.aload_n 0, 1)), (29, (.getfield 33, 3)), (32, (.iload_n 1, 1)), (33, (.iconst 0, 1)), (34, (.iastore, 1)), (35, (.return_, 1))] = true := by decide +kernel
set_option maxRecDepth 100000 in
theorem in_X10_endsChain_X10 : ∀ x ∈ u_ws RX10 TX10 26, x ∈ wsX10_endsChain := by decide +kernel
theorem fl_X10_endsChain_33 : gF wsX10_endsChain RX10 33 10 13 := ⟨RX10, TX10, 26, rfl, by decide, in_X10_endsChain_X10, by decide +kernel⟩
def f_X10_endsChain (a0 : Nat) (x1 : Int32) (h : gHp) : Option (gHp) := (f_X10_endsLink a0 x1 h).bind fun v2 => if gIn x1 42 then if (v2.1 (a0 + 8) (gN x1)) ≤ 1 then if gIn x1 42 then some (gsI v2 (a0 + 8) (gN x1) 0) else none else if gIn x1 42 then (f_X10_laysPart a0 1 (-4) (v2.1 (a0 + 8) (gN x1)) v2).bind fun v7 => if gIn x1 42 then some (gsI v7 (a0 + 8) (gN x1) 0) else none else none else none
set_option maxRecDepth 20000 in
set_option maxHeartbeats 4000000 in
theorem m_X10_endsChain (w : gWd) (h : gHp) {a0 : Nat} (A0 : is_X10 w a0) (x1 : Int32) {o : gHp} (hF : f_X10_endsChain a0 x1 h = some o) : gMet w yX10_endsChain wsX10_endsChain rm_X10_endsChain [.ref a0, .int x1] h (none) o := by
  refine gMet_of (cc := cX10_endsChain) (maxL := 2) (ret := none) (fr := 2) (lo := 46) (own := RX10) [(0, .ref a0), (1, .int x1)] (by decide) rfl rfl (Nat.le_of_ble_eq_true rfl) rfl (Nat.le_refl _) (Nat.le_refl _) (fun g C E => ?_)
  rw [f_X10_endsChain] at hF
  refine gx_aload_n C 0 (gDec_at D_X10_endsChain 0 rfl) rfl rfl ?_
  refine gx_iload_n C 1 (gDec_at D_X10_endsChain 1 rfl) rfl rfl ?_
  obtain ⟨v2, hv1, hF⟩ := gBind hF
  refine gx_callV0 C (st := []) 1 [.int x1] (m_X10_endsLink w h A0 x1 hv1) gX10_endsChain_X10_endsLink rfl rfl rfl hy_X10_endsLink (Nat.le_of_ble_eq_true rfl) (Nat.le_of_ble_eq_true rfl) (is_X10_sh A0) rfl rfl rfl (Nat.le_of_ble_eq_true rfl) (gDec_at D_X10_endsChain 2 rfl) ?_
  refine gx_aload_n C 0 (gDec_at D_X10_endsChain 3 rfl) rfl rfl ?_
  refine gx_getr C fl_X10_endsChain_33 (is_X10_sh A0) rfl (gDec_at D_X10_endsChain 4 rfl) ?_
  refine gx_iload_n C 1 (gDec_at D_X10_endsChain 5 rfl) rfl rfl ?_
  obtain ⟨b3, hF⟩ := gGd hF
  refine gx_iaload C (is_X10_links A0) b3 (gDec_at D_X10_endsChain 6 rfl) ?_
  refine gx_iconst C (v := 1) (gDec_at D_X10_endsChain 7 rfl) (by decide) ?_
  refine gx_icmp_le C 28 (gDec_at D_X10_endsChain 8 rfl) (by decide) (fun c => ?_) (fun c => ?_)
  · replace hF := gPos c hF
    refine gx_aload_n C 0 (gDec_at D_X10_endsChain 17 rfl) rfl rfl ?_
    refine gx_getr C fl_X10_endsChain_33 (is_X10_sh A0) rfl (gDec_at D_X10_endsChain 18 rfl) ?_
    refine gx_iload_n C 1 (gDec_at D_X10_endsChain 19 rfl) rfl rfl ?_
    refine gx_iconst C (v := 0) (gDec_at D_X10_endsChain 20 rfl) (by decide) ?_
    obtain ⟨b4, hF⟩ := gGd hF
    refine gx_iastore C (is_X10_links A0) b4 (gDec_at D_X10_endsChain 21 rfl) ?_
    obtain rfl := Option.some.inj hF
    exact gx_vret C E (gDec_at D_X10_endsChain 22 rfl)
  · replace hF := gNeg c hF
    refine gx_aload_n C 0 (gDec_at D_X10_endsChain 9 rfl) rfl rfl ?_
    refine gx_iconst C (v := 1) (gDec_at D_X10_endsChain 10 rfl) (by decide) ?_
    refine gx_bipush C (v := (-4)) (gDec_at D_X10_endsChain 11 rfl) (by decide) ?_
    refine gx_aload_n C 0 (gDec_at D_X10_endsChain 12 rfl) rfl rfl ?_
    refine gx_getr C fl_X10_endsChain_33 (is_X10_sh A0) rfl (gDec_at D_X10_endsChain 13 rfl) ?_
    refine gx_iload_n C 1 (gDec_at D_X10_endsChain 14 rfl) rfl rfl ?_
    obtain ⟨b5, hF⟩ := gGd hF
    refine gx_iaload C (is_X10_links A0) b5 (gDec_at D_X10_endsChain 15 rfl) ?_
    obtain ⟨v7, hv6, hF⟩ := gBind hF
    refine gx_callV0 C (st := []) 3 [.int 1, .int (-4), .int (v2.1 (a0 + 8) (gN x1))] (m_X10_laysPart w v2 A0 1 (-4) (v2.1 (a0 + 8) (gN x1)) hv6) gX10_endsChain_X10_laysPart rfl rfl rfl hy_X10_laysPart (Nat.le_of_ble_eq_true rfl) (Nat.le_of_ble_eq_true rfl) (is_X10_sh A0) rfl rfl rfl (Nat.le_of_ble_eq_true rfl) (gDec_at D_X10_endsChain 16 rfl) ?_
    refine gx_aload_n C 0 (gDec_at D_X10_endsChain 17 rfl) rfl rfl ?_
    refine gx_getr C fl_X10_endsChain_33 (is_X10_sh A0) rfl (gDec_at D_X10_endsChain 18 rfl) ?_
    refine gx_iload_n C 1 (gDec_at D_X10_endsChain 19 rfl) rfl rfl ?_
    refine gx_iconst C (v := 0) (gDec_at D_X10_endsChain 20 rfl) (by decide) ?_
    obtain ⟨b8, hF⟩ := gGd hF
    refine gx_iastore C (is_X10_links A0) b8 (gDec_at D_X10_endsChain 21 rfl) ?_
    obtain rfl := Option.some.inj hF
    exact gx_vret C E (gDec_at D_X10_endsChain 22 rfl)
