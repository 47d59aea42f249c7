/-! LadderBench$Fraction.isSame -/
def rm_X2_isSame : Room := { frames := 0, cells := 0, slots := 0, locals := 0 }
theorem hy_X2_isSame : yX2_isSame.cls = RX2 ∧ yX2_isSame.cls ≠ "java/lang/invoke/MethodHandle" ∧ yX2_isSame.cls ≠ "java/lang/invoke/VarHandle" ∧ (parseMethodDescriptor yX2_isSame.desc).map (fun d => d.parameters.length) = some 1 := by decide +kernel
set_option maxRecDepth 100000 in
theorem D_X2_isSame : gDec cX2_isSame [(0, (.aload_n 0, 1)), (1, (.getfield 9, 3)), (4, (.aload_n 1, 1)), (5, (.getfield 9, 3)), (8, (.lcmp, 1)), (9, (.ifCond .ne 19, 3)), (12, (.aload_n 0, 1)), (13, (.getfield 15, 3)), (16, (.aload_n 1, 1)), (17, (.getfield 15, 3)), (20, (.lcmp, 1)), (21, (.ifCond .ne 7, 3)), (24, (.iconst 1, 1)), (25, (.goto 4, 3)), (28, (.iconst 0, 1)), (29, (.ireturn, 1))] = true := by decide +kernel
set_option maxRecDepth 100000 in
theorem in_X2_isSame_X2 : ∀ x ∈ u_ws RX2 TX2 2, x ∈ wsX2_isSame := by decide +kernel
theorem fl_X2_isSame_9 : gF wsX2_isSame RX2 9 2 0 := ⟨RX2, TX2, 2, rfl, by decide, in_X2_isSame_X2, by decide +kernel⟩
theorem fl_X2_isSame_15 : gF wsX2_isSame RX2 15 2 1 := ⟨RX2, TX2, 2, rfl, by decide, in_X2_isSame_X2, by decide +kernel⟩
def f_X2_isSame (a0 : Nat) (a1 : Nat) (h : gHp) : Option (Bool) := if (h.2 a0 0) = (h.2 a1 0) then if (h.2 a0 1) = (h.2 a1 1) then some true else some false else some false
set_option maxRecDepth 20000 in
set_option maxHeartbeats 4000000 in
theorem m_X2_isSame (w : gWd) (h : gHp) {a0 : Nat} (A0 : is_X2 w a0) {a1 : Nat} (A1 : is_X2 w a1) {o : Bool} (hF : f_X2_isSame a0 a1 h = some o) : gMet w yX2_isSame wsX2_isSame rm_X2_isSame [.ref a0, .ref a1] h (some (.int (gZ o))) h := by
  refine gMet_of (cc := cX2_isSame) (maxL := 2) (ret := (some .boolean)) (fr := 0) (lo := 0) (own := RX2) [(0, .ref a0), (1, .ref a1)] (by decide) rfl rfl (Nat.le_of_ble_eq_true rfl) rfl (Nat.le_refl _) (Nat.le_refl _) (fun g C E => ?_)
  rw [f_X2_isSame] at hF
  refine gx_aload_n C 0 (gDec_at D_X2_isSame 0 rfl) rfl rfl ?_
  refine gx_getl C fl_X2_isSame_9 (is_X2_sh A0) rfl (gDec_at D_X2_isSame 1 rfl) ?_
  refine gx_aload_n C 1 (gDec_at D_X2_isSame 2 rfl) rfl rfl ?_
  refine gx_getl C fl_X2_isSame_9 (is_X2_sh A1) rfl (gDec_at D_X2_isSame 3 rfl) ?_
  refine gx_lcmp_ne C 28 (gDec_at D_X2_isSame 4 rfl) (gDec_at D_X2_isSame 5 rfl) (by decide) (fun c => ?_) (fun c => ?_)
  · replace hF := gNeg c hF
    refine gx_iconst C (v := 0) (gDec_at D_X2_isSame 14 rfl) (by decide) ?_
    obtain rfl := Option.some.inj hF
    exact gx_zret (b := false) C E (gDec_at D_X2_isSame 15 rfl)
  · replace hF := gPos c hF
    refine gx_aload_n C 0 (gDec_at D_X2_isSame 6 rfl) rfl rfl ?_
    refine gx_getl C fl_X2_isSame_15 (is_X2_sh A0) rfl (gDec_at D_X2_isSame 7 rfl) ?_
    refine gx_aload_n C 1 (gDec_at D_X2_isSame 8 rfl) rfl rfl ?_
    refine gx_getl C fl_X2_isSame_15 (is_X2_sh A1) rfl (gDec_at D_X2_isSame 9 rfl) ?_
    refine gx_lcmp_ne C 28 (gDec_at D_X2_isSame 10 rfl) (gDec_at D_X2_isSame 11 rfl) (by decide) (fun c => ?_) (fun c => ?_)
    · replace hF := gNeg c hF
      refine gx_iconst C (v := 0) (gDec_at D_X2_isSame 14 rfl) (by decide) ?_
      obtain rfl := Option.some.inj hF
      exact gx_zret (b := false) C E (gDec_at D_X2_isSame 15 rfl)
    · replace hF := gPos c hF
      refine gx_iconst C (v := 1) (gDec_at D_X2_isSame 12 rfl) (by decide) ?_
      refine gx_goto C 29 (gDec_at D_X2_isSame 13 rfl) (by decide) ?_
      obtain rfl := Option.some.inj hF
      exact gx_zret (b := true) C E (gDec_at D_X2_isSame 15 rfl)
