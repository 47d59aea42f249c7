/-! LadderBenchModel.end -/
def rm_X10_end : Room := { frames := 0, cells := 0, slots := 0, locals := 0 }
theorem hy_X10_end : yX10_end.cls = RX10 ∧ yX10_end.cls ≠ "java/lang/invoke/MethodHandle" ∧ yX10_end.cls ≠ "java/lang/invoke/VarHandle" ∧ (parseMethodDescriptor yX10_end.desc).map (fun d => d.parameters.length) = some 0 := by decide +kernel
set_option maxRecDepth 100000 in
theorem D_X10_end : gDec cX10_end [(0, (.aload_n 0, 1)), (1, (.getfield 85, 3)), (4, (.istore_n 1, 1)), (5, (.iload_n 1, 1)), (6, (.aload_n 0, 1)), (7, (.getfield 68, 3)), (10, (.if_icmp .ge 20, 3)), (13, (.aload_n 0, 1)), (14, (.getfield 19, 3)), (17, (.iload_n 1, 1)), (18, (.caload, 1)), (19, (.bipush 32, 2)), (21, (.if_icmp .eq 9, 3)), (24, (.iinc 1 1, 3)), (27, (.goto (-22), 3)), (30, (.iload_n 1, 1)), (31, (.ireturn, 1))] = true := by decide +kernel
set_option maxRecDepth 100000 in
theorem in_X10_end_X10 : ∀ x ∈ u_ws RX10 TX10 26, x ∈ wsX10_end := by decide +kernel
theorem fl_X10_end_85 : gF wsX10_end RX10 85 10 7 := ⟨RX10, TX10, 26, rfl, by decide, in_X10_end_X10, by decide +kernel⟩
theorem fl_X10_end_68 : gF wsX10_end RX10 68 10 5 := ⟨RX10, TX10, 26, rfl, by decide, in_X10_end_X10, by decide +kernel⟩
theorem fl_X10_end_19 : gF wsX10_end RX10 19 10 6 := ⟨RX10, TX10, 26, rfl, by decide, in_X10_end_X10, by decide +kernel⟩
def f_X10_end_5 (a0 : Nat) (h : gHp) : Nat → Int32 → Option (Int32)
  | 0, _ => none
  | n + 1, x1 => if (h.1 a0 5) ≤ x1 then some x1 else if gIn x1 40 then if (h.1 (a0 + 4) (gN x1)) = 32 then some x1 else f_X10_end_5 a0 h n (x1 + 1) else none
set_option maxRecDepth 20000 in
set_option maxHeartbeats 4000000 in
theorem w_X10_end_5 {w : gWd} {g : gCx} (C : gC w g cX10_end wsX10_end RX10 2 0 0) {a0 : Nat} (A0 : is_X10 w a0) (h : gHp)  {o : Int32} (hk : gX w g 2 h 30 [(1, .int o)] []) : ∀ (n : Nat) (x1 : Int32), f_X10_end_5 a0 h n x1 = some o → gX w g 2 h 5 [(0, .ref a0), (1, .int x1)] [] := by
  intro n
  induction n with
  | zero => intro _ hF; cases hF
  | succ n ih =>
    intro x1 hF
    rw [f_X10_end_5] at hF
    refine gx_iload_n C 1 (gDec_at D_X10_end 3 rfl) rfl rfl ?_
    refine gx_aload_n C 0 (gDec_at D_X10_end 4 rfl) rfl rfl ?_
    refine gx_geti C fl_X10_end_68 (is_X10_sh A0) rfl (gDec_at D_X10_end 5 rfl) ?_
    refine gx_icmp_ge C 30 (gDec_at D_X10_end 6 rfl) (by decide) (fun c => ?_) (fun c => ?_)
    · replace hF := gPos c hF
      obtain rfl := Option.some.inj hF
      exact gx_sub [1] rfl hk
    · replace hF := gNeg c hF
      refine gx_aload_n C 0 (gDec_at D_X10_end 7 rfl) rfl rfl ?_
      refine gx_getr C fl_X10_end_19 (is_X10_sh A0) rfl (gDec_at D_X10_end 8 rfl) ?_
      refine gx_iload_n C 1 (gDec_at D_X10_end 9 rfl) rfl rfl ?_
      obtain ⟨b1, hF⟩ := gGd hF
      refine gx_caload C (is_X10_text A0) b1 (gDec_at D_X10_end 10 rfl) ?_
      refine gx_bipush C (v := 32) (gDec_at D_X10_end 11 rfl) (by decide) ?_
      refine gx_icmp_eq C 30 (gDec_at D_X10_end 12 rfl) (by decide) (fun c => ?_) (fun c => ?_)
      · replace hF := gPos c hF
        obtain rfl := Option.some.inj hF
        exact gx_sub [1] rfl hk
      · replace hF := gNeg c hF
        refine gx_iinc C (j := 1) (v := x1 + 1) (lv' := [(1, .int (x1 + 1)), (0, .ref a0)]) (gDec_at D_X10_end 13 rfl) rfl (by rfl) (Nat.le_of_ble_eq_true rfl) rfl ?_
        refine gx_goto C 5 (gDec_at D_X10_end 14 rfl) (by decide) ?_
        exact gx_sub [1, 0] rfl (ih (x1 + 1) hF)
def f_X10_end (a0 : Nat) (h : gHp) : Option (Int32) := (f_X10_end_5 a0 h gFuel (h.1 a0 7)).bind fun v2 => some v2
set_option maxRecDepth 20000 in
set_option maxHeartbeats 4000000 in
theorem m_X10_end (w : gWd) (h : gHp) {a0 : Nat} (A0 : is_X10 w a0) {o : Int32} (hF : f_X10_end a0 h = some o) : gMet w yX10_end wsX10_end rm_X10_end [.ref a0] h (some (.int o)) h := by
  refine gMet_of (cc := cX10_end) (maxL := 2) (ret := (some .int)) (fr := 0) (lo := 0) (own := RX10) [(0, .ref a0)] (by decide) rfl rfl (Nat.le_of_ble_eq_true rfl) rfl (Nat.le_refl _) (Nat.le_refl _) (fun g C E => ?_)
  rw [f_X10_end] at hF
  refine gx_aload_n C 0 (gDec_at D_X10_end 0 rfl) rfl rfl ?_
  refine gx_geti C fl_X10_end_85 (is_X10_sh A0) rfl (gDec_at D_X10_end 1 rfl) ?_
  refine gx_istore_n C (lv' := [(1, .int (h.1 a0 7)), (0, .ref a0)]) (gDec_at D_X10_end 2 rfl) rfl (Nat.le_of_ble_eq_true rfl) rfl ?_
  obtain ⟨v2, hv3, hF⟩ := gBind hF
  have k4 : gX w g 2 h 30 [(1, .int v2)] [] := by
    refine gx_iload_n C 0 (gDec_at D_X10_end 15 rfl) rfl rfl ?_
    obtain rfl := Option.some.inj hF
    exact gx_iret C E (gDec_at D_X10_end 16 rfl)
  exact gx_sub [1, 0] rfl (w_X10_end_5 C A0 h k4 gFuel (h.1 a0 7) hv3)
/-! LadderBenchModel.isWord -/
def rm_X10_isWord : Room := { frames := 0, cells := 0, slots := 0, locals := 0 }
theorem hy_X10_isWord : yX10_isWord.cls = RX10 ∧ yX10_isWord.cls ≠ "java/lang/invoke/MethodHandle" ∧ yX10_isWord.cls ≠ "java/lang/invoke/VarHandle" ∧ (parseMethodDescriptor yX10_isWord.desc).map (fun d => d.parameters.length) = some 6 := by decide +kernel
set_option maxRecDepth 100000 in
theorem D_X10_isWord : gDec cX10_isWord [(0, (.iload_n 1, 1)), (1, (.aload_n 0, 1)), (2, (.getfield 85, 3)), (5, (.isub, 1)), (6, (.iload_n 2, 1)), (7, (.if_icmp .lt 48, 3)), (10, (.aload_n 0, 1)), (11, (.getfield 19, 3)), (14, (.aload_n 0, 1)), (15, (.getfield 85, 3)), (18, (.caload, 1)), (19, (.iload_n 3, 1)), (20, (.if_icmp .ne 35, 3)), (23, (.aload_n 0, 1)), (24, (.getfield 19, 3)), (27, (.aload_n 0, 1)), (28, (.getfield 85, 3)), (31, (.iconst 1, 1)), (32, (.iadd, 1)), (33, (.caload, 1)), (34, (.iload 4, 2)), (36, (.if_icmp .ne 19, 3)), (39, (.aload_n 0, 1)), (40, (.getfield 19, 3)), (43, (.aload_n 0, 1)), (44, (.getfield 85, 3)), (47, (.iconst 2, 1)), (48, (.iadd, 1)), (49, (.caload, 1)), (50, (.iload 5, 2)), (52, (.if_icmp .eq 5, 3)), (55, (.iconst 0, 1)), (56, (.ireturn, 1)), (57, (.iload_n 2, 1)), (58, (.iconst 4, 1)), (59, (.if_icmp .ge 21, 3)), (62, (.iload_n 1, 1)), (63, (.aload_n 0, 1)), (64, (.getfield 85, 3)), (67, (.isub, 1)), (68, (.iconst 3, 1)), (69, (.if_icmp .ne 7, 3)), (72, (.iconst 1, 1)), (73, (.goto 28, 3)), (76, (.iconst 0, 1)), (77, (.goto 24, 3)), (80, (.aload_n 0, 1)), (81, (.getfield 19, 3)), (84, (.aload_n 0, 1)), (85, (.getfield 85, 3)), (88, (.iconst 3, 1)), (89, (.iadd, 1)), (90, (.caload, 1)), (91, (.iload 6, 2)), (93, (.if_icmp .ne 7, 3)), (96, (.iconst 1, 1)), (97, (.goto 4, 3)), (100, (.iconst 0, 1)), (101, (.ireturn, 1))] = true := by decide +kernel
set_option maxRecDepth 100000 in
theorem in_X10_isWord_X10 : ∀ x ∈ u_ws RX10 TX10 26, x ∈ wsX10_isWord := by decide +kernel
theorem fl_X10_isWord_85 : gF wsX10_isWord RX10 85 10 7 := ⟨RX10, TX10, 26, rfl, by decide, in_X10_isWord_X10, by decide +kernel⟩
theorem fl_X10_isWord_19 : gF wsX10_isWord RX10 19 10 6 := ⟨RX10, TX10, 26, rfl, by decide, in_X10_isWord_X10, by decide +kernel⟩
def f_X10_isWord (a0 : Nat) (x1 : Int32) (x2 : Int32) (x3 : Int32) (x4 : Int32) (x5 : Int32) (x6 : Int32) (h : gHp) : Option (Bool) := if (x1 - (h.1 a0 7)) < x2 then some false else if gIn (h.1 a0 7) 40 then if (h.1 (a0 + 4) (gN (h.1 a0 7))) = x3 then if gIn ((h.1 a0 7) + 1) 40 then if (h.1 (a0 + 4) (gN ((h.1 a0 7) + 1))) = x4 then if gIn ((h.1 a0 7) + 2) 40 then if (h.1 (a0 + 4) (gN ((h.1 a0 7) + 2))) = x5 then if 4 ≤ x2 then if gIn ((h.1 a0 7) + 3) 40 then if (h.1 (a0 + 4) (gN ((h.1 a0 7) + 3))) = x6 then some true else some false else none else if (x1 - (h.1 a0 7)) = 3 then some true else some false else some false else none else some false else none else some false else none
set_option maxRecDepth 20000 in
set_option maxHeartbeats 4000000 in
theorem m_X10_isWord (w : gWd) (h : gHp) {a0 : Nat} (A0 : is_X10 w a0) (x1 : Int32) (x2 : Int32) (x3 : Int32) (x4 : Int32) (x5 : Int32) (x6 : Int32) {o : Bool} (hF : f_X10_isWord a0 x1 x2 x3 x4 x5 x6 h = some o) : gMet w yX10_isWord wsX10_isWord rm_X10_isWord [.ref a0, .int x1, .int x2, .int x3, .int x4, .int x5, .int x6] h (some (.int (gZ o))) h := by
  refine gMet_of (cc := cX10_isWord) (maxL := 7) (ret := (some .boolean)) (fr := 0) (lo := 0) (own := RX10) [(0, .ref a0), (1, .int x1), (2, .int x2), (3, .int x3), (4, .int x4), (5, .int x5), (6, .int x6)] (by decide) rfl rfl (Nat.le_of_ble_eq_true rfl) rfl (Nat.le_refl _) (Nat.le_refl _) (fun g C E => ?_)
  rw [f_X10_isWord] at hF
  refine gx_iload_n C 1 (gDec_at D_X10_isWord 0 rfl) rfl rfl ?_
  refine gx_aload_n C 0 (gDec_at D_X10_isWord 1 rfl) rfl rfl ?_
  refine gx_geti C fl_X10_isWord_85 (is_X10_sh A0) rfl (gDec_at D_X10_isWord 2 rfl) ?_
  refine gx_isub C (gDec_at D_X10_isWord 3 rfl) ?_
  refine gx_iload_n C 2 (gDec_at D_X10_isWord 4 rfl) rfl rfl ?_
  refine gx_icmp_lt C 55 (gDec_at D_X10_isWord 5 rfl) (by decide) (fun c => ?_) (fun c => ?_)
  · replace hF := gPos c hF
    refine gx_iconst C (v := 0) (gDec_at D_X10_isWord 31 rfl) (by decide) ?_
    obtain rfl := Option.some.inj hF
    exact gx_zret (b := false) C E (gDec_at D_X10_isWord 32 rfl)
  · replace hF := gNeg c hF
    refine gx_aload_n C 0 (gDec_at D_X10_isWord 6 rfl) rfl rfl ?_
    refine gx_getr C fl_X10_isWord_19 (is_X10_sh A0) rfl (gDec_at D_X10_isWord 7 rfl) ?_
    refine gx_aload_n C 0 (gDec_at D_X10_isWord 8 rfl) rfl rfl ?_
    refine gx_geti C fl_X10_isWord_85 (is_X10_sh A0) rfl (gDec_at D_X10_isWord 9 rfl) ?_
    obtain ⟨b1, hF⟩ := gGd hF
    refine gx_caload C (is_X10_text A0) b1 (gDec_at D_X10_isWord 10 rfl) ?_
    refine gx_iload_n C 3 (gDec_at D_X10_isWord 11 rfl) rfl rfl ?_
    refine gx_icmp_ne C 55 (gDec_at D_X10_isWord 12 rfl) (by decide) (fun c => ?_) (fun c => ?_)
    · replace hF := gNeg c hF
      refine gx_iconst C (v := 0) (gDec_at D_X10_isWord 31 rfl) (by decide) ?_
      obtain rfl := Option.some.inj hF
      exact gx_zret (b := false) C E (gDec_at D_X10_isWord 32 rfl)
    · replace hF := gPos c hF
      refine gx_aload_n C 0 (gDec_at D_X10_isWord 13 rfl) rfl rfl ?_
      refine gx_getr C fl_X10_isWord_19 (is_X10_sh A0) rfl (gDec_at D_X10_isWord 14 rfl) ?_
      refine gx_aload_n C 0 (gDec_at D_X10_isWord 15 rfl) rfl rfl ?_
      refine gx_geti C fl_X10_isWord_85 (is_X10_sh A0) rfl (gDec_at D_X10_isWord 16 rfl) ?_
      refine gx_iconst C (v := 1) (gDec_at D_X10_isWord 17 rfl) (by decide) ?_
      refine gx_iadd C (gDec_at D_X10_isWord 18 rfl) ?_
      obtain ⟨b2, hF⟩ := gGd hF
      refine gx_caload C (is_X10_text A0) b2 (gDec_at D_X10_isWord 19 rfl) ?_
      refine gx_iload C 4 (gDec_at D_X10_isWord 20 rfl) rfl ?_
      refine gx_icmp_ne C 55 (gDec_at D_X10_isWord 21 rfl) (by decide) (fun c => ?_) (fun c => ?_)
      · replace hF := gNeg c hF
        refine gx_iconst C (v := 0) (gDec_at D_X10_isWord 31 rfl) (by decide) ?_
        obtain rfl := Option.some.inj hF
        exact gx_zret (b := false) C E (gDec_at D_X10_isWord 32 rfl)
      · replace hF := gPos c hF
        refine gx_aload_n C 0 (gDec_at D_X10_isWord 22 rfl) rfl rfl ?_
        refine gx_getr C fl_X10_isWord_19 (is_X10_sh A0) rfl (gDec_at D_X10_isWord 23 rfl) ?_
        refine gx_aload_n C 0 (gDec_at D_X10_isWord 24 rfl) rfl rfl ?_
        refine gx_geti C fl_X10_isWord_85 (is_X10_sh A0) rfl (gDec_at D_X10_isWord 25 rfl) ?_
        refine gx_iconst C (v := 2) (gDec_at D_X10_isWord 26 rfl) (by decide) ?_
        refine gx_iadd C (gDec_at D_X10_isWord 27 rfl) ?_
        obtain ⟨b3, hF⟩ := gGd hF
        refine gx_caload C (is_X10_text A0) b3 (gDec_at D_X10_isWord 28 rfl) ?_
        refine gx_iload C 5 (gDec_at D_X10_isWord 29 rfl) rfl ?_
        refine gx_icmp_eq C 57 (gDec_at D_X10_isWord 30 rfl) (by decide) (fun c => ?_) (fun c => ?_)
        · replace hF := gPos c hF
          refine gx_iload_n C 2 (gDec_at D_X10_isWord 33 rfl) rfl rfl ?_
          refine gx_iconst C (v := 4) (gDec_at D_X10_isWord 34 rfl) (by decide) ?_
          refine gx_icmp_ge C 80 (gDec_at D_X10_isWord 35 rfl) (by decide) (fun c => ?_) (fun c => ?_)
          · replace hF := gPos c hF
            refine gx_aload_n C 0 (gDec_at D_X10_isWord 46 rfl) rfl rfl ?_
            refine gx_getr C fl_X10_isWord_19 (is_X10_sh A0) rfl (gDec_at D_X10_isWord 47 rfl) ?_
            refine gx_aload_n C 0 (gDec_at D_X10_isWord 48 rfl) rfl rfl ?_
            refine gx_geti C fl_X10_isWord_85 (is_X10_sh A0) rfl (gDec_at D_X10_isWord 49 rfl) ?_
            refine gx_iconst C (v := 3) (gDec_at D_X10_isWord 50 rfl) (by decide) ?_
            refine gx_iadd C (gDec_at D_X10_isWord 51 rfl) ?_
            obtain ⟨b4, hF⟩ := gGd hF
            refine gx_caload C (is_X10_text A0) b4 (gDec_at D_X10_isWord 52 rfl) ?_
            refine gx_iload C 6 (gDec_at D_X10_isWord 53 rfl) rfl ?_
            refine gx_icmp_ne C 100 (gDec_at D_X10_isWord 54 rfl) (by decide) (fun c => ?_) (fun c => ?_)
            · replace hF := gNeg c hF
              refine gx_iconst C (v := 0) (gDec_at D_X10_isWord 57 rfl) (by decide) ?_
              obtain rfl := Option.some.inj hF
              exact gx_zret (b := false) C E (gDec_at D_X10_isWord 58 rfl)
            · replace hF := gPos c hF
              refine gx_iconst C (v := 1) (gDec_at D_X10_isWord 55 rfl) (by decide) ?_
              refine gx_goto C 101 (gDec_at D_X10_isWord 56 rfl) (by decide) ?_
              obtain rfl := Option.some.inj hF
              exact gx_zret (b := true) C E (gDec_at D_X10_isWord 58 rfl)
          · replace hF := gNeg c hF
            refine gx_iload_n C 1 (gDec_at D_X10_isWord 36 rfl) rfl rfl ?_
            refine gx_aload_n C 0 (gDec_at D_X10_isWord 37 rfl) rfl rfl ?_
            refine gx_geti C fl_X10_isWord_85 (is_X10_sh A0) rfl (gDec_at D_X10_isWord 38 rfl) ?_
            refine gx_isub C (gDec_at D_X10_isWord 39 rfl) ?_
            refine gx_iconst C (v := 3) (gDec_at D_X10_isWord 40 rfl) (by decide) ?_
            refine gx_icmp_ne C 76 (gDec_at D_X10_isWord 41 rfl) (by decide) (fun c => ?_) (fun c => ?_)
            · replace hF := gNeg c hF
              refine gx_iconst C (v := 0) (gDec_at D_X10_isWord 44 rfl) (by decide) ?_
              refine gx_goto C 101 (gDec_at D_X10_isWord 45 rfl) (by decide) ?_
              obtain rfl := Option.some.inj hF
              exact gx_zret (b := false) C E (gDec_at D_X10_isWord 58 rfl)
            · replace hF := gPos c hF
              refine gx_iconst C (v := 1) (gDec_at D_X10_isWord 42 rfl) (by decide) ?_
              refine gx_goto C 101 (gDec_at D_X10_isWord 43 rfl) (by decide) ?_
              obtain rfl := Option.some.inj hF
              exact gx_zret (b := true) C E (gDec_at D_X10_isWord 58 rfl)
        · replace hF := gNeg c hF
          refine gx_iconst C (v := 0) (gDec_at D_X10_isWord 31 rfl) (by decide) ?_
          obtain rfl := Option.some.inj hF
          exact gx_zret (b := false) C E (gDec_at D_X10_isWord 32 rfl)
/-! LadderBenchModel.word -/
def rm_X10_word : Room := { frames := 1, cells := 0, slots := 0, locals := 26 }
set_option maxRecDepth 20000 in
theorem ggX10_word_X10_isWord : GoodIn wsX10_word wsX10_isWord := goodIn_r _ [7, 1, 2, 8, 9, 10, 11, 12, 13, 14, 15, 16, 17, 18, 19, 20, 21, 22, 23, 24, 25, 26, 27, 28, 29, 30, 31, 32, 33] (by decide +kernel) (by decide +kernel)
set_option maxRecDepth 20000 in
theorem gX10_word_X10_isWord : GoodIn wsX10_word (wsV RX10 104 RX10 yX10_isWord wsX10_isWord) := goodIn_app (goodIn_of _ (by decide +kernel)) ggX10_word_X10_isWord
theorem hy_X10_word : yX10_word.cls = RX10 ∧ yX10_word.cls ≠ "java/lang/invoke/MethodHandle" ∧ yX10_word.cls ≠ "java/lang/invoke/VarHandle" ∧ (parseMethodDescriptor yX10_word.desc).map (fun d => d.parameters.length) = some 1 := by decide +kernel
set_option maxRecDepth 100000 in
theorem D_X10_word : gDec cX10_word [(0, (.aload_n 0, 1)), (1, (.iload_n 1, 1)), (2, (.iconst 3, 1)), (3, (.bipush 115, 2)), (5, (.bipush 101, 2)), (7, (.bipush 116, 2)), (9, (.iconst 0, 1)), (10, (.invokevirtual 104, 3)), (13, (.ifCond .eq 5, 3)), (16, (.iconst 0, 1)), (17, (.ireturn, 1)), (18, (.iload_n 1, 1)), (19, (.aload_n 0, 1)), (20, (.getfield 85, 3)), (23, (.isub, 1)), (24, (.iconst 4, 1)), (25, (.if_icmp .ne 48, 3)), (28, (.aload_n 0, 1)), (29, (.iload_n 1, 1)), (30, (.iconst 4, 1)), (31, (.bipush 111, 2)), (33, (.bipush 112, 2)), (35, (.bipush 101, 2)), (37, (.bipush 110, 2)), (39, (.invokevirtual 104, 3)), (42, (.ifCond .eq 7, 3)), (45, (.iconst 1, 1)), (46, (.goto 26, 3)), (49, (.aload_n 0, 1)), (50, (.iload_n 1, 1)), (51, (.iconst 4, 1)), (52, (.bipush 109, 2)), (54, (.bipush 101, 2)), (56, (.bipush 110, 2)), (58, (.bipush 100, 2)), (60, (.invokevirtual 104, 3)), (63, (.ifCond .eq 7, 3)), (66, (.iconst 3, 1)), (67, (.goto 5, 3)), (70, (.bipush (-4), 2)), (72, (.ireturn, 1)), (73, (.iload_n 1, 1)), (74, (.aload_n 0, 1)), (75, (.getfield 85, 3)), (78, (.isub, 1)), (79, (.iconst 5, 1)), (80, (.if_icmp .ne 80, 3)), (83, (.aload_n 0, 1)), (84, (.iload_n 1, 1)), (85, (.iconst 4, 1)), (86, (.bipush 115, 2)), (88, (.bipush 104, 2)), (90, (.bipush 111, 2)), (92, (.bipush 114, 2)), (94, (.invokevirtual 104, 3)), (97, (.ifCond .eq 23, 3)), (100, (.aload_n 0, 1)), (101, (.getfield 19, 3)), (104, (.aload_n 0, 1)), (105, (.getfield 85, 3)), (108, (.iconst 4, 1)), (109, (.iadd, 1)), (110, (.caload, 1)), (111, (.bipush 116, 2)), (113, (.if_icmp .ne 7, 3)), (116, (.iconst 2, 1)), (117, (.goto 42, 3)), (120, (.aload_n 0, 1)), (121, (.iload_n 1, 1)), (122, (.iconst 4, 1)), (123, (.bipush 109, 2)), (125, (.bipush 101, 2)), (127, (.bipush 116, 2)), (129, (.bipush 101, 2)), (131, (.invokevirtual 104, 3)), (134, (.ifCond .eq 23, 3)), (137, (.aload_n 0, 1)), (138, (.getfield 19, 3)), (141, (.aload_n 0, 1)), (142, (.getfield 85, 3)), (145, (.iconst 4, 1)), (146, (.iadd, 1)), (147, (.caload, 1)), (148, (.bipush 114, 2)), (150, (.if_icmp .ne 7, 3)), (153, (.iconst 5, 1)), (154, (.goto 5, 3)), (157, (.bipush (-4), 2)), (159, (.ireturn, 1)), (160, (.iload_n 1, 1)), (161, (.aload_n 0, 1)), (162, (.getfield 85, 3)), (165, (.isub, 1)), (166, (.bipush 6, 2)), (168, (.if_icmp .ne 56, 3)), (171, (.aload_n 0, 1)), (172, (.iload_n 1, 1)), (173, (.iconst 4, 1)), (174, (.bipush 115, 2)), (176, (.bipush 111, 2)), (178, (.bipush 117, 2)), (180, (.bipush 114, 2)), (182, (.invokevirtual 104, 3)), (185, (.ifCond .eq 39, 3)), (188, (.aload_n 0, 1)), (189, (.getfield 19, 3)), (192, (.aload_n 0, 1)), (193, (.getfield 85, 3)), (196, (.iconst 4, 1)), (197, (.iadd, 1)), (198, (.caload, 1)), (199, (.bipush 99, 2)), (201, (.if_icmp .ne 23, 3)), (204, (.aload_n 0, 1)), (205, (.getfield 19, 3)), (208, (.aload_n 0, 1)), (209, (.getfield 85, 3)), (212, (.iconst 5, 1)), (213, (.iadd, 1)), (214, (.caload, 1)), (215, (.bipush 101, 2)), (217, (.if_icmp .ne 7, 3)), (220, (.iconst 4, 1)), (221, (.goto 5, 3)), (224, (.bipush (-4), 2)), (226, (.ireturn, 1))] = true := by decide +kernel
set_option maxRecDepth 100000 in
theorem in_X10_word_X10 : ∀ x ∈ u_ws RX10 TX10 26, x ∈ wsX10_word := by decide +kernel
theorem fl_X10_word_85 : gF wsX10_word RX10 85 10 7 := ⟨RX10, TX10, 26, rfl, by decide, in_X10_word_X10, by decide +kernel⟩
theorem fl_X10_word_19 : gF wsX10_word RX10 19 10 6 := ⟨RX10, TX10, 26, rfl, by decide, in_X10_word_X10, by decide +kernel⟩
def f_X10_word_120 (a0 : Nat) (x1 : Int32) (h : gHp) : Option (Int32) := (f_X10_isWord a0 x1 4 109 101 116 101 h).bind fun v10 => if v10 = true then if gIn ((h.1 a0 7) + 4) 40 then if (h.1 (a0 + 4) (gN ((h.1 a0 7) + 4))) = 114 then some 5 else some (-4) else none else some (-4)
set_option maxRecDepth 20000 in
set_option maxHeartbeats 4000000 in
theorem w_X10_word_120 {w : gWd} {g : gCx} (C : gC w g cX10_word wsX10_word RX10 2 1 26) {a0 : Nat} (A0 : is_X10 w a0) (x1 : Int32) (h : gHp)  {o : Int32}  (E : gEn w g (some .int) (some (.int o)) h) (hF : f_X10_word_120 a0 x1 h = some o) : gX w g 2 h 120 [(0, .ref a0), (1, .int x1)] ([]) := by
  rw [f_X10_word_120] at hF
  refine gx_aload_n C 0 (gDec_at D_X10_word 67 rfl) rfl rfl ?_
  refine gx_iload_n C 1 (gDec_at D_X10_word 68 rfl) rfl rfl ?_
  refine gx_iconst C (v := 4) (gDec_at D_X10_word 69 rfl) (by decide) ?_
  refine gx_bipush C (v := 109) (gDec_at D_X10_word 70 rfl) (by decide) ?_
  refine gx_bipush C (v := 101) (gDec_at D_X10_word 71 rfl) (by decide) ?_
  refine gx_bipush C (v := 116) (gDec_at D_X10_word 72 rfl) (by decide) ?_
  refine gx_bipush C (v := 101) (gDec_at D_X10_word 73 rfl) (by decide) ?_
  obtain ⟨v10, hv9, hF⟩ := gBind hF
  refine gx_callV1 C (st := []) 6 [.int x1, .int 4, .int 109, .int 101, .int 116, .int 101] (m_X10_isWord w h A0 x1 4 109 101 116 101 hv9) gX10_word_X10_isWord rfl rfl rfl hy_X10_isWord (Nat.le_of_ble_eq_true rfl) (Nat.le_of_ble_eq_true rfl) (is_X10_sh A0) rfl rfl rfl (Nat.le_of_ble_eq_true rfl) (gDec_at D_X10_word 74 rfl) ?_
  refine gx_ifz_eq C 157 (gDec_at D_X10_word 75 rfl) (by decide) (fun c => ?_) (fun c => ?_)
  · replace hF := gNeg c hF
    refine gx_bipush C (v := (-4)) (gDec_at D_X10_word 87 rfl) (by decide) ?_
    obtain rfl := Option.some.inj hF
    exact gx_iret C E (gDec_at D_X10_word 88 rfl)
  · replace hF := gPos c hF
    refine gx_aload_n C 0 (gDec_at D_X10_word 76 rfl) rfl rfl ?_
    refine gx_getr C fl_X10_word_19 (is_X10_sh A0) rfl (gDec_at D_X10_word 77 rfl) ?_
    refine gx_aload_n C 0 (gDec_at D_X10_word 78 rfl) rfl rfl ?_
    refine gx_geti C fl_X10_word_85 (is_X10_sh A0) rfl (gDec_at D_X10_word 79 rfl) ?_
    refine gx_iconst C (v := 4) (gDec_at D_X10_word 80 rfl) (by decide) ?_
    refine gx_iadd C (gDec_at D_X10_word 81 rfl) ?_
    obtain ⟨b11, hF⟩ := gGd hF
    refine gx_caload C (is_X10_text A0) b11 (gDec_at D_X10_word 82 rfl) ?_
    refine gx_bipush C (v := 114) (gDec_at D_X10_word 83 rfl) (by decide) ?_
    refine gx_icmp_ne C 157 (gDec_at D_X10_word 84 rfl) (by decide) (fun c => ?_) (fun c => ?_)
    · replace hF := gNeg c hF
      refine gx_bipush C (v := (-4)) (gDec_at D_X10_word 87 rfl) (by decide) ?_
      obtain rfl := Option.some.inj hF
      exact gx_iret C E (gDec_at D_X10_word 88 rfl)
    · replace hF := gPos c hF
      refine gx_iconst C (v := 5) (gDec_at D_X10_word 85 rfl) (by decide) ?_
      refine gx_goto C 159 (gDec_at D_X10_word 86 rfl) (by decide) ?_
      obtain rfl := Option.some.inj hF
      exact gx_iret C E (gDec_at D_X10_word 88 rfl)
def f_X10_word (a0 : Nat) (x1 : Int32) (h : gHp) : Option (Int32) := (f_X10_isWord a0 x1 3 115 101 116 0 h).bind fun v2 => if v2 = true then some 0 else if (x1 - (h.1 a0 7)) = 4 then (f_X10_isWord a0 x1 4 111 112 101 110 h).bind fun v14 => if v14 = true then some 1 else (f_X10_isWord a0 x1 4 109 101 110 100 h).bind fun v16 => if v16 = true then some 3 else some (-4) else if (x1 - (h.1 a0 7)) = 5 then (f_X10_isWord a0 x1 4 115 104 111 114 h).bind fun v8 => if v8 = true then if gIn ((h.1 a0 7) + 4) 40 then if (h.1 (a0 + 4) (gN ((h.1 a0 7) + 4))) = 116 then some 2 else f_X10_word_120 a0 x1 h else none else f_X10_word_120 a0 x1 h else if (x1 - (h.1 a0 7)) = 6 then (f_X10_isWord a0 x1 4 115 111 117 114 h).bind fun v4 => if v4 = true then if gIn ((h.1 a0 7) + 4) 40 then if (h.1 (a0 + 4) (gN ((h.1 a0 7) + 4))) = 99 then if gIn ((h.1 a0 7) + 5) 40 then if (h.1 (a0 + 4) (gN ((h.1 a0 7) + 5))) = 101 then some 4 else some (-4) else none else some (-4) else none else some (-4) else some (-4)
set_option maxRecDepth 20000 in
set_option maxHeartbeats 4000000 in
theorem m_X10_word (w : gWd) (h : gHp) {a0 : Nat} (A0 : is_X10 w a0) (x1 : Int32) {o : Int32} (hF : f_X10_word a0 x1 h = some o) : gMet w yX10_word wsX10_word rm_X10_word [.ref a0, .int x1] h (some (.int o)) h := by
  refine gMet_of (cc := cX10_word) (maxL := 2) (ret := (some .int)) (fr := 1) (lo := 26) (own := RX10) [(0, .ref a0), (1, .int x1)] (by decide) rfl rfl (Nat.le_of_ble_eq_true rfl) rfl (Nat.le_refl _) (Nat.le_refl _) (fun g C E => ?_)
  rw [f_X10_word] at hF
  refine gx_aload_n C 0 (gDec_at D_X10_word 0 rfl) rfl rfl ?_
  refine gx_iload_n C 1 (gDec_at D_X10_word 1 rfl) rfl rfl ?_
  refine gx_iconst C (v := 3) (gDec_at D_X10_word 2 rfl) (by decide) ?_
  refine gx_bipush C (v := 115) (gDec_at D_X10_word 3 rfl) (by decide) ?_
  refine gx_bipush C (v := 101) (gDec_at D_X10_word 4 rfl) (by decide) ?_
  refine gx_bipush C (v := 116) (gDec_at D_X10_word 5 rfl) (by decide) ?_
  refine gx_iconst C (v := 0) (gDec_at D_X10_word 6 rfl) (by decide) ?_
  obtain ⟨v2, hv1, hF⟩ := gBind hF
  refine gx_callV1 C (st := []) 6 [.int x1, .int 3, .int 115, .int 101, .int 116, .int 0] (m_X10_isWord w h A0 x1 3 115 101 116 0 hv1) gX10_word_X10_isWord rfl rfl rfl hy_X10_isWord (Nat.le_of_ble_eq_true rfl) (Nat.le_of_ble_eq_true rfl) (is_X10_sh A0) rfl rfl rfl (Nat.le_of_ble_eq_true rfl) (gDec_at D_X10_word 7 rfl) ?_
  refine gx_ifz_eq C 18 (gDec_at D_X10_word 8 rfl) (by decide) (fun c => ?_) (fun c => ?_)
  · replace hF := gNeg c hF
    refine gx_iload_n C 1 (gDec_at D_X10_word 11 rfl) rfl rfl ?_
    refine gx_aload_n C 0 (gDec_at D_X10_word 12 rfl) rfl rfl ?_
    refine gx_geti C fl_X10_word_85 (is_X10_sh A0) rfl (gDec_at D_X10_word 13 rfl) ?_
    refine gx_isub C (gDec_at D_X10_word 14 rfl) ?_
    refine gx_iconst C (v := 4) (gDec_at D_X10_word 15 rfl) (by decide) ?_
    refine gx_icmp_ne C 73 (gDec_at D_X10_word 16 rfl) (by decide) (fun c => ?_) (fun c => ?_)
    · replace hF := gNeg c hF
      refine gx_iload_n C 1 (gDec_at D_X10_word 41 rfl) rfl rfl ?_
      refine gx_aload_n C 0 (gDec_at D_X10_word 42 rfl) rfl rfl ?_
      refine gx_geti C fl_X10_word_85 (is_X10_sh A0) rfl (gDec_at D_X10_word 43 rfl) ?_
      refine gx_isub C (gDec_at D_X10_word 44 rfl) ?_
      refine gx_iconst C (v := 5) (gDec_at D_X10_word 45 rfl) (by decide) ?_
      refine gx_icmp_ne C 160 (gDec_at D_X10_word 46 rfl) (by decide) (fun c => ?_) (fun c => ?_)
      · replace hF := gNeg c hF
        refine gx_iload_n C 1 (gDec_at D_X10_word 89 rfl) rfl rfl ?_
        refine gx_aload_n C 0 (gDec_at D_X10_word 90 rfl) rfl rfl ?_
        refine gx_geti C fl_X10_word_85 (is_X10_sh A0) rfl (gDec_at D_X10_word 91 rfl) ?_
        refine gx_isub C (gDec_at D_X10_word 92 rfl) ?_
        refine gx_bipush C (v := 6) (gDec_at D_X10_word 93 rfl) (by decide) ?_
        refine gx_icmp_ne C 224 (gDec_at D_X10_word 94 rfl) (by decide) (fun c => ?_) (fun c => ?_)
        · replace hF := gNeg c hF
          refine gx_bipush C (v := (-4)) (gDec_at D_X10_word 124 rfl) (by decide) ?_
          obtain rfl := Option.some.inj hF
          exact gx_iret C E (gDec_at D_X10_word 125 rfl)
        · replace hF := gPos c hF
          refine gx_aload_n C 0 (gDec_at D_X10_word 95 rfl) rfl rfl ?_
          refine gx_iload_n C 1 (gDec_at D_X10_word 96 rfl) rfl rfl ?_
          refine gx_iconst C (v := 4) (gDec_at D_X10_word 97 rfl) (by decide) ?_
          refine gx_bipush C (v := 115) (gDec_at D_X10_word 98 rfl) (by decide) ?_
          refine gx_bipush C (v := 111) (gDec_at D_X10_word 99 rfl) (by decide) ?_
          refine gx_bipush C (v := 117) (gDec_at D_X10_word 100 rfl) (by decide) ?_
          refine gx_bipush C (v := 114) (gDec_at D_X10_word 101 rfl) (by decide) ?_
          obtain ⟨v4, hv3, hF⟩ := gBind hF
          refine gx_callV1 C (st := []) 6 [.int x1, .int 4, .int 115, .int 111, .int 117, .int 114] (m_X10_isWord w h A0 x1 4 115 111 117 114 hv3) gX10_word_X10_isWord rfl rfl rfl hy_X10_isWord (Nat.le_of_ble_eq_true rfl) (Nat.le_of_ble_eq_true rfl) (is_X10_sh A0) rfl rfl rfl (Nat.le_of_ble_eq_true rfl) (gDec_at D_X10_word 102 rfl) ?_
          refine gx_ifz_eq C 224 (gDec_at D_X10_word 103 rfl) (by decide) (fun c => ?_) (fun c => ?_)
          · replace hF := gNeg c hF
            refine gx_bipush C (v := (-4)) (gDec_at D_X10_word 124 rfl) (by decide) ?_
            obtain rfl := Option.some.inj hF
            exact gx_iret C E (gDec_at D_X10_word 125 rfl)
          · replace hF := gPos c hF
            refine gx_aload_n C 0 (gDec_at D_X10_word 104 rfl) rfl rfl ?_
            refine gx_getr C fl_X10_word_19 (is_X10_sh A0) rfl (gDec_at D_X10_word 105 rfl) ?_
            refine gx_aload_n C 0 (gDec_at D_X10_word 106 rfl) rfl rfl ?_
            refine gx_geti C fl_X10_word_85 (is_X10_sh A0) rfl (gDec_at D_X10_word 107 rfl) ?_
            refine gx_iconst C (v := 4) (gDec_at D_X10_word 108 rfl) (by decide) ?_
            refine gx_iadd C (gDec_at D_X10_word 109 rfl) ?_
            obtain ⟨b5, hF⟩ := gGd hF
            refine gx_caload C (is_X10_text A0) b5 (gDec_at D_X10_word 110 rfl) ?_
            refine gx_bipush C (v := 99) (gDec_at D_X10_word 111 rfl) (by decide) ?_
            refine gx_icmp_ne C 224 (gDec_at D_X10_word 112 rfl) (by decide) (fun c => ?_) (fun c => ?_)
            · replace hF := gNeg c hF
              refine gx_bipush C (v := (-4)) (gDec_at D_X10_word 124 rfl) (by decide) ?_
              obtain rfl := Option.some.inj hF
              exact gx_iret C E (gDec_at D_X10_word 125 rfl)
            · replace hF := gPos c hF
              refine gx_aload_n C 0 (gDec_at D_X10_word 113 rfl) rfl rfl ?_
              refine gx_getr C fl_X10_word_19 (is_X10_sh A0) rfl (gDec_at D_X10_word 114 rfl) ?_
              refine gx_aload_n C 0 (gDec_at D_X10_word 115 rfl) rfl rfl ?_
              refine gx_geti C fl_X10_word_85 (is_X10_sh A0) rfl (gDec_at D_X10_word 116 rfl) ?_
              refine gx_iconst C (v := 5) (gDec_at D_X10_word 117 rfl) (by decide) ?_
              refine gx_iadd C (gDec_at D_X10_word 118 rfl) ?_
              obtain ⟨b6, hF⟩ := gGd hF
              refine gx_caload C (is_X10_text A0) b6 (gDec_at D_X10_word 119 rfl) ?_
              refine gx_bipush C (v := 101) (gDec_at D_X10_word 120 rfl) (by decide) ?_
              refine gx_icmp_ne C 224 (gDec_at D_X10_word 121 rfl) (by decide) (fun c => ?_) (fun c => ?_)
              · replace hF := gNeg c hF
                refine gx_bipush C (v := (-4)) (gDec_at D_X10_word 124 rfl) (by decide) ?_
                obtain rfl := Option.some.inj hF
                exact gx_iret C E (gDec_at D_X10_word 125 rfl)
              · replace hF := gPos c hF
                refine gx_iconst C (v := 4) (gDec_at D_X10_word 122 rfl) (by decide) ?_
                refine gx_goto C 226 (gDec_at D_X10_word 123 rfl) (by decide) ?_
                obtain rfl := Option.some.inj hF
                exact gx_iret C E (gDec_at D_X10_word 125 rfl)
      · replace hF := gPos c hF
        refine gx_aload_n C 0 (gDec_at D_X10_word 47 rfl) rfl rfl ?_
        refine gx_iload_n C 1 (gDec_at D_X10_word 48 rfl) rfl rfl ?_
        refine gx_iconst C (v := 4) (gDec_at D_X10_word 49 rfl) (by decide) ?_
        refine gx_bipush C (v := 115) (gDec_at D_X10_word 50 rfl) (by decide) ?_
        refine gx_bipush C (v := 104) (gDec_at D_X10_word 51 rfl) (by decide) ?_
        refine gx_bipush C (v := 111) (gDec_at D_X10_word 52 rfl) (by decide) ?_
        refine gx_bipush C (v := 114) (gDec_at D_X10_word 53 rfl) (by decide) ?_
        obtain ⟨v8, hv7, hF⟩ := gBind hF
        refine gx_callV1 C (st := []) 6 [.int x1, .int 4, .int 115, .int 104, .int 111, .int 114] (m_X10_isWord w h A0 x1 4 115 104 111 114 hv7) gX10_word_X10_isWord rfl rfl rfl hy_X10_isWord (Nat.le_of_ble_eq_true rfl) (Nat.le_of_ble_eq_true rfl) (is_X10_sh A0) rfl rfl rfl (Nat.le_of_ble_eq_true rfl) (gDec_at D_X10_word 54 rfl) ?_
        refine gx_ifz_eq C 120 (gDec_at D_X10_word 55 rfl) (by decide) (fun c => ?_) (fun c => ?_)
        · replace hF := gNeg c hF
          exact gx_sub [0, 1] rfl (w_X10_word_120 C A0 x1 h   E hF)
        · replace hF := gPos c hF
          refine gx_aload_n C 0 (gDec_at D_X10_word 56 rfl) rfl rfl ?_
          refine gx_getr C fl_X10_word_19 (is_X10_sh A0) rfl (gDec_at D_X10_word 57 rfl) ?_
          refine gx_aload_n C 0 (gDec_at D_X10_word 58 rfl) rfl rfl ?_
          refine gx_geti C fl_X10_word_85 (is_X10_sh A0) rfl (gDec_at D_X10_word 59 rfl) ?_
          refine gx_iconst C (v := 4) (gDec_at D_X10_word 60 rfl) (by decide) ?_
          refine gx_iadd C (gDec_at D_X10_word 61 rfl) ?_
          obtain ⟨b12, hF⟩ := gGd hF
          refine gx_caload C (is_X10_text A0) b12 (gDec_at D_X10_word 62 rfl) ?_
          refine gx_bipush C (v := 116) (gDec_at D_X10_word 63 rfl) (by decide) ?_
          refine gx_icmp_ne C 120 (gDec_at D_X10_word 64 rfl) (by decide) (fun c => ?_) (fun c => ?_)
          · replace hF := gNeg c hF
            exact gx_sub [0, 1] rfl (w_X10_word_120 C A0 x1 h   E hF)
          · replace hF := gPos c hF
            refine gx_iconst C (v := 2) (gDec_at D_X10_word 65 rfl) (by decide) ?_
            refine gx_goto C 159 (gDec_at D_X10_word 66 rfl) (by decide) ?_
            obtain rfl := Option.some.inj hF
            exact gx_iret C E (gDec_at D_X10_word 88 rfl)
    · replace hF := gPos c hF
      refine gx_aload_n C 0 (gDec_at D_X10_word 17 rfl) rfl rfl ?_
      refine gx_iload_n C 1 (gDec_at D_X10_word 18 rfl) rfl rfl ?_
      refine gx_iconst C (v := 4) (gDec_at D_X10_word 19 rfl) (by decide) ?_
      refine gx_bipush C (v := 111) (gDec_at D_X10_word 20 rfl) (by decide) ?_
      refine gx_bipush C (v := 112) (gDec_at D_X10_word 21 rfl) (by decide) ?_
      refine gx_bipush C (v := 101) (gDec_at D_X10_word 22 rfl) (by decide) ?_
      refine gx_bipush C (v := 110) (gDec_at D_X10_word 23 rfl) (by decide) ?_
      obtain ⟨v14, hv13, hF⟩ := gBind hF
      refine gx_callV1 C (st := []) 6 [.int x1, .int 4, .int 111, .int 112, .int 101, .int 110] (m_X10_isWord w h A0 x1 4 111 112 101 110 hv13) gX10_word_X10_isWord rfl rfl rfl hy_X10_isWord (Nat.le_of_ble_eq_true rfl) (Nat.le_of_ble_eq_true rfl) (is_X10_sh A0) rfl rfl rfl (Nat.le_of_ble_eq_true rfl) (gDec_at D_X10_word 24 rfl) ?_
      refine gx_ifz_eq C 49 (gDec_at D_X10_word 25 rfl) (by decide) (fun c => ?_) (fun c => ?_)
      · replace hF := gNeg c hF
        refine gx_aload_n C 0 (gDec_at D_X10_word 28 rfl) rfl rfl ?_
        refine gx_iload_n C 1 (gDec_at D_X10_word 29 rfl) rfl rfl ?_
        refine gx_iconst C (v := 4) (gDec_at D_X10_word 30 rfl) (by decide) ?_
        refine gx_bipush C (v := 109) (gDec_at D_X10_word 31 rfl) (by decide) ?_
        refine gx_bipush C (v := 101) (gDec_at D_X10_word 32 rfl) (by decide) ?_
        refine gx_bipush C (v := 110) (gDec_at D_X10_word 33 rfl) (by decide) ?_
        refine gx_bipush C (v := 100) (gDec_at D_X10_word 34 rfl) (by decide) ?_
        obtain ⟨v16, hv15, hF⟩ := gBind hF
        refine gx_callV1 C (st := []) 6 [.int x1, .int 4, .int 109, .int 101, .int 110, .int 100] (m_X10_isWord w h A0 x1 4 109 101 110 100 hv15) gX10_word_X10_isWord rfl rfl rfl hy_X10_isWord (Nat.le_of_ble_eq_true rfl) (Nat.le_of_ble_eq_true rfl) (is_X10_sh A0) rfl rfl rfl (Nat.le_of_ble_eq_true rfl) (gDec_at D_X10_word 35 rfl) ?_
        refine gx_ifz_eq C 70 (gDec_at D_X10_word 36 rfl) (by decide) (fun c => ?_) (fun c => ?_)
        · replace hF := gNeg c hF
          refine gx_bipush C (v := (-4)) (gDec_at D_X10_word 39 rfl) (by decide) ?_
          obtain rfl := Option.some.inj hF
          exact gx_iret C E (gDec_at D_X10_word 40 rfl)
        · replace hF := gPos c hF
          refine gx_iconst C (v := 3) (gDec_at D_X10_word 37 rfl) (by decide) ?_
          refine gx_goto C 72 (gDec_at D_X10_word 38 rfl) (by decide) ?_
          obtain rfl := Option.some.inj hF
          exact gx_iret C E (gDec_at D_X10_word 40 rfl)
      · replace hF := gPos c hF
        refine gx_iconst C (v := 1) (gDec_at D_X10_word 26 rfl) (by decide) ?_
        refine gx_goto C 72 (gDec_at D_X10_word 27 rfl) (by decide) ?_
        obtain rfl := Option.some.inj hF
        exact gx_iret C E (gDec_at D_X10_word 40 rfl)
  · replace hF := gPos c hF
    refine gx_iconst C (v := 0) (gDec_at D_X10_word 9 rfl) (by decide) ?_
    obtain rfl := Option.some.inj hF
    exact gx_iret C E (gDec_at D_X10_word 10 rfl)
/-! LadderBenchModel.number -/
def rm_X10_number : Room := { frames := 1, cells := 0, slots := 0, locals := 22 }
set_option maxRecDepth 20000 in
theorem ggX10_number_X10_in : GoodIn wsX10_number wsX10_in := goodIn_r _ [6] (by decide +kernel) (by decide +kernel)
set_option maxRecDepth 20000 in
theorem gX10_number_X10_in : GoodIn wsX10_number (va_wsS RX10 60 yX10_in wsX10_in) := goodIn_app (goodIn_of _ (by decide +kernel)) ggX10_number_X10_in
theorem hy_X10_number : yX10_number.cls = RX10 ∧ yX10_number.cls ≠ "java/lang/invoke/MethodHandle" ∧ yX10_number.cls ≠ "java/lang/invoke/VarHandle" ∧ (parseMethodDescriptor yX10_number.desc).map (fun d => d.parameters.length) = some 2 := by decide +kernel
set_option maxRecDepth 100000 in
theorem D_X10_number : gDec cX10_number [(0, (.iload_n 1, 1)), (1, (.aload_n 0, 1)), (2, (.getfield 85, 3)), (5, (.isub, 1)), (6, (.iconst 1, 1)), (7, (.iconst 3, 1)), (8, (.invokestatic 60, 3)), (11, (.ifCond .eq 17, 3)), (14, (.aload_n 0, 1)), (15, (.getfield 19, 3)), (18, (.aload_n 0, 1)), (19, (.getfield 85, 3)), (22, (.caload, 1)), (23, (.bipush 48, 2)), (25, (.if_icmp .ne 6, 3)), (28, (.bipush (-4), 2)), (30, (.ireturn, 1)), (31, (.iconst 0, 1)), (32, (.istore_n 3, 1)), (33, (.aload_n 0, 1)), (34, (.getfield 85, 3)), (37, (.istore 4, 2)), (39, (.iload 4, 2)), (41, (.iload_n 1, 1)), (42, (.if_icmp .ge 45, 3)), (45, (.aload_n 0, 1)), (46, (.getfield 19, 3)), (49, (.iload 4, 2)), (51, (.caload, 1)), (52, (.bipush 48, 2)), (54, (.bipush 57, 2)), (56, (.invokestatic 60, 3)), (59, (.ifCond .ne 6, 3)), (62, (.bipush (-4), 2)), (64, (.ireturn, 1)), (65, (.bipush 10, 2)), (67, (.iload_n 3, 1)), (68, (.imul, 1)), (69, (.aload_n 0, 1)), (70, (.getfield 19, 3)), (73, (.iload 4, 2)), (75, (.caload, 1)), (76, (.iadd, 1)), (77, (.bipush 48, 2)), (79, (.isub, 1)), (80, (.istore_n 3, 1)), (81, (.iinc 4 1, 3)), (84, (.goto (-45), 3)), (87, (.iload_n 3, 1)), (88, (.iload_n 2, 1)), (89, (.if_icmp .gt 7, 3)), (92, (.iload_n 3, 1)), (93, (.goto 5, 3)), (96, (.bipush (-4), 2)), (98, (.ireturn, 1))] = true := by decide +kernel
set_option maxRecDepth 100000 in
theorem in_X10_number_X10 : ∀ x ∈ u_ws RX10 TX10 26, x ∈ wsX10_number := by decide +kernel
theorem fl_X10_number_85 : gF wsX10_number RX10 85 10 7 := ⟨RX10, TX10, 26, rfl, by decide, in_X10_number_X10, by decide +kernel⟩
theorem fl_X10_number_19 : gF wsX10_number RX10 19 10 6 := ⟨RX10, TX10, 26, rfl, by decide, in_X10_number_X10, by decide +kernel⟩
def f_X10_number_39 (a0 : Nat) (x1 : Int32) (x2 : Int32) (h : gHp) : Nat → Int32 → Int32 → Option (Int32)
  | 0, _, _ => none
  | n + 1, x3, x4 => if x1 ≤ x4 then if x2 < x3 then some (-4) else some x3 else if gIn x4 40 then (f_X10_in (h.1 (a0 + 4) (gN x4)) 48 57 h).bind fun v6 => if v6 = true then if gIn x4 40 then f_X10_number_39 a0 x1 x2 h n (((10 * x3) + (h.1 (a0 + 4) (gN x4))) - 48) (x4 + 1) else none else some (-4) else none
set_option maxRecDepth 20000 in
set_option maxHeartbeats 4000000 in
theorem w_X10_number_39 {w : gWd} {g : gCx} (C : gC w g cX10_number wsX10_number RX10 5 1 22) {a0 : Nat} (A0 : is_X10 w a0) (x1 : Int32) (x2 : Int32) (h : gHp)  {o : Int32} (E : gEn w g (some .int) (some (.int o)) h) : ∀ (n : Nat) (x3 : Int32) (x4 : Int32), f_X10_number_39 a0 x1 x2 h n x3 x4 = some o → gX w g 5 h 39 [(0, .ref a0), (1, .int x1), (2, .int x2), (3, .int x3), (4, .int x4)] [] := by
  intro n
  induction n with
  | zero => intro _ _ hF; cases hF
  | succ n ih =>
    intro x3 x4 hF
    rw [f_X10_number_39] at hF
    refine gx_iload C 4 (gDec_at D_X10_number 22 rfl) rfl ?_
    refine gx_iload_n C 1 (gDec_at D_X10_number 23 rfl) rfl rfl ?_
    refine gx_icmp_ge C 87 (gDec_at D_X10_number 24 rfl) (by decide) (fun c => ?_) (fun c => ?_)
    · replace hF := gPos c hF
      refine gx_iload_n C 3 (gDec_at D_X10_number 48 rfl) rfl rfl ?_
      refine gx_iload_n C 2 (gDec_at D_X10_number 49 rfl) rfl rfl ?_
      refine gx_icmp_gt C 96 (gDec_at D_X10_number 50 rfl) (by decide) (fun c => ?_) (fun c => ?_)
      · replace hF := gPos c hF
        refine gx_bipush C (v := (-4)) (gDec_at D_X10_number 53 rfl) (by decide) ?_
        obtain rfl := Option.some.inj hF
        exact gx_iret C E (gDec_at D_X10_number 54 rfl)
      · replace hF := gNeg c hF
        refine gx_iload_n C 3 (gDec_at D_X10_number 51 rfl) rfl rfl ?_
        refine gx_goto C 98 (gDec_at D_X10_number 52 rfl) (by decide) ?_
        obtain rfl := Option.some.inj hF
        exact gx_iret C E (gDec_at D_X10_number 54 rfl)
    · replace hF := gNeg c hF
      refine gx_aload_n C 0 (gDec_at D_X10_number 25 rfl) rfl rfl ?_
      refine gx_getr C fl_X10_number_19 (is_X10_sh A0) rfl (gDec_at D_X10_number 26 rfl) ?_
      refine gx_iload C 4 (gDec_at D_X10_number 27 rfl) rfl ?_
      obtain ⟨b4, hF⟩ := gGd hF
      refine gx_caload C (is_X10_text A0) b4 (gDec_at D_X10_number 28 rfl) ?_
      refine gx_bipush C (v := 48) (gDec_at D_X10_number 29 rfl) (by decide) ?_
      refine gx_bipush C (v := 57) (gDec_at D_X10_number 30 rfl) (by decide) ?_
      obtain ⟨v6, hv5, hF⟩ := gBind hF
      refine gx_callS1 C (st := []) 3 [.int (h.1 (a0 + 4) (gN x4)), .int 48, .int 57] (m_X10_in w h (h.1 (a0 + 4) (gN x4)) 48 57 hv5) gX10_number_X10_in rfl rfl rfl hy_X10_in (Nat.le_of_ble_eq_true rfl) (Nat.le_of_ble_eq_true rfl) rfl rfl (Nat.le_of_ble_eq_true rfl) (gDec_at D_X10_number 31 rfl) ?_
      refine gx_ifz_ne C 65 (gDec_at D_X10_number 32 rfl) (by decide) (fun c => ?_) (fun c => ?_)
      · replace hF := gPos c hF
        refine gx_bipush C (v := 10) (gDec_at D_X10_number 35 rfl) (by decide) ?_
        refine gx_iload_n C 3 (gDec_at D_X10_number 36 rfl) rfl rfl ?_
        refine gx_imul C (gDec_at D_X10_number 37 rfl) ?_
        refine gx_aload_n C 0 (gDec_at D_X10_number 38 rfl) rfl rfl ?_
        refine gx_getr C fl_X10_number_19 (is_X10_sh A0) rfl (gDec_at D_X10_number 39 rfl) ?_
        refine gx_iload C 4 (gDec_at D_X10_number 40 rfl) rfl ?_
        obtain ⟨b7, hF⟩ := gGd hF
        refine gx_caload C (is_X10_text A0) b7 (gDec_at D_X10_number 41 rfl) ?_
        refine gx_iadd C (gDec_at D_X10_number 42 rfl) ?_
        refine gx_bipush C (v := 48) (gDec_at D_X10_number 43 rfl) (by decide) ?_
        refine gx_isub C (gDec_at D_X10_number 44 rfl) ?_
        refine gx_istore_n C (lv' := [(3, .int (((10 * x3) + (h.1 (a0 + 4) (gN x4))) - 48)), (0, .ref a0), (1, .int x1), (2, .int x2), (4, .int x4)]) (gDec_at D_X10_number 45 rfl) rfl (Nat.le_of_ble_eq_true rfl) rfl ?_
        refine gx_iinc C (j := 4) (v := x4 + 1) (lv' := [(4, .int (x4 + 1)), (3, .int (((10 * x3) + (h.1 (a0 + 4) (gN x4))) - 48)), (0, .ref a0), (1, .int x1), (2, .int x2)]) (gDec_at D_X10_number 46 rfl) rfl (by rfl) (Nat.le_of_ble_eq_true rfl) rfl ?_
        refine gx_goto C 39 (gDec_at D_X10_number 47 rfl) (by decide) ?_
        exact gx_sub [2, 3, 4, 1, 0] rfl (ih (((10 * x3) + (h.1 (a0 + 4) (gN x4))) - 48) (x4 + 1) hF)
      · replace hF := gNeg c hF
        refine gx_bipush C (v := (-4)) (gDec_at D_X10_number 33 rfl) (by decide) ?_
        obtain rfl := Option.some.inj hF
        exact gx_iret C E (gDec_at D_X10_number 34 rfl)
def f_X10_number (a0 : Nat) (x1 : Int32) (x2 : Int32) (h : gHp) : Option (Int32) := (f_X10_in (x1 - (h.1 a0 7)) 1 3 h).bind fun v2 => if v2 = true then if gIn (h.1 a0 7) 40 then if (h.1 (a0 + 4) (gN (h.1 a0 7))) = 48 then some (-4) else f_X10_number_39 a0 x1 x2 h gFuel 0 (h.1 a0 7) else none else some (-4)
set_option maxRecDepth 20000 in
set_option maxHeartbeats 4000000 in
theorem m_X10_number (w : gWd) (h : gHp) {a0 : Nat} (A0 : is_X10 w a0) (x1 : Int32) (x2 : Int32) {o : Int32} (hF : f_X10_number a0 x1 x2 h = some o) : gMet w yX10_number wsX10_number rm_X10_number [.ref a0, .int x1, .int x2] h (some (.int o)) h := by
  refine gMet_of (cc := cX10_number) (maxL := 5) (ret := (some .int)) (fr := 1) (lo := 22) (own := RX10) [(0, .ref a0), (1, .int x1), (2, .int x2)] (by decide) rfl rfl (Nat.le_of_ble_eq_true rfl) rfl (Nat.le_refl _) (Nat.le_refl _) (fun g C E => ?_)
  rw [f_X10_number] at hF
  refine gx_iload_n C 1 (gDec_at D_X10_number 0 rfl) rfl rfl ?_
  refine gx_aload_n C 0 (gDec_at D_X10_number 1 rfl) rfl rfl ?_
  refine gx_geti C fl_X10_number_85 (is_X10_sh A0) rfl (gDec_at D_X10_number 2 rfl) ?_
  refine gx_isub C (gDec_at D_X10_number 3 rfl) ?_
  refine gx_iconst C (v := 1) (gDec_at D_X10_number 4 rfl) (by decide) ?_
  refine gx_iconst C (v := 3) (gDec_at D_X10_number 5 rfl) (by decide) ?_
  obtain ⟨v2, hv1, hF⟩ := gBind hF
  refine gx_callS1 C (st := []) 3 [.int (x1 - (h.1 a0 7)), .int 1, .int 3] (m_X10_in w h (x1 - (h.1 a0 7)) 1 3 hv1) gX10_number_X10_in rfl rfl rfl hy_X10_in (Nat.le_of_ble_eq_true rfl) (Nat.le_of_ble_eq_true rfl) rfl rfl (Nat.le_of_ble_eq_true rfl) (gDec_at D_X10_number 6 rfl) ?_
  refine gx_ifz_eq C 28 (gDec_at D_X10_number 7 rfl) (by decide) (fun c => ?_) (fun c => ?_)
  · replace hF := gNeg c hF
    refine gx_bipush C (v := (-4)) (gDec_at D_X10_number 15 rfl) (by decide) ?_
    obtain rfl := Option.some.inj hF
    exact gx_iret C E (gDec_at D_X10_number 16 rfl)
  · replace hF := gPos c hF
    refine gx_aload_n C 0 (gDec_at D_X10_number 8 rfl) rfl rfl ?_
    refine gx_getr C fl_X10_number_19 (is_X10_sh A0) rfl (gDec_at D_X10_number 9 rfl) ?_
    refine gx_aload_n C 0 (gDec_at D_X10_number 10 rfl) rfl rfl ?_
    refine gx_geti C fl_X10_number_85 (is_X10_sh A0) rfl (gDec_at D_X10_number 11 rfl) ?_
    obtain ⟨b3, hF⟩ := gGd hF
    refine gx_caload C (is_X10_text A0) b3 (gDec_at D_X10_number 12 rfl) ?_
    refine gx_bipush C (v := 48) (gDec_at D_X10_number 13 rfl) (by decide) ?_
    refine gx_icmp_ne C 31 (gDec_at D_X10_number 14 rfl) (by decide) (fun c => ?_) (fun c => ?_)
    · replace hF := gNeg c hF
      refine gx_iconst C (v := 0) (gDec_at D_X10_number 17 rfl) (by decide) ?_
      refine gx_istore_n C (lv' := [(3, .int 0), (0, .ref a0), (1, .int x1), (2, .int x2)]) (gDec_at D_X10_number 18 rfl) rfl (Nat.le_of_ble_eq_true rfl) rfl ?_
      refine gx_aload_n C 1 (gDec_at D_X10_number 19 rfl) rfl rfl ?_
      refine gx_geti C fl_X10_number_85 (is_X10_sh A0) rfl (gDec_at D_X10_number 20 rfl) ?_
      refine gx_istore C (lv' := [(4, .int (h.1 a0 7)), (3, .int 0), (0, .ref a0), (1, .int x1), (2, .int x2)]) (gDec_at D_X10_number 21 rfl) (Nat.le_of_ble_eq_true rfl) rfl ?_
      exact gx_sub [2, 3, 4, 1, 0] rfl (w_X10_number_39 C A0 x1 x2 h   E gFuel 0 (h.1 a0 7) hF)
    · replace hF := gPos c hF
      refine gx_bipush C (v := (-4)) (gDec_at D_X10_number 15 rfl) (by decide) ?_
      obtain rfl := Option.some.inj hF
      exact gx_iret C E (gDec_at D_X10_number 16 rfl)
