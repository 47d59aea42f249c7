/-! LadderBenchModel.loss -/
def rm_X10_loss : Room := { frames := 8, cells := 0, slots := 0, locals := 207 }
set_option maxRecDepth 20000 in
theorem ggX10_loss_X10_lossOf : GoodIn wsX10_loss wsX10_lossOf := goodIn_r _ [17, 18, 19, 20, 21, 22, 23, 4, 24, 25, 26, 27, 28, 29, 30, 31, 32, 10, 6, 7, 8, 9, 33, 34, 35, 36, 37, 38, 39, 40, 41, 42, 43, 44, 45, 46, 47, 48, 49, 50, 51, 52, 53, 54, 55, 56, 57, 58, 59, 60, 61, 62, 63, 64, 65, 66, 67, 68, 69, 70, 71, 72, 73, 74, 75, 76, 77, 78, 79, 80, 81, 82, 83, 84, 85, 86, 87, 88, 89, 90, 91, 92, 93, 94, 95, 96, 97, 98, 99, 100, 101, 102, 103, 104, 105, 106, 107, 108, 109, 110, 111, 112, 113, 114, 115, 116] (by decide +kernel) (by decide +kernel)
set_option maxRecDepth 20000 in
theorem gX10_loss_X10_lossOf : GoodIn wsX10_loss (wsV RX10 231 RX10 yX10_lossOf wsX10_lossOf) := goodIn_app (goodIn_of _ (by decide +kernel)) ggX10_loss_X10_lossOf
set_option maxRecDepth 20000 in
theorem ggX10_loss_X10_noPart : GoodIn wsX10_loss wsX10_noPart := goodIn_r _ [5, 6, 7, 8, 4, 9, 10, 11, 12, 13, 91, 92, 93, 94, 95, 96, 97, 98, 99, 100, 101, 102, 103, 104, 105, 106, 107, 108, 109, 110, 111, 112, 113, 114, 115, 116] (by decide +kernel) (by decide +kernel)
set_option maxRecDepth 20000 in
theorem gX10_loss_X10_noPart : GoodIn wsX10_loss (wsV RX10 145 RX10 yX10_noPart wsX10_noPart) := goodIn_app (goodIn_of _ (by decide +kernel)) ggX10_loss_X10_noPart
theorem hy_X10_loss : yX10_loss.cls = RX10 ∧ yX10_loss.cls ≠ "java/lang/invoke/MethodHandle" ∧ yX10_loss.cls ≠ "java/lang/invoke/VarHandle" ∧ (parseMethodDescriptor yX10_loss.desc).map (fun d => d.parameters.length) = some 1 := by decide +kernel
set_option maxRecDepth 100000 in
theorem D_X10_loss : gDec cX10_loss [(0, (.aload_n 0, 1)), (1, (.iload_n 1, 1)), (2, (.invokevirtual 145, 3)), (5, (.ifCond .eq 7, 3)), (8, (.iconst (-1), 1)), (9, (.goto 8, 3)), (12, (.aload_n 0, 1)), (13, (.iload_n 1, 1)), (14, (.invokevirtual 231, 3)), (17, (.ireturn, 1))] = true := by decide +kernel
def f_X10_loss (a0 : Nat) (x1 : Int32) (h : gHp) : Option (Int32 × gHp) := (f_X10_noPart a0 x1 h).bind fun v2 => if v2 = true then some ((-1), h) else (f_X10_lossOf a0 x1 h).bind fun v4 => some (v4.1, v4.2)
set_option maxRecDepth 20000 in
set_option maxHeartbeats 4000000 in
theorem m_X10_loss (w : gWd) (h : gHp) {a0 : Nat} (A0 : is_X10 w a0) (x1 : Int32) {o : Int32 × gHp} (hF : f_X10_loss a0 x1 h = some o) : gMet w yX10_loss wsX10_loss rm_X10_loss [.ref a0, .int x1] h (some (.int o.1)) o.2 := by
  refine gMet_of (cc := cX10_loss) (maxL := 2) (ret := (some .int)) (fr := 8) (lo := 207) (own := RX10) [(0, .ref a0), (1, .int x1)] (by decide) rfl rfl (Nat.le_of_ble_eq_true rfl) rfl (Nat.le_refl _) (Nat.le_refl _) (fun g C E => ?_)
  rw [f_X10_loss] at hF
  refine gx_aload_n C 0 (gDec_at D_X10_loss 0 rfl) rfl rfl ?_
  refine gx_iload_n C 1 (gDec_at D_X10_loss 1 rfl) rfl rfl ?_
  obtain ⟨v2, hv1, hF⟩ := gBind hF
  refine gx_callV1 C (st := []) 1 [.int x1] (m_X10_noPart w h A0 x1 hv1) gX10_loss_X10_noPart rfl rfl rfl hy_X10_noPart (Nat.le_of_ble_eq_true rfl) (Nat.le_of_ble_eq_true rfl) (is_X10_sh A0) rfl rfl rfl (Nat.le_of_ble_eq_true rfl) (gDec_at D_X10_loss 2 rfl) ?_
  refine gx_ifz_eq C 12 (gDec_at D_X10_loss 3 rfl) (by decide) (fun c => ?_) (fun c => ?_)
  · replace hF := gNeg c hF
    refine gx_aload_n C 0 (gDec_at D_X10_loss 6 rfl) rfl rfl ?_
    refine gx_iload_n C 1 (gDec_at D_X10_loss 7 rfl) rfl rfl ?_
    obtain ⟨v4, hv3, hF⟩ := gBind hF
    refine gx_callV1 C (st := []) 1 [.int x1] (m_X10_lossOf w h A0 x1 hv3) gX10_loss_X10_lossOf rfl rfl rfl hy_X10_lossOf (Nat.le_of_ble_eq_true rfl) (Nat.le_of_ble_eq_true rfl) (is_X10_sh A0) rfl rfl rfl (Nat.le_of_ble_eq_true rfl) (gDec_at D_X10_loss 8 rfl) ?_
    obtain rfl := Option.some.inj hF
    exact gx_iret C E (gDec_at D_X10_loss 9 rfl)
  · replace hF := gPos c hF
    refine gx_iconst C (v := (-1)) (gDec_at D_X10_loss 4 rfl) (by decide) ?_
    refine gx_goto C 17 (gDec_at D_X10_loss 5 rfl) (by decide) ?_
    obtain rfl := Option.some.inj hF
    exact gx_iret C E (gDec_at D_X10_loss 9 rfl)
/-! LadderBenchModel.worst -/
def rm_X10_worst : Room := { frames := 8, cells := 0, slots := 0, locals := 207 }
set_option maxRecDepth 20000 in
theorem ggX10_worst_X10_lossOf : GoodIn wsX10_worst wsX10_lossOf := goodIn_r _ [10, 11, 12, 13, 14, 15, 16, 4, 17, 18, 19, 20, 21, 22, 23, 24, 25, 6, 1, 2, 3, 5, 26, 27, 28, 29, 30, 31, 32, 33, 34, 35, 36, 37, 38, 39, 40, 41, 42, 43, 44, 45, 46, 47, 48, 49, 50, 51, 52, 53, 54, 55, 56, 57, 58, 59, 60, 61, 62, 63, 64, 65, 66, 67, 68, 69, 70, 71, 72, 73, 74, 75, 76, 77, 78, 79, 80, 81, 82, 83, 84, 85, 86, 87, 88, 89, 90, 91, 92, 93, 94, 95, 96, 97, 98, 99, 100, 101, 102, 103, 104, 105, 106, 107, 108, 109] (by decide +kernel) (by decide +kernel)
set_option maxRecDepth 20000 in
theorem gX10_worst_X10_lossOf : GoodIn wsX10_worst (wsV RX10 231 RX10 yX10_lossOf wsX10_lossOf) := goodIn_app (goodIn_of _ (by decide +kernel)) ggX10_worst_X10_lossOf
set_option maxRecDepth 20000 in
theorem ggX10_worst_X10_parts : GoodIn wsX10_worst wsX10_parts := goodIn_r _ [5, 6, 84, 85, 86, 87, 88, 89, 90, 91, 92, 93, 94, 95, 96, 97, 98, 99, 100, 101, 102, 103, 104, 105, 106, 107, 108, 109] (by decide +kernel) (by decide +kernel)
set_option maxRecDepth 20000 in
theorem gX10_worst_X10_parts : GoodIn wsX10_worst (wsV RX10 56 RX10 yX10_parts wsX10_parts) := goodIn_app (goodIn_of _ (by decide +kernel)) ggX10_worst_X10_parts
theorem hy_X10_worst : yX10_worst.cls = RX10 ∧ yX10_worst.cls ≠ "java/lang/invoke/MethodHandle" ∧ yX10_worst.cls ≠ "java/lang/invoke/VarHandle" ∧ (parseMethodDescriptor yX10_worst.desc).map (fun d => d.parameters.length) = some 0 := by decide +kernel
set_option maxRecDepth 100000 in
theorem D_X10_worst : gDec cX10_worst [(0, (.bipush (-4), 2)), (2, (.istore_n 1, 1)), (3, (.iconst 0, 1)), (4, (.istore_n 2, 1)), (5, (.iconst 0, 1)), (6, (.istore_n 3, 1)), (7, (.iload_n 3, 1)), (8, (.aload_n 0, 1)), (9, (.invokevirtual 56, 3)), (12, (.if_icmp .ge 33, 3)), (15, (.aload_n 0, 1)), (16, (.iload_n 3, 1)), (17, (.invokevirtual 231, 3)), (20, (.istore 4, 2)), (22, (.iload_n 1, 1)), (23, (.bipush (-4), 2)), (25, (.if_icmp .eq 9, 3)), (28, (.iload 4, 2)), (30, (.iload_n 2, 1)), (31, (.if_icmp .le 8, 3)), (34, (.iload_n 3, 1)), (35, (.istore_n 1, 1)), (36, (.iload 4, 2)), (38, (.istore_n 2, 1)), (39, (.iinc 3 1, 3)), (42, (.goto (-35), 3)), (45, (.iload_n 1, 1)), (46, (.ireturn, 1))] = true := by decide +kernel
def f_X10_worst_7 (a0 : Nat) : Nat → Int32 → Int32 → Int32 → gHp → Option (Int32 × gHp)
  | 0, _, _, _, _ => none
  | n + 1, x1, x2, x3, h => (f_X10_parts a0 h).bind fun v2 => if v2 ≤ x3 then some (x1, h) else (f_X10_lossOf a0 x3 h).bind fun v4 => if x1 = (-4) then f_X10_worst_7 a0 n x3 v4.1 (x3 + 1) v4.2 else if v4.1 ≤ x2 then f_X10_worst_7 a0 n x1 x2 (x3 + 1) v4.2 else f_X10_worst_7 a0 n x3 v4.1 (x3 + 1) v4.2
set_option maxRecDepth 20000 in
set_option maxHeartbeats 4000000 in
theorem w_X10_worst_7 {w : gWd} {g : gCx} (C : gC w g cX10_worst wsX10_worst RX10 5 8 207) {a0 : Nat} (A0 : is_X10 w a0)  {o : Int32 × gHp} (hk : gX w g 5 o.2 45 [(1, .int o.1)] []) : ∀ (n : Nat) (x1 : Int32) (x2 : Int32) (x3 : Int32) (h : gHp), f_X10_worst_7 a0 n x1 x2 x3 h = some o → gX w g 5 h 7 [(0, .ref a0), (1, .int x1), (2, .int x2), (3, .int x3)] [] := by
  intro n
  induction n with
  | zero => intro _ _ _ _ hF; cases hF
  | succ n ih =>
    intro x1 x2 x3 h hF
    rw [f_X10_worst_7] at hF
    refine gx_iload_n C 3 (gDec_at D_X10_worst 6 rfl) rfl rfl ?_
    refine gx_aload_n C 0 (gDec_at D_X10_worst 7 rfl) rfl rfl ?_
    obtain ⟨v2, hv1, hF⟩ := gBind hF
    refine gx_callV1 C (st := .int x3 :: []) 0 [] (m_X10_parts w h A0 hv1) gX10_worst_X10_parts rfl rfl rfl hy_X10_parts (Nat.le_of_ble_eq_true rfl) (Nat.le_of_ble_eq_true rfl) (is_X10_sh A0) rfl rfl rfl (Nat.le_of_ble_eq_true rfl) (gDec_at D_X10_worst 8 rfl) ?_
    refine gx_icmp_ge C 45 (gDec_at D_X10_worst 9 rfl) (by decide) (fun c => ?_) (fun c => ?_)
    · replace hF := gPos c hF
      obtain rfl := Option.some.inj hF
      exact gx_sub [1] rfl hk
    · replace hF := gNeg c hF
      refine gx_aload_n C 0 (gDec_at D_X10_worst 10 rfl) rfl rfl ?_
      refine gx_iload_n C 3 (gDec_at D_X10_worst 11 rfl) rfl rfl ?_
      obtain ⟨v4, hv3, hF⟩ := gBind hF
      refine gx_callV1 C (st := []) 1 [.int x3] (m_X10_lossOf w h A0 x3 hv3) gX10_worst_X10_lossOf rfl rfl rfl hy_X10_lossOf (Nat.le_of_ble_eq_true rfl) (Nat.le_of_ble_eq_true rfl) (is_X10_sh A0) rfl rfl rfl (Nat.le_of_ble_eq_true rfl) (gDec_at D_X10_worst 12 rfl) ?_
      refine gx_istore C (lv' := [(4, .int v4.1), (0, .ref a0), (1, .int x1), (2, .int x2), (3, .int x3)]) (gDec_at D_X10_worst 13 rfl) (Nat.le_of_ble_eq_true rfl) rfl ?_
      refine gx_iload_n C 2 (gDec_at D_X10_worst 14 rfl) rfl rfl ?_
      refine gx_bipush C (v := (-4)) (gDec_at D_X10_worst 15 rfl) (by decide) ?_
      refine gx_icmp_eq C 34 (gDec_at D_X10_worst 16 rfl) (by decide) (fun c => ?_) (fun c => ?_)
      · replace hF := gPos c hF
        refine gx_iload_n C 4 (gDec_at D_X10_worst 20 rfl) rfl rfl ?_
        refine gx_istore_n C (lv' := [(1, .int x3), (4, .int v4.1), (0, .ref a0), (2, .int x2), (3, .int x3)]) (gDec_at D_X10_worst 21 rfl) rfl (Nat.le_of_ble_eq_true rfl) rfl ?_
        refine gx_iload C 1 (gDec_at D_X10_worst 22 rfl) rfl ?_
        refine gx_istore_n C (lv' := [(2, .int v4.1), (1, .int x3), (4, .int v4.1), (0, .ref a0), (3, .int x3)]) (gDec_at D_X10_worst 23 rfl) rfl (Nat.le_of_ble_eq_true rfl) rfl ?_
        refine gx_iinc C (j := 4) (v := x3 + 1) (lv' := [(3, .int (x3 + 1)), (2, .int v4.1), (1, .int x3), (4, .int v4.1), (0, .ref a0)]) (gDec_at D_X10_worst 24 rfl) rfl (by rfl) (Nat.le_of_ble_eq_true rfl) rfl ?_
        refine gx_goto C 7 (gDec_at D_X10_worst 25 rfl) (by decide) ?_
        exact gx_sub [4, 2, 1, 0] rfl (ih x3 v4.1 (x3 + 1) v4.2 hF)
      · replace hF := gNeg c hF
        refine gx_iload C 0 (gDec_at D_X10_worst 17 rfl) rfl ?_
        refine gx_iload_n C 3 (gDec_at D_X10_worst 18 rfl) rfl rfl ?_
        refine gx_icmp_le C 39 (gDec_at D_X10_worst 19 rfl) (by decide) (fun c => ?_) (fun c => ?_)
        · replace hF := gPos c hF
          refine gx_iinc C (j := 4) (v := x3 + 1) (lv' := [(3, .int (x3 + 1)), (4, .int v4.1), (0, .ref a0), (1, .int x1), (2, .int x2)]) (gDec_at D_X10_worst 24 rfl) rfl (by rfl) (Nat.le_of_ble_eq_true rfl) rfl ?_
          refine gx_goto C 7 (gDec_at D_X10_worst 25 rfl) (by decide) ?_
          exact gx_sub [2, 3, 4, 0] rfl (ih x1 x2 (x3 + 1) v4.2 hF)
        · replace hF := gNeg c hF
          refine gx_iload_n C 4 (gDec_at D_X10_worst 20 rfl) rfl rfl ?_
          refine gx_istore_n C (lv' := [(1, .int x3), (4, .int v4.1), (0, .ref a0), (2, .int x2), (3, .int x3)]) (gDec_at D_X10_worst 21 rfl) rfl (Nat.le_of_ble_eq_true rfl) rfl ?_
          refine gx_iload C 1 (gDec_at D_X10_worst 22 rfl) rfl ?_
          refine gx_istore_n C (lv' := [(2, .int v4.1), (1, .int x3), (4, .int v4.1), (0, .ref a0), (3, .int x3)]) (gDec_at D_X10_worst 23 rfl) rfl (Nat.le_of_ble_eq_true rfl) rfl ?_
          refine gx_iinc C (j := 4) (v := x3 + 1) (lv' := [(3, .int (x3 + 1)), (2, .int v4.1), (1, .int x3), (4, .int v4.1), (0, .ref a0)]) (gDec_at D_X10_worst 24 rfl) rfl (by rfl) (Nat.le_of_ble_eq_true rfl) rfl ?_
          refine gx_goto C 7 (gDec_at D_X10_worst 25 rfl) (by decide) ?_
          exact gx_sub [4, 2, 1, 0] rfl (ih x3 v4.1 (x3 + 1) v4.2 hF)
def f_X10_worst (a0 : Nat) (h : gHp) : Option (Int32 × gHp) := (f_X10_worst_7 a0 gFuel (-4) 0 0 h).bind fun v5 => some (v5.1, v5.2)
set_option maxRecDepth 20000 in
set_option maxHeartbeats 4000000 in
theorem m_X10_worst (w : gWd) (h : gHp) {a0 : Nat} (A0 : is_X10 w a0) {o : Int32 × gHp} (hF : f_X10_worst a0 h = some o) : gMet w yX10_worst wsX10_worst rm_X10_worst [.ref a0] h (some (.int o.1)) o.2 := by
  refine gMet_of (cc := cX10_worst) (maxL := 5) (ret := (some .int)) (fr := 8) (lo := 207) (own := RX10) [(0, .ref a0)] (by decide) rfl rfl (Nat.le_of_ble_eq_true rfl) rfl (Nat.le_refl _) (Nat.le_refl _) (fun g C E => ?_)
  rw [f_X10_worst] at hF
  refine gx_bipush C (v := (-4)) (gDec_at D_X10_worst 0 rfl) (by decide) ?_
  refine gx_istore_n C (lv' := [(1, .int (-4)), (0, .ref a0)]) (gDec_at D_X10_worst 1 rfl) rfl (Nat.le_of_ble_eq_true rfl) rfl ?_
  refine gx_iconst C (v := 0) (gDec_at D_X10_worst 2 rfl) (by decide) ?_
  refine gx_istore_n C (lv' := [(2, .int 0), (1, .int (-4)), (0, .ref a0)]) (gDec_at D_X10_worst 3 rfl) rfl (Nat.le_of_ble_eq_true rfl) rfl ?_
  refine gx_iconst C (v := 0) (gDec_at D_X10_worst 4 rfl) (by decide) ?_
  refine gx_istore_n C (lv' := [(3, .int 0), (2, .int 0), (1, .int (-4)), (0, .ref a0)]) (gDec_at D_X10_worst 5 rfl) rfl (Nat.le_of_ble_eq_true rfl) rfl ?_
  obtain ⟨v5, hv6, hF⟩ := gBind hF
  have k7 : gX w g 5 v5.2 45 [(1, .int v5.1)] [] := by
    refine gx_iload_n C 0 (gDec_at D_X10_worst 26 rfl) rfl rfl ?_
    obtain rfl := Option.some.inj hF
    exact gx_iret C E (gDec_at D_X10_worst 27 rfl)
  exact gx_sub [3, 2, 1, 0] rfl (w_X10_worst_7 C A0 k7 gFuel (-4) 0 0 h hv6)
/-! LadderBenchModel.note -/
def rm_X10_note : Room := { frames := 7, cells := 0, slots := 0, locals := 182 }
set_option maxRecDepth 20000 in
theorem ggX10_note_X10_findVoltage : GoodIn wsX10_note wsX10_findVoltage := goodIn_r _ [19, 20, 2, 21, 3, 22, 23, 24, 7, 25, 26, 27, 1, 9, 10, 11, 12, 28, 29, 30, 31, 32, 33, 34, 35, 36, 37, 38, 39, 40, 41, 42, 43, 44, 45, 46, 47, 48, 49, 50, 51, 52, 53, 54, 55, 56, 57, 58, 59, 60, 61, 62, 63, 64, 65, 66, 67, 68, 69, 70, 71, 72, 73, 74, 75, 76, 77, 78, 79, 80, 81, 82, 83, 84, 85, 92, 93, 94, 95, 96, 97, 98, 99, 100, 101, 102, 103, 104, 105, 106, 107, 108, 109, 110, 111, 112, 113, 114, 115, 116, 117] (by decide +kernel) (by decide +kernel)
set_option maxRecDepth 20000 in
theorem gX10_note_X10_findVoltage : GoodIn wsX10_note (wsV RX10 226 RX10 yX10_findVoltage wsX10_findVoltage) := goodIn_app (goodIn_of _ (by decide +kernel)) ggX10_note_X10_findVoltage
set_option maxRecDepth 20000 in
theorem ggX10_note_X10_noPart : GoodIn wsX10_note wsX10_noPart := goodIn_r _ [8, 9, 10, 11, 7, 12, 1, 13, 14, 15, 92, 93, 94, 95, 96, 97, 98, 99, 100, 101, 102, 103, 104, 105, 106, 107, 108, 109, 110, 111, 112, 113, 114, 115, 116, 117] (by decide +kernel) (by decide +kernel)
set_option maxRecDepth 20000 in
theorem gX10_note_X10_noPart : GoodIn wsX10_note (wsV RX10 145 RX10 yX10_noPart wsX10_noPart) := goodIn_app (goodIn_of _ (by decide +kernel)) ggX10_note_X10_noPart
set_option maxRecDepth 20000 in
theorem ggX10_note_X10_record : GoodIn wsX10_note wsX10_record := goodIn_r _ [89, 90, 91, 1, 92, 93, 94, 95, 96, 97, 98, 99, 100, 101, 102, 103, 104, 105, 106, 107, 108, 109, 110, 111, 112, 113, 114, 115, 116, 117] (by decide +kernel) (by decide +kernel)
set_option maxRecDepth 20000 in
theorem gX10_note_X10_record : GoodIn wsX10_note (wsV RX10 99 RX10 yX10_record wsX10_record) := goodIn_app (goodIn_of _ (by decide +kernel)) ggX10_note_X10_record
theorem hy_X10_note : yX10_note.cls = RX10 ∧ yX10_note.cls ≠ "java/lang/invoke/MethodHandle" ∧ yX10_note.cls ≠ "java/lang/invoke/VarHandle" ∧ (parseMethodDescriptor yX10_note.desc).map (fun d => d.parameters.length) = some 1 := by decide +kernel
set_option maxRecDepth 100000 in
theorem D_X10_note : gDec cX10_note [(0, (.aload_n 0, 1)), (1, (.iload_n 1, 1)), (2, (.invokevirtual 145, 3)), (5, (.ifCond .eq 5, 3)), (8, (.iconst (-1), 1)), (9, (.ireturn, 1)), (10, (.aload_n 0, 1)), (11, (.iload_n 1, 1)), (12, (.iload_n 1, 1)), (13, (.invokevirtual 226, 3)), (16, (.aload_n 0, 1)), (17, (.getfield 7, 3)), (20, (.iconst 4, 1)), (21, (.laload, 1)), (22, (.l2i, 1)), (23, (.istore_n 2, 1)), (24, (.iconst 0, 1)), (25, (.istore_n 3, 1)), (26, (.iload_n 3, 1)), (27, (.iload_n 2, 1)), (28, (.if_icmp .ge 49, 3)), (31, (.aload_n 0, 1)), (32, (.getfield 7, 3)), (35, (.bipush 81, 2)), (37, (.iconst 3, 1)), (38, (.iload_n 3, 1)), (39, (.imul, 1)), (40, (.iadd, 1)), (41, (.laload, 1)), (42, (.aload_n 0, 1)), (43, (.getfield 165, 3)), (46, (.lcmp, 1)), (47, (.ifCond .ne 24, 3)), (50, (.aload_n 0, 1)), (51, (.getfield 7, 3)), (54, (.bipush 81, 2)), (56, (.iconst 3, 1)), (57, (.iload_n 3, 1)), (58, (.imul, 1)), (59, (.iadd, 1)), (60, (.iconst 1, 1)), (61, (.iadd, 1)), (62, (.laload, 1)), (63, (.aload_n 0, 1)), (64, (.getfield 169, 3)), (67, (.lcmp, 1)), (68, (.ifCond .eq 9, 3)), (71, (.iinc 3 1, 3)), (74, (.goto (-48), 3)), (77, (.iload_n 3, 1)), (78, (.bipush 20, 2)), (80, (.if_icmp .ne 6, 3)), (83, (.bipush (-3), 2)), (85, (.ireturn, 1)), (86, (.aload_n 0, 1)), (87, (.invokevirtual 99, 3)), (90, (.iload_n 3, 1)), (91, (.iload_n 2, 1)), (92, (.if_icmp .ne 59, 3)), (95, (.aload_n 0, 1)), (96, (.getfield 7, 3)), (99, (.bipush 81, 2)), (101, (.iconst 3, 1)), (102, (.iload_n 3, 1)), (103, (.imul, 1)), (104, (.iadd, 1)), (105, (.aload_n 0, 1)), (106, (.getfield 165, 3)), (109, (.lastore, 1)), (110, (.aload_n 0, 1)), (111, (.getfield 7, 3)), (114, (.bipush 81, 2)), (116, (.iconst 3, 1)), (117, (.iload_n 3, 1)), (118, (.imul, 1)), (119, (.iadd, 1)), (120, (.iconst 1, 1)), (121, (.iadd, 1)), (122, (.aload_n 0, 1)), (123, (.getfield 169, 3)), (126, (.lastore, 1)), (127, (.aload_n 0, 1)), (128, (.getfield 7, 3)), (131, (.bipush 81, 2)), (133, (.iconst 3, 1)), (134, (.iload_n 3, 1)), (135, (.imul, 1)), (136, (.iadd, 1)), (137, (.iconst 2, 1)), (138, (.iadd, 1)), (139, (.lconst 0, 1)), (140, (.lastore, 1)), (141, (.aload_n 0, 1)), (142, (.getfield 7, 3)), (145, (.iconst 4, 1)), (146, (.dup2, 1)), (147, (.laload, 1)), (148, (.lconst 1, 1)), (149, (.ladd, 1)), (150, (.lastore, 1)), (151, (.aload_n 0, 1)), (152, (.getfield 7, 3)), (155, (.bipush 81, 2)), (157, (.iconst 3, 1)), (158, (.iload_n 3, 1)), (159, (.imul, 1)), (160, (.iadd, 1)), (161, (.iconst 2, 1)), (162, (.iadd, 1)), (163, (.dup2, 1)), (164, (.laload, 1)), (165, (.lconst 1, 1)), (166, (.ladd, 1)), (167, (.lastore, 1)), (168, (.aload_n 0, 1)), (169, (.getfield 7, 3)), (172, (.bipush 81, 2)), (174, (.iconst 3, 1)), (175, (.iload_n 3, 1)), (176, (.imul, 1)), (177, (.iadd, 1)), (178, (.iconst 2, 1)), (179, (.iadd, 1)), (180, (.laload, 1)), (181, (.l2i, 1)), (182, (.ireturn, 1))] = true := by decide +kernel
set_option maxRecDepth 100000 in
theorem in_X10_note_X10 : ∀ x ∈ u_ws RX10 TX10 26, x ∈ wsX10_note := by decide +kernel
theorem fl_X10_note_7 : gF wsX10_note RX10 7 10 0 := ⟨RX10, TX10, 26, rfl, by decide, in_X10_note_X10, by decide +kernel⟩
theorem fl_X10_note_165 : gF wsX10_note RX10 165 10 17 := ⟨RX10, TX10, 26, rfl, by decide, in_X10_note_X10, by decide +kernel⟩
theorem fl_X10_note_169 : gF wsX10_note RX10 169 10 18 := ⟨RX10, TX10, 26, rfl, by decide, in_X10_note_X10, by decide +kernel⟩
def f_X10_note_26 (a0 : Nat) (x2 : Int32) (h : gHp) : Nat → Int32 → Option (Int32)
  | 0, _ => none
  | n + 1, x3 => if x2 ≤ x3 then some x3 else if gIn (81 + (3 * x3)) 141 then if (h.2 (a0 + 1) (gN (81 + (3 * x3)))) = (h.2 a0 17) then if gIn ((81 + (3 * x3)) + 1) 141 then if (h.2 (a0 + 1) (gN ((81 + (3 * x3)) + 1))) = (h.2 a0 18) then some x3 else f_X10_note_26 a0 x2 h n (x3 + 1) else none else f_X10_note_26 a0 x2 h n (x3 + 1) else none
set_option maxRecDepth 20000 in
set_option maxHeartbeats 4000000 in
theorem w_X10_note_26 {w : gWd} {g : gCx} (C : gC w g cX10_note wsX10_note RX10 4 7 182) {a0 : Nat} (A0 : is_X10 w a0) (x2 : Int32) (h : gHp)  {o : Int32} (hk : gX w g 4 h 77 [(0, .ref a0), (2, .int x2), (3, .int o)] []) : ∀ (n : Nat) (x3 : Int32), f_X10_note_26 a0 x2 h n x3 = some o → gX w g 4 h 26 [(0, .ref a0), (2, .int x2), (3, .int x3)] [] := by
  intro n
  induction n with
  | zero => intro _ hF; cases hF
  | succ n ih =>
    intro x3 hF
    rw [f_X10_note_26] at hF
    refine gx_iload_n C 2 (gDec_at D_X10_note 18 rfl) rfl rfl ?_
    refine gx_iload_n C 1 (gDec_at D_X10_note 19 rfl) rfl rfl ?_
    refine gx_icmp_ge C 77 (gDec_at D_X10_note 20 rfl) (by decide) (fun c => ?_) (fun c => ?_)
    · replace hF := gPos c hF
      obtain rfl := Option.some.inj hF
      exact gx_sub [0, 1, 2] rfl hk
    · replace hF := gNeg c hF
      refine gx_aload_n C 0 (gDec_at D_X10_note 21 rfl) rfl rfl ?_
      refine gx_getr C fl_X10_note_7 (is_X10_sh A0) rfl (gDec_at D_X10_note 22 rfl) ?_
      refine gx_bipush C (v := 81) (gDec_at D_X10_note 23 rfl) (by decide) ?_
      refine gx_iconst C (v := 3) (gDec_at D_X10_note 24 rfl) (by decide) ?_
      refine gx_iload_n C 2 (gDec_at D_X10_note 25 rfl) rfl rfl ?_
      refine gx_imul C (gDec_at D_X10_note 26 rfl) ?_
      refine gx_iadd C (gDec_at D_X10_note 27 rfl) ?_
      obtain ⟨b6, hF⟩ := gGd hF
      refine gx_laload C (is_X10_now A0) b6 (gDec_at D_X10_note 28 rfl) ?_
      refine gx_aload_n C 0 (gDec_at D_X10_note 29 rfl) rfl rfl ?_
      refine gx_getl C fl_X10_note_165 (is_X10_sh A0) rfl (gDec_at D_X10_note 30 rfl) ?_
      refine gx_lcmp_ne C 71 (gDec_at D_X10_note 31 rfl) (gDec_at D_X10_note 32 rfl) (by decide) (fun c => ?_) (fun c => ?_)
      · replace hF := gNeg c hF
        refine gx_iinc C (j := 2) (v := x3 + 1) (lv' := [(3, .int (x3 + 1)), (0, .ref a0), (2, .int x2)]) (gDec_at D_X10_note 47 rfl) rfl (by rfl) (Nat.le_of_ble_eq_true rfl) rfl ?_
        refine gx_goto C 26 (gDec_at D_X10_note 48 rfl) (by decide) ?_
        exact gx_sub [1, 2, 0] rfl (ih (x3 + 1) hF)
      · replace hF := gPos c hF
        refine gx_aload_n C 0 (gDec_at D_X10_note 33 rfl) rfl rfl ?_
        refine gx_getr C fl_X10_note_7 (is_X10_sh A0) rfl (gDec_at D_X10_note 34 rfl) ?_
        refine gx_bipush C (v := 81) (gDec_at D_X10_note 35 rfl) (by decide) ?_
        refine gx_iconst C (v := 3) (gDec_at D_X10_note 36 rfl) (by decide) ?_
        refine gx_iload_n C 2 (gDec_at D_X10_note 37 rfl) rfl rfl ?_
        refine gx_imul C (gDec_at D_X10_note 38 rfl) ?_
        refine gx_iadd C (gDec_at D_X10_note 39 rfl) ?_
        refine gx_iconst C (v := 1) (gDec_at D_X10_note 40 rfl) (by decide) ?_
        refine gx_iadd C (gDec_at D_X10_note 41 rfl) ?_
        obtain ⟨b7, hF⟩ := gGd hF
        refine gx_laload C (is_X10_now A0) b7 (gDec_at D_X10_note 42 rfl) ?_
        refine gx_aload_n C 0 (gDec_at D_X10_note 43 rfl) rfl rfl ?_
        refine gx_getl C fl_X10_note_169 (is_X10_sh A0) rfl (gDec_at D_X10_note 44 rfl) ?_
        refine gx_lcmp_eq C 77 (gDec_at D_X10_note 45 rfl) (gDec_at D_X10_note 46 rfl) (by decide) (fun c => ?_) (fun c => ?_)
        · replace hF := gPos c hF
          obtain rfl := Option.some.inj hF
          exact gx_sub [0, 1, 2] rfl hk
        · replace hF := gNeg c hF
          refine gx_iinc C (j := 2) (v := x3 + 1) (lv' := [(3, .int (x3 + 1)), (0, .ref a0), (2, .int x2)]) (gDec_at D_X10_note 47 rfl) rfl (by rfl) (Nat.le_of_ble_eq_true rfl) rfl ?_
          refine gx_goto C 26 (gDec_at D_X10_note 48 rfl) (by decide) ?_
          exact gx_sub [1, 2, 0] rfl (ih (x3 + 1) hF)
def f_X10_note (a0 : Nat) (x1 : Int32) (h : gHp) : Option (Int32 × gHp) := (f_X10_noPart a0 x1 h).bind fun v2 => if v2 = true then some ((-1), h) else (f_X10_findVoltage a0 x1 x1 h).bind fun v4 => if gIn 4 141 then (f_X10_note_26 a0 ((v4.2 (a0 + 1) (gN 4)).toInt32) v4 gFuel 0).bind fun v8 => if v8 = 20 then some ((-3), v4) else (f_X10_record a0 v4).bind fun v12 => (if v8 = ((v4.2 (a0 + 1) (gN 4)).toInt32) then if gIn (81 + (3 * v8)) 141 then if gIn ((81 + (3 * v8)) + 1) 141 then if gIn ((81 + (3 * v8)) + 2) 141 then if gIn 4 141 then if gIn 4 141 then some (gsL (gsL (gsL (gsL v12 (a0 + 1) (gN (81 + (3 * v8))) (v12.2 a0 17)) (a0 + 1) (gN ((81 + (3 * v8)) + 1)) ((gsL v12 (a0 + 1) (gN (81 + (3 * v8))) (v12.2 a0 17)).2 a0 18)) (a0 + 1) (gN ((81 + (3 * v8)) + 2)) 0) (a0 + 1) (gN 4) (((gsL (gsL (gsL v12 (a0 + 1) (gN (81 + (3 * v8))) (v12.2 a0 17)) (a0 + 1) (gN ((81 + (3 * v8)) + 1)) ((gsL v12 (a0 + 1) (gN (81 + (3 * v8))) (v12.2 a0 17)).2 a0 18)) (a0 + 1) (gN ((81 + (3 * v8)) + 2)) 0).2 (a0 + 1) (gN 4)) + 1)) else none else none else none else none else none else some v12 : Option (gHp)).bind fun v13 => if gIn ((81 + (3 * v8)) + 2) 141 then if gIn ((81 + (3 * v8)) + 2) 141 then if gIn ((81 + (3 * v8)) + 2) 141 then some (((gsL v13 (a0 + 1) (gN ((81 + (3 * v8)) + 2)) ((v13.2 (a0 + 1) (gN ((81 + (3 * v8)) + 2))) + 1)).2 (a0 + 1) (gN ((81 + (3 * v8)) + 2))).toInt32, gsL v13 (a0 + 1) (gN ((81 + (3 * v8)) + 2)) ((v13.2 (a0 + 1) (gN ((81 + (3 * v8)) + 2))) + 1)) else none else none else none else none
set_option maxRecDepth 20000 in
set_option maxHeartbeats 4000000 in
theorem m_X10_note (w : gWd) (h : gHp) {a0 : Nat} (A0 : is_X10 w a0) (x1 : Int32) {o : Int32 × gHp} (hF : f_X10_note a0 x1 h = some o) : gMet w yX10_note wsX10_note rm_X10_note [.ref a0, .int x1] h (some (.int o.1)) o.2 := by
  refine gMet_of (cc := cX10_note) (maxL := 4) (ret := (some .int)) (fr := 7) (lo := 182) (own := RX10) [(0, .ref a0), (1, .int x1)] (by decide) rfl rfl (Nat.le_of_ble_eq_true rfl) rfl (Nat.le_refl _) (Nat.le_refl _) (fun g C E => ?_)
  rw [f_X10_note] at hF
  refine gx_aload_n C 0 (gDec_at D_X10_note 0 rfl) rfl rfl ?_
  refine gx_iload_n C 1 (gDec_at D_X10_note 1 rfl) rfl rfl ?_
  obtain ⟨v2, hv1, hF⟩ := gBind hF
  refine gx_callV1 C (st := []) 1 [.int x1] (m_X10_noPart w h A0 x1 hv1) gX10_note_X10_noPart rfl rfl rfl hy_X10_noPart (Nat.le_of_ble_eq_true rfl) (Nat.le_of_ble_eq_true rfl) (is_X10_sh A0) rfl rfl rfl (Nat.le_of_ble_eq_true rfl) (gDec_at D_X10_note 2 rfl) ?_
  refine gx_ifz_eq C 10 (gDec_at D_X10_note 3 rfl) (by decide) (fun c => ?_) (fun c => ?_)
  · replace hF := gNeg c hF
    refine gx_aload_n C 0 (gDec_at D_X10_note 6 rfl) rfl rfl ?_
    refine gx_iload_n C 1 (gDec_at D_X10_note 7 rfl) rfl rfl ?_
    refine gx_iload_n C 1 (gDec_at D_X10_note 8 rfl) rfl rfl ?_
    obtain ⟨v4, hv3, hF⟩ := gBind hF
    refine gx_callV0 C (st := []) 2 [.int x1, .int x1] (m_X10_findVoltage w h A0 x1 x1 hv3) gX10_note_X10_findVoltage rfl rfl rfl hy_X10_findVoltage (Nat.le_of_ble_eq_true rfl) (Nat.le_of_ble_eq_true rfl) (is_X10_sh A0) rfl rfl rfl (Nat.le_of_ble_eq_true rfl) (gDec_at D_X10_note 9 rfl) ?_
    refine gx_aload_n C 0 (gDec_at D_X10_note 10 rfl) rfl rfl ?_
    refine gx_getr C fl_X10_note_7 (is_X10_sh A0) rfl (gDec_at D_X10_note 11 rfl) ?_
    refine gx_iconst C (v := 4) (gDec_at D_X10_note 12 rfl) (by decide) ?_
    obtain ⟨b5, hF⟩ := gGd hF
    refine gx_laload C (is_X10_now A0) b5 (gDec_at D_X10_note 13 rfl) ?_
    refine gx_l2i C (gDec_at D_X10_note 14 rfl) ?_
    refine gx_istore_n C (lv' := [(2, .int ((v4.2 (a0 + 1) (gN 4)).toInt32)), (0, .ref a0), (1, .int x1)]) (gDec_at D_X10_note 15 rfl) rfl (Nat.le_of_ble_eq_true rfl) rfl ?_
    refine gx_iconst C (v := 0) (gDec_at D_X10_note 16 rfl) (by decide) ?_
    refine gx_istore_n C (lv' := [(3, .int 0), (2, .int ((v4.2 (a0 + 1) (gN 4)).toInt32)), (0, .ref a0), (1, .int x1)]) (gDec_at D_X10_note 17 rfl) rfl (Nat.le_of_ble_eq_true rfl) rfl ?_
    obtain ⟨v8, hv9, hF⟩ := gBind hF
    have k10 : gX w g 4 v4 77 [(0, .ref a0), (2, .int ((v4.2 (a0 + 1) (gN 4)).toInt32)), (3, .int v8)] [] := by
      refine gx_iload_n C 2 (gDec_at D_X10_note 49 rfl) rfl rfl ?_
      refine gx_bipush C (v := 20) (gDec_at D_X10_note 50 rfl) (by decide) ?_
      refine gx_icmp_ne C 86 (gDec_at D_X10_note 51 rfl) (by decide) (fun c => ?_) (fun c => ?_)
      · replace hF := gNeg c hF
        refine gx_aload_n C 0 (gDec_at D_X10_note 54 rfl) rfl rfl ?_
        obtain ⟨v12, hv11, hF⟩ := gBind hF
        refine gx_callV0 C (st := []) 0 [] (m_X10_record w v4 A0 hv11) gX10_note_X10_record rfl rfl rfl hy_X10_record (Nat.le_of_ble_eq_true rfl) (Nat.le_of_ble_eq_true rfl) (is_X10_sh A0) rfl rfl rfl (Nat.le_of_ble_eq_true rfl) (gDec_at D_X10_note 55 rfl) ?_
        refine gx_iload_n C 2 (gDec_at D_X10_note 56 rfl) rfl rfl ?_
        refine gx_iload_n C 1 (gDec_at D_X10_note 57 rfl) rfl rfl ?_
        obtain ⟨v13, hv14, hF⟩ := gBind hF
        have k15 : gX w g 4 v13 151 [(0, .ref a0), (3, .int v8)] ([]) := by
          refine gx_aload_n C 0 (gDec_at D_X10_note 100 rfl) rfl rfl ?_
          refine gx_getr C fl_X10_note_7 (is_X10_sh A0) rfl (gDec_at D_X10_note 101 rfl) ?_
          refine gx_bipush C (v := 81) (gDec_at D_X10_note 102 rfl) (by decide) ?_
          refine gx_iconst C (v := 3) (gDec_at D_X10_note 103 rfl) (by decide) ?_
          refine gx_iload_n C 1 (gDec_at D_X10_note 104 rfl) rfl rfl ?_
          refine gx_imul C (gDec_at D_X10_note 105 rfl) ?_
          refine gx_iadd C (gDec_at D_X10_note 106 rfl) ?_
          refine gx_iconst C (v := 2) (gDec_at D_X10_note 107 rfl) (by decide) ?_
          refine gx_iadd C (gDec_at D_X10_note 108 rfl) ?_
          refine gx_dup2 C (gDec_at D_X10_note 109 rfl) rfl rfl ?_
          obtain ⟨b16, hF⟩ := gGd hF
          refine gx_laload C (is_X10_now A0) b16 (gDec_at D_X10_note 110 rfl) ?_
          refine gx_lconst C (v := 1) (gDec_at D_X10_note 111 rfl) (by decide) ?_
          refine gx_ladd C (gDec_at D_X10_note 112 rfl) ?_
          obtain ⟨b17, hF⟩ := gGd hF
          refine gx_lastore C (is_X10_now A0) b17 (gDec_at D_X10_note 113 rfl) ?_
          refine gx_aload_n C 0 (gDec_at D_X10_note 114 rfl) rfl rfl ?_
          refine gx_getr C fl_X10_note_7 (is_X10_sh A0) rfl (gDec_at D_X10_note 115 rfl) ?_
          refine gx_bipush C (v := 81) (gDec_at D_X10_note 116 rfl) (by decide) ?_
          refine gx_iconst C (v := 3) (gDec_at D_X10_note 117 rfl) (by decide) ?_
          refine gx_iload_n C 1 (gDec_at D_X10_note 118 rfl) rfl rfl ?_
          refine gx_imul C (gDec_at D_X10_note 119 rfl) ?_
          refine gx_iadd C (gDec_at D_X10_note 120 rfl) ?_
          refine gx_iconst C (v := 2) (gDec_at D_X10_note 121 rfl) (by decide) ?_
          refine gx_iadd C (gDec_at D_X10_note 122 rfl) ?_
          obtain ⟨b18, hF⟩ := gGd hF
          refine gx_laload C (is_X10_now A0) b18 (gDec_at D_X10_note 123 rfl) ?_
          refine gx_l2i C (gDec_at D_X10_note 124 rfl) ?_
          obtain rfl := Option.some.inj hF
          exact gx_iret C E (gDec_at D_X10_note 125 rfl)
        replace hF := hv14
        refine gx_icmp_ne C 151 (gDec_at D_X10_note 58 rfl) (by decide) (fun c => ?_) (fun c => ?_)
        · replace hF := gNeg c hF
          obtain rfl := Option.some.inj hF
          exact gx_sub [0, 2] rfl k15
        · replace hF := gPos c hF
          refine gx_aload_n C 0 (gDec_at D_X10_note 59 rfl) rfl rfl ?_
          refine gx_getr C fl_X10_note_7 (is_X10_sh A0) rfl (gDec_at D_X10_note 60 rfl) ?_
          refine gx_bipush C (v := 81) (gDec_at D_X10_note 61 rfl) (by decide) ?_
          refine gx_iconst C (v := 3) (gDec_at D_X10_note 62 rfl) (by decide) ?_
          refine gx_iload_n C 2 (gDec_at D_X10_note 63 rfl) rfl rfl ?_
          refine gx_imul C (gDec_at D_X10_note 64 rfl) ?_
          refine gx_iadd C (gDec_at D_X10_note 65 rfl) ?_
          refine gx_aload_n C 0 (gDec_at D_X10_note 66 rfl) rfl rfl ?_
          refine gx_getl C fl_X10_note_165 (is_X10_sh A0) rfl (gDec_at D_X10_note 67 rfl) ?_
          obtain ⟨b19, hF⟩ := gGd hF
          refine gx_lastore C (is_X10_now A0) b19 (gDec_at D_X10_note 68 rfl) ?_
          refine gx_aload_n C 0 (gDec_at D_X10_note 69 rfl) rfl rfl ?_
          refine gx_getr C fl_X10_note_7 (is_X10_sh A0) rfl (gDec_at D_X10_note 70 rfl) ?_
          refine gx_bipush C (v := 81) (gDec_at D_X10_note 71 rfl) (by decide) ?_
          refine gx_iconst C (v := 3) (gDec_at D_X10_note 72 rfl) (by decide) ?_
          refine gx_iload_n C 2 (gDec_at D_X10_note 73 rfl) rfl rfl ?_
          refine gx_imul C (gDec_at D_X10_note 74 rfl) ?_
          refine gx_iadd C (gDec_at D_X10_note 75 rfl) ?_
          refine gx_iconst C (v := 1) (gDec_at D_X10_note 76 rfl) (by decide) ?_
          refine gx_iadd C (gDec_at D_X10_note 77 rfl) ?_
          refine gx_aload_n C 0 (gDec_at D_X10_note 78 rfl) rfl rfl ?_
          refine gx_getl C fl_X10_note_169 (is_X10_sh A0) rfl (gDec_at D_X10_note 79 rfl) ?_
          obtain ⟨b20, hF⟩ := gGd hF
          refine gx_lastore C (is_X10_now A0) b20 (gDec_at D_X10_note 80 rfl) ?_
          refine gx_aload_n C 0 (gDec_at D_X10_note 81 rfl) rfl rfl ?_
          refine gx_getr C fl_X10_note_7 (is_X10_sh A0) rfl (gDec_at D_X10_note 82 rfl) ?_
          refine gx_bipush C (v := 81) (gDec_at D_X10_note 83 rfl) (by decide) ?_
          refine gx_iconst C (v := 3) (gDec_at D_X10_note 84 rfl) (by decide) ?_
          refine gx_iload_n C 2 (gDec_at D_X10_note 85 rfl) rfl rfl ?_
          refine gx_imul C (gDec_at D_X10_note 86 rfl) ?_
          refine gx_iadd C (gDec_at D_X10_note 87 rfl) ?_
          refine gx_iconst C (v := 2) (gDec_at D_X10_note 88 rfl) (by decide) ?_
          refine gx_iadd C (gDec_at D_X10_note 89 rfl) ?_
          refine gx_lconst C (v := 0) (gDec_at D_X10_note 90 rfl) (by decide) ?_
          obtain ⟨b21, hF⟩ := gGd hF
          refine gx_lastore C (is_X10_now A0) b21 (gDec_at D_X10_note 91 rfl) ?_
          refine gx_aload_n C 0 (gDec_at D_X10_note 92 rfl) rfl rfl ?_
          refine gx_getr C fl_X10_note_7 (is_X10_sh A0) rfl (gDec_at D_X10_note 93 rfl) ?_
          refine gx_iconst C (v := 4) (gDec_at D_X10_note 94 rfl) (by decide) ?_
          refine gx_dup2 C (gDec_at D_X10_note 95 rfl) rfl rfl ?_
          obtain ⟨b22, hF⟩ := gGd hF
          refine gx_laload C (is_X10_now A0) b22 (gDec_at D_X10_note 96 rfl) ?_
          refine gx_lconst C (v := 1) (gDec_at D_X10_note 97 rfl) (by decide) ?_
          refine gx_ladd C (gDec_at D_X10_note 98 rfl) ?_
          obtain ⟨b23, hF⟩ := gGd hF
          refine gx_lastore C (is_X10_now A0) b23 (gDec_at D_X10_note 99 rfl) ?_
          obtain rfl := Option.some.inj hF
          exact gx_sub [0, 2] rfl k15
      · replace hF := gPos c hF
        refine gx_bipush C (v := (-3)) (gDec_at D_X10_note 52 rfl) (by decide) ?_
        obtain rfl := Option.some.inj hF
        exact gx_iret C E (gDec_at D_X10_note 53 rfl)
    exact gx_sub [2, 1, 0] rfl (w_X10_note_26 C A0 ((v4.2 (a0 + 1) (gN 4)).toInt32) v4 k10 gFuel 0 hv9)
  · replace hF := gPos c hF
    refine gx_iconst C (v := (-1)) (gDec_at D_X10_note 4 rfl) (by decide) ?_
    obtain rfl := Option.some.inj hF
    exact gx_iret C E (gDec_at D_X10_note 5 rfl)
/-! LadderBenchModel.noted -/
def rm_X10_noted : Room := { frames := 1, cells := 0, slots := 0, locals := 22 }
set_option maxRecDepth 20000 in
theorem ggX10_noted_X10_in : GoodIn wsX10_noted wsX10_in := goodIn_r _ [7] (by decide +kernel) (by decide +kernel)
set_option maxRecDepth 20000 in
theorem gX10_noted_X10_in : GoodIn wsX10_noted (va_wsS RX10 60 yX10_in wsX10_in) := goodIn_app (goodIn_of _ (by decide +kernel)) ggX10_noted_X10_in
theorem hy_X10_noted : yX10_noted.cls = RX10 ∧ yX10_noted.cls ≠ "java/lang/invoke/MethodHandle" ∧ yX10_noted.cls ≠ "java/lang/invoke/VarHandle" ∧ (parseMethodDescriptor yX10_noted.desc).map (fun d => d.parameters.length) = some 2 := by decide +kernel
set_option maxRecDepth 100000 in
theorem D_X10_noted : gDec cX10_noted [(0, (.iload_n 1, 1)), (1, (.ifCond .lt 12, 3)), (4, (.iload_n 2, 1)), (5, (.iconst 0, 1)), (6, (.iconst 2, 1)), (7, (.invokestatic 60, 3)), (10, (.ifCond .ne 7, 3)), (13, (.ldc2_w 234, 3)), (16, (.lreturn, 1)), (17, (.iload_n 1, 1)), (18, (.i2l, 1)), (19, (.aload_n 0, 1)), (20, (.getfield 7, 3)), (23, (.iconst 4, 1)), (24, (.laload, 1)), (25, (.lcmp, 1)), (26, (.ifCond .ge 19, 3)), (29, (.aload_n 0, 1)), (30, (.getfield 7, 3)), (33, (.bipush 81, 2)), (35, (.iconst 3, 1)), (36, (.iload_n 1, 1)), (37, (.imul, 1)), (38, (.iadd, 1)), (39, (.iload_n 2, 1)), (40, (.iadd, 1)), (41, (.laload, 1)), (42, (.goto 6, 3)), (45, (.ldc2_w 212, 3)), (48, (.lreturn, 1))] = true := by decide +kernel
set_option maxRecDepth 100000 in
theorem in_X10_noted_X10 : ∀ x ∈ u_ws RX10 TX10 26, x ∈ wsX10_noted := by decide +kernel
theorem lc_X10_noted_234 : Jvm.Cond.constantLong RX10 234 (-2) ∈ wsX10_noted := by decide +kernel
theorem fl_X10_noted_7 : gF wsX10_noted RX10 7 10 0 := ⟨RX10, TX10, 26, rfl, by decide, in_X10_noted_X10, by decide +kernel⟩
theorem lc_X10_noted_212 : Jvm.Cond.constantLong RX10 212 (-4) ∈ wsX10_noted := by decide +kernel
def f_X10_noted (a0 : Nat) (x1 : Int32) (x2 : Int32) (h : gHp) : Option (Int64) := if x1 < 0 then some (-2) else (f_X10_in x2 0 2 h).bind fun v2 => if v2 = true then if gIn 4 141 then if (h.2 (a0 + 1) (gN 4)) ≤ x1.toInt64 then some (-4) else if gIn ((81 + (3 * x1)) + x2) 141 then some (h.2 (a0 + 1) (gN ((81 + (3 * x1)) + x2))) else none else none else some (-2)
set_option maxRecDepth 20000 in
set_option maxHeartbeats 4000000 in
theorem m_X10_noted (w : gWd) (h : gHp) {a0 : Nat} (A0 : is_X10 w a0) (x1 : Int32) (x2 : Int32) {o : Int64} (hF : f_X10_noted a0 x1 x2 h = some o) : gMet w yX10_noted wsX10_noted rm_X10_noted [.ref a0, .int x1, .int x2] h (some (.long o)) h := by
  refine gMet_of (cc := cX10_noted) (maxL := 3) (ret := (some .long)) (fr := 1) (lo := 22) (own := RX10) [(0, .ref a0), (1, .int x1), (2, .int x2)] (by decide) rfl rfl (Nat.le_of_ble_eq_true rfl) rfl (Nat.le_refl _) (Nat.le_refl _) (fun g C E => ?_)
  rw [f_X10_noted] at hF
  refine gx_iload_n C 1 (gDec_at D_X10_noted 0 rfl) rfl rfl ?_
  refine gx_if_lt C 13 (gDec_at D_X10_noted 1 rfl) (by decide) (fun c => ?_) (fun c => ?_)
  · replace hF := gPos c hF
    refine gx_ldc2 C (v := (-2)) lc_X10_noted_234 (gDec_at D_X10_noted 7 rfl) ?_
    obtain rfl := Option.some.inj hF
    exact gx_lret C E (gDec_at D_X10_noted 8 rfl)
  · replace hF := gNeg c hF
    refine gx_iload_n C 2 (gDec_at D_X10_noted 2 rfl) rfl rfl ?_
    refine gx_iconst C (v := 0) (gDec_at D_X10_noted 3 rfl) (by decide) ?_
    refine gx_iconst C (v := 2) (gDec_at D_X10_noted 4 rfl) (by decide) ?_
    obtain ⟨v2, hv1, hF⟩ := gBind hF
    refine gx_callS1 C (st := []) 3 [.int x2, .int 0, .int 2] (m_X10_in w h x2 0 2 hv1) gX10_noted_X10_in rfl rfl rfl hy_X10_in (Nat.le_of_ble_eq_true rfl) (Nat.le_of_ble_eq_true rfl) rfl rfl (Nat.le_of_ble_eq_true rfl) (gDec_at D_X10_noted 5 rfl) ?_
    refine gx_ifz_ne C 17 (gDec_at D_X10_noted 6 rfl) (by decide) (fun c => ?_) (fun c => ?_)
    · replace hF := gPos c hF
      refine gx_iload_n C 1 (gDec_at D_X10_noted 9 rfl) rfl rfl ?_
      refine gx_i2l C (gDec_at D_X10_noted 10 rfl) ?_
      refine gx_aload_n C 0 (gDec_at D_X10_noted 11 rfl) rfl rfl ?_
      refine gx_getr C fl_X10_noted_7 (is_X10_sh A0) rfl (gDec_at D_X10_noted 12 rfl) ?_
      refine gx_iconst C (v := 4) (gDec_at D_X10_noted 13 rfl) (by decide) ?_
      obtain ⟨b3, hF⟩ := gGd hF
      refine gx_laload C (is_X10_now A0) b3 (gDec_at D_X10_noted 14 rfl) ?_
      refine gx_lcmp_ge C 45 (gDec_at D_X10_noted 15 rfl) (gDec_at D_X10_noted 16 rfl) (by decide) (fun c => ?_) (fun c => ?_)
      · replace hF := gPos c hF
        refine gx_ldc2 C (v := (-4)) lc_X10_noted_212 (gDec_at D_X10_noted 28 rfl) ?_
        obtain rfl := Option.some.inj hF
        exact gx_lret C E (gDec_at D_X10_noted 29 rfl)
      · replace hF := gNeg c hF
        refine gx_aload_n C 0 (gDec_at D_X10_noted 17 rfl) rfl rfl ?_
        refine gx_getr C fl_X10_noted_7 (is_X10_sh A0) rfl (gDec_at D_X10_noted 18 rfl) ?_
        refine gx_bipush C (v := 81) (gDec_at D_X10_noted 19 rfl) (by decide) ?_
        refine gx_iconst C (v := 3) (gDec_at D_X10_noted 20 rfl) (by decide) ?_
        refine gx_iload_n C 1 (gDec_at D_X10_noted 21 rfl) rfl rfl ?_
        refine gx_imul C (gDec_at D_X10_noted 22 rfl) ?_
        refine gx_iadd C (gDec_at D_X10_noted 23 rfl) ?_
        refine gx_iload_n C 2 (gDec_at D_X10_noted 24 rfl) rfl rfl ?_
        refine gx_iadd C (gDec_at D_X10_noted 25 rfl) ?_
        obtain ⟨b4, hF⟩ := gGd hF
        refine gx_laload C (is_X10_now A0) b4 (gDec_at D_X10_noted 26 rfl) ?_
        refine gx_goto C 48 (gDec_at D_X10_noted 27 rfl) (by decide) ?_
        obtain rfl := Option.some.inj hF
        exact gx_lret C E (gDec_at D_X10_noted 29 rfl)
    · replace hF := gNeg c hF
      refine gx_ldc2 C (v := (-2)) lc_X10_noted_234 (gDec_at D_X10_noted 7 rfl) ?_
      obtain rfl := Option.some.inj hF
      exact gx_lret C E (gDec_at D_X10_noted 8 rfl)
/-! LadderBenchModel.undo -/
def rm_X10_undo : Room := { frames := 0, cells := 0, slots := 0, locals := 0 }
theorem hy_X10_undo : yX10_undo.cls = RX10 ∧ yX10_undo.cls ≠ "java/lang/invoke/MethodHandle" ∧ yX10_undo.cls ≠ "java/lang/invoke/VarHandle" ∧ (parseMethodDescriptor yX10_undo.desc).map (fun d => d.parameters.length) = some 0 := by decide +kernel
set_option maxRecDepth 100000 in
theorem D_X10_undo : gDec cX10_undo [(0, (.aload_n 0, 1)), (1, (.getfield 52, 3)), (4, (.ifCond .ne 6, 3)), (7, (.bipush (-4), 2)), (9, (.ireturn, 1)), (10, (.aload_n 0, 1)), (11, (.dup, 1)), (12, (.getfield 52, 3)), (15, (.iconst 1, 1)), (16, (.isub, 1)), (17, (.putfield 52, 3)), (20, (.iconst 0, 1)), (21, (.istore_n 1, 1)), (22, (.iload_n 1, 1)), (23, (.sipush 141, 3)), (26, (.if_icmp .ge 30, 3)), (29, (.aload_n 0, 1)), (30, (.getfield 7, 3)), (33, (.iload_n 1, 1)), (34, (.aload_n 0, 1)), (35, (.getfield 13, 3)), (38, (.sipush 141, 3)), (41, (.aload_n 0, 1)), (42, (.getfield 52, 3)), (45, (.imul, 1)), (46, (.iload_n 1, 1)), (47, (.iadd, 1)), (48, (.laload, 1)), (49, (.lastore, 1)), (50, (.iinc 1 1, 3)), (53, (.goto (-31), 3)), (56, (.aload_n 0, 1)), (57, (.getfield 52, 3)), (60, (.ireturn, 1))] = true := by decide +kernel
set_option maxRecDepth 100000 in
theorem in_X10_undo_X10 : ∀ x ∈ u_ws RX10 TX10 26, x ∈ wsX10_undo := by decide +kernel
theorem fl_X10_undo_52 : gF wsX10_undo RX10 52 10 2 := ⟨RX10, TX10, 26, rfl, by decide, in_X10_undo_X10, by decide +kernel⟩
theorem flw_X10_undo_52 : gFw wsX10_undo RX10 52 10 2 .int := ⟨RX10, TX10, 26, tyX10, rfl, by decide, in_X10_undo_X10, by decide +kernel, tyX10_ok, nmX10, rfl, by decide +kernel⟩
theorem fl_X10_undo_7 : gF wsX10_undo RX10 7 10 0 := ⟨RX10, TX10, 26, rfl, by decide, in_X10_undo_X10, by decide +kernel⟩
theorem fl_X10_undo_13 : gF wsX10_undo RX10 13 10 1 := ⟨RX10, TX10, 26, rfl, by decide, in_X10_undo_X10, by decide +kernel⟩
def f_X10_undo_22 (a0 : Nat) : Nat → Int32 → gHp → Option (gHp)
  | 0, _, _ => none
  | n + 1, x1, h => if 141 ≤ x1 then some h else if gIn ((141 * (h.1 a0 2)) + x1) 705 then if gIn x1 141 then f_X10_undo_22 a0 n (x1 + 1) (gsL h (a0 + 1) (gN x1) (h.2 (a0 + 2) (gN ((141 * (h.1 a0 2)) + x1)))) else none else none
set_option maxRecDepth 20000 in
set_option maxHeartbeats 4000000 in
theorem w_X10_undo_22 {w : gWd} {g : gCx} (C : gC w g cX10_undo wsX10_undo RX10 2 0 0) {a0 : Nat} (A0 : is_X10 w a0)  {o : gHp} (hk : gX w g 2 o 56 [(0, .ref a0)] []) : ∀ (n : Nat) (x1 : Int32) (h : gHp), f_X10_undo_22 a0 n x1 h = some o → gX w g 2 h 22 [(0, .ref a0), (1, .int x1)] [] := by
  intro n
  induction n with
  | zero => intro _ _ hF; cases hF
  | succ n ih =>
    intro x1 h hF
    rw [f_X10_undo_22] at hF
    refine gx_iload_n C 1 (gDec_at D_X10_undo 13 rfl) rfl rfl ?_
    refine gx_sipush C (v := 141) (gDec_at D_X10_undo 14 rfl) (by decide) ?_
    refine gx_icmp_ge C 56 (gDec_at D_X10_undo 15 rfl) (by decide) (fun c => ?_) (fun c => ?_)
    · replace hF := gPos c hF
      obtain rfl := Option.some.inj hF
      exact gx_sub [0] rfl hk
    · replace hF := gNeg c hF
      refine gx_aload_n C 0 (gDec_at D_X10_undo 16 rfl) rfl rfl ?_
      refine gx_getr C fl_X10_undo_7 (is_X10_sh A0) rfl (gDec_at D_X10_undo 17 rfl) ?_
      refine gx_iload_n C 1 (gDec_at D_X10_undo 18 rfl) rfl rfl ?_
      refine gx_aload_n C 0 (gDec_at D_X10_undo 19 rfl) rfl rfl ?_
      refine gx_getr C fl_X10_undo_13 (is_X10_sh A0) rfl (gDec_at D_X10_undo 20 rfl) ?_
      refine gx_sipush C (v := 141) (gDec_at D_X10_undo 21 rfl) (by decide) ?_
      refine gx_aload_n C 0 (gDec_at D_X10_undo 22 rfl) rfl rfl ?_
      refine gx_geti C fl_X10_undo_52 (is_X10_sh A0) rfl (gDec_at D_X10_undo 23 rfl) ?_
      refine gx_imul C (gDec_at D_X10_undo 24 rfl) ?_
      refine gx_iload_n C 1 (gDec_at D_X10_undo 25 rfl) rfl rfl ?_
      refine gx_iadd C (gDec_at D_X10_undo 26 rfl) ?_
      obtain ⟨b1, hF⟩ := gGd hF
      refine gx_laload C (is_X10_history A0) b1 (gDec_at D_X10_undo 27 rfl) ?_
      obtain ⟨b2, hF⟩ := gGd hF
      refine gx_lastore C (is_X10_now A0) b2 (gDec_at D_X10_undo 28 rfl) ?_
      refine gx_iinc C (j := 1) (v := x1 + 1) (lv' := [(1, .int (x1 + 1)), (0, .ref a0)]) (gDec_at D_X10_undo 29 rfl) rfl (by rfl) (Nat.le_of_ble_eq_true rfl) rfl ?_
      refine gx_goto C 22 (gDec_at D_X10_undo 30 rfl) (by decide) ?_
      exact gx_sub [1, 0] rfl (ih (x1 + 1) (gsL h (a0 + 1) (gN x1) (h.2 (a0 + 2) (gN ((141 * (h.1 a0 2)) + x1)))) hF)
def f_X10_undo (a0 : Nat) (h : gHp) : Option (Int32 × gHp) := if (h.1 a0 2) = 0 then some ((-4), h) else (f_X10_undo_22 a0 gFuel 0 (gsI h a0 2 ((h.1 a0 2) - 1))).bind fun v3 => some (v3.1 a0 2, v3)
set_option maxRecDepth 20000 in
set_option maxHeartbeats 4000000 in
theorem m_X10_undo (w : gWd) (h : gHp) {a0 : Nat} (A0 : is_X10 w a0) {o : Int32 × gHp} (hF : f_X10_undo a0 h = some o) : gMet w yX10_undo wsX10_undo rm_X10_undo [.ref a0] h (some (.int o.1)) o.2 := by
  refine gMet_of (cc := cX10_undo) (maxL := 2) (ret := (some .int)) (fr := 0) (lo := 0) (own := RX10) [(0, .ref a0)] (by decide) rfl rfl (Nat.le_of_ble_eq_true rfl) rfl (Nat.le_refl _) (Nat.le_refl _) (fun g C E => ?_)
  rw [f_X10_undo] at hF
  refine gx_aload_n C 0 (gDec_at D_X10_undo 0 rfl) rfl rfl ?_
  refine gx_geti C fl_X10_undo_52 (is_X10_sh A0) rfl (gDec_at D_X10_undo 1 rfl) ?_
  refine gx_if_ne C 10 (gDec_at D_X10_undo 2 rfl) (by decide) (fun c => ?_) (fun c => ?_)
  · replace hF := gNeg c hF
    refine gx_aload_n C 0 (gDec_at D_X10_undo 5 rfl) rfl rfl ?_
    refine gx_dup C (gDec_at D_X10_undo 6 rfl) rfl ?_
    refine gx_geti C fl_X10_undo_52 (is_X10_sh A0) rfl (gDec_at D_X10_undo 7 rfl) ?_
    refine gx_iconst C (v := 1) (gDec_at D_X10_undo 8 rfl) (by decide) ?_
    refine gx_isub C (gDec_at D_X10_undo 9 rfl) ?_
    refine gx_putI C flw_X10_undo_52 (is_X10_sh A0) rfl rfl rfl (gDec_at D_X10_undo 10 rfl) ?_
    refine gx_iconst C (v := 0) (gDec_at D_X10_undo 11 rfl) (by decide) ?_
    refine gx_istore_n C (lv' := [(1, .int 0), (0, .ref a0)]) (gDec_at D_X10_undo 12 rfl) rfl (Nat.le_of_ble_eq_true rfl) rfl ?_
    obtain ⟨v3, hv4, hF⟩ := gBind hF
    have k5 : gX w g 2 v3 56 [(0, .ref a0)] [] := by
      refine gx_aload_n C 0 (gDec_at D_X10_undo 31 rfl) rfl rfl ?_
      refine gx_geti C fl_X10_undo_52 (is_X10_sh A0) rfl (gDec_at D_X10_undo 32 rfl) ?_
      obtain rfl := Option.some.inj hF
      exact gx_iret C E (gDec_at D_X10_undo 33 rfl)
    exact gx_sub [1, 0] rfl (w_X10_undo_22 C A0 k5 gFuel 0 (gsI h a0 2 ((h.1 a0 2) - 1)) hv4)
  · replace hF := gPos c hF
    refine gx_bipush C (v := (-4)) (gDec_at D_X10_undo 3 rfl) (by decide) ?_
    obtain rfl := Option.some.inj hF
    exact gx_iret C E (gDec_at D_X10_undo 4 rfl)
/-! LadderBenchModel.keep -/
def rm_X10_keep : Room := { frames := 1, cells := 0, slots := 0, locals := 20 }
set_option maxRecDepth 20000 in
theorem ggX10_keep_X10_parts : GoodIn wsX10_keep wsX10_parts := goodIn_r _ [8, 2, 9, 10, 11, 12, 13, 14, 15, 16, 17, 18, 19, 20, 21, 22, 23, 24, 25, 26, 27, 28, 29, 30, 31, 32, 33, 34] (by decide +kernel) (by decide +kernel)
set_option maxRecDepth 20000 in
theorem gX10_keep_X10_parts : GoodIn wsX10_keep (wsV RX10 56 RX10 yX10_parts wsX10_parts) := goodIn_app (goodIn_of _ (by decide +kernel)) ggX10_keep_X10_parts
theorem hy_X10_keep : yX10_keep.cls = RX10 ∧ yX10_keep.cls ≠ "java/lang/invoke/MethodHandle" ∧ yX10_keep.cls ≠ "java/lang/invoke/VarHandle" ∧ (parseMethodDescriptor yX10_keep.desc).map (fun d => d.parameters.length) = some 0 := by decide +kernel
set_option maxRecDepth 100000 in
theorem D_X10_keep : gDec cX10_keep [(0, (.iconst 0, 1)), (1, (.istore_n 1, 1)), (2, (.iload_n 1, 1)), (3, (.sipush 141, 3)), (6, (.if_icmp .ge 21, 3)), (9, (.aload_n 0, 1)), (10, (.getfield 16, 3)), (13, (.iload_n 1, 1)), (14, (.aload_n 0, 1)), (15, (.getfield 7, 3)), (18, (.iload_n 1, 1)), (19, (.laload, 1)), (20, (.lastore, 1)), (21, (.iinc 1 1, 3)), (24, (.goto (-22), 3)), (27, (.aload_n 0, 1)), (28, (.iconst 1, 1)), (29, (.putfield 236, 3)), (32, (.aload_n 0, 1)), (33, (.invokevirtual 56, 3)), (36, (.ireturn, 1))] = true := by decide +kernel
set_option maxRecDepth 100000 in
theorem in_X10_keep_X10 : ∀ x ∈ u_ws RX10 TX10 26, x ∈ wsX10_keep := by decide +kernel
theorem fl_X10_keep_16 : gF wsX10_keep RX10 16 10 3 := ⟨RX10, TX10, 26, rfl, by decide, in_X10_keep_X10, by decide +kernel⟩
theorem fl_X10_keep_7 : gF wsX10_keep RX10 7 10 0 := ⟨RX10, TX10, 26, rfl, by decide, in_X10_keep_X10, by decide +kernel⟩
theorem flw_X10_keep_236 : gFw wsX10_keep RX10 236 10 4 .boolean := ⟨RX10, TX10, 26, tyX10, rfl, by decide, in_X10_keep_X10, by decide +kernel, tyX10_ok, nmX10, rfl, by decide +kernel⟩
def f_X10_keep_2 (a0 : Nat) : Nat → Int32 → gHp → Option (gHp)
  | 0, _, _ => none
  | n + 1, x1, h => if 141 ≤ x1 then some h else if gIn x1 141 then if gIn x1 141 then f_X10_keep_2 a0 n (x1 + 1) (gsL h (a0 + 3) (gN x1) (h.2 (a0 + 1) (gN x1))) else none else none
set_option maxRecDepth 20000 in
set_option maxHeartbeats 4000000 in
theorem w_X10_keep_2 {w : gWd} {g : gCx} (C : gC w g cX10_keep wsX10_keep RX10 2 1 20) {a0 : Nat} (A0 : is_X10 w a0)  {o : gHp} (hk : gX w g 2 o 27 [(0, .ref a0)] []) : ∀ (n : Nat) (x1 : Int32) (h : gHp), f_X10_keep_2 a0 n x1 h = some o → gX w g 2 h 2 [(0, .ref a0), (1, .int x1)] [] := by
  intro n
  induction n with
  | zero => intro _ _ hF; cases hF
  | succ n ih =>
    intro x1 h hF
    rw [f_X10_keep_2] at hF
    refine gx_iload_n C 1 (gDec_at D_X10_keep 2 rfl) rfl rfl ?_
    refine gx_sipush C (v := 141) (gDec_at D_X10_keep 3 rfl) (by decide) ?_
    refine gx_icmp_ge C 27 (gDec_at D_X10_keep 4 rfl) (by decide) (fun c => ?_) (fun c => ?_)
    · replace hF := gPos c hF
      obtain rfl := Option.some.inj hF
      exact gx_sub [0] rfl hk
    · replace hF := gNeg c hF
      refine gx_aload_n C 0 (gDec_at D_X10_keep 5 rfl) rfl rfl ?_
      refine gx_getr C fl_X10_keep_16 (is_X10_sh A0) rfl (gDec_at D_X10_keep 6 rfl) ?_
      refine gx_iload_n C 1 (gDec_at D_X10_keep 7 rfl) rfl rfl ?_
      refine gx_aload_n C 0 (gDec_at D_X10_keep 8 rfl) rfl rfl ?_
      refine gx_getr C fl_X10_keep_7 (is_X10_sh A0) rfl (gDec_at D_X10_keep 9 rfl) ?_
      refine gx_iload_n C 1 (gDec_at D_X10_keep 10 rfl) rfl rfl ?_
      obtain ⟨b1, hF⟩ := gGd hF
      refine gx_laload C (is_X10_now A0) b1 (gDec_at D_X10_keep 11 rfl) ?_
      obtain ⟨b2, hF⟩ := gGd hF
      refine gx_lastore C (is_X10_slot A0) b2 (gDec_at D_X10_keep 12 rfl) ?_
      refine gx_iinc C (j := 1) (v := x1 + 1) (lv' := [(1, .int (x1 + 1)), (0, .ref a0)]) (gDec_at D_X10_keep 13 rfl) rfl (by rfl) (Nat.le_of_ble_eq_true rfl) rfl ?_
      refine gx_goto C 2 (gDec_at D_X10_keep 14 rfl) (by decide) ?_
      exact gx_sub [1, 0] rfl (ih (x1 + 1) (gsL h (a0 + 3) (gN x1) (h.2 (a0 + 1) (gN x1))) hF)
def f_X10_keep (a0 : Nat) (h : gHp) : Option (Int32 × gHp) := (f_X10_keep_2 a0 gFuel 0 h).bind fun v3 => (f_X10_parts a0 (gsI v3 a0 4 1)).bind fun v7 => some (v7, gsI v3 a0 4 1)
set_option maxRecDepth 20000 in
set_option maxHeartbeats 4000000 in
theorem m_X10_keep (w : gWd) (h : gHp) {a0 : Nat} (A0 : is_X10 w a0) {o : Int32 × gHp} (hF : f_X10_keep a0 h = some o) : gMet w yX10_keep wsX10_keep rm_X10_keep [.ref a0] h (some (.int o.1)) o.2 := by
  refine gMet_of (cc := cX10_keep) (maxL := 2) (ret := (some .int)) (fr := 1) (lo := 20) (own := RX10) [(0, .ref a0)] (by decide) rfl rfl (Nat.le_of_ble_eq_true rfl) rfl (Nat.le_refl _) (Nat.le_refl _) (fun g C E => ?_)
  rw [f_X10_keep] at hF
  refine gx_iconst C (v := 0) (gDec_at D_X10_keep 0 rfl) (by decide) ?_
  refine gx_istore_n C (lv' := [(1, .int 0), (0, .ref a0)]) (gDec_at D_X10_keep 1 rfl) rfl (Nat.le_of_ble_eq_true rfl) rfl ?_
  obtain ⟨v3, hv4, hF⟩ := gBind hF
  have k5 : gX w g 2 v3 27 [(0, .ref a0)] [] := by
    refine gx_aload_n C 0 (gDec_at D_X10_keep 15 rfl) rfl rfl ?_
    refine gx_iconst C (v := 1) (gDec_at D_X10_keep 16 rfl) (by decide) ?_
    refine gx_putI C flw_X10_keep_236 (is_X10_sh A0) rfl rfl rfl (gDec_at D_X10_keep 17 rfl) ?_
    refine gx_aload_n C 0 (gDec_at D_X10_keep 18 rfl) rfl rfl ?_
    obtain ⟨v7, hv6, hF⟩ := gBind hF
    refine gx_callV1 C (st := []) 0 [] (m_X10_parts w (gsI v3 a0 4 1) A0 hv6) gX10_keep_X10_parts rfl rfl rfl hy_X10_parts (Nat.le_of_ble_eq_true rfl) (Nat.le_of_ble_eq_true rfl) (is_X10_sh A0) rfl rfl rfl (Nat.le_of_ble_eq_true rfl) (gDec_at D_X10_keep 19 rfl) ?_
    obtain rfl := Option.some.inj hF
    exact gx_iret C E (gDec_at D_X10_keep 20 rfl)
  exact gx_sub [1, 0] rfl (w_X10_keep_2 C A0 k5 gFuel 0 h hv4)
