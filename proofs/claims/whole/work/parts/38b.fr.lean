theorem fr_X0_findVolts {P : Nat → Prop} {a0 : Nat} {a1 : Nat} {x2 : Int32} {h : gHp} (H_a0 : ∀ x : Nat, a0 ≤ x → x < a0 + 28 → P x)  {o : gHp} (hF : f_X0_findVolts a0 a1 x2 h = some o) : gSame P h o := by
  rw [f_X0_findVolts] at hF
  obtain ⟨v15, hv1, hF⟩ := gBind hF
  have s_v15 : gSame P h v15 := gSame.tr gSame.rf (fr_X0_findVolts_13 (fun x q1 q2 => H_a0 x (by omega) (by omega)) gFuel ((h.1 (a1 + 1) 4) - 1) h _ hv1)
  obtain rfl := Option.some.inj hF
  exact s_v15
theorem fr_X0_findReading {P : Nat → Prop} {a0 : Nat} {a1 : Nat} {x2 : Int32} {h : gHp} (H_a0 : ∀ x : Nat, a0 ≤ x → x < a0 + 28 → P x)  {o : Nat × gHp} (hF : f_X0_findReading a0 a1 x2 h = some o) : gSame P h o.2 := by
  rw [f_X0_findReading] at hF
  obtain ⟨v2, hv1, hF⟩ := gBind hF
  have s_v2 : gSame P h v2 := gSame.tr gSame.rf (fr_X0_findOhms (fun x q1 q2 => H_a0 x (by omega) (by omega)) hv1)
  obtain ⟨v4, hv2, hF⟩ := gBind hF
  have s_v4 : gSame P h v4 := gSame.tr s_v2 (fr_X0_findVolts (fun x q1 q2 => H_a0 x (by omega) (by omega)) hv2)
  obtain ⟨b3, hF⟩ := gGd hF
  have b3l := gIn_lt b3
  obtain rfl := Option.some.inj hF
  exact s_v4
theorem fr_X0_findVoltage {P : Nat → Prop} {a0 : Nat} {a1 : Nat} {x2 : Int32} {h : gHp} (H_a0 : ∀ x : Nat, a0 ≤ x → x < a0 + 28 → P x)  {o : Nat × gHp} (hF : f_X0_findVoltage a0 a1 x2 h = some o) : gSame P h o.2 := by
  rw [f_X0_findVoltage] at hF
  obtain ⟨v2, hv1, hF⟩ := gBind hF
  have s_v2 : gSame P h v2 := gSame.tr gSame.rf (fr_X0_findOhms (fun x q1 q2 => H_a0 x (by omega) (by omega)) hv1)
  obtain ⟨v4, hv2, hF⟩ := gBind hF
  have s_v4 : gSame P h v4 := gSame.tr s_v2 (fr_X0_findVolts (fun x q1 q2 => H_a0 x (by omega) (by omega)) hv2)
  obtain ⟨b3, hF⟩ := gGd hF
  have b3l := gIn_lt b3
  obtain rfl := Option.some.inj hF
  exact s_v4
theorem fr_X0_findLoss {P : Nat → Prop} {a0 : Nat} {a1 : Nat} {x2 : Int32} {h : gHp} (H_a0 : ∀ x : Nat, a0 ≤ x → x < a0 + 28 → P x)  {o : Int32 × gHp} (hF : f_X0_findLoss a0 a1 x2 h = some o) : gSame P h o.2 := by
  rw [f_X0_findLoss] at hF
  obtain ⟨v2, hv1, hF⟩ := gBind hF
  have s_v2 : gSame P h v2 := gSame.tr gSame.rf (fr_X0_findOhms (fun x q1 q2 => H_a0 x (by omega) (by omega)) hv1)
  obtain ⟨v4, hv2, hF⟩ := gBind hF
  have s_v4 : gSame P h v4 := gSame.tr s_v2 (fr_X0_findVolts (fun x q1 q2 => H_a0 x (by omega) (by omega)) hv2)
  obtain ⟨b3, hF⟩ := gGd hF
  have b3l := gIn_lt b3
  obtain ⟨v7, hv4, hF⟩ := gBind hF
  have s_v7 : gSame P h v7 := gSame.tr s_v4 (fr_X2_copy (fun x q1 q2 => H_a0 x (by omega) (by omega)) hv4)
  obtain ⟨v9, hv5, hF⟩ := gBind hF
  by_cases c6 : v9 = true
  · replace hF := gPos c6 hF
    obtain rfl := Option.some.inj hF
    exact s_v7
  · replace hF := gNeg c6 hF
    obtain ⟨v11, hv7, hF⟩ := gBind hF
    have s_v11 : gSame P h v11 := gSame.tr s_v7 (fr_X0_findOhms (fun x q1 q2 => H_a0 x (by omega) (by omega)) hv7)
    obtain ⟨v13, hv8, hF⟩ := gBind hF
    have s_v13 : gSame P h v13 := gSame.tr s_v11 (fr_X0_findVolts (fun x q1 q2 => H_a0 x (by omega) (by omega)) hv8)
    obtain ⟨b9, hF⟩ := gGd hF
    have b9l := gIn_lt b9
    obtain ⟨v16, hv10, hF⟩ := gBind hF
    have s_v16 : gSame P h v16 := gSame.tr s_v13 (fr_X2_copy (fun x q1 q2 => H_a0 x (by omega) (by omega)) hv10)
    obtain ⟨v18, hv11, hF⟩ := gBind hF
    have s_v18 : gSame P h v18 := gSame.tr s_v16 (fr_X2_invert (fun x q1 q2 => H_a0 x (by omega) (by omega)) hv11)
    obtain ⟨v20, hv12, hF⟩ := gBind hF
    have s_v20 : gSame P h v20 := gSame.tr s_v18 (fr_X2_multiply (fun x q1 q2 => H_a0 x (by omega) (by omega)) hv12)
    by_cases c13 : 1 ≤ (v20.2 (a0 + 4) 1)
    · replace hF := gPos c13 hF
      obtain ⟨v22, hv14, hF⟩ := gBind hF
      obtain rfl := Option.some.inj hF
      exact s_v20
    · replace hF := gNeg c13 hF
      obtain rfl := Option.some.inj hF
      exact s_v20
theorem fr_X0_takeOthersOff {P : Nat → Prop} {a0 : Nat} {a1 : Nat} {x2 : Int32} {a3 : Nat} {h : gHp} (H_a0 : ∀ x : Nat, a0 ≤ x → x < a0 + 28 → P x) (H_a3 : ∀ x : Nat, a3 ≤ x → x < a3 + 1 → P x)  {o : Bool × gHp} (hF : f_X0_takeOthersOff a0 a1 x2 a3 h = some o) : gSame P h o.2 := by
  rw [f_X0_takeOthersOff] at hF
  obtain ⟨b1, hF⟩ := gGd hF
  have b1l := gIn_lt b1
  obtain ⟨v3, hv2, hF⟩ := gBind hF
  have s_v3 : gSame P h v3 := gSame.tr gSame.rf (fr_X0_addUp (fun x q1 q2 => H_a0 x (by omega) (by omega)) hv2)
  obtain ⟨v5, hv3, hF⟩ := gBind hF
  by_cases c4 : v5 = true
  · replace hF := gPos c4 hF
    obtain ⟨v15, hv5, hF⟩ := gBind hF
    have s_v15 : gSame P h v15 := gSame.tr s_v3 (fr_X2_add (fun x q1 q2 => H_a3 x (by omega) (by omega)) hv5)
    by_cases c6 : (v15.2 a3 0) < 0
    · replace hF := gPos c6 hF
      obtain rfl := Option.some.inj hF
      exact s_v15
    · replace hF := gNeg c6 hF
      obtain rfl := Option.some.inj hF
      exact s_v15
  · replace hF := gNeg c4 hF
    obtain ⟨v7, hv7, hF⟩ := gBind hF
    have s_v7 : gSame P h v7 := gSame.tr s_v3 (fr_X2_invert (fun x q1 q2 => H_a3 x (by omega) (by omega)) hv7)
    obtain ⟨v9, hv8, hF⟩ := gBind hF
    have s_v9 : gSame P h v9 := gSame.tr s_v7 (fr_X2_add (fun x q1 q2 => H_a3 x (by omega) (by omega)) hv8)
    by_cases c9 : (v9.2 a3 0) ≤ 0
    · replace hF := gPos c9 hF
      obtain ⟨v11, hv10, hF⟩ := gBind hF
      have s_v11 : gSame P h v11 := gSame.tr s_v9 (fr_X2_invert (fun x q1 q2 => H_a3 x (by omega) (by omega)) hv10)
      obtain rfl := Option.some.inj hF
      exact s_v11
    · replace hF := gNeg c9 hF
      obtain ⟨v13, hv11, hF⟩ := gBind hF
      have s_v13 : gSame P h v13 := gSame.tr s_v9 (fr_X2_invert (fun x q1 q2 => H_a3 x (by omega) (by omega)) hv11)
      obtain rfl := Option.some.inj hF
      exact s_v13
theorem fr_X0_solveFor_110 {P : Nat → Prop} {a0 : Nat} {x2 : Int32} {a3 : Nat} {a4 : Nat} {x5 : Int32} (H_a0 : ∀ x : Nat, a0 ≤ x → x < a0 + 28 → P x) (H_a3 : ∀ x : Nat, a3 ≤ x → x < a3 + 1 → P x)  : ∀ (n : Nat) (x7 : Int32) (h : gHp) (o : Int32 × gHp), f_X0_solveFor_110 a0 x2 a3 a4 x5 n x7 h = some o → gSame P h o.2 := by
  intro n
  induction n with
  | zero => intro _ _ o hF; cases hF
  | succ n ih =>
    intro x7 h o hF
    rw [f_X0_solveFor_110] at hF
    by_cases c1 : x7 < x2
    · replace hF := gPos c1 hF
      obtain rfl := Option.some.inj hF
      exact gSame.rf
    · replace hF := gNeg c1 hF
      by_cases c2 : ((x5 >>> (x7 &&& 31)) &&& 1) = 1
      · replace hF := gPos c2 hF
        obtain ⟨v6, hv3, hF⟩ := gBind hF
        have s_v6 : gSame P h v6.2 := gSame.tr gSame.rf (fr_X0_takeOthersOff (fun x q1 q2 => H_a0 x (by omega) (by omega)) (fun x q1 q2 => H_a3 x (by omega) (by omega)) hv3)
        by_cases c4 : v6.1 = true
        · replace hF := gPos c4 hF
          exact gSame.tr s_v6 (ih (x7 + (-1)) v6.2 _ hF)
        · replace hF := gNeg c4 hF
          obtain rfl := Option.some.inj hF
          exact s_v6
      · replace hF := gNeg c2 hF
        exact gSame.tr gSame.rf (ih (x7 + (-1)) h _ hF)
theorem fr_X0_solveFor_35 {P : Nat → Prop} {a0 : Nat} {x2 : Int32} {a3 : Nat} {a4 : Nat} {x5 : Int32} {x6 : Int32} (H_a0 : ∀ x : Nat, a0 ≤ x → x < a0 + 28 → P x) (H_a3 : ∀ x : Nat, a3 ≤ x → x < a3 + 1 → P x)  : ∀ (n : Nat) (x7 : Int32) (h : gHp) (o : Int32 × gHp), f_X0_solveFor_35 a0 x2 a3 a4 x5 x6 n x7 h = some o → gSame P h o.2 := by
  intro n
  induction n with
  | zero => intro _ _ o hF; cases hF
  | succ n ih =>
    intro x7 h o hF
    rw [f_X0_solveFor_35] at hF
    by_cases c1 : x7 < x2
    · replace hF := gPos c1 hF
      exact gSame.tr gSame.rf (fr_X0_solveFor_110 (fun x q1 q2 => H_a0 x (by omega) (by omega)) (fun x q1 q2 => H_a3 x (by omega) (by omega)) gFuel (x6 - 1) h _ hF)
    · replace hF := gNeg c1 hF
      by_cases c2 : ((x5 >>> (x7 &&& 31)) &&& 1) = 1
      · replace hF := gPos c2 hF
        obtain ⟨b3, hF⟩ := gGd hF
        have b3l := gIn_lt b3
        obtain ⟨v9, hv4, hF⟩ := gBind hF
        have s_v9 : gSame P h v9 := gSame.tr gSame.rf (fr_X0_addUp (fun x q1 q2 => H_a0 x (by omega) (by omega)) hv4)
        obtain ⟨v11, hv5, hF⟩ := gBind hF
        by_cases c6 : v11 = true
        · replace hF := gPos c6 hF
          obtain ⟨b7, hF⟩ := gGd hF
          have b7l := gIn_lt b7
          obtain ⟨v14, hv8, hF⟩ := gBind hF
          by_cases c9 : v14 = true
          · replace hF := gPos c9 hF
            obtain rfl := Option.some.inj hF
            exact s_v9
          · replace hF := gNeg c9 hF
            obtain rfl := Option.some.inj hF
            exact s_v9
        · replace hF := gNeg c6 hF
          exact gSame.tr s_v9 (ih (x7 + (-1)) v9 _ hF)
      · replace hF := gNeg c2 hF
        exact gSame.tr gSame.rf (ih (x7 + (-1)) h _ hF)
theorem fr_X0_solveFor {P : Nat → Prop} {a0 : Nat} {a1 : Nat} {x2 : Int32} {a3 : Nat} {h : gHp} (H_a0 : ∀ x : Nat, a0 ≤ x → x < a0 + 28 → P x) (H_a3 : ∀ x : Nat, a3 ≤ x → x < a3 + 1 → P x)  {o : Int32 × gHp} (hF : f_X0_solveFor a0 a1 x2 a3 h = some o) : gSame P h o.2 := by
  rw [f_X0_solveFor] at hF
  obtain ⟨v2, hv1, hF⟩ := gBind hF
  have s_v2 : gSame P h v2 := gSame.tr gSame.rf (fr_X0_findOhms (fun x q1 q2 => H_a0 x (by omega) (by omega)) hv1)
  obtain ⟨v4, hv2, hF⟩ := gBind hF
  exact gSame.tr s_v2 (fr_X0_solveFor_35 (fun x q1 q2 => H_a0 x (by omega) (by omega)) (fun x q1 q2 => H_a3 x (by omega) (by omega)) gFuel (((v2.1 (a1 + 1) 4) - 1) - 1) v2 _ hF)
theorem fr_X9_type {P : Nat → Prop} {a0 : Nat} {x1 : Int32} {h : gHp} (H_a0 : ∀ x : Nat, a0 ≤ x → x < a0 + 142 → P x)  {o : Int32 × gHp} (hF : f_X9_type a0 x1 h = some o) : gSame P h o.2 := by
  rw [f_X9_type] at hF
  by_cases c1 : (h.1 (a0 + 1) 1) < 40
  · replace hF := gPos c1 hF
    obtain ⟨v2, hv2, hF⟩ := gBind hF
    have s_v2 : gSame P h v2 := gSame.tr gSame.rf (fr_X4_append (fun x q1 q2 => H_a0 x (by omega) (by omega)) hv2)
    obtain rfl := Option.some.inj hF
    exact s_v2
  · replace hF := gNeg c1 hF
    obtain rfl := Option.some.inj hF
    exact gSame.rf
theorem fr_X9_clearText {P : Nat → Prop} {a0 : Nat} {h : gHp} (H_a0 : ∀ x : Nat, a0 ≤ x → x < a0 + 142 → P x)  {o : Int32 × gHp} (hF : f_X9_clearText a0 h = some o) : gSame P h o.2 := by
  rw [f_X9_clearText] at hF
  obtain rfl := Option.some.inj hF
  exact (gSame.I gSame.rf (H_a0 (a0 + 1) (by omega) (by omega)))
theorem fr_X9_readNetwork {P : Nat → Prop} {a0 : Nat} {h : gHp} (H_a0 : ∀ x : Nat, a0 ≤ x → x < a0 + 142 → P x)  {o : Int32 × gHp} (hF : f_X9_readNetwork a0 h = some o) : gSame P h o.2 := by
  rw [f_X9_readNetwork] at hF
  obtain ⟨v2, hv1, hF⟩ := gBind hF
  by_cases c2 : v2 = (-1)
  · replace hF := gPos c2 hF
    obtain ⟨v4, hv3, hF⟩ := gBind hF
    have s_v4 : gSame P h v4 := gSame.tr gSame.rf (fr_X3_record (fun x q1 q2 => H_a0 x (by omega) (by omega)) hv3)
    obtain ⟨v6, hv4, hF⟩ := gBind hF
    have s_v6 : gSame P h v6 := gSame.tr s_v4 (fr_X6_build (fun x q1 q2 => H_a0 x (by omega) (by omega)) (fun x q1 q2 => H_a0 x (by omega) (by omega)) hv4)
    obtain ⟨v8, hv5, hF⟩ := gBind hF
    have s_v8 : gSame P h v8 := gSame.tr s_v6 (fr_X8_resetArms (fun x q1 q2 => H_a0 x (by omega) (by omega)) hv5)
    obtain rfl := Option.some.inj hF
    exact s_v8
  · replace hF := gNeg c2 hF
    obtain rfl := Option.some.inj hF
    exact gSame.rf
theorem fr_X9_perform_54 {P : Nat → Prop} {a0 : Nat} {h : gHp} (H_a0 : ∀ x : Nat, a0 ≤ x → x < a0 + 142 → P x)  {o : Int32 × gHp} (hF : f_X9_perform_54 a0 h = some o) : gSame P h o.2 := by
  rw [f_X9_perform_54] at hF
  obtain ⟨v6, hv1, hF⟩ := gBind hF
  by_cases c2 : v6 = true
  · replace hF := gPos c2 hF
    obtain rfl := Option.some.inj hF
    exact gSame.rf
  · replace hF := gNeg c2 hF
    obtain ⟨v8, hv3, hF⟩ := gBind hF
    have s_v8 : gSame P h v8 := gSame.tr gSame.rf (fr_X3_record (fun x q1 q2 => H_a0 x (by omega) (by omega)) hv3)
    obtain ⟨v10, hv4, hF⟩ := gBind hF
    have s_v10 : gSame P h v10 := gSame.tr s_v8 (fr_X1_changeIn (fun x q1 q2 => H_a0 x (by omega) (by omega)) hv4)
    obtain rfl := Option.some.inj hF
    exact s_v10
theorem fr_X9_perform {P : Nat → Prop} {a0 : Nat} {h : gHp} (H_a0 : ∀ x : Nat, a0 ≤ x → x < a0 + 142 → P x)  {o : Int32 × gHp} (hF : f_X9_perform a0 h = some o) : gSame P h o.2 := by
  rw [f_X9_perform] at hF
  obtain ⟨v2, hv1, hF⟩ := gBind hF
  have s_v2 : gSame P h v2.2 := gSame.tr gSame.rf (fr_X1_read (fun x q1 q2 => H_a0 x (by omega) (by omega)) hv1)
  by_cases c2 : v2.1 = (-1)
  · replace hF := gPos c2 hF
    obtain ⟨v4, hv3, hF⟩ := gBind hF
    by_cases c4 : v4 = true
    · replace hF := gPos c4 hF
      obtain ⟨v12, hv5, hF⟩ := gBind hF
      by_cases c6 : v12 = true
      · replace hF := gPos c6 hF
        exact gSame.tr s_v2 (fr_X9_perform_54 (fun x q1 q2 => H_a0 x (by omega) (by omega)) hF)
      · replace hF := gNeg c6 hF
        obtain rfl := Option.some.inj hF
        exact s_v2
    · replace hF := gNeg c4 hF
      exact gSame.tr s_v2 (fr_X9_perform_54 (fun x q1 q2 => H_a0 x (by omega) (by omega)) hF)
  · replace hF := gNeg c2 hF
    obtain rfl := Option.some.inj hF
    exact s_v2
theorem fr_X9_fold {P : Nat → Prop} {a0 : Nat} {x1 : Int32} {h : gHp} (H_a0 : ∀ x : Nat, a0 ≤ x → x < a0 + 142 → P x)  {o : Int32 × gHp} (hF : f_X9_fold a0 x1 h = some o) : gSame P h o.2 := by
  rw [f_X9_fold] at hF
  obtain ⟨v2, hv1, hF⟩ := gBind hF
  by_cases c2 : v2 = true
  · replace hF := gPos c2 hF
    obtain ⟨v4, hv3, hF⟩ := gBind hF
    by_cases c4 : v4 = true
    · replace hF := gPos c4 hF
      obtain ⟨b5, hF⟩ := gGd hF
      have b5l := gIn_lt b5
      by_cases c6 : (h.1 (a0 + 3 + 12) (gN x1)) = 0
      · replace hF := gPos c6 hF
        obtain ⟨v7, hv7, hF⟩ := gBind hF
        have s_v7 : gSame P h v7 := gSame.tr gSame.rf (fr_X3_record (fun x q1 q2 => H_a0 x (by omega) (by omega)) hv7)
        obtain ⟨v9, hv8, hF⟩ := gBind hF
        have s_v9 : gSame P h v9 := gSame.tr s_v7 (fr_X8_foldOne (fun x q1 q2 => H_a0 x (by omega) (by omega)) hv8)
        obtain ⟨v11, hv9, hF⟩ := gBind hF
        obtain rfl := Option.some.inj hF
        exact s_v9
      · replace hF := gNeg c6 hF
        obtain rfl := Option.some.inj hF
        exact gSame.rf
    · replace hF := gNeg c4 hF
      obtain rfl := Option.some.inj hF
      exact gSame.rf
  · replace hF := gNeg c2 hF
    obtain rfl := Option.some.inj hF
    exact gSame.rf
theorem fr_X9_foldAll_33 {P : Nat → Prop} {a0 : Nat} {x1 : Int32} (H_a0 : ∀ x : Nat, a0 ≤ x → x < a0 + 142 → P x)  : ∀ (n : Nat) (x2 : Int32) (x3 : Int32) (x4 : Int32) (h : gHp) (o : Int32 × gHp), f_X9_foldAll_33 a0 x1 n x2 x3 x4 h = some o → gSame P h o.2 := by
  intro n
  induction n with
  | zero => intro _ _ _ _ o hF; cases hF
  | succ n ih =>
    intro x2 x3 x4 h o hF
    rw [f_X9_foldAll_33] at hF
    by_cases c1 : 11 ≤ x4
    · replace hF := gPos c1 hF
      obtain rfl := Option.some.inj hF
      exact gSame.rf
    · replace hF := gNeg c1 hF
      by_cases c2 : x2 = (-1)
      · replace hF := gPos c2 hF
        obtain rfl := Option.some.inj hF
        exact gSame.rf
      · replace hF := gNeg c2 hF
        obtain ⟨v6, hv3, hF⟩ := gBind hF
        have s_v6 : gSame P h v6 := gSame.tr gSame.rf (fr_X8_foldOne (fun x q1 q2 => H_a0 x (by omega) (by omega)) hv3)
        obtain ⟨v8, hv4, hF⟩ := gBind hF
        exact gSame.tr s_v6 (ih v8 (x3 + 1) (x4 + 1) v6 _ hF)
theorem fr_X9_foldAll {P : Nat → Prop} {a0 : Nat} {x1 : Int32} {h : gHp} (H_a0 : ∀ x : Nat, a0 ≤ x → x < a0 + 142 → P x)  {o : Int32 × gHp} (hF : f_X9_foldAll a0 x1 h = some o) : gSame P h o.2 := by
  rw [f_X9_foldAll] at hF
  obtain ⟨v2, hv1, hF⟩ := gBind hF
  by_cases c2 : v2 = (-1)
  · replace hF := gPos c2 hF
    obtain rfl := Option.some.inj hF
    exact gSame.rf
  · replace hF := gNeg c2 hF
    obtain ⟨v4, hv3, hF⟩ := gBind hF
    have s_v4 : gSame P h v4 := gSame.tr gSame.rf (fr_X3_record (fun x q1 q2 => H_a0 x (by omega) (by omega)) hv3)
    obtain ⟨v9, hv4, hF⟩ := gBind hF
    have s_v9 : gSame P h v9.2 := gSame.tr s_v4 (fr_X9_foldAll_33 (fun x q1 q2 => H_a0 x (by omega) (by omega)) gFuel v2 0 0 v4 _ hv4)
    obtain rfl := Option.some.inj hF
    exact s_v9
theorem fr_X9_unfold {P : Nat → Prop} {a0 : Nat} {x1 : Int32} {h : gHp} (H_a0 : ∀ x : Nat, a0 ≤ x → x < a0 + 142 → P x)  {o : Int32 × gHp} (hF : f_X9_unfold a0 x1 h = some o) : gSame P h o.2 := by
  rw [f_X9_unfold] at hF
  obtain ⟨v2, hv1, hF⟩ := gBind hF
  by_cases c2 : v2 = true
  · replace hF := gPos c2 hF
    obtain ⟨b3, hF⟩ := gGd hF
    have b3l := gIn_lt b3
    by_cases c4 : (h.1 (a0 + 3 + 1 + 1) (gN x1)) = 0
    · replace hF := gPos c4 hF
      obtain rfl := Option.some.inj hF
      exact gSame.rf
    · replace hF := gNeg c4 hF
      obtain ⟨b5, hF⟩ := gGd hF
      have b5l := gIn_lt b5
      by_cases c6 : (h.1 (a0 + 3 + 12) (gN x1)) = 0
      · replace hF := gPos c6 hF
        obtain rfl := Option.some.inj hF
        exact gSame.rf
      · replace hF := gNeg c6 hF
        obtain ⟨v6, hv7, hF⟩ := gBind hF
        have s_v6 : gSame P h v6 := gSame.tr gSame.rf (fr_X3_record (fun x q1 q2 => H_a0 x (by omega) (by omega)) hv7)
        obtain ⟨v8, hv8, hF⟩ := gBind hF
        have s_v8 : gSame P h v8.2 := gSame.tr s_v6 (fr_X8_unfoldFrom (fun x q1 q2 => H_a0 x (by omega) (by omega)) hv8)
        obtain rfl := Option.some.inj hF
        exact s_v8
  · replace hF := gNeg c2 hF
    obtain rfl := Option.some.inj hF
    exact gSame.rf
theorem fr_X9_note_64 {P : Nat → Prop} {a0 : Nat} {a2 : Nat} {x3 : Int32} {h : gHp} (H_a0 : ∀ x : Nat, a0 ≤ x → x < a0 + 142 → P x)  {o : Int32 × gHp} (hF : f_X9_note_64 a0 a2 x3 h = some o) : gSame P h o.2 := by
  rw [f_X9_note_64] at hF
  obtain ⟨v8, hv1, hF⟩ := gBind hF
  have s_v8 : gSame P h v8 := gSame.tr gSame.rf (fr_X3_record (fun x q1 q2 => H_a0 x (by omega) (by omega)) hv1)
  obtain ⟨v10, hv2, hF⟩ := gBind hF
  have s_v10 : gSame P h v10.2 := gSame.tr s_v8 (fr_X7_put (fun x q1 q2 => H_a0 x (by omega) (by omega)) hv2)
  obtain rfl := Option.some.inj hF
  exact s_v10
theorem fr_X9_note {P : Nat → Prop} {a0 : Nat} {x1 : Int32} {h : gHp} (H_a0 : ∀ x : Nat, a0 ≤ x → x < a0 + 142 → P x)  {o : Int32 × gHp} (hF : f_X9_note a0 x1 h = some o) : gSame P h o.2 := by
  rw [f_X9_note] at hF
  obtain ⟨v2, hv1, hF⟩ := gBind hF
  by_cases c2 : v2 = true
  · replace hF := gPos c2 hF
    obtain ⟨v4, hv3, hF⟩ := gBind hF
    have s_v4 : gSame P h v4.2 := gSame.tr gSame.rf (fr_X0_findReading (fun x q1 q2 => H_a0 x (by omega) (by omega)) hv3)
    obtain ⟨v6, hv4, hF⟩ := gBind hF
    by_cases c5 : v6 = (-1)
    · replace hF := gPos c5 hF
      by_cases c6 : (v4.2.1 (a0 + 3 + 6) 3) < 20
      · replace hF := gPos c6 hF
        exact gSame.tr s_v4 (fr_X9_note_64 (fun x q1 q2 => H_a0 x (by omega) (by omega)) hF)
      · replace hF := gNeg c6 hF
        obtain rfl := Option.some.inj hF
        exact s_v4
    · replace hF := gNeg c5 hF
      exact gSame.tr s_v4 (fr_X9_note_64 (fun x q1 q2 => H_a0 x (by omega) (by omega)) hF)
  · replace hF := gNeg c2 hF
    obtain rfl := Option.some.inj hF
    exact gSame.rf
theorem fr_X9_undo {P : Nat → Prop} {a0 : Nat} {h : gHp} (H_a0 : ∀ x : Nat, a0 ≤ x → x < a0 + 142 → P x)  {o : Int32 × gHp} (hF : f_X9_undo a0 h = some o) : gSame P h o.2 := by
  rw [f_X9_undo] at hF
  by_cases c1 : (h.1 (a0 + 42) 2) = 0
  · replace hF := gPos c1 hF
    obtain rfl := Option.some.inj hF
    exact gSame.rf
  · replace hF := gNeg c1 hF
    obtain ⟨v2, hv2, hF⟩ := gBind hF
    have s_v2 : gSame P h v2 := gSame.tr gSame.rf (fr_X3_giveBack (fun x q1 q2 => H_a0 x (by omega) (by omega)) (fun x q1 q2 => H_a0 x (by omega) (by omega)) hv2)
    obtain rfl := Option.some.inj hF
    exact s_v2
theorem fr_X9_keep {P : Nat → Prop} {a0 : Nat} {h : gHp} (H_a0 : ∀ x : Nat, a0 ≤ x → x < a0 + 142 → P x)  {o : Int32 × gHp} (hF : f_X9_keep a0 h = some o) : gSame P h o.2 := by
  rw [f_X9_keep] at hF
  obtain ⟨v2, hv1, hF⟩ := gBind hF
  have s_v2 : gSame P h v2 := gSame.tr gSame.rf (fr_X8_copy (fun x q1 q2 => H_a0 x (by omega) (by omega)) hv1)
  obtain rfl := Option.some.inj hF
  exact (gSame.I s_v2 (H_a0 (a0) (by omega) (by omega)))
theorem fr_X9_restore {P : Nat → Prop} {a0 : Nat} {h : gHp} (H_a0 : ∀ x : Nat, a0 ≤ x → x < a0 + 142 → P x)  {o : Int32 × gHp} (hF : f_X9_restore a0 h = some o) : gSame P h o.2 := by
  rw [f_X9_restore] at hF
  by_cases c1 : (h.1 a0 9) = 0
  · replace hF := gPos c1 hF
    obtain rfl := Option.some.inj hF
    exact gSame.rf
  · replace hF := gNeg c1 hF
    obtain ⟨v2, hv2, hF⟩ := gBind hF
    have s_v2 : gSame P h v2 := gSame.tr gSame.rf (fr_X3_record (fun x q1 q2 => H_a0 x (by omega) (by omega)) hv2)
    obtain ⟨v4, hv3, hF⟩ := gBind hF
    have s_v4 : gSame P h v4 := gSame.tr s_v2 (fr_X8_copy (fun x q1 q2 => H_a0 x (by omega) (by omega)) hv3)
    obtain rfl := Option.some.inj hF
    exact s_v4
theorem fr_X9_resistance {P : Nat → Prop} {a0 : Nat} {x1 : Int32} {x2 : Int32} {h : gHp} (H_a0 : ∀ x : Nat, a0 ≤ x → x < a0 + 142 → P x)  {o : Int64 × gHp} (hF : f_X9_resistance a0 x1 x2 h = some o) : gSame P h o.2 := by
  rw [f_X9_resistance] at hF
  obtain ⟨v2, hv1, hF⟩ := gBind hF
  by_cases c2 : v2 = true
  · replace hF := gPos c2 hF
    obtain ⟨v4, hv3, hF⟩ := gBind hF
    by_cases c4 : v4 = true
    · replace hF := gPos c4 hF
      obtain ⟨v6, hv5, hF⟩ := gBind hF
      have s_v6 : gSame P h v6 := gSame.tr gSame.rf (fr_X0_findOhms (fun x q1 q2 => H_a0 x (by omega) (by omega)) hv5)
      obtain ⟨b6, hF⟩ := gGd hF
      have b6l := gIn_lt b6
      obtain ⟨v9, hv7, hF⟩ := gBind hF
      obtain rfl := Option.some.inj hF
      exact s_v6
    · replace hF := gNeg c4 hF
      obtain rfl := Option.some.inj hF
      exact gSame.rf
  · replace hF := gNeg c2 hF
    obtain rfl := Option.some.inj hF
    exact gSame.rf
theorem fr_X9_folded {P : Nat → Prop} {a0 : Nat} {x1 : Int32} {x2 : Int32} {h : gHp} (H_a0 : ∀ x : Nat, a0 ≤ x → x < a0 + 142 → P x)  {o : Int64 × gHp} (hF : f_X9_folded a0 x1 x2 h = some o) : gSame P h o.2 := by
  rw [f_X9_folded] at hF
  obtain ⟨v2, hv1, hF⟩ := gBind hF
  by_cases c2 : v2 = true
  · replace hF := gPos c2 hF
    obtain ⟨v4, hv3, hF⟩ := gBind hF
    by_cases c4 : v4 = true
    · replace hF := gPos c4 hF
      obtain ⟨b5, hF⟩ := gGd hF
      have b5l := gIn_lt b5
      by_cases c6 : (h.1 (a0 + 3 + 12) (gN x1)) = 0
      · replace hF := gPos c6 hF
        obtain rfl := Option.some.inj hF
        exact gSame.rf
      · replace hF := gNeg c6 hF
        obtain ⟨v7, hv7, hF⟩ := gBind hF
        have s_v7 : gSame P h v7 := gSame.tr gSame.rf (fr_X0_findOhms (fun x q1 q2 => H_a0 x (by omega) (by omega)) hv7)
        obtain ⟨b8, hF⟩ := gGd hF
        have b8l := gIn_lt b8
        obtain ⟨v10, hv9, hF⟩ := gBind hF
        obtain rfl := Option.some.inj hF
        exact s_v7
    · replace hF := gNeg c4 hF
      obtain rfl := Option.some.inj hF
      exact gSame.rf
  · replace hF := gNeg c2 hF
    obtain rfl := Option.some.inj hF
    exact gSame.rf
theorem fr_X9_voltage {P : Nat → Prop} {a0 : Nat} {x1 : Int32} {x2 : Int32} {h : gHp} (H_a0 : ∀ x : Nat, a0 ≤ x → x < a0 + 142 → P x)  {o : Int64 × gHp} (hF : f_X9_voltage a0 x1 x2 h = some o) : gSame P h o.2 := by
  rw [f_X9_voltage] at hF
  obtain ⟨v2, hv1, hF⟩ := gBind hF
  by_cases c2 : v2 = true
  · replace hF := gPos c2 hF
    obtain ⟨v4, hv3, hF⟩ := gBind hF
    by_cases c4 : v4 = true
    · replace hF := gPos c4 hF
      obtain ⟨v6, hv5, hF⟩ := gBind hF
      have s_v6 : gSame P h v6.2 := gSame.tr gSame.rf (fr_X0_findVoltage (fun x q1 q2 => H_a0 x (by omega) (by omega)) hv5)
      obtain ⟨v8, hv6, hF⟩ := gBind hF
      obtain rfl := Option.some.inj hF
      exact s_v6
    · replace hF := gNeg c4 hF
      obtain rfl := Option.some.inj hF
      exact gSame.rf
  · replace hF := gNeg c2 hF
    obtain rfl := Option.some.inj hF
    exact gSame.rf
theorem fr_X9_reading {P : Nat → Prop} {a0 : Nat} {x1 : Int32} {x2 : Int32} {h : gHp} (H_a0 : ∀ x : Nat, a0 ≤ x → x < a0 + 142 → P x)  {o : Int64 × gHp} (hF : f_X9_reading a0 x1 x2 h = some o) : gSame P h o.2 := by
  rw [f_X9_reading] at hF
  obtain ⟨v2, hv1, hF⟩ := gBind hF
  by_cases c2 : v2 = true
  · replace hF := gPos c2 hF
    obtain ⟨v4, hv3, hF⟩ := gBind hF
    by_cases c4 : v4 = true
    · replace hF := gPos c4 hF
      obtain ⟨v6, hv5, hF⟩ := gBind hF
      have s_v6 : gSame P h v6.2 := gSame.tr gSame.rf (fr_X0_findReading (fun x q1 q2 => H_a0 x (by omega) (by omega)) hv5)
      obtain ⟨v8, hv6, hF⟩ := gBind hF
      obtain rfl := Option.some.inj hF
      exact s_v6
    · replace hF := gNeg c4 hF
      obtain rfl := Option.some.inj hF
      exact gSame.rf
  · replace hF := gNeg c2 hF
    obtain rfl := Option.some.inj hF
    exact gSame.rf
theorem fr_X9_loss {P : Nat → Prop} {a0 : Nat} {x1 : Int32} {h : gHp} (H_a0 : ∀ x : Nat, a0 ≤ x → x < a0 + 142 → P x)  {o : Int32 × gHp} (hF : f_X9_loss a0 x1 h = some o) : gSame P h o.2 := by
  rw [f_X9_loss] at hF
  obtain ⟨v2, hv1, hF⟩ := gBind hF
  by_cases c2 : v2 = true
  · replace hF := gPos c2 hF
    obtain ⟨v4, hv3, hF⟩ := gBind hF
    have s_v4 : gSame P h v4.2 := gSame.tr gSame.rf (fr_X0_findLoss (fun x q1 q2 => H_a0 x (by omega) (by omega)) hv3)
    obtain rfl := Option.some.inj hF
    exact s_v4
  · replace hF := gNeg c2 hF
    obtain rfl := Option.some.inj hF
    exact gSame.rf
theorem fr_X9_solve {P : Nat → Prop} {a0 : Nat} {x1 : Int32} {x2 : Int32} {x3 : Int32} {x4 : Int32} {h : gHp} (H_a0 : ∀ x : Nat, a0 ≤ x → x < a0 + 142 → P x)  {o : Int64 × gHp} (hF : f_X9_solve a0 x1 x2 x3 x4 h = some o) : gSame P h o.2 := by
  rw [f_X9_solve] at hF
  obtain ⟨v2, hv1, hF⟩ := gBind hF
  obtain ⟨v4, hv2, hF⟩ := gBind hF
  by_cases c3 : v4 = true
  · replace hF := gPos c3 hF
    by_cases c4 : x2 < 0
    · replace hF := gPos c4 hF
      obtain rfl := Option.some.inj hF
      exact gSame.rf
    · replace hF := gNeg c4 hF
      by_cases c5 : 9999 < x2
      · replace hF := gPos c5 hF
        obtain rfl := Option.some.inj hF
        exact gSame.rf
      · replace hF := gNeg c5 hF
        by_cases c6 : x3 < 1
        · replace hF := gPos c6 hF
          obtain rfl := Option.some.inj hF
          exact gSame.rf
        · replace hF := gNeg c6 hF
          by_cases c7 : x3 ≤ 99
          · replace hF := gPos c7 hF
            by_cases c8 : x4 < 0
            · replace hF := gPos c8 hF
              obtain rfl := Option.some.inj hF
              exact gSame.rf
            · replace hF := gNeg c8 hF
              by_cases c9 : x4 ≤ 2
              · replace hF := gPos c9 hF
                obtain ⟨v6, hv10, hF⟩ := gBind hF
                have s_v6 : gSame P h v6 := gSame.tr gSame.rf (fr_X2_put (fun x q1 q2 => H_a0 x (by omega) (by omega)) hv10)
                obtain ⟨b11, hF⟩ := gGd hF
                have b11l := gIn_lt b11
                obtain ⟨v9, hv12, hF⟩ := gBind hF
                have s_v9 : gSame P h v9.2 := gSame.tr s_v6 (fr_X0_solveFor (fun x q1 q2 => H_a0 x (by omega) (by omega)) (fun x q1 q2 => H_a0 x (by omega) (by omega)) hv12)
                by_cases c13 : x4 = 0
                · replace hF := gPos c13 hF
                  obtain rfl := Option.some.inj hF
                  exact s_v9
                · replace hF := gNeg c13 hF
                  by_cases c14 : v9.1 = 1
                  · replace hF := gPos c14 hF
                    obtain ⟨v11, hv15, hF⟩ := gBind hF
                    obtain rfl := Option.some.inj hF
                    exact s_v9
                  · replace hF := gNeg c14 hF
                    obtain rfl := Option.some.inj hF
                    exact s_v9
              · replace hF := gNeg c9 hF
                obtain rfl := Option.some.inj hF
                exact gSame.rf
          · replace hF := gNeg c7 hF
            obtain rfl := Option.some.inj hF
            exact gSame.rf
  · replace hF := gNeg c3 hF
    obtain rfl := Option.some.inj hF
    exact gSame.rf
theorem fr_X9_couldBe {P : Nat → Prop} {a0 : Nat} {x1 : Int32} {x2 : Int32} {h : gHp} (H_a0 : ∀ x : Nat, a0 ≤ x → x < a0 + 142 → P x)  {o : Bool × gHp} (hF : f_X9_couldBe a0 x1 x2 h = some o) : gSame P h o.2 := by
  rw [f_X9_couldBe] at hF
  obtain ⟨v2, hv1, hF⟩ := gBind hF
  by_cases c2 : v2 = true
  · replace hF := gPos c2 hF
    obtain ⟨b3, hF⟩ := gGd hF
    have b3l := gIn_lt b3
    by_cases c4 : (h.1 (a0 + 3 + 11) (gN x1)) = 0
    · replace hF := gPos c4 hF
      obtain ⟨v5, hv5, hF⟩ := gBind hF
      have s_v5 : gSame P h v5 := gSame.tr gSame.rf (fr_X8_copy (fun x q1 q2 => H_a0 x (by omega) (by omega)) hv5)
      obtain ⟨b6, hF⟩ := gGd hF
      have b6l := gIn_lt b6
      obtain ⟨v8, hv7, hF⟩ := gBind hF
      have s_v8 : gSame P h v8 := gSame.tr (gSame.I s_v5 (H_a0 (a0 + 29 + 11) (by omega) (by omega))) (fr_X0_findOhms (fun x q1 q2 => H_a0 x (by omega) (by omega)) hv7)
      obtain ⟨b8, hF⟩ := gGd hF
      have b8l := gIn_lt b8
      obtain ⟨v11, hv9, hF⟩ := gBind hF
      obtain rfl := Option.some.inj hF
      exact s_v8
    · replace hF := gNeg c4 hF
      obtain rfl := Option.some.inj hF
      exact gSame.rf
  · replace hF := gNeg c2 hF
    obtain rfl := Option.some.inj hF
    exact gSame.rf
theorem fr_X9_fault_82 {P : Nat → Prop} {a0 : Nat} {x5 : Int32} {k_72 : Int32 → Int32 → gHp → Option (Int32 × gHp)} (H_a0 : ∀ x : Nat, a0 ≤ x → x < a0 + 142 → P x) (hk_72 : ∀ (y0 : Int32) (y1 : Int32) (y2 : gHp) (o : Int32 × gHp), k_72 y0 y1 y2 = some o → gSame P y2 o.2) : ∀ (n : Nat) (x4 : Int32) (x6 : Int32) (h : gHp) (o : Int32 × gHp), f_X9_fault_82 a0 x5 k_72 n x4 x6 h = some o → gSame P h o.2 := by
  intro n
  induction n with
  | zero => intro _ _ _ o hF; cases hF
  | succ n ih =>
    intro x4 x6 h o hF
    rw [f_X9_fault_82] at hF
    by_cases c1 : 2 < x6
    · replace hF := gPos c1 hF
      exact gSame.tr gSame.rf (hk_72 x4 (x5 + 1) h _ hF)
    · replace hF := gNeg c1 hF
      obtain ⟨v4, hv2, hF⟩ := gBind hF
      have s_v4 : gSame P h v4.2 := gSame.tr gSame.rf (fr_X9_couldBe (fun x q1 q2 => H_a0 x (by omega) (by omega)) hv2)
      by_cases c3 : v4.1 = true
      · replace hF := gPos c3 hF
        by_cases c4 : x4 = 0
        · replace hF := gPos c4 hF
          obtain rfl := Option.some.inj hF
          exact s_v4
        · replace hF := gNeg c4 hF
          exact gSame.tr s_v4 (ih (x4 + (-1)) (x6 + 1) v4.2 _ hF)
      · replace hF := gNeg c3 hF
        exact gSame.tr s_v4 (ih x4 (x6 + 1) v4.2 _ hF)
theorem fr_X9_fault_72 {P : Nat → Prop} {a0 : Nat} (H_a0 : ∀ x : Nat, a0 ≤ x → x < a0 + 142 → P x)  : ∀ (n : Nat) (x4 : Int32) (x5 : Int32) (h : gHp) (o : Int32 × gHp), f_X9_fault_72 a0 n x4 x5 h = some o → gSame P h o.2 := by
  intro n
  induction n with
  | zero => intro _ _ _ o hF; cases hF
  | succ n ih =>
    intro x4 x5 h o hF
    rw [f_X9_fault_72] at hF
    by_cases c1 : 6 ≤ x5
    · replace hF := gPos c1 hF
      obtain rfl := Option.some.inj hF
      exact gSame.rf
    · replace hF := gNeg c1 hF
      exact gSame.tr gSame.rf (fr_X9_fault_82 (fun x q1 q2 => H_a0 x (by omega) (by omega)) (fun y0 y1 y2 o q => ih y0 y1 y2 o q) gFuel x4 1 h _ hF)
theorem fr_X9_fault_32 {P : Nat → Prop} {a0 : Nat} {x1 : Int32} {x2 : Int32} {x3 : Int32} {h : gHp} (H_a0 : ∀ x : Nat, a0 ≤ x → x < a0 + 142 → P x)  {o : Int32 × gHp} (hF : f_X9_fault_32 a0 x1 x2 x3 h = some o) : gSame P h o.2 := by
  rw [f_X9_fault_32] at hF
  by_cases c1 : 0 ≤ x3
  · replace hF := gPos c1 hF
    by_cases c2 : (h.1 (a0 + 3 + 1) 4) = 0
    · replace hF := gPos c2 hF
      obtain rfl := Option.some.inj hF
      exact gSame.rf
    · replace hF := gNeg c2 hF
      obtain ⟨v2, hv3, hF⟩ := gBind hF
      have s_v2 : gSame P h v2 := gSame.tr gSame.rf (fr_X2_put (fun x q1 q2 => H_a0 x (by omega) (by omega)) hv3)
      exact gSame.tr s_v2 (fr_X9_fault_72 (fun x q1 q2 => H_a0 x (by omega) (by omega)) gFuel x3 0 v2 _ hF)
  · replace hF := gNeg c1 hF
    obtain rfl := Option.some.inj hF
    exact gSame.rf
theorem fr_X9_fault {P : Nat → Prop} {a0 : Nat} {x1 : Int32} {x2 : Int32} {x3 : Int32} {h : gHp} (H_a0 : ∀ x : Nat, a0 ≤ x → x < a0 + 142 → P x)  {o : Int32 × gHp} (hF : f_X9_fault a0 x1 x2 x3 h = some o) : gSame P h o.2 := by
  rw [f_X9_fault] at hF
  by_cases c1 : x1 < 0
  · replace hF := gPos c1 hF
    obtain rfl := Option.some.inj hF
    exact gSame.rf
  · replace hF := gNeg c1 hF
    by_cases c2 : 9999 < x1
    · replace hF := gPos c2 hF
      obtain rfl := Option.some.inj hF
      exact gSame.rf
    · replace hF := gNeg c2 hF
      by_cases c3 : x2 < 0
      · replace hF := gPos c3 hF
        obtain rfl := Option.some.inj hF
        exact gSame.rf
      · replace hF := gNeg c3 hF
        by_cases c4 : x2 ≤ 99
        · replace hF := gPos c4 hF
          by_cases c5 : x1 = 0
          · replace hF := gPos c5 hF
            by_cases c6 : x2 = 0
            · replace hF := gPos c6 hF
              obtain rfl := Option.some.inj hF
              exact gSame.rf
            · replace hF := gNeg c6 hF
              exact gSame.tr gSame.rf (fr_X9_fault_32 (fun x q1 q2 => H_a0 x (by omega) (by omega)) hF)
          · replace hF := gNeg c5 hF
            exact gSame.tr gSame.rf (fr_X9_fault_32 (fun x q1 q2 => H_a0 x (by omega) (by omega)) hF)
        · replace hF := gNeg c4 hF
          obtain rfl := Option.some.inj hF
          exact gSame.rf
theorem fr_X9_worst_7 {P : Nat → Prop} {a0 : Nat} (H_a0 : ∀ x : Nat, a0 ≤ x → x < a0 + 142 → P x)  : ∀ (n : Nat) (x1 : Int32) (x2 : Int32) (x3 : Int32) (h : gHp) (o : Int32 × gHp), f_X9_worst_7 a0 n x1 x2 x3 h = some o → gSame P h o.2 := by
  intro n
  induction n with
  | zero => intro _ _ _ _ o hF; cases hF
  | succ n ih =>
    intro x1 x2 x3 h o hF
    rw [f_X9_worst_7] at hF
    by_cases c1 : (h.1 (a0 + 3 + 1) 4) ≤ x3
    · replace hF := gPos c1 hF
      obtain rfl := Option.some.inj hF
      exact gSame.rf
    · replace hF := gNeg c1 hF
      obtain ⟨v2, hv2, hF⟩ := gBind hF
      have s_v2 : gSame P h v2.2 := gSame.tr gSame.rf (fr_X0_findLoss (fun x q1 q2 => H_a0 x (by omega) (by omega)) hv2)
      by_cases c3 : x1 = (-4)
      · replace hF := gPos c3 hF
        exact gSame.tr s_v2 (ih x3 v2.1 (x3 + 1) v2.2 _ hF)
      · replace hF := gNeg c3 hF
        by_cases c4 : v2.1 ≤ x2
        · replace hF := gPos c4 hF
          exact gSame.tr s_v2 (ih x1 x2 (x3 + 1) v2.2 _ hF)
        · replace hF := gNeg c4 hF
          exact gSame.tr s_v2 (ih x3 v2.1 (x3 + 1) v2.2 _ hF)
theorem fr_X9_worst {P : Nat → Prop} {a0 : Nat} {h : gHp} (H_a0 : ∀ x : Nat, a0 ≤ x → x < a0 + 142 → P x)  {o : Int32 × gHp} (hF : f_X9_worst a0 h = some o) : gSame P h o.2 := by
  rw [f_X9_worst] at hF
  obtain ⟨v3, hv1, hF⟩ := gBind hF
  have s_v3 : gSame P h v3.2 := gSame.tr gSame.rf (fr_X9_worst_7 (fun x q1 q2 => H_a0 x (by omega) (by omega)) gFuel (-4) 0 0 h _ hv1)
  obtain rfl := Option.some.inj hF
  exact s_v3
theorem fr_X10_record_51 {P : Nat → Prop} {a0 : Nat} (H_a0 : ∀ x : Nat, a0 ≤ x → x < a0 + 13 → P x)  : ∀ (n : Nat) (x1 : Int32) (h : gHp) (o : gHp), f_X10_record_51 a0 n x1 h = some o → gSame P h o := by
  intro n
  induction n with
  | zero => intro _ _ o hF; cases hF
  | succ n ih =>
    intro x1 h o hF
    rw [f_X10_record_51] at hF
    by_cases c1 : 141 ≤ x1
    · replace hF := gPos c1 hF
      obtain rfl := Option.some.inj hF
      exact gSame.rf
    · replace hF := gNeg c1 hF
      obtain ⟨b2, hF⟩ := gGd hF
      have b2l := gIn_lt b2
      obtain ⟨b3, hF⟩ := gGd hF
      have b3l := gIn_lt b3
      exact gSame.tr (gSame.L gSame.rf (H_a0 (a0 + 2) (by omega) (by omega))) (ih (x1 + 1) (gsL h (a0 + 2) (gN ((141 * (h.1 a0 2)) + x1)) (h.2 (a0 + 1) (gN x1))) _ hF)
theorem fr_X10_record_10 {P : Nat → Prop} {a0 : Nat} (H_a0 : ∀ x : Nat, a0 ≤ x → x < a0 + 13 → P x)  : ∀ (n : Nat) (x1 : Int32) (h : gHp) (o : gHp), f_X10_record_10 a0 n x1 h = some o → gSame P h o := by
  intro n
  induction n with
  | zero => intro _ _ o hF; cases hF
  | succ n ih =>
    intro x1 h o hF
    rw [f_X10_record_10] at hF
    by_cases c1 : 564 ≤ x1
    · replace hF := gPos c1 hF
      obtain rfl := Option.some.inj hF
      exact gSame.rf
    · replace hF := gNeg c1 hF
      obtain ⟨b2, hF⟩ := gGd hF
      have b2l := gIn_lt b2
      obtain ⟨b3, hF⟩ := gGd hF
      have b3l := gIn_lt b3
      exact gSame.tr (gSame.L gSame.rf (H_a0 (a0 + 2) (by omega) (by omega))) (ih (x1 + 1) (gsL h (a0 + 2) (gN x1) (h.2 (a0 + 2) (gN (x1 + 141)))) _ hF)
theorem fr_X10_record {P : Nat → Prop} {a0 : Nat} {h : gHp} (H_a0 : ∀ x : Nat, a0 ≤ x → x < a0 + 13 → P x)  {o : gHp} (hF : f_X10_record a0 h = some o) : gSame P h o := by
  rw [f_X10_record] at hF
  obtain ⟨v1, hv1, hF⟩ := gBind hF
  have s_v1 : gSame P h v1 := by
    replace hF := hv1
    by_cases c2 : (h.1 a0 2) = 5
    · replace hF := gPos c2 hF
      obtain ⟨v11, hv3, hF⟩ := gBind hF
      have s_v11 : gSame P h v11 := gSame.tr gSame.rf (fr_X10_record_10 (fun x q1 q2 => H_a0 x (by omega) (by omega)) gFuel 0 h _ hv3)
      obtain rfl := Option.some.inj hF
      exact (gSame.I s_v11 (H_a0 (a0) (by omega) (by omega)))
    · replace hF := gNeg c2 hF
      obtain rfl := Option.some.inj hF
      exact gSame.rf
  obtain ⟨v6, hv4, hF⟩ := gBind hF
  have s_v6 : gSame P h v6 := gSame.tr s_v1 (fr_X10_record_51 (fun x q1 q2 => H_a0 x (by omega) (by omega)) gFuel 0 v1 _ hv4)
  obtain rfl := Option.some.inj hF
  exact (gSame.I s_v6 (H_a0 (a0) (by omega) (by omega)))
theorem fr_X10_type {P : Nat → Prop} {a0 : Nat} {x1 : Int32} {h : gHp} (H_a0 : ∀ x : Nat, a0 ≤ x → x < a0 + 13 → P x)  {o : Int32 × gHp} (hF : f_X10_type a0 x1 h = some o) : gSame P h o.2 := by
  rw [f_X10_type] at hF
  by_cases c1 : (h.1 a0 5) = 40
  · replace hF := gPos c1 hF
    obtain rfl := Option.some.inj hF
    exact gSame.rf
  · replace hF := gNeg c1 hF
    obtain ⟨b2, hF⟩ := gGd hF
    have b2l := gIn_lt b2
    obtain rfl := Option.some.inj hF
    exact (gSame.I (gSame.I gSame.rf (H_a0 (a0 + 4) (by omega) (by omega))) (H_a0 (a0) (by omega) (by omega)))
theorem fr_X10_clearText {P : Nat → Prop} {a0 : Nat} {h : gHp} (H_a0 : ∀ x : Nat, a0 ≤ x → x < a0 + 13 → P x)  {o : Int32 × gHp} (hF : f_X10_clearText a0 h = some o) : gSame P h o.2 := by
  rw [f_X10_clearText] at hF
  obtain rfl := Option.some.inj hF
  exact (gSame.I gSame.rf (H_a0 (a0) (by omega) (by omega)))
theorem fr_X10_laysPart_78 {P : Nat → Prop} {a0 : Nat} {x3 : Int32} {x4 : Int32} (H_a0 : ∀ x : Nat, a0 ≤ x → x < a0 + 13 → P x)  : ∀ (n : Nat) (x5 : Int32) (h : gHp) (o : gHp), f_X10_laysPart_78 a0 x3 x4 n x5 h = some o → gSame P h o := by
  intro n
  induction n with
  | zero => intro _ _ o hF; cases hF
  | succ n ih =>
    intro x5 h o hF
    rw [f_X10_laysPart_78] at hF
    by_cases c1 : x3 ≤ x5
    · replace hF := gPos c1 hF
      obtain rfl := Option.some.inj hF
      exact gSame.rf
    · replace hF := gNeg c1 hF
      obtain ⟨b2, hF⟩ := gGd hF
      have b2l := gIn_lt b2
      obtain ⟨b3, hF⟩ := gGd hF
      have b3l := gIn_lt b3
      exact gSame.tr (gSame.I (gSame.I gSame.rf (H_a0 (a0) (by omega) (by omega))) (H_a0 (a0 + 5) (by omega) (by omega))) (ih (x5 + 1) (gsI (gsI h a0 11 ((h.1 a0 11) - 1)) (a0 + 5) (gN ((5 * ((gsI h a0 11 ((h.1 a0 11) - 1)).1 (a0 + 6) (gN ((gsI h a0 11 ((h.1 a0 11) - 1)).1 a0 11)))) + 1)) x4) _ hF)
theorem fr_X10_laysPart {P : Nat → Prop} {a0 : Nat} {x1 : Int32} {x2 : Int32} {x3 : Int32} {h : gHp} (H_a0 : ∀ x : Nat, a0 ≤ x → x < a0 + 13 → P x)  {o : gHp} (hF : f_X10_laysPart a0 x1 x2 x3 h = some o) : gSame P h o := by
  rw [f_X10_laysPart] at hF
  obtain ⟨b1, hF⟩ := gGd hF
  have b1l := gIn_lt b1
  obtain ⟨b2, hF⟩ := gGd hF
  have b2l := gIn_lt b2
  obtain ⟨b3, hF⟩ := gGd hF
  have b3l := gIn_lt b3
  obtain ⟨b4, hF⟩ := gGd hF
  have b4l := gIn_lt b4
  obtain ⟨v5, hv5, hF⟩ := gBind hF
  obtain ⟨b6, hF⟩ := gGd hF
  have b6l := gIn_lt b6
  obtain ⟨v11, hv7, hF⟩ := gBind hF
  have s_v11 : gSame P h v11 := gSame.tr (gSame.I (gSame.I (gSame.I (gSame.I (gSame.I gSame.rf (H_a0 (a0 + 5) (by omega) (by omega))) (H_a0 (a0 + 5) (by omega) (by omega))) (H_a0 (a0 + 5) (by omega) (by omega))) (H_a0 (a0 + 5) (by omega) (by omega))) (H_a0 (a0 + 5) (by omega) (by omega))) (fr_X10_laysPart_78 (fun x q1 q2 => H_a0 x (by omega) (by omega)) gFuel 0 (gsI (gsI (gsI (gsI (gsI h (a0 + 5) (gN ((5 * (h.1 a0 8)) + 0)) x1) (a0 + 5) (gN ((5 * (h.1 a0 8)) + 1)) (-4)) (a0 + 5) (gN ((5 * (h.1 a0 8)) + 2)) x2) (a0 + 5) (gN ((5 * (h.1 a0 8)) + 3)) x3) (a0 + 5) (gN ((5 * (h.1 a0 8)) + 4)) v5) _ hv7)
  obtain ⟨b8, hF⟩ := gGd hF
  have b8l := gIn_lt b8
  obtain rfl := Option.some.inj hF
  exact (gSame.I (gSame.I (gSame.I s_v11 (H_a0 (a0 + 6) (by omega) (by omega))) (H_a0 (a0) (by omega) (by omega))) (H_a0 (a0) (by omega) (by omega)))
theorem fr_X10_endsLink {P : Nat → Prop} {a0 : Nat} {x1 : Int32} {h : gHp} (H_a0 : ∀ x : Nat, a0 ≤ x → x < a0 + 13 → P x)  {o : gHp} (hF : f_X10_endsLink a0 x1 h = some o) : gSame P h o := by
  rw [f_X10_endsLink] at hF
  obtain ⟨b1, hF⟩ := gGd hF
  have b1l := gIn_lt b1
  obtain ⟨v2, hv2, hF⟩ := gBind hF
  have s_v2 : gSame P h v2 := by
    replace hF := hv2
    by_cases c3 : (h.1 (a0 + 7) (gN x1)) ≤ 1
    · replace hF := gPos c3 hF
      obtain rfl := Option.some.inj hF
      exact gSame.rf
    · replace hF := gNeg c3 hF
      obtain ⟨b4, hF⟩ := gGd hF
      have b4l := gIn_lt b4
      obtain ⟨v10, hv5, hF⟩ := gBind hF
      have s_v10 : gSame P h v10 := gSame.tr gSame.rf (fr_X10_laysPart (fun x q1 q2 => H_a0 x (by omega) (by omega)) hv5)
      obtain rfl := Option.some.inj hF
      exact s_v10
  obtain ⟨b6, hF⟩ := gGd hF
  have b6l := gIn_lt b6
  obtain ⟨b7, hF⟩ := gGd hF
  have b7l := gIn_lt b7
  obtain ⟨b8, hF⟩ := gGd hF
  have b8l := gIn_lt b8
  obtain rfl := Option.some.inj hF
  exact (gSame.I (gSame.I s_v2 (H_a0 (a0 + 7) (by omega) (by omega))) (H_a0 (a0 + 8) (by omega) (by omega)))
theorem fr_X10_endsChain {P : Nat → Prop} {a0 : Nat} {x1 : Int32} {h : gHp} (H_a0 : ∀ x : Nat, a0 ≤ x → x < a0 + 13 → P x)  {o : gHp} (hF : f_X10_endsChain a0 x1 h = some o) : gSame P h o := by
  rw [f_X10_endsChain] at hF
  obtain ⟨v2, hv1, hF⟩ := gBind hF
  have s_v2 : gSame P h v2 := gSame.tr gSame.rf (fr_X10_endsLink (fun x q1 q2 => H_a0 x (by omega) (by omega)) hv1)
  obtain ⟨b2, hF⟩ := gGd hF
  have b2l := gIn_lt b2
  by_cases c3 : (v2.1 (a0 + 8) (gN x1)) ≤ 1
  · replace hF := gPos c3 hF
    obtain ⟨b4, hF⟩ := gGd hF
    have b4l := gIn_lt b4
    obtain rfl := Option.some.inj hF
    exact (gSame.I s_v2 (H_a0 (a0 + 8) (by omega) (by omega)))
  · replace hF := gNeg c3 hF
    obtain ⟨b5, hF⟩ := gGd hF
    have b5l := gIn_lt b5
    obtain ⟨v7, hv6, hF⟩ := gBind hF
    have s_v7 : gSame P h v7 := gSame.tr s_v2 (fr_X10_laysPart (fun x q1 q2 => H_a0 x (by omega) (by omega)) hv6)
    obtain ⟨b7, hF⟩ := gGd hF
    have b7l := gIn_lt b7
    obtain rfl := Option.some.inj hF
    exact (gSame.I s_v7 (H_a0 (a0 + 8) (by omega) (by omega)))
theorem fr_X10_readsNetwork_194 {P : Nat → Prop} {a0 : Nat} {x1 : Int32} {x2 : Int32} {h : gHp} {k_33 : Int32 → Int32 → gHp → Option (Bool × gHp)} (H_a0 : ∀ x : Nat, a0 ≤ x → x < a0 + 13 → P x) (hk_33 : ∀ (y0 : Int32) (y1 : Int32) (y2 : gHp) (o : Bool × gHp), k_33 y0 y1 y2 = some o → gSame P y2 o.2) {o : Bool × gHp} (hF : f_X10_readsNetwork_194 a0 x1 x2 h k_33 = some o) : gSame P h o.2 := by
  rw [f_X10_readsNetwork_194] at hF
  exact gSame.tr (gSame.I gSame.rf (H_a0 (a0) (by omega) (by omega))) (hk_33 x1 x2 (gsI h a0 7 ((h.1 a0 7) + 1)) _ hF)
theorem fr_X10_readsNetwork_84 {P : Nat → Prop} {a0 : Nat} {x1 : Int32} {x2 : Int32} {x3 : Int32} {h : gHp} {k_33 : Int32 → Int32 → gHp → Option (Bool × gHp)} (H_a0 : ∀ x : Nat, a0 ≤ x → x < a0 + 13 → P x) (hk_33 : ∀ (y0 : Int32) (y1 : Int32) (y2 : gHp) (o : Bool × gHp), k_33 y0 y1 y2 = some o → gSame P y2 o.2) {o : Bool × gHp} (hF : f_X10_readsNetwork_84 a0 x1 x2 x3 h k_33 = some o) : gSame P h o.2 := by
  rw [f_X10_readsNetwork_84] at hF
  by_cases c1 : x2 = 0
  · replace hF := gPos c1 hF
    by_cases c2 : x3 = 124
    · replace hF := gPos c2 hF
      exact gSame.tr gSame.rf (fr_X10_readsNetwork_194 (fun x q1 q2 => H_a0 x (by omega) (by omega)) (fun y0 y1 y2 o q => hk_33 y0 y1 y2 o q) hF)
    · replace hF := gNeg c2 hF
      by_cases c3 : x3 = 43
      · replace hF := gPos c3 hF
        obtain ⟨v11, hv4, hF⟩ := gBind hF
        have s_v11 : gSame P h v11 := gSame.tr gSame.rf (fr_X10_endsLink (fun x q1 q2 => H_a0 x (by omega) (by omega)) hv4)
        exact gSame.tr s_v11 (fr_X10_readsNetwork_194 (fun x q1 q2 => H_a0 x (by omega) (by omega)) (fun y0 y1 y2 o q => hk_33 y0 y1 y2 o q) hF)
      · replace hF := gNeg c3 hF
        by_cases c5 : x3 = 41
        · replace hF := gPos c5 hF
          by_cases c6 : x1 = 0
          · replace hF := gPos c6 hF
            obtain rfl := Option.some.inj hF
            exact gSame.rf
          · replace hF := gNeg c6 hF
            obtain ⟨v7, hv7, hF⟩ := gBind hF
            have s_v7 : gSame P h v7 := gSame.tr gSame.rf (fr_X10_endsChain (fun x q1 q2 => H_a0 x (by omega) (by omega)) hv7)
            obtain ⟨b8, hF⟩ := gGd hF
            have b8l := gIn_lt b8
            obtain ⟨b9, hF⟩ := gGd hF
            have b9l := gIn_lt b9
            exact gSame.tr (gSame.I s_v7 (H_a0 (a0 + 7) (by omega) (by omega))) (fr_X10_readsNetwork_194 (fun x q1 q2 => H_a0 x (by omega) (by omega)) (fun y0 y1 y2 o q => hk_33 y0 y1 y2 o q) hF)
        · replace hF := gNeg c5 hF
          obtain rfl := Option.some.inj hF
          exact gSame.rf
  · replace hF := gNeg c1 hF
    obtain ⟨v13, hv10, hF⟩ := gBind hF
    by_cases c11 : v13 = true
    · replace hF := gPos c11 hF
      obtain ⟨v15, hv12, hF⟩ := gBind hF
      by_cases c13 : v15 = true
      · replace hF := gPos c13 hF
        obtain rfl := Option.some.inj hF
        exact gSame.rf
      · replace hF := gNeg c13 hF
        obtain ⟨v17, hv14, hF⟩ := gBind hF
        have s_v17 : gSame P h v17 := gSame.tr gSame.rf (fr_X10_laysPart (fun x q1 q2 => H_a0 x (by omega) (by omega)) hv14)
        obtain ⟨b15, hF⟩ := gGd hF
        have b15l := gIn_lt b15
        obtain ⟨b16, hF⟩ := gGd hF
        have b16l := gIn_lt b16
        exact gSame.tr (gSame.I s_v17 (H_a0 (a0 + 7) (by omega) (by omega))) (fr_X10_readsNetwork_194 (fun x q1 q2 => H_a0 x (by omega) (by omega)) (fun y0 y1 y2 o q => hk_33 y0 y1 y2 o q) hF)
    · replace hF := gNeg c11 hF
      obtain rfl := Option.some.inj hF
      exact gSame.rf
theorem fr_X10_readsNetwork_33 {P : Nat → Prop} {a0 : Nat} (H_a0 : ∀ x : Nat, a0 ≤ x → x < a0 + 13 → P x)  : ∀ (n : Nat) (x1 : Int32) (x2 : Int32) (h : gHp) (o : Bool × gHp), f_X10_readsNetwork_33 a0 n x1 x2 h = some o → gSame P h o.2 := by
  intro n
  induction n with
  | zero => intro _ _ _ o hF; cases hF
  | succ n ih =>
    intro x1 x2 h o hF
    rw [f_X10_readsNetwork_33] at hF
    by_cases c1 : (h.1 a0 5) ≤ (h.1 a0 7)
    · replace hF := gPos c1 hF
      by_cases c2 : x2 = 0
      · replace hF := gPos c2 hF
        by_cases c3 : x1 ≤ 0
        · replace hF := gPos c3 hF
          obtain ⟨v4, hv4, hF⟩ := gBind hF
          have s_v4 : gSame P h v4 := gSame.tr gSame.rf (fr_X10_endsChain (fun x q1 q2 => H_a0 x (by omega) (by omega)) hv4)
          obtain rfl := Option.some.inj hF
          exact s_v4
        · replace hF := gNeg c3 hF
          obtain rfl := Option.some.inj hF
          exact gSame.rf
      · replace hF := gNeg c2 hF
        obtain rfl := Option.some.inj hF
        exact gSame.rf
    · replace hF := gNeg c1 hF
      obtain ⟨b5, hF⟩ := gGd hF
      have b5l := gIn_lt b5
      by_cases c6 : x2 = 0
      · replace hF := gPos c6 hF
        exact gSame.tr gSame.rf (fr_X10_readsNetwork_84 (fun x q1 q2 => H_a0 x (by omega) (by omega)) (fun y0 y1 y2 o q => ih y0 y1 y2 o q) hF)
      · replace hF := gNeg c6 hF
        by_cases c7 : (h.1 (a0 + 4) (gN (h.1 a0 7))) = 40
        · replace hF := gPos c7 hF
          obtain ⟨b8, hF⟩ := gGd hF
          have b8l := gIn_lt b8
          obtain ⟨b9, hF⟩ := gGd hF
          have b9l := gIn_lt b9
          exact gSame.tr (gSame.I (gSame.I gSame.rf (H_a0 (a0 + 7) (by omega) (by omega))) (H_a0 (a0 + 8) (by omega) (by omega))) (fr_X10_readsNetwork_194 (fun x q1 q2 => H_a0 x (by omega) (by omega)) (fun y0 y1 y2 o q => ih y0 y1 y2 o q) hF)
        · replace hF := gNeg c7 hF
          exact gSame.tr gSame.rf (fr_X10_readsNetwork_84 (fun x q1 q2 => H_a0 x (by omega) (by omega)) (fun y0 y1 y2 o q => ih y0 y1 y2 o q) hF)
