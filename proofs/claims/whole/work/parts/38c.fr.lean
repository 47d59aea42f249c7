theorem fr_X10_readsNetwork {P : Nat → Prop} {a0 : Nat} {h : gHp} (H_a0 : ∀ x : Nat, a0 ≤ x → x < a0 + 13 → P x)  {o : Bool × gHp} (hF : f_X10_readsNetwork a0 h = some o) : gSame P h o.2 := by
  rw [f_X10_readsNetwork] at hF
  obtain ⟨b1, hF⟩ := gGd hF
  have b1l := gIn_lt b1
  obtain ⟨b2, hF⟩ := gGd hF
  have b2l := gIn_lt b2
  exact gSame.tr (gSame.I (gSame.I (gSame.I (gSame.I (gSame.I gSame.rf (H_a0 (a0) (by omega) (by omega))) (H_a0 (a0) (by omega) (by omega))) (H_a0 (a0 + 7) (by omega) (by omega))) (H_a0 (a0 + 8) (by omega) (by omega))) (H_a0 (a0) (by omega) (by omega))) (fr_X10_readsNetwork_33 (fun x q1 q2 => H_a0 x (by omega) (by omega)) gFuel 0 1 (gsI (gsI (gsI (gsI (gsI h a0 8 0) a0 11 0) (a0 + 7) (gN 0) 0) (a0 + 8) (gN 0) 0) a0 7 0) _ hF)
theorem fr_X10_readNetwork_32 {P : Nat → Prop} {a0 : Nat} (H_a0 : ∀ x : Nat, a0 ≤ x → x < a0 + 13 → P x)  : ∀ (n : Nat) (x1 : Int32) (h : gHp) (o : gHp), f_X10_readNetwork_32 a0 n x1 h = some o → gSame P h o := by
  intro n
  induction n with
  | zero => intro _ _ o hF; cases hF
  | succ n ih =>
    intro x1 h o hF
    rw [f_X10_readNetwork_32] at hF
    by_cases c1 : 6 ≤ x1
    · replace hF := gPos c1 hF
      obtain rfl := Option.some.inj hF
      exact gSame.rf
    · replace hF := gNeg c1 hF
      obtain ⟨b2, hF⟩ := gGd hF
      have b2l := gIn_lt b2
      exact gSame.tr (gSame.L gSame.rf (H_a0 (a0 + 1) (by omega) (by omega))) (ih (x1 + 1) (gsL h (a0 + 1) (gN ((8 + (3 * x1)) + 2)) 0) _ hF)
theorem fr_X10_readNetwork_60 {P : Nat → Prop} {a0 : Nat} (H_a0 : ∀ x : Nat, a0 ≤ x → x < a0 + 13 → P x)  : ∀ (n : Nat) (x1 : Int32) (h : gHp) (o : gHp), f_X10_readNetwork_60 a0 n x1 h = some o → gSame P h o := by
  intro n
  induction n with
  | zero => intro _ _ o hF; cases hF
  | succ n ih =>
    intro x1 h o hF
    rw [f_X10_readNetwork_60] at hF
    by_cases c1 : (5 * (h.1 a0 8)) ≤ x1
    · replace hF := gPos c1 hF
      obtain rfl := Option.some.inj hF
      exact gSame.rf
    · replace hF := gNeg c1 hF
      obtain ⟨b2, hF⟩ := gGd hF
      have b2l := gIn_lt b2
      obtain ⟨b3, hF⟩ := gGd hF
      have b3l := gIn_lt b3
      exact gSame.tr (gSame.L gSame.rf (H_a0 (a0 + 1) (by omega) (by omega))) (ih (x1 + 1) (gsL h (a0 + 1) (gN (26 + x1)) ((h.1 (a0 + 5) (gN x1)).toInt64)) _ hF)
theorem fr_X10_readNetwork_94 {P : Nat → Prop} {a0 : Nat} (H_a0 : ∀ x : Nat, a0 ≤ x → x < a0 + 13 → P x)  : ∀ (n : Nat) (x1 : Int32) (h : gHp) (o : gHp), f_X10_readNetwork_94 a0 n x1 h = some o → gSame P h o := by
  intro n
  induction n with
  | zero => intro _ _ o hF; cases hF
  | succ n ih =>
    intro x1 h o hF
    rw [f_X10_readNetwork_94] at hF
    by_cases c1 : (h.1 a0 8) ≤ x1
    · replace hF := gPos c1 hF
      obtain rfl := Option.some.inj hF
      exact gSame.rf
    · replace hF := gNeg c1 hF
      obtain ⟨b2, hF⟩ := gGd hF
      have b2l := gIn_lt b2
      by_cases c3 : (h.1 (a0 + 5) (gN ((5 * x1) + 0))) = 0
      · replace hF := gPos c3 hF
        obtain ⟨b4, hF⟩ := gGd hF
        have b4l := gIn_lt b4
        obtain ⟨b5, hF⟩ := gGd hF
        have b5l := gIn_lt b5
        obtain ⟨b6, hF⟩ := gGd hF
        have b6l := gIn_lt b6
        obtain ⟨b7, hF⟩ := gGd hF
        have b7l := gIn_lt b7
        exact gSame.tr (gSame.L (gSame.L (gSame.L gSame.rf (H_a0 (a0 + 1) (by omega) (by omega))) (H_a0 (a0 + 1) (by omega) (by omega))) (H_a0 (a0 + 1) (by omega) (by omega))) (ih (x1 + 1) (gsL (gsL (gsL h (a0 + 1) (gN ((8 + (3 * (h.1 (a0 + 5) (gN ((5 * x1) + 2))))) + 0)) 10) (a0 + 1) (gN ((8 + (3 * (h.1 (a0 + 5) (gN ((5 * x1) + 2))))) + 1)) 0) (a0 + 1) (gN ((8 + (3 * (h.1 (a0 + 5) (gN ((5 * x1) + 2))))) + 2)) ((x1 + 1).toInt64)) _ hF)
      · replace hF := gNeg c3 hF
        exact gSame.tr gSame.rf (ih (x1 + 1) h _ hF)
theorem fr_X10_readNetwork {P : Nat → Prop} {a0 : Nat} {h : gHp} (H_a0 : ∀ x : Nat, a0 ≤ x → x < a0 + 13 → P x)  {o : Int32 × gHp} (hF : f_X10_readNetwork a0 h = some o) : gSame P h o.2 := by
  rw [f_X10_readNetwork] at hF
  obtain ⟨v2, hv1, hF⟩ := gBind hF
  have s_v2 : gSame P h v2.2 := gSame.tr gSame.rf (fr_X10_readsNetwork (fun x q1 q2 => H_a0 x (by omega) (by omega)) hv1)
  by_cases c2 : v2.1 = true
  · replace hF := gPos c2 hF
    obtain ⟨v4, hv3, hF⟩ := gBind hF
    have s_v4 : gSame P h v4 := gSame.tr s_v2 (fr_X10_record (fun x q1 q2 => H_a0 x (by omega) (by omega)) hv3)
    obtain ⟨b4, hF⟩ := gGd hF
    have b4l := gIn_lt b4
    obtain ⟨v7, hv5, hF⟩ := gBind hF
    have s_v7 : gSame P h v7 := gSame.tr (gSame.L s_v4 (H_a0 (a0 + 1) (by omega) (by omega))) (fr_X10_readNetwork_32 (fun x q1 q2 => H_a0 x (by omega) (by omega)) gFuel 0 (gsL v4 (a0 + 1) (gN 0) ((v4.1 a0 8).toInt64)) _ hv5)
    obtain ⟨v12, hv6, hF⟩ := gBind hF
    have s_v12 : gSame P h v12 := gSame.tr s_v7 (fr_X10_readNetwork_60 (fun x q1 q2 => H_a0 x (by omega) (by omega)) gFuel 0 v7 _ hv6)
    obtain ⟨v20, hv7, hF⟩ := gBind hF
    have s_v20 : gSame P h v20 := gSame.tr s_v12 (fr_X10_readNetwork_94 (fun x q1 q2 => H_a0 x (by omega) (by omega)) gFuel 0 v12 _ hv7)
    obtain rfl := Option.some.inj hF
    exact s_v20
  · replace hF := gNeg c2 hF
    obtain rfl := Option.some.inj hF
    exact s_v2
theorem fr_X10_takesBlank {P : Nat → Prop} {a0 : Nat} {h : gHp} (H_a0 : ∀ x : Nat, a0 ≤ x → x < a0 + 13 → P x)  {o : Bool × gHp} (hF : f_X10_takesBlank a0 h = some o) : gSame P h o.2 := by
  rw [f_X10_takesBlank] at hF
  by_cases c1 : (h.1 a0 5) ≤ (h.1 a0 7)
  · replace hF := gPos c1 hF
    obtain rfl := Option.some.inj hF
    exact gSame.rf
  · replace hF := gNeg c1 hF
    obtain ⟨b2, hF⟩ := gGd hF
    have b2l := gIn_lt b2
    by_cases c3 : (h.1 (a0 + 4) (gN (h.1 a0 7))) = 32
    · replace hF := gPos c3 hF
      obtain rfl := Option.some.inj hF
      exact (gSame.I gSame.rf (H_a0 (a0) (by omega) (by omega)))
    · replace hF := gNeg c3 hF
      obtain rfl := Option.some.inj hF
      exact gSame.rf
theorem fr_X10_readsCommand_186 {P : Nat → Prop} {a0 : Nat} {h : gHp}   {o : Bool × gHp} (hF : f_X10_readsCommand_186 a0 h = some o) : gSame P h o.2 := by
  rw [f_X10_readsCommand_186] at hF
  by_cases c1 : (h.1 a0 7) = (h.1 a0 5)
  · replace hF := gPos c1 hF
    obtain rfl := Option.some.inj hF
    exact gSame.rf
  · replace hF := gNeg c1 hF
    obtain rfl := Option.some.inj hF
    exact gSame.rf
theorem fr_X10_readsCommand_140 {P : Nat → Prop} {a0 : Nat} {h : gHp} (H_a0 : ∀ x : Nat, a0 ≤ x → x < a0 + 13 → P x)  {o : Bool × gHp} (hF : f_X10_readsCommand_140 a0 h = some o) : gSame P h o.2 := by
  rw [f_X10_readsCommand_140] at hF
  obtain ⟨v8, hv1, hF⟩ := gBind hF
  obtain ⟨v9, hv2, hF⟩ := gBind hF
  obtain ⟨v13, hv3, hF⟩ := gBind hF
  by_cases c4 : ((gsI h a0 16 v13).1 a0 16) = (-4)
  · replace hF := gPos c4 hF
    obtain rfl := Option.some.inj hF
    exact (gSame.I gSame.rf (H_a0 (a0) (by omega) (by omega)))
  · replace hF := gNeg c4 hF
    exact gSame.tr (gSame.I (gSame.I gSame.rf (H_a0 (a0) (by omega) (by omega))) (H_a0 (a0) (by omega) (by omega))) (fr_X10_readsCommand_186  hF)
theorem fr_X10_readsCommand_125 {P : Nat → Prop} {a0 : Nat} {h : gHp} (H_a0 : ∀ x : Nat, a0 ≤ x → x < a0 + 13 → P x)  {o : Bool × gHp} (hF : f_X10_readsCommand_125 a0 h = some o) : gSame P h o.2 := by
  rw [f_X10_readsCommand_125] at hF
  by_cases c1 : (h.1 a0 14) = 0
  · replace hF := gPos c1 hF
    exact gSame.tr gSame.rf (fr_X10_readsCommand_140 (fun x q1 q2 => H_a0 x (by omega) (by omega)) hF)
  · replace hF := gNeg c1 hF
    by_cases c2 : (h.1 a0 14) ≤ 3
    · replace hF := gPos c2 hF
      exact gSame.tr gSame.rf (fr_X10_readsCommand_186  hF)
    · replace hF := gNeg c2 hF
      exact gSame.tr gSame.rf (fr_X10_readsCommand_140 (fun x q1 q2 => H_a0 x (by omega) (by omega)) hF)
theorem fr_X10_readsCommand {P : Nat → Prop} {a0 : Nat} {h : gHp} (H_a0 : ∀ x : Nat, a0 ≤ x → x < a0 + 13 → P x)  {o : Bool × gHp} (hF : f_X10_readsCommand a0 h = some o) : gSame P h o.2 := by
  rw [f_X10_readsCommand] at hF
  obtain ⟨v2, hv1, hF⟩ := gBind hF
  obtain ⟨v4, hv2, hF⟩ := gBind hF
  by_cases c3 : ((gsI (gsI h a0 7 0) a0 14 v4).1 a0 14) = (-4)
  · replace hF := gPos c3 hF
    obtain rfl := Option.some.inj hF
    exact (gSame.I (gSame.I gSame.rf (H_a0 (a0) (by omega) (by omega))) (H_a0 (a0) (by omega) (by omega)))
  · replace hF := gNeg c3 hF
    obtain ⟨v6, hv4, hF⟩ := gBind hF
    have s_v6 : gSame P h v6.2 := gSame.tr (gSame.I (gSame.I (gSame.I gSame.rf (H_a0 (a0) (by omega) (by omega))) (H_a0 (a0) (by omega) (by omega))) (H_a0 (a0) (by omega) (by omega))) (fr_X10_takesBlank (fun x q1 q2 => H_a0 x (by omega) (by omega)) hv4)
    by_cases c5 : v6.1 = true
    · replace hF := gPos c5 hF
      by_cases c6 : 4 ≤ (v6.2.1 a0 14)
      · replace hF := gPos c6 hF
        exact gSame.tr s_v6 (fr_X10_readsCommand_125 (fun x q1 q2 => H_a0 x (by omega) (by omega)) hF)
      · replace hF := gNeg c6 hF
        obtain ⟨v15, hv7, hF⟩ := gBind hF
        by_cases c8 : (v15 - (v6.2.1 a0 7)) = 1
        · replace hF := gPos c8 hF
          obtain ⟨b9, hF⟩ := gGd hF
          have b9l := gIn_lt b9
          obtain ⟨v18, hv10, hF⟩ := gBind hF
          by_cases c11 : v18 = true
          · replace hF := gPos c11 hF
            obtain ⟨b12, hF⟩ := gGd hF
            have b12l := gIn_lt b12
            by_cases c13 : ((gsI (gsI v6.2 a0 15 ((v6.2.1 (a0 + 4) (gN (v6.2.1 a0 7))) - 97)) a0 7 v15).1 a0 14) = 0
            · replace hF := gPos c13 hF
              obtain ⟨v21, hv14, hF⟩ := gBind hF
              have s_v21 : gSame P h v21.2 := gSame.tr (gSame.I (gSame.I s_v6 (H_a0 (a0) (by omega) (by omega))) (H_a0 (a0) (by omega) (by omega))) (fr_X10_takesBlank (fun x q1 q2 => H_a0 x (by omega) (by omega)) hv14)
              by_cases c15 : v21.1 = true
              · replace hF := gPos c15 hF
                exact gSame.tr s_v21 (fr_X10_readsCommand_125 (fun x q1 q2 => H_a0 x (by omega) (by omega)) hF)
              · replace hF := gNeg c15 hF
                obtain rfl := Option.some.inj hF
                exact s_v21
            · replace hF := gNeg c13 hF
              exact gSame.tr (gSame.I (gSame.I s_v6 (H_a0 (a0) (by omega) (by omega))) (H_a0 (a0) (by omega) (by omega))) (fr_X10_readsCommand_125 (fun x q1 q2 => H_a0 x (by omega) (by omega)) hF)
          · replace hF := gNeg c11 hF
            obtain rfl := Option.some.inj hF
            exact s_v6
        · replace hF := gNeg c8 hF
          obtain rfl := Option.some.inj hF
          exact s_v6
    · replace hF := gNeg c5 hF
      obtain rfl := Option.some.inj hF
      exact s_v6
theorem fr_X10_unfoldAll_2 {P : Nat → Prop} {a0 : Nat} (H_a0 : ∀ x : Nat, a0 ≤ x → x < a0 + 13 → P x)  : ∀ (n : Nat) (x1 : Int32) (h : gHp) (o : gHp), f_X10_unfoldAll_2 a0 n x1 h = some o → gSame P h o := by
  intro n
  induction n with
  | zero => intro _ _ o hF; cases hF
  | succ n ih =>
    intro x1 h o hF
    rw [f_X10_unfoldAll_2] at hF
    obtain ⟨v2, hv1, hF⟩ := gBind hF
    by_cases c2 : v2 ≤ x1
    · replace hF := gPos c2 hF
      obtain rfl := Option.some.inj hF
      exact gSame.rf
    · replace hF := gNeg c2 hF
      obtain ⟨v4, hv3, hF⟩ := gBind hF
      by_cases c4 : v4 = 0
      · replace hF := gPos c4 hF
        obtain ⟨b5, hF⟩ := gGd hF
        have b5l := gIn_lt b5
        exact gSame.tr (gSame.L gSame.rf (H_a0 (a0 + 1) (by omega) (by omega))) (ih (x1 + 1) (gsL h (a0 + 1) (gN ((26 + (5 * x1)) + 4)) 1) _ hF)
      · replace hF := gNeg c4 hF
        obtain ⟨b6, hF⟩ := gGd hF
        have b6l := gIn_lt b6
        exact gSame.tr (gSame.L gSame.rf (H_a0 (a0 + 1) (by omega) (by omega))) (ih (x1 + 1) (gsL h (a0 + 1) (gN ((26 + (5 * x1)) + 4)) 0) _ hF)
theorem fr_X10_unfoldAll {P : Nat → Prop} {a0 : Nat} {h : gHp} (H_a0 : ∀ x : Nat, a0 ≤ x → x < a0 + 13 → P x)  {o : gHp} (hF : f_X10_unfoldAll a0 h = some o) : gSame P h o := by
  rw [f_X10_unfoldAll] at hF
  obtain ⟨v7, hv1, hF⟩ := gBind hF
  have s_v7 : gSame P h v7 := gSame.tr gSame.rf (fr_X10_unfoldAll_2 (fun x q1 q2 => H_a0 x (by omega) (by omega)) gFuel 0 h _ hv1)
  obtain rfl := Option.some.inj hF
  exact s_v7
theorem fr_X10_perform_36 {P : Nat → Prop} {a0 : Nat} {h : gHp} (H_a0 : ∀ x : Nat, a0 ≤ x → x < a0 + 13 → P x)  {o : Int32 × gHp} (hF : f_X10_perform_36 a0 h = some o) : gSame P h o.2 := by
  rw [f_X10_perform_36] at hF
  obtain ⟨v3, hv1, hF⟩ := gBind hF
  obtain ⟨v6, hv2, hF⟩ := gBind hF
  obtain ⟨b3, hF⟩ := gGd hF
  have b3l := gIn_lt b3
  by_cases c4 : (h.2 (a0 + 1) (gN v3)) = v6.toInt64
  · replace hF := gPos c4 hF
    obtain rfl := Option.some.inj hF
    exact gSame.rf
  · replace hF := gNeg c4 hF
    obtain ⟨v11, hv5, hF⟩ := gBind hF
    have s_v11 : gSame P h v11 := gSame.tr gSame.rf (fr_X10_record (fun x q1 q2 => H_a0 x (by omega) (by omega)) hv5)
    obtain ⟨b6, hF⟩ := gGd hF
    have b6l := gIn_lt b6
    by_cases c7 : 4 ≤ ((gsL v11 (a0 + 1) (gN v3) v6.toInt64).1 a0 14)
    · replace hF := gPos c7 hF
      obtain rfl := Option.some.inj hF
      exact (gSame.L s_v11 (H_a0 (a0 + 1) (by omega) (by omega)))
    · replace hF := gNeg c7 hF
      obtain ⟨v14, hv8, hF⟩ := gBind hF
      have s_v14 : gSame P h v14 := gSame.tr (gSame.L s_v11 (H_a0 (a0 + 1) (by omega) (by omega))) (fr_X10_unfoldAll (fun x q1 q2 => H_a0 x (by omega) (by omega)) hv8)
      obtain rfl := Option.some.inj hF
      exact s_v14
theorem fr_X10_perform {P : Nat → Prop} {a0 : Nat} {h : gHp} (H_a0 : ∀ x : Nat, a0 ≤ x → x < a0 + 13 → P x)  {o : Int32 × gHp} (hF : f_X10_perform a0 h = some o) : gSame P h o.2 := by
  rw [f_X10_perform] at hF
  obtain ⟨v2, hv1, hF⟩ := gBind hF
  have s_v2 : gSame P h v2.2 := gSame.tr gSame.rf (fr_X10_readsCommand (fun x q1 q2 => H_a0 x (by omega) (by omega)) hv1)
  by_cases c2 : v2.1 = true
  · replace hF := gPos c2 hF
    by_cases c3 : 4 ≤ (v2.2.1 a0 14)
    · replace hF := gPos c3 hF
      exact gSame.tr s_v2 (fr_X10_perform_36 (fun x q1 q2 => H_a0 x (by omega) (by omega)) hF)
    · replace hF := gNeg c3 hF
      obtain ⟨v16, hv4, hF⟩ := gBind hF
      by_cases c5 : v16 = true
      · replace hF := gPos c5 hF
        exact gSame.tr s_v2 (fr_X10_perform_36 (fun x q1 q2 => H_a0 x (by omega) (by omega)) hF)
      · replace hF := gNeg c5 hF
        obtain rfl := Option.some.inj hF
        exact s_v2
  · replace hF := gNeg c2 hF
    obtain rfl := Option.some.inj hF
    exact s_v2
theorem fr_X10_folds {P : Nat → Prop} {a0 : Nat} {x1 : Int32} {h : gHp} (H_a0 : ∀ x : Nat, a0 ≤ x → x < a0 + 13 → P x)  {o : gHp} (hF : f_X10_folds a0 x1 h = some o) : gSame P h o := by
  rw [f_X10_folds] at hF
  obtain ⟨b1, hF⟩ := gGd hF
  have b1l := gIn_lt b1
  obtain ⟨b2, hF⟩ := gGd hF
  have b2l := gIn_lt b2
  obtain ⟨b3, hF⟩ := gGd hF
  have b3l := gIn_lt b3
  obtain rfl := Option.some.inj hF
  exact (gSame.L (gSame.L gSame.rf (H_a0 (a0 + 1) (by omega) (by omega))) (H_a0 (a0 + 1) (by omega) (by omega)))
theorem fr_X10_fold {P : Nat → Prop} {a0 : Nat} {x1 : Int32} {h : gHp} (H_a0 : ∀ x : Nat, a0 ≤ x → x < a0 + 13 → P x)  {o : Int32 × gHp} (hF : f_X10_fold a0 x1 h = some o) : gSame P h o.2 := by
  rw [f_X10_fold] at hF
  obtain ⟨v2, hv1, hF⟩ := gBind hF
  by_cases c2 : v2 = true
  · replace hF := gPos c2 hF
    obtain rfl := Option.some.inj hF
    exact gSame.rf
  · replace hF := gNeg c2 hF
    obtain ⟨v4, hv3, hF⟩ := gBind hF
    by_cases c4 : v4 = true
    · replace hF := gPos c4 hF
      obtain ⟨v6, hv5, hF⟩ := gBind hF
      by_cases c6 : v6 = true
      · replace hF := gPos c6 hF
        obtain rfl := Option.some.inj hF
        exact gSame.rf
      · replace hF := gNeg c6 hF
        obtain ⟨v8, hv7, hF⟩ := gBind hF
        have s_v8 : gSame P h v8 := gSame.tr gSame.rf (fr_X10_record (fun x q1 q2 => H_a0 x (by omega) (by omega)) hv7)
        obtain ⟨v10, hv8, hF⟩ := gBind hF
        have s_v10 : gSame P h v10 := gSame.tr s_v8 (fr_X10_folds (fun x q1 q2 => H_a0 x (by omega) (by omega)) hv8)
        obtain ⟨v12, hv9, hF⟩ := gBind hF
        obtain rfl := Option.some.inj hF
        exact s_v10
    · replace hF := gNeg c4 hF
      obtain rfl := Option.some.inj hF
      exact gSame.rf
theorem fr_X10_foldAll_22 {P : Nat → Prop} {a0 : Nat} {x1 : Int32} (H_a0 : ∀ x : Nat, a0 ≤ x → x < a0 + 13 → P x)  : ∀ (n : Nat) (x2 : Int32) (x3 : Int32) (h : gHp) (o : Int32 × gHp), f_X10_foldAll_22 a0 x1 n x2 x3 h = some o → gSame P h o.2 := by
  intro n
  induction n with
  | zero => intro _ _ _ o hF; cases hF
  | succ n ih =>
    intro x2 x3 h o hF
    rw [f_X10_foldAll_22] at hF
    by_cases c1 : x3 = (-4)
    · replace hF := gPos c1 hF
      obtain rfl := Option.some.inj hF
      exact gSame.rf
    · replace hF := gNeg c1 hF
      obtain ⟨v8, hv2, hF⟩ := gBind hF
      have s_v8 : gSame P h v8 := gSame.tr gSame.rf (fr_X10_folds (fun x q1 q2 => H_a0 x (by omega) (by omega)) hv2)
      obtain ⟨v10, hv3, hF⟩ := gBind hF
      exact gSame.tr s_v8 (ih (x2 + 1) v10 v8 _ hF)
theorem fr_X10_foldAll {P : Nat → Prop} {a0 : Nat} {x1 : Int32} {h : gHp} (H_a0 : ∀ x : Nat, a0 ≤ x → x < a0 + 13 → P x)  {o : Int32 × gHp} (hF : f_X10_foldAll a0 x1 h = some o) : gSame P h o.2 := by
  rw [f_X10_foldAll] at hF
  obtain ⟨v2, hv1, hF⟩ := gBind hF
  by_cases c2 : v2 = 0
  · replace hF := gPos c2 hF
    obtain rfl := Option.some.inj hF
    exact gSame.rf
  · replace hF := gNeg c2 hF
    obtain ⟨v4, hv3, hF⟩ := gBind hF
    have s_v4 : gSame P h v4 := gSame.tr gSame.rf (fr_X10_record (fun x q1 q2 => H_a0 x (by omega) (by omega)) hv3)
    obtain ⟨v6, hv4, hF⟩ := gBind hF
    obtain ⟨v11, hv5, hF⟩ := gBind hF
    have s_v11 : gSame P h v11.2 := gSame.tr s_v4 (fr_X10_foldAll_22 (fun x q1 q2 => H_a0 x (by omega) (by omega)) gFuel 0 v6 v4 _ hv5)
    obtain rfl := Option.some.inj hF
    exact s_v11
theorem fr_X10_unfold_41 {P : Nat → Prop} {a0 : Nat} (H_a0 : ∀ x : Nat, a0 ≤ x → x < a0 + 13 → P x)  : ∀ (n : Nat) (x2 : Int32) (x3 : Int32) (h : gHp) (o : Int32 × gHp), f_X10_unfold_41 a0 n x2 x3 h = some o → gSame P h o.2 := by
  intro n
  induction n with
  | zero => intro _ _ _ o hF; cases hF
  | succ n ih =>
    intro x2 x3 h o hF
    rw [f_X10_unfold_41] at hF
    by_cases c1 : x3 = (-4)
    · replace hF := gPos c1 hF
      obtain rfl := Option.some.inj hF
      exact gSame.rf
    · replace hF := gNeg c1 hF
      obtain ⟨v10, hv2, hF⟩ := gBind hF
      obtain ⟨v11, hv3, hF⟩ := gBind hF
      obtain ⟨b4, hF⟩ := gGd hF
      have b4l := gIn_lt b4
      obtain ⟨v16, hv5, hF⟩ := gBind hF
      exact gSame.tr (gSame.L gSame.rf (H_a0 (a0 + 1) (by omega) (by omega))) (ih (x2 + v11) v16 (gsL h (a0 + 1) (gN ((26 + (5 * x3)) + 4)) 0) _ hF)
theorem fr_X10_unfold {P : Nat → Prop} {a0 : Nat} {x1 : Int32} {h : gHp} (H_a0 : ∀ x : Nat, a0 ≤ x → x < a0 + 13 → P x)  {o : Int32 × gHp} (hF : f_X10_unfold a0 x1 h = some o) : gSame P h o.2 := by
  rw [f_X10_unfold] at hF
  obtain ⟨v2, hv1, hF⟩ := gBind hF
  by_cases c2 : v2 = true
  · replace hF := gPos c2 hF
    obtain rfl := Option.some.inj hF
    exact gSame.rf
  · replace hF := gNeg c2 hF
    obtain ⟨v4, hv3, hF⟩ := gBind hF
    by_cases c4 : v4 = 0
    · replace hF := gPos c4 hF
      obtain rfl := Option.some.inj hF
      exact gSame.rf
    · replace hF := gNeg c4 hF
      obtain ⟨v6, hv5, hF⟩ := gBind hF
      by_cases c6 : v6 = true
      · replace hF := gPos c6 hF
        obtain ⟨v8, hv7, hF⟩ := gBind hF
        have s_v8 : gSame P h v8 := gSame.tr gSame.rf (fr_X10_record (fun x q1 q2 => H_a0 x (by omega) (by omega)) hv7)
        obtain ⟨v17, hv8, hF⟩ := gBind hF
        have s_v17 : gSame P h v17.2 := gSame.tr s_v8 (fr_X10_unfold_41 (fun x q1 q2 => H_a0 x (by omega) (by omega)) gFuel 0 x1 v8 _ hv8)
        obtain rfl := Option.some.inj hF
        exact s_v17
      · replace hF := gNeg c6 hF
        obtain rfl := Option.some.inj hF
        exact gSame.rf
theorem fr_X10_becomes {P : Nat → Prop} {a0 : Nat} {l1 : Int64} {l3 : Int64} {h : gHp} (H_a0 : ∀ x : Nat, a0 ≤ x → x < a0 + 13 → P x)  {o : gHp} (hF : f_X10_becomes a0 l1 l3 h = some o) : gSame P h o := by
  rw [f_X10_becomes] at hF
  obtain ⟨v2, hv1, hF⟩ := gBind hF
  obtain ⟨b2, hF⟩ := gGn hF
  obtain ⟨b3, hF⟩ := gGn hF
  obtain rfl := Option.some.inj hF
  exact (gSame.L (gSame.L gSame.rf (H_a0 (a0) (by omega) (by omega))) (H_a0 (a0) (by omega) (by omega)))
theorem fr_X10_sum {P : Nat → Prop} {a0 : Nat} {l1 : Int64} {l3 : Int64} {l5 : Int64} {l7 : Int64} {h : gHp} (H_a0 : ∀ x : Nat, a0 ≤ x → x < a0 + 13 → P x)  {o : gHp} (hF : f_X10_sum a0 l1 l3 l5 l7 h = some o) : gSame P h o := by
  rw [f_X10_sum] at hF
  obtain ⟨v2, hv1, hF⟩ := gBind hF
  obtain ⟨b2, hF⟩ := gGn hF
  obtain ⟨b3, hF⟩ := gGn hF
  obtain ⟨b4, hF⟩ := gGn hF
  obtain ⟨v7, hv5, hF⟩ := gBind hF
  have s_v7 : gSame P h v7 := gSame.tr gSame.rf (fr_X10_becomes (fun x q1 q2 => H_a0 x (by omega) (by omega)) hv5)
  obtain rfl := Option.some.inj hF
  exact s_v7
theorem fr_X10_product {P : Nat → Prop} {a0 : Nat} {l1 : Int64} {l3 : Int64} {l5 : Int64} {l7 : Int64} {h : gHp} (H_a0 : ∀ x : Nat, a0 ≤ x → x < a0 + 13 → P x)  {o : gHp} (hF : f_X10_product a0 l1 l3 l5 l7 h = some o) : gSame P h o := by
  rw [f_X10_product] at hF
  obtain ⟨v2, hv1, hF⟩ := gBind hF
  obtain ⟨v4, hv2, hF⟩ := gBind hF
  obtain ⟨b3, hF⟩ := gGn hF
  obtain ⟨b4, hF⟩ := gGn hF
  obtain ⟨b5, hF⟩ := gGn hF
  obtain ⟨b6, hF⟩ := gGn hF
  obtain ⟨v10, hv7, hF⟩ := gBind hF
  have s_v10 : gSame P h v10 := gSame.tr gSame.rf (fr_X10_becomes (fun x q1 q2 => H_a0 x (by omega) (by omega)) hv7)
  obtain rfl := Option.some.inj hF
  exact s_v10
theorem fr_X10_layArm {P : Nat → Prop} {a0 : Nat} {x1 : Int32} {x2 : Int32} {x3 : Int32} {h : gHp} (H_a0 : ∀ x : Nat, a0 ≤ x → x < a0 + 13 → P x)  {o : gHp} (hF : f_X10_layArm a0 x1 x2 x3 h = some o) : gSame P h o := by
  rw [f_X10_layArm] at hF
  obtain ⟨v2, hv1, hF⟩ := gBind hF
  obtain ⟨v3, hv2, hF⟩ := gBind hF
  obtain ⟨v6, hv3, hF⟩ := gBind hF
  obtain ⟨b4, hF⟩ := gGd hF
  have b4l := gIn_lt b4
  by_cases c5 : v3 = 1
  · replace hF := gPos c5 hF
    obtain ⟨b6, hF⟩ := gGd hF
    have b6l := gIn_lt b6
    obtain rfl := Option.some.inj hF
    exact (gSame.L (gSame.L gSame.rf (H_a0 (a0 + 9) (by omega) (by omega))) (H_a0 (a0 + 10) (by omega) (by omega)))
  · replace hF := gNeg c5 hF
    obtain ⟨b7, hF⟩ := gGd hF
    have b7l := gIn_lt b7
    obtain rfl := Option.some.inj hF
    exact (gSame.L (gSame.L gSame.rf (H_a0 (a0 + 9) (by omega) (by omega))) (H_a0 (a0 + 10) (by omega) (by omega)))
theorem fr_X10_laySeries_8 {P : Nat → Prop} {a0 : Nat} {x1 : Int32} (H_a0 : ∀ x : Nat, a0 ≤ x → x < a0 + 13 → P x)  : ∀ (n : Nat) (l2 : Int64) (l4 : Int64) (x6 : Int32) (h : gHp) (o : Int64 × Int64 × gHp), f_X10_laySeries_8 a0 x1 n l2 l4 x6 h = some o → gSame P h o.2.2 := by
  intro n
  induction n with
  | zero => intro _ _ _ _ o hF; cases hF
  | succ n ih =>
    intro l2 l4 x6 h o hF
    rw [f_X10_laySeries_8] at hF
    by_cases c1 : x1 ≤ x6
    · replace hF := gPos c1 hF
      obtain rfl := Option.some.inj hF
      exact gSame.rf
    · replace hF := gNeg c1 hF
      obtain ⟨v2, hv2, hF⟩ := gBind hF
      by_cases c3 : v2 = x1
      · replace hF := gPos c3 hF
        by_cases c4 : l4 = 0
        · replace hF := gPos c4 hF
          exact gSame.tr gSame.rf (ih l2 l4 (x6 + 1) h _ hF)
        · replace hF := gNeg c4 hF
          obtain ⟨b5, hF⟩ := gGd hF
          have b5l := gIn_lt b5
          by_cases c6 : (h.2 (a0 + 10) (gN x6)) = 0
          · replace hF := gPos c6 hF
            exact gSame.tr gSame.rf (ih 1 0 (x6 + 1) h _ hF)
          · replace hF := gNeg c6 hF
            obtain ⟨b7, hF⟩ := gGd hF
            have b7l := gIn_lt b7
            obtain ⟨b8, hF⟩ := gGd hF
            have b8l := gIn_lt b8
            obtain ⟨v7, hv9, hF⟩ := gBind hF
            have s_v7 : gSame P h v7 := gSame.tr gSame.rf (fr_X10_sum (fun x q1 q2 => H_a0 x (by omega) (by omega)) hv9)
            exact gSame.tr s_v7 (ih (v7.2 a0 17) (v7.2 a0 18) (x6 + 1) v7 _ hF)
      · replace hF := gNeg c3 hF
        exact gSame.tr gSame.rf (ih l2 l4 (x6 + 1) h _ hF)
theorem fr_X10_laySeries {P : Nat → Prop} {a0 : Nat} {x1 : Int32} {h : gHp} (H_a0 : ∀ x : Nat, a0 ≤ x → x < a0 + 13 → P x)  {o : gHp} (hF : f_X10_laySeries a0 x1 h = some o) : gSame P h o := by
  rw [f_X10_laySeries] at hF
  obtain ⟨v8, hv1, hF⟩ := gBind hF
  have s_v8 : gSame P h v8.2.2 := gSame.tr gSame.rf (fr_X10_laySeries_8 (fun x q1 q2 => H_a0 x (by omega) (by omega)) gFuel 0 1 0 h _ hv1)
  obtain ⟨b2, hF⟩ := gGd hF
  have b2l := gIn_lt b2
  obtain ⟨b3, hF⟩ := gGd hF
  have b3l := gIn_lt b3
  obtain rfl := Option.some.inj hF
  exact (gSame.L (gSame.L s_v8 (H_a0 (a0 + 9) (by omega) (by omega))) (H_a0 (a0 + 10) (by omega) (by omega)))
theorem fr_X10_lets {P : Nat → Prop} {a0 : Nat} {l1 : Int64} {l3 : Int64} {h : gHp} (H_a0 : ∀ x : Nat, a0 ≤ x → x < a0 + 13 → P x)  {o : gHp} (hF : f_X10_lets a0 l1 l3 h = some o) : gSame P h o := by
  rw [f_X10_lets] at hF
  by_cases c1 : l1 = 0
  · replace hF := gPos c1 hF
    obtain rfl := Option.some.inj hF
    exact (gSame.I gSame.rf (H_a0 (a0) (by omega) (by omega)))
  · replace hF := gNeg c1 hF
    by_cases c2 : l3 ≤ 0
    · replace hF := gPos c2 hF
      obtain rfl := Option.some.inj hF
      exact gSame.rf
    · replace hF := gNeg c2 hF
      obtain ⟨v2, hv3, hF⟩ := gBind hF
      have s_v2 : gSame P h v2 := gSame.tr gSame.rf (fr_X10_sum (fun x q1 q2 => H_a0 x (by omega) (by omega)) hv3)
      obtain rfl := Option.some.inj hF
      exact (gSame.L (gSame.L s_v2 (H_a0 (a0) (by omega) (by omega))) (H_a0 (a0) (by omega) (by omega)))
theorem fr_X10_letsOf_17 {P : Nat → Prop} {a0 : Nat} {x1 : Int32} {x2 : Int32} (H_a0 : ∀ x : Nat, a0 ≤ x → x < a0 + 13 → P x)  : ∀ (n : Nat) (x3 : Int32) (h : gHp) (o : gHp), f_X10_letsOf_17 a0 x1 x2 n x3 h = some o → gSame P h o := by
  intro n
  induction n with
  | zero => intro _ _ o hF; cases hF
  | succ n ih =>
    intro x3 h o hF
    rw [f_X10_letsOf_17] at hF
    by_cases c1 : x1 ≤ x3
    · replace hF := gPos c1 hF
      obtain rfl := Option.some.inj hF
      exact gSame.rf
    · replace hF := gNeg c1 hF
      obtain ⟨v2, hv2, hF⟩ := gBind hF
      by_cases c3 : v2 = x1
      · replace hF := gPos c3 hF
        by_cases c4 : x3 = x2
        · replace hF := gPos c4 hF
          exact gSame.tr gSame.rf (ih (x3 + 1) h _ hF)
        · replace hF := gNeg c4 hF
          obtain ⟨b5, hF⟩ := gGd hF
          have b5l := gIn_lt b5
          obtain ⟨b6, hF⟩ := gGd hF
          have b6l := gIn_lt b6
          obtain ⟨v6, hv7, hF⟩ := gBind hF
          have s_v6 : gSame P h v6 := gSame.tr gSame.rf (fr_X10_lets (fun x q1 q2 => H_a0 x (by omega) (by omega)) hv7)
          exact gSame.tr s_v6 (ih (x3 + 1) v6 _ hF)
      · replace hF := gNeg c3 hF
        exact gSame.tr gSame.rf (ih (x3 + 1) h _ hF)
theorem fr_X10_letsOf {P : Nat → Prop} {a0 : Nat} {x1 : Int32} {x2 : Int32} {h : gHp} (H_a0 : ∀ x : Nat, a0 ≤ x → x < a0 + 13 → P x)  {o : gHp} (hF : f_X10_letsOf a0 x1 x2 h = some o) : gSame P h o := by
  rw [f_X10_letsOf] at hF
  obtain ⟨v7, hv1, hF⟩ := gBind hF
  have s_v7 : gSame P h v7 := gSame.tr (gSame.I (gSame.L (gSame.L gSame.rf (H_a0 (a0) (by omega) (by omega))) (H_a0 (a0) (by omega) (by omega))) (H_a0 (a0) (by omega) (by omega))) (fr_X10_letsOf_17 (fun x q1 q2 => H_a0 x (by omega) (by omega)) gFuel 0 (gsI (gsL (gsL h a0 21 0) a0 22 1) a0 23 0) _ hv1)
  obtain rfl := Option.some.inj hF
  exact s_v7
theorem fr_X10_takeLets {P : Nat → Prop} {a0 : Nat} {x1 : Int32} {h : gHp} (H_a0 : ∀ x : Nat, a0 ≤ x → x < a0 + 13 → P x)  {o : gHp} (hF : f_X10_takeLets a0 x1 h = some o) : gSame P h o := by
  rw [f_X10_takeLets] at hF
  obtain ⟨v1, hv1, hF⟩ := gBind hF
  obtain ⟨b2, hF⟩ := gGd hF
  have b2l := gIn_lt b2
  by_cases c3 : ((gsL h (a0 + 9) (gN x1) v1).1 a0 23) = 0
  · replace hF := gPos c3 hF
    obtain ⟨b4, hF⟩ := gGd hF
    have b4l := gIn_lt b4
    obtain rfl := Option.some.inj hF
    exact (gSame.L (gSame.L gSame.rf (H_a0 (a0 + 9) (by omega) (by omega))) (H_a0 (a0 + 10) (by omega) (by omega)))
  · replace hF := gNeg c3 hF
    obtain ⟨b5, hF⟩ := gGd hF
    have b5l := gIn_lt b5
    obtain rfl := Option.some.inj hF
    exact (gSame.L (gSame.L gSame.rf (H_a0 (a0 + 9) (by omega) (by omega))) (H_a0 (a0 + 10) (by omega) (by omega)))
theorem fr_X10_lay_3 {P : Nat → Prop} {a0 : Nat} {x1 : Int32} {x2 : Int32} {x3 : Int32} (H_a0 : ∀ x : Nat, a0 ≤ x → x < a0 + 13 → P x)  : ∀ (n : Nat) (x4 : Int32) (h : gHp) (o : gHp), f_X10_lay_3 a0 x1 x2 x3 n x4 h = some o → gSame P h o := by
  intro n
  induction n with
  | zero => intro _ _ o hF; cases hF
  | succ n ih =>
    intro x4 h o hF
    rw [f_X10_lay_3] at hF
    obtain ⟨v2, hv1, hF⟩ := gBind hF
    by_cases c2 : v2 ≤ x4
    · replace hF := gPos c2 hF
      obtain rfl := Option.some.inj hF
      exact gSame.rf
    · replace hF := gNeg c2 hF
      obtain ⟨v4, hv3, hF⟩ := gBind hF
      obtain ⟨v5, hv4, hF⟩ := gBind hF
      have s_v5 : gSame P h v5 := by
        replace hF := hv4
        by_cases c5 : v4 = 0
        · replace hF := gPos c5 hF
          obtain ⟨v28, hv6, hF⟩ := gBind hF
          have s_v28 : gSame P h v28 := gSame.tr gSame.rf (fr_X10_layArm (fun x q1 q2 => H_a0 x (by omega) (by omega)) hv6)
          obtain rfl := Option.some.inj hF
          exact s_v28
        · replace hF := gNeg c5 hF
          obtain ⟨v20, hv7, hF⟩ := gBind hF
          by_cases c8 : v20 = 1
          · replace hF := gPos c8 hF
            obtain ⟨v26, hv9, hF⟩ := gBind hF
            have s_v26 : gSame P h v26 := gSame.tr gSame.rf (fr_X10_laySeries (fun x q1 q2 => H_a0 x (by omega) (by omega)) hv9)
            obtain rfl := Option.some.inj hF
            exact s_v26
          · replace hF := gNeg c8 hF
            obtain ⟨v22, hv10, hF⟩ := gBind hF
            have s_v22 : gSame P h v22 := gSame.tr gSame.rf (fr_X10_letsOf (fun x q1 q2 => H_a0 x (by omega) (by omega)) hv10)
            obtain ⟨v24, hv11, hF⟩ := gBind hF
            have s_v24 : gSame P h v24 := gSame.tr s_v22 (fr_X10_takeLets (fun x q1 q2 => H_a0 x (by omega) (by omega)) hv11)
            obtain rfl := Option.some.inj hF
            exact s_v24
      by_cases c12 : x4 = x1
      · replace hF := gPos c12 hF
        obtain ⟨b13, hF⟩ := gGd hF
        have b13l := gIn_lt b13
        obtain ⟨b14, hF⟩ := gGd hF
        have b14l := gIn_lt b14
        obtain ⟨v11, hv15, hF⟩ := gBind hF
        have s_v11 : gSame P h v11 := gSame.tr s_v5 (fr_X10_letsOf (fun x q1 q2 => H_a0 x (by omega) (by omega)) hv15)
        obtain ⟨v13, hv16, hF⟩ := gBind hF
        have s_v13 : gSame P h v13 := gSame.tr s_v11 (fr_X10_lets (fun x q1 q2 => H_a0 x (by omega) (by omega)) hv16)
        obtain ⟨b17, hF⟩ := gGd hF
        have b17l := gIn_lt b17
        obtain ⟨v16, hv18, hF⟩ := gBind hF
        have s_v16 : gSame P h v16 := gSame.tr s_v13 (fr_X10_lets (fun x q1 q2 => H_a0 x (by omega) (by omega)) hv18)
        obtain ⟨v18, hv19, hF⟩ := gBind hF
        have s_v18 : gSame P h v18 := gSame.tr s_v16 (fr_X10_takeLets (fun x q1 q2 => H_a0 x (by omega) (by omega)) hv19)
        exact gSame.tr s_v18 (ih (x4 + 1) v18 _ hF)
      · replace hF := gNeg c12 hF
        exact gSame.tr s_v5 (ih (x4 + 1) v5 _ hF)
theorem fr_X10_lay {P : Nat → Prop} {a0 : Nat} {x1 : Int32} {x2 : Int32} {x3 : Int32} {h : gHp} (H_a0 : ∀ x : Nat, a0 ≤ x → x < a0 + 13 → P x)  {o : gHp} (hF : f_X10_lay a0 x1 x2 x3 h = some o) : gSame P h o := by
  rw [f_X10_lay] at hF
  obtain ⟨v29, hv1, hF⟩ := gBind hF
  have s_v29 : gSame P h v29 := gSame.tr gSame.rf (fr_X10_lay_3 (fun x q1 q2 => H_a0 x (by omega) (by omega)) gFuel 0 h _ hv1)
  obtain rfl := Option.some.inj hF
  exact s_v29
theorem fr_X10_resistance {P : Nat → Prop} {a0 : Nat} {x1 : Int32} {x2 : Int32} {h : gHp} (H_a0 : ∀ x : Nat, a0 ≤ x → x < a0 + 13 → P x)  {o : Int64 × gHp} (hF : f_X10_resistance a0 x1 x2 h = some o) : gSame P h o.2 := by
  rw [f_X10_resistance] at hF
  obtain ⟨v2, hv1, hF⟩ := gBind hF
  by_cases c2 : v2 = 0
  · replace hF := gPos c2 hF
    obtain ⟨v4, hv3, hF⟩ := gBind hF
    have s_v4 : gSame P h v4 := gSame.tr gSame.rf (fr_X10_lay (fun x q1 q2 => H_a0 x (by omega) (by omega)) hv3)
    by_cases c4 : x2 = 0
    · replace hF := gPos c4 hF
      obtain ⟨b5, hF⟩ := gGd hF
      have b5l := gIn_lt b5
      obtain rfl := Option.some.inj hF
      exact s_v4
    · replace hF := gNeg c4 hF
      obtain ⟨b6, hF⟩ := gGd hF
      have b6l := gIn_lt b6
      obtain rfl := Option.some.inj hF
      exact s_v4
  · replace hF := gNeg c2 hF
    obtain rfl := Option.some.inj hF
    exact gSame.rf
theorem fr_X10_folded {P : Nat → Prop} {a0 : Nat} {x1 : Int32} {x2 : Int32} {h : gHp} (H_a0 : ∀ x : Nat, a0 ≤ x → x < a0 + 13 → P x)  {o : Int64 × gHp} (hF : f_X10_folded a0 x1 x2 h = some o) : gSame P h o.2 := by
  rw [f_X10_folded] at hF
  obtain ⟨v2, hv1, hF⟩ := gBind hF
  by_cases c2 : v2 = 0
  · replace hF := gPos c2 hF
    obtain ⟨v4, hv3, hF⟩ := gBind hF
    by_cases c4 : v4 = true
    · replace hF := gPos c4 hF
      obtain ⟨v6, hv5, hF⟩ := gBind hF
      have s_v6 : gSame P h v6 := gSame.tr gSame.rf (fr_X10_lay (fun x q1 q2 => H_a0 x (by omega) (by omega)) hv5)
      by_cases c6 : x2 = 0
      · replace hF := gPos c6 hF
        obtain ⟨b7, hF⟩ := gGd hF
        have b7l := gIn_lt b7
        obtain rfl := Option.some.inj hF
        exact s_v6
      · replace hF := gNeg c6 hF
        obtain ⟨b8, hF⟩ := gGd hF
        have b8l := gIn_lt b8
        obtain rfl := Option.some.inj hF
        exact s_v6
    · replace hF := gNeg c4 hF
      obtain rfl := Option.some.inj hF
      exact gSame.rf
  · replace hF := gNeg c2 hF
    obtain rfl := Option.some.inj hF
    exact gSame.rf
theorem fr_X10_layVoltage {P : Nat → Prop} {a0 : Nat} {x1 : Int32} {x2 : Int32} {h : gHp} (H_a0 : ∀ x : Nat, a0 ≤ x → x < a0 + 13 → P x)  {o : gHp} (hF : f_X10_layVoltage a0 x1 x2 h = some o) : gSame P h o := by
  rw [f_X10_layVoltage] at hF
  obtain ⟨b1, hF⟩ := gGd hF
  have b1l := gIn_lt b1
  obtain ⟨b2, hF⟩ := gGd hF
  have b2l := gIn_lt b2
  obtain ⟨b3, hF⟩ := gGd hF
  have b3l := gIn_lt b3
  obtain ⟨b4, hF⟩ := gGd hF
  have b4l := gIn_lt b4
  obtain ⟨v6, hv5, hF⟩ := gBind hF
  by_cases c6 : v6 = 2
  · replace hF := gPos c6 hF
    obtain rfl := Option.some.inj hF
    exact (gSame.L (gSame.L gSame.rf (H_a0 (a0 + 11) (by omega) (by omega))) (H_a0 (a0 + 12) (by omega) (by omega)))
  · replace hF := gNeg c6 hF
    obtain ⟨b7, hF⟩ := gGd hF
    have b7l := gIn_lt b7
    obtain ⟨v8, hv8, hF⟩ := gBind hF
    have s_v8 : gSame P h v8 := by
      replace hF := hv8
      by_cases c9 : ((gsL (gsL (gsL (gsL h (a0 + 11) (gN x1) (h.2 (a0 + 11) (gN x2))) (a0 + 12) (gN x1) ((gsL h (a0 + 11) (gN x1) (h.2 (a0 + 11) (gN x2))).2 (a0 + 12) (gN x2))) a0 17 0) a0 18 1).2 (a0 + 10) (gN x2)) = 0
      · replace hF := gPos c9 hF
        obtain ⟨b10, hF⟩ := gGd hF
        have b10l := gIn_lt b10
        by_cases c11 : ((gsL (gsL (gsL (gsL h (a0 + 11) (gN x1) (h.2 (a0 + 11) (gN x2))) (a0 + 12) (gN x1) ((gsL h (a0 + 11) (gN x1) (h.2 (a0 + 11) (gN x2))).2 (a0 + 12) (gN x2))) a0 17 0) a0 18 1).2 (a0 + 10) (gN x1)) = 0
        · replace hF := gPos c11 hF
          obtain ⟨b12, hF⟩ := gGd hF
          have b12l := gIn_lt b12
          obtain ⟨b13, hF⟩ := gGd hF
          have b13l := gIn_lt b13
          obtain ⟨v28, hv14, hF⟩ := gBind hF
          obtain ⟨v30, hv15, hF⟩ := gBind hF
          have s_v30 : gSame P h v30 := gSame.tr (gSame.L (gSame.L (gSame.L (gSame.L gSame.rf (H_a0 (a0 + 11) (by omega) (by omega))) (H_a0 (a0 + 12) (by omega) (by omega))) (H_a0 (a0) (by omega) (by omega))) (H_a0 (a0) (by omega) (by omega))) (fr_X10_product (fun x q1 q2 => H_a0 x (by omega) (by omega)) hv15)
          obtain rfl := Option.some.inj hF
          exact s_v30
        · replace hF := gNeg c11 hF
          obtain rfl := Option.some.inj hF
          exact (gSame.L (gSame.L (gSame.L (gSame.L gSame.rf (H_a0 (a0 + 11) (by omega) (by omega))) (H_a0 (a0 + 12) (by omega) (by omega))) (H_a0 (a0) (by omega) (by omega))) (H_a0 (a0) (by omega) (by omega)))
      · replace hF := gNeg c9 hF
        obtain ⟨b16, hF⟩ := gGd hF
        have b16l := gIn_lt b16
        by_cases c17 : ((gsL (gsL (gsL (gsL h (a0 + 11) (gN x1) (h.2 (a0 + 11) (gN x2))) (a0 + 12) (gN x1) ((gsL h (a0 + 11) (gN x1) (h.2 (a0 + 11) (gN x2))).2 (a0 + 12) (gN x2))) a0 17 0) a0 18 1).2 (a0 + 9) (gN x2)) ≤ 0
        · replace hF := gPos c17 hF
          obtain rfl := Option.some.inj hF
          exact (gSame.L (gSame.L (gSame.L (gSame.L gSame.rf (H_a0 (a0 + 11) (by omega) (by omega))) (H_a0 (a0 + 12) (by omega) (by omega))) (H_a0 (a0) (by omega) (by omega))) (H_a0 (a0) (by omega) (by omega)))
        · replace hF := gNeg c17 hF
          obtain ⟨b18, hF⟩ := gGd hF
          have b18l := gIn_lt b18
          obtain ⟨b19, hF⟩ := gGd hF
          have b19l := gIn_lt b19
          obtain ⟨b20, hF⟩ := gGd hF
          have b20l := gIn_lt b20
          obtain ⟨b21, hF⟩ := gGd hF
          have b21l := gIn_lt b21
          obtain ⟨v19, hv22, hF⟩ := gBind hF
          have s_v19 : gSame P h v19 := gSame.tr (gSame.L (gSame.L (gSame.L (gSame.L gSame.rf (H_a0 (a0 + 11) (by omega) (by omega))) (H_a0 (a0 + 12) (by omega) (by omega))) (H_a0 (a0) (by omega) (by omega))) (H_a0 (a0) (by omega) (by omega))) (fr_X10_product (fun x q1 q2 => H_a0 x (by omega) (by omega)) hv22)
          obtain ⟨b23, hF⟩ := gGd hF
          have b23l := gIn_lt b23
          obtain ⟨b24, hF⟩ := gGd hF
          have b24l := gIn_lt b24
          obtain ⟨v23, hv25, hF⟩ := gBind hF
          have s_v23 : gSame P h v23 := gSame.tr s_v19 (fr_X10_product (fun x q1 q2 => H_a0 x (by omega) (by omega)) hv25)
          obtain rfl := Option.some.inj hF
          exact s_v23
    obtain ⟨b26, hF⟩ := gGd hF
    have b26l := gIn_lt b26
    obtain ⟨b27, hF⟩ := gGd hF
    have b27l := gIn_lt b27
    obtain rfl := Option.some.inj hF
    exact (gSame.L (gSame.L s_v8 (H_a0 (a0 + 11) (by omega) (by omega))) (H_a0 (a0 + 12) (by omega) (by omega)))
theorem fr_X10_layVoltages_32 {P : Nat → Prop} {a0 : Nat} {x1 : Int32} (H_a0 : ∀ x : Nat, a0 ≤ x → x < a0 + 13 → P x)  : ∀ (n : Nat) (x3 : Int32) (h : gHp) (o : gHp), f_X10_layVoltages_32 a0 x1 n x3 h = some o → gSame P h o := by
  intro n
  induction n with
  | zero => intro _ _ o hF; cases hF
  | succ n ih =>
    intro x3 h o hF
    rw [f_X10_layVoltages_32] at hF
    by_cases c1 : x3 < x1
    · replace hF := gPos c1 hF
      obtain rfl := Option.some.inj hF
      exact gSame.rf
    · replace hF := gNeg c1 hF
      obtain ⟨v7, hv2, hF⟩ := gBind hF
      obtain ⟨v9, hv3, hF⟩ := gBind hF
      have s_v9 : gSame P h v9 := gSame.tr gSame.rf (fr_X10_layVoltage (fun x q1 q2 => H_a0 x (by omega) (by omega)) hv3)
      exact gSame.tr s_v9 (ih (x3 + (-1)) v9 _ hF)
theorem fr_X10_layVoltages {P : Nat → Prop} {a0 : Nat} {x1 : Int32} {h : gHp} (H_a0 : ∀ x : Nat, a0 ≤ x → x < a0 + 13 → P x)  {o : gHp} (hF : f_X10_layVoltages a0 x1 h = some o) : gSame P h o := by
  rw [f_X10_layVoltages] at hF
  obtain ⟨v2, hv1, hF⟩ := gBind hF
  obtain ⟨b2, hF⟩ := gGd hF
  have b2l := gIn_lt b2
  obtain ⟨b3, hF⟩ := gGd hF
  have b3l := gIn_lt b3
  obtain ⟨b4, hF⟩ := gGd hF
  have b4l := gIn_lt b4
  obtain ⟨v10, hv5, hF⟩ := gBind hF
  have s_v10 : gSame P h v10 := gSame.tr (gSame.L (gSame.L gSame.rf (H_a0 (a0 + 11) (by omega) (by omega))) (H_a0 (a0 + 12) (by omega) (by omega))) (fr_X10_layVoltages_32 (fun x q1 q2 => H_a0 x (by omega) (by omega)) gFuel (v2 - 2) (gsL (gsL h (a0 + 11) (gN (v2 - 1)) (h.2 (a0 + 1) (gN 1))) (a0 + 12) (gN (v2 - 1)) 1) _ hv5)
  obtain rfl := Option.some.inj hF
  exact s_v10
theorem fr_X10_findVoltage {P : Nat → Prop} {a0 : Nat} {x1 : Int32} {x2 : Int32} {h : gHp} (H_a0 : ∀ x : Nat, a0 ≤ x → x < a0 + 13 → P x)  {o : gHp} (hF : f_X10_findVoltage a0 x1 x2 h = some o) : gSame P h o := by
  rw [f_X10_findVoltage] at hF
  obtain ⟨v2, hv1, hF⟩ := gBind hF
  have s_v2 : gSame P h v2 := gSame.tr gSame.rf (fr_X10_lay (fun x q1 q2 => H_a0 x (by omega) (by omega)) hv1)
  obtain ⟨v4, hv2, hF⟩ := gBind hF
  have s_v4 : gSame P h v4 := gSame.tr s_v2 (fr_X10_layVoltages (fun x q1 q2 => H_a0 x (by omega) (by omega)) hv2)
  obtain ⟨b3, hF⟩ := gGd hF
  have b3l := gIn_lt b3
  obtain ⟨b4, hF⟩ := gGd hF
  have b4l := gIn_lt b4
  obtain rfl := Option.some.inj hF
  exact (gSame.L (gSame.L s_v4 (H_a0 (a0) (by omega) (by omega))) (H_a0 (a0) (by omega) (by omega)))
theorem fr_X10_voltage {P : Nat → Prop} {a0 : Nat} {x1 : Int32} {x2 : Int32} {h : gHp} (H_a0 : ∀ x : Nat, a0 ≤ x → x < a0 + 13 → P x)  {o : Int64 × gHp} (hF : f_X10_voltage a0 x1 x2 h = some o) : gSame P h o.2 := by
  rw [f_X10_voltage] at hF
  obtain ⟨v2, hv1, hF⟩ := gBind hF
  by_cases c2 : v2 = 0
  · replace hF := gPos c2 hF
    obtain ⟨v4, hv3, hF⟩ := gBind hF
    have s_v4 : gSame P h v4 := gSame.tr gSame.rf (fr_X10_findVoltage (fun x q1 q2 => H_a0 x (by omega) (by omega)) hv3)
    by_cases c4 : x2 = 0
    · replace hF := gPos c4 hF
      obtain rfl := Option.some.inj hF
      exact s_v4
    · replace hF := gNeg c4 hF
      obtain rfl := Option.some.inj hF
      exact s_v4
  · replace hF := gNeg c2 hF
    obtain rfl := Option.some.inj hF
    exact gSame.rf
theorem fr_X10_reading {P : Nat → Prop} {a0 : Nat} {x1 : Int32} {x2 : Int32} {h : gHp} (H_a0 : ∀ x : Nat, a0 ≤ x → x < a0 + 13 → P x)  {o : Int64 × gHp} (hF : f_X10_reading a0 x1 x2 h = some o) : gSame P h o.2 := by
  rw [f_X10_reading] at hF
  obtain ⟨v2, hv1, hF⟩ := gBind hF
  by_cases c2 : v2 = 0
  · replace hF := gPos c2 hF
    obtain ⟨v4, hv3, hF⟩ := gBind hF
    have s_v4 : gSame P h v4 := gSame.tr gSame.rf (fr_X10_findVoltage (fun x q1 q2 => H_a0 x (by omega) (by omega)) hv3)
    by_cases c4 : x2 = 0
    · replace hF := gPos c4 hF
      obtain rfl := Option.some.inj hF
      exact s_v4
    · replace hF := gNeg c4 hF
      obtain rfl := Option.some.inj hF
      exact s_v4
  · replace hF := gNeg c2 hF
    obtain rfl := Option.some.inj hF
    exact gSame.rf
theorem fr_X10_lossOf {P : Nat → Prop} {a0 : Nat} {x1 : Int32} {h : gHp} (H_a0 : ∀ x : Nat, a0 ≤ x → x < a0 + 13 → P x)  {o : Int32 × gHp} (hF : f_X10_lossOf a0 x1 h = some o) : gSame P h o.2 := by
  rw [f_X10_lossOf] at hF
  obtain ⟨v2, hv1, hF⟩ := gBind hF
  have s_v2 : gSame P h v2 := gSame.tr gSame.rf (fr_X10_findVoltage (fun x q1 q2 => H_a0 x (by omega) (by omega)) hv1)
  by_cases c2 : (v2.2 a0 17) = 0
  · replace hF := gPos c2 hF
    obtain rfl := Option.some.inj hF
    exact s_v2
  · replace hF := gNeg c2 hF
    obtain ⟨v4, hv3, hF⟩ := gBind hF
    have s_v4 : gSame P h v4 := gSame.tr s_v2 (fr_X10_findVoltage (fun x q1 q2 => H_a0 x (by omega) (by omega)) hv3)
    obtain ⟨v6, hv4, hF⟩ := gBind hF
    have s_v6 : gSame P h v6 := gSame.tr s_v4 (fr_X10_product (fun x q1 q2 => H_a0 x (by omega) (by omega)) hv4)
    obtain ⟨b5, hF⟩ := gGn hF
    obtain rfl := Option.some.inj hF
    exact s_v6
theorem fr_X10_loss {P : Nat → Prop} {a0 : Nat} {x1 : Int32} {h : gHp} (H_a0 : ∀ x : Nat, a0 ≤ x → x < a0 + 13 → P x)  {o : Int32 × gHp} (hF : f_X10_loss a0 x1 h = some o) : gSame P h o.2 := by
  rw [f_X10_loss] at hF
  obtain ⟨v2, hv1, hF⟩ := gBind hF
  by_cases c2 : v2 = true
  · replace hF := gPos c2 hF
    obtain rfl := Option.some.inj hF
    exact gSame.rf
  · replace hF := gNeg c2 hF
    obtain ⟨v4, hv3, hF⟩ := gBind hF
    have s_v4 : gSame P h v4.2 := gSame.tr gSame.rf (fr_X10_lossOf (fun x q1 q2 => H_a0 x (by omega) (by omega)) hv3)
    obtain rfl := Option.some.inj hF
    exact s_v4
theorem fr_X10_worst_7 {P : Nat → Prop} {a0 : Nat} (H_a0 : ∀ x : Nat, a0 ≤ x → x < a0 + 13 → P x)  : ∀ (n : Nat) (x1 : Int32) (x2 : Int32) (x3 : Int32) (h : gHp) (o : Int32 × gHp), f_X10_worst_7 a0 n x1 x2 x3 h = some o → gSame P h o.2 := by
  intro n
  induction n with
  | zero => intro _ _ _ _ o hF; cases hF
  | succ n ih =>
    intro x1 x2 x3 h o hF
    rw [f_X10_worst_7] at hF
    obtain ⟨v2, hv1, hF⟩ := gBind hF
    by_cases c2 : v2 ≤ x3
    · replace hF := gPos c2 hF
      obtain rfl := Option.some.inj hF
      exact gSame.rf
    · replace hF := gNeg c2 hF
      obtain ⟨v4, hv3, hF⟩ := gBind hF
      have s_v4 : gSame P h v4.2 := gSame.tr gSame.rf (fr_X10_lossOf (fun x q1 q2 => H_a0 x (by omega) (by omega)) hv3)
      by_cases c4 : x1 = (-4)
      · replace hF := gPos c4 hF
        exact gSame.tr s_v4 (ih x3 v4.1 (x3 + 1) v4.2 _ hF)
      · replace hF := gNeg c4 hF
        by_cases c5 : v4.1 ≤ x2
        · replace hF := gPos c5 hF
          exact gSame.tr s_v4 (ih x1 x2 (x3 + 1) v4.2 _ hF)
        · replace hF := gNeg c5 hF
          exact gSame.tr s_v4 (ih x3 v4.1 (x3 + 1) v4.2 _ hF)
theorem fr_X10_worst {P : Nat → Prop} {a0 : Nat} {h : gHp} (H_a0 : ∀ x : Nat, a0 ≤ x → x < a0 + 13 → P x)  {o : Int32 × gHp} (hF : f_X10_worst a0 h = some o) : gSame P h o.2 := by
  rw [f_X10_worst] at hF
  obtain ⟨v5, hv1, hF⟩ := gBind hF
  have s_v5 : gSame P h v5.2 := gSame.tr gSame.rf (fr_X10_worst_7 (fun x q1 q2 => H_a0 x (by omega) (by omega)) gFuel (-4) 0 0 h _ hv1)
  obtain rfl := Option.some.inj hF
  exact s_v5
theorem fr_X10_note {P : Nat → Prop} {a0 : Nat} {x1 : Int32} {h : gHp} (H_a0 : ∀ x : Nat, a0 ≤ x → x < a0 + 13 → P x)  {o : Int32 × gHp} (hF : f_X10_note a0 x1 h = some o) : gSame P h o.2 := by
  rw [f_X10_note] at hF
  obtain ⟨v2, hv1, hF⟩ := gBind hF
  by_cases c2 : v2 = true
  · replace hF := gPos c2 hF
    obtain rfl := Option.some.inj hF
    exact gSame.rf
  · replace hF := gNeg c2 hF
    obtain ⟨v4, hv3, hF⟩ := gBind hF
    have s_v4 : gSame P h v4 := gSame.tr gSame.rf (fr_X10_findVoltage (fun x q1 q2 => H_a0 x (by omega) (by omega)) hv3)
    obtain ⟨b4, hF⟩ := gGd hF
    have b4l := gIn_lt b4
    obtain ⟨v8, hv5, hF⟩ := gBind hF
    by_cases c6 : v8 = 20
    · replace hF := gPos c6 hF
      obtain rfl := Option.some.inj hF
      exact s_v4
    · replace hF := gNeg c6 hF
      obtain ⟨v12, hv7, hF⟩ := gBind hF
      have s_v12 : gSame P h v12 := gSame.tr s_v4 (fr_X10_record (fun x q1 q2 => H_a0 x (by omega) (by omega)) hv7)
      obtain ⟨v13, hv8, hF⟩ := gBind hF
      have s_v13 : gSame P h v13 := by
        replace hF := hv8
        by_cases c9 : v8 = ((v4.2 (a0 + 1) (gN 4)).toInt32)
        · replace hF := gPos c9 hF
          obtain ⟨b10, hF⟩ := gGd hF
          have b10l := gIn_lt b10
          obtain ⟨b11, hF⟩ := gGd hF
          have b11l := gIn_lt b11
          obtain ⟨b12, hF⟩ := gGd hF
          have b12l := gIn_lt b12
          obtain ⟨b13, hF⟩ := gGd hF
          have b13l := gIn_lt b13
          obtain ⟨b14, hF⟩ := gGd hF
          have b14l := gIn_lt b14
          obtain rfl := Option.some.inj hF
          exact (gSame.L (gSame.L (gSame.L (gSame.L s_v12 (H_a0 (a0 + 1) (by omega) (by omega))) (H_a0 (a0 + 1) (by omega) (by omega))) (H_a0 (a0 + 1) (by omega) (by omega))) (H_a0 (a0 + 1) (by omega) (by omega)))
        · replace hF := gNeg c9 hF
          obtain rfl := Option.some.inj hF
          exact s_v12
      obtain ⟨b15, hF⟩ := gGd hF
      have b15l := gIn_lt b15
      obtain ⟨b16, hF⟩ := gGd hF
      have b16l := gIn_lt b16
      obtain ⟨b17, hF⟩ := gGd hF
      have b17l := gIn_lt b17
      obtain rfl := Option.some.inj hF
      exact (gSame.L s_v13 (H_a0 (a0 + 1) (by omega) (by omega)))
theorem fr_X10_undo_22 {P : Nat → Prop} {a0 : Nat} (H_a0 : ∀ x : Nat, a0 ≤ x → x < a0 + 13 → P x)  : ∀ (n : Nat) (x1 : Int32) (h : gHp) (o : gHp), f_X10_undo_22 a0 n x1 h = some o → gSame P h o := by
  intro n
  induction n with
  | zero => intro _ _ o hF; cases hF
  | succ n ih =>
    intro x1 h o hF
    rw [f_X10_undo_22] at hF
    by_cases c1 : 141 ≤ x1
    · replace hF := gPos c1 hF
      obtain rfl := Option.some.inj hF
      exact gSame.rf
    · replace hF := gNeg c1 hF
      obtain ⟨b2, hF⟩ := gGd hF
      have b2l := gIn_lt b2
      obtain ⟨b3, hF⟩ := gGd hF
      have b3l := gIn_lt b3
      exact gSame.tr (gSame.L gSame.rf (H_a0 (a0 + 1) (by omega) (by omega))) (ih (x1 + 1) (gsL h (a0 + 1) (gN x1) (h.2 (a0 + 2) (gN ((141 * (h.1 a0 2)) + x1)))) _ hF)
