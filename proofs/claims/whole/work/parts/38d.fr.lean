theorem fr_X10_undo {P : Nat → Prop} {a0 : Nat} {h : gHp} (H_a0 : ∀ x : Nat, a0 ≤ x → x < a0 + 13 → P x)  {o : Int32 × gHp} (hF : f_X10_undo a0 h = some o) : gSame P h o.2 := by
  rw [f_X10_undo] at hF
  by_cases c1 : (h.1 a0 2) = 0
  · replace hF := gPos c1 hF
    obtain rfl := Option.some.inj hF
    exact gSame.rf
  · replace hF := gNeg c1 hF
    obtain ⟨v3, hv2, hF⟩ := gBind hF
    have s_v3 : gSame P h v3 := gSame.tr (gSame.I gSame.rf (H_a0 (a0) (by omega) (by omega))) (fr_X10_undo_22 (fun x q1 q2 => H_a0 x (by omega) (by omega)) gFuel 0 (gsI h a0 2 ((h.1 a0 2) - 1)) _ hv2)
    obtain rfl := Option.some.inj hF
    exact s_v3
theorem fr_X10_keep_2 {P : Nat → Prop} {a0 : Nat} (H_a0 : ∀ x : Nat, a0 ≤ x → x < a0 + 13 → P x)  : ∀ (n : Nat) (x1 : Int32) (h : gHp) (o : gHp), f_X10_keep_2 a0 n x1 h = some o → gSame P h o := by
  intro n
  induction n with
  | zero => intro _ _ o hF; cases hF
  | succ n ih =>
    intro x1 h o hF
    rw [f_X10_keep_2] at hF
    by_cases c1 : 141 ≤ x1
    · replace hF := gPos c1 hF
      obtain rfl := Option.some.inj hF
      exact gSame.rf
    · replace hF := gNeg c1 hF
      obtain ⟨b2, hF⟩ := gGd hF
      have b2l := gIn_lt b2
      obtain ⟨b3, hF⟩ := gGd hF
      have b3l := gIn_lt b3
      exact gSame.tr (gSame.L gSame.rf (H_a0 (a0 + 3) (by omega) (by omega))) (ih (x1 + 1) (gsL h (a0 + 3) (gN x1) (h.2 (a0 + 1) (gN x1))) _ hF)
theorem fr_X10_keep {P : Nat → Prop} {a0 : Nat} {h : gHp} (H_a0 : ∀ x : Nat, a0 ≤ x → x < a0 + 13 → P x)  {o : Int32 × gHp} (hF : f_X10_keep a0 h = some o) : gSame P h o.2 := by
  rw [f_X10_keep] at hF
  obtain ⟨v3, hv1, hF⟩ := gBind hF
  have s_v3 : gSame P h v3 := gSame.tr gSame.rf (fr_X10_keep_2 (fun x q1 q2 => H_a0 x (by omega) (by omega)) gFuel 0 h _ hv1)
  obtain ⟨v7, hv2, hF⟩ := gBind hF
  obtain rfl := Option.some.inj hF
  exact (gSame.I s_v3 (H_a0 (a0) (by omega) (by omega)))
theorem fr_X10_restore_16 {P : Nat → Prop} {a0 : Nat} (H_a0 : ∀ x : Nat, a0 ≤ x → x < a0 + 13 → P x)  : ∀ (n : Nat) (x1 : Int32) (h : gHp) (o : gHp), f_X10_restore_16 a0 n x1 h = some o → gSame P h o := by
  intro n
  induction n with
  | zero => intro _ _ o hF; cases hF
  | succ n ih =>
    intro x1 h o hF
    rw [f_X10_restore_16] at hF
    by_cases c1 : 141 ≤ x1
    · replace hF := gPos c1 hF
      obtain rfl := Option.some.inj hF
      exact gSame.rf
    · replace hF := gNeg c1 hF
      obtain ⟨b2, hF⟩ := gGd hF
      have b2l := gIn_lt b2
      obtain ⟨b3, hF⟩ := gGd hF
      have b3l := gIn_lt b3
      exact gSame.tr (gSame.L gSame.rf (H_a0 (a0 + 1) (by omega) (by omega))) (ih (x1 + 1) (gsL h (a0 + 1) (gN x1) (h.2 (a0 + 3) (gN x1))) _ hF)
theorem fr_X10_restore {P : Nat → Prop} {a0 : Nat} {h : gHp} (H_a0 : ∀ x : Nat, a0 ≤ x → x < a0 + 13 → P x)  {o : Int32 × gHp} (hF : f_X10_restore a0 h = some o) : gSame P h o.2 := by
  rw [f_X10_restore] at hF
  by_cases c1 : (h.1 a0 4) = 0
  · replace hF := gPos c1 hF
    obtain rfl := Option.some.inj hF
    exact gSame.rf
  · replace hF := gNeg c1 hF
    obtain ⟨v2, hv2, hF⟩ := gBind hF
    have s_v2 : gSame P h v2 := gSame.tr gSame.rf (fr_X10_record (fun x q1 q2 => H_a0 x (by omega) (by omega)) hv2)
    obtain ⟨v5, hv3, hF⟩ := gBind hF
    have s_v5 : gSame P h v5 := gSame.tr s_v2 (fr_X10_restore_16 (fun x q1 q2 => H_a0 x (by omega) (by omega)) gFuel 0 v2 _ hv3)
    obtain ⟨v9, hv4, hF⟩ := gBind hF
    obtain rfl := Option.some.inj hF
    exact s_v5
theorem fr_X10_goesIn_30 {P : Nat → Prop} {a0 : Nat} {x1 : Int32} {x2 : Int32} {l3 : Int64} {l5 : Int64} (H_a0 : ∀ x : Nat, a0 ≤ x → x < a0 + 13 → P x)  : ∀ (n : Nat) (l7 : Int64) (l9 : Int64) (x11 : Int32) (h : gHp) (o : Int32 × gHp), f_X10_goesIn_30 a0 x1 x2 l3 l5 n l7 l9 x11 h = some o → gSame P h o.2 := by
  intro n
  induction n with
  | zero => intro _ _ _ _ o hF; cases hF
  | succ n ih =>
    intro l7 l9 x11 h o hF
    rw [f_X10_goesIn_30] at hF
    by_cases c1 : x1 ≤ x11
    · replace hF := gPos c1 hF
      obtain ⟨v7, hv2, hF⟩ := gBind hF
      have s_v7 : gSame P h v7 := by
        replace hF := hv2
        by_cases c3 : l5 ≤ 0
        · replace hF := gPos c3 hF
          obtain rfl := Option.some.inj hF
          exact (gSame.L (gSame.L gSame.rf (H_a0 (a0) (by omega) (by omega))) (H_a0 (a0) (by omega) (by omega)))
        · replace hF := gNeg c3 hF
          obtain ⟨v11, hv4, hF⟩ := gBind hF
          have s_v11 : gSame P h v11 := gSame.tr (gSame.L (gSame.L gSame.rf (H_a0 (a0) (by omega) (by omega))) (H_a0 (a0) (by omega) (by omega))) (fr_X10_sum (fun x q1 q2 => H_a0 x (by omega) (by omega)) hv4)
          obtain rfl := Option.some.inj hF
          exact s_v11
      by_cases c5 : 0 ≤ (v7.2 a0 17)
      · replace hF := gPos c5 hF
        obtain rfl := Option.some.inj hF
        exact s_v7
      · replace hF := gNeg c5 hF
        obtain rfl := Option.some.inj hF
        exact s_v7
    · replace hF := gNeg c1 hF
      obtain ⟨v13, hv6, hF⟩ := gBind hF
      by_cases c7 : v13 = x1
      · replace hF := gPos c7 hF
        by_cases c8 : x11 = x2
        · replace hF := gPos c8 hF
          exact gSame.tr gSame.rf (ih l7 l9 (x11 + 1) h _ hF)
        · replace hF := gNeg c8 hF
          obtain ⟨b9, hF⟩ := gGd hF
          have b9l := gIn_lt b9
          by_cases c10 : (h.2 (a0 + 10) (gN x11)) = 0
          · replace hF := gPos c10 hF
            by_cases c11 : l5 = 0
            · replace hF := gPos c11 hF
              obtain rfl := Option.some.inj hF
              exact gSame.rf
            · replace hF := gNeg c11 hF
              obtain rfl := Option.some.inj hF
              exact gSame.rf
          · replace hF := gNeg c10 hF
            obtain ⟨b12, hF⟩ := gGd hF
            have b12l := gIn_lt b12
            obtain ⟨b13, hF⟩ := gGd hF
            have b13l := gIn_lt b13
            obtain ⟨v18, hv14, hF⟩ := gBind hF
            have s_v18 : gSame P h v18 := gSame.tr gSame.rf (fr_X10_sum (fun x q1 q2 => H_a0 x (by omega) (by omega)) hv14)
            exact gSame.tr s_v18 (ih (v18.2 a0 17) (v18.2 a0 18) (x11 + 1) v18 _ hF)
      · replace hF := gNeg c7 hF
        exact gSame.tr gSame.rf (ih l7 l9 (x11 + 1) h _ hF)
theorem fr_X10_goesIn {P : Nat → Prop} {a0 : Nat} {x1 : Int32} {x2 : Int32} {h : gHp} (H_a0 : ∀ x : Nat, a0 ≤ x → x < a0 + 13 → P x)  {o : Int32 × gHp} (hF : f_X10_goesIn a0 x1 x2 h = some o) : gSame P h o.2 := by
  rw [f_X10_goesIn] at hF
  obtain ⟨v2, hv1, hF⟩ := gBind hF
  by_cases c2 : v2 = 1
  · replace hF := gPos c2 hF
    exact gSame.tr gSame.rf (fr_X10_goesIn_30 (fun x q1 q2 => H_a0 x (by omega) (by omega)) gFuel 0 1 0 h _ hF)
  · replace hF := gNeg c2 hF
    obtain ⟨v4, hv3, hF⟩ := gBind hF
    have s_v4 : gSame P h v4 := gSame.tr gSame.rf (fr_X10_letsOf (fun x q1 q2 => H_a0 x (by omega) (by omega)) hv3)
    by_cases c4 : (v4.1 a0 23) = 0
    · replace hF := gPos c4 hF
      by_cases c5 : (h.2 a0 17) = 0
      · replace hF := gPos c5 hF
        obtain rfl := Option.some.inj hF
        exact (gSame.L (gSame.L s_v4 (H_a0 (a0) (by omega) (by omega))) (H_a0 (a0) (by omega) (by omega)))
      · replace hF := gNeg c5 hF
        by_cases c6 : (h.2 a0 18) = 0
        · replace hF := gPos c6 hF
          by_cases c7 : ((gsL (gsL v4 a0 17 (h.2 a0 17)) a0 18 (h.2 a0 18)).2 a0 21) = 0
          · replace hF := gPos c7 hF
            obtain rfl := Option.some.inj hF
            exact (gSame.L (gSame.L s_v4 (H_a0 (a0) (by omega) (by omega))) (H_a0 (a0) (by omega) (by omega)))
          · replace hF := gNeg c7 hF
            obtain rfl := Option.some.inj hF
            exact (gSame.L (gSame.L s_v4 (H_a0 (a0) (by omega) (by omega))) (H_a0 (a0) (by omega) (by omega)))
        · replace hF := gNeg c6 hF
          obtain ⟨v6, hv8, hF⟩ := gBind hF
          have s_v6 : gSame P h v6 := gSame.tr (gSame.L (gSame.L s_v4 (H_a0 (a0) (by omega) (by omega))) (H_a0 (a0) (by omega) (by omega))) (fr_X10_sum (fun x q1 q2 => H_a0 x (by omega) (by omega)) hv8)
          by_cases c9 : 0 ≤ (v6.2 a0 17)
          · replace hF := gPos c9 hF
            by_cases c10 : (v6.2 a0 17) = 0
            · replace hF := gPos c10 hF
              obtain rfl := Option.some.inj hF
              exact (gSame.L (gSame.L s_v6 (H_a0 (a0) (by omega) (by omega))) (H_a0 (a0) (by omega) (by omega)))
            · replace hF := gNeg c10 hF
              obtain rfl := Option.some.inj hF
              exact (gSame.L (gSame.L s_v6 (H_a0 (a0) (by omega) (by omega))) (H_a0 (a0) (by omega) (by omega)))
          · replace hF := gNeg c9 hF
            obtain rfl := Option.some.inj hF
            exact s_v6
    · replace hF := gNeg c4 hF
      by_cases c11 : (h.2 a0 17) = 0
      · replace hF := gPos c11 hF
        obtain rfl := Option.some.inj hF
        exact s_v4
      · replace hF := gNeg c11 hF
        obtain rfl := Option.some.inj hF
        exact s_v4
theorem fr_X10_find_38 {P : Nat → Prop} {a0 : Nat} {x4 : Int32} (H_a0 : ∀ x : Nat, a0 ≤ x → x < a0 + 13 → P x)  : ∀ (n : Nat) (x5 : Int32) (x6 : Int32) (h : gHp) (o : Int32 × gHp), f_X10_find_38 a0 x4 n x5 x6 h = some o → gSame P h o.2 := by
  intro n
  induction n with
  | zero => intro _ _ _ o hF; cases hF
  | succ n ih =>
    intro x5 x6 h o hF
    rw [f_X10_find_38] at hF
    by_cases c1 : x5 = x4
    · replace hF := gPos c1 hF
      obtain rfl := Option.some.inj hF
      exact gSame.rf
    · replace hF := gNeg c1 hF
      by_cases c2 : x6 = 1
      · replace hF := gPos c2 hF
        obtain ⟨v13, hv3, hF⟩ := gBind hF
        obtain ⟨v17, hv4, hF⟩ := gBind hF
        have s_v17 : gSame P h v17.2 := gSame.tr gSame.rf (fr_X10_goesIn (fun x q1 q2 => H_a0 x (by omega) (by omega)) hv4)
        exact gSame.tr s_v17 (ih v13 v17.1 v17.2 _ hF)
      · replace hF := gNeg c2 hF
        obtain rfl := Option.some.inj hF
        exact gSame.rf
theorem fr_X10_find {P : Nat → Prop} {a0 : Nat} {x1 : Int32} {x2 : Int32} {x3 : Int32} {h : gHp} (H_a0 : ∀ x : Nat, a0 ≤ x → x < a0 + 13 → P x)  {o : Int32 × gHp} (hF : f_X10_find a0 x1 x2 x3 h = some o) : gSame P h o.2 := by
  rw [f_X10_find] at hF
  obtain ⟨v2, hv1, hF⟩ := gBind hF
  have s_v2 : gSame P h v2 := gSame.tr gSame.rf (fr_X10_lay (fun x q1 q2 => H_a0 x (by omega) (by omega)) hv1)
  obtain ⟨v4, hv2, hF⟩ := gBind hF
  have s_v4 : gSame P h v4 := gSame.tr s_v2 (fr_X10_becomes (fun x q1 q2 => H_a0 x (by omega) (by omega)) hv2)
  obtain ⟨v6, hv3, hF⟩ := gBind hF
  obtain ⟨v8, hv4, hF⟩ := gBind hF
  obtain ⟨v18, hv5, hF⟩ := gBind hF
  have s_v18 : gSame P h v18.2 := gSame.tr s_v4 (fr_X10_find_38 (fun x q1 q2 => H_a0 x (by omega) (by omega)) gFuel (v8 - 1) 1 v4 _ hv5)
  by_cases c6 : v18.1 = 1
  · replace hF := gPos c6 hF
    by_cases c7 : (v18.2.2 a0 18) = 0
    · replace hF := gPos c7 hF
      obtain rfl := Option.some.inj hF
      exact s_v18
    · replace hF := gNeg c7 hF
      obtain rfl := Option.some.inj hF
      exact s_v18
  · replace hF := gNeg c6 hF
    obtain rfl := Option.some.inj hF
    exact s_v18
theorem fr_X10_solve {P : Nat → Prop} {a0 : Nat} {x1 : Int32} {x2 : Int32} {x3 : Int32} {x4 : Int32} {h : gHp} (H_a0 : ∀ x : Nat, a0 ≤ x → x < a0 + 13 → P x)  {o : Int64 × gHp} (hF : f_X10_solve a0 x1 x2 x3 x4 h = some o) : gSame P h o.2 := by
  rw [f_X10_solve] at hF
  obtain ⟨v2, hv1, hF⟩ := gBind hF
  by_cases c2 : v2 = (-4)
  · replace hF := gPos c2 hF
    obtain rfl := Option.some.inj hF
    exact gSame.rf
  · replace hF := gNeg c2 hF
    obtain ⟨v4, hv3, hF⟩ := gBind hF
    by_cases c4 : v4 = true
    · replace hF := gPos c4 hF
      obtain ⟨v6, hv5, hF⟩ := gBind hF
      by_cases c6 : v6 = true
      · replace hF := gPos c6 hF
        obtain ⟨v8, hv7, hF⟩ := gBind hF
        by_cases c8 : v8 = true
        · replace hF := gPos c8 hF
          obtain ⟨v10, hv9, hF⟩ := gBind hF
          have s_v10 : gSame P h v10.2 := gSame.tr gSame.rf (fr_X10_find (fun x q1 q2 => H_a0 x (by omega) (by omega)) hv9)
          by_cases c10 : x4 = 0
          · replace hF := gPos c10 hF
            obtain rfl := Option.some.inj hF
            exact s_v10
          · replace hF := gNeg c10 hF
            by_cases c11 : v10.1 = 1
            · replace hF := gPos c11 hF
              by_cases c12 : x4 = 1
              · replace hF := gPos c12 hF
                obtain rfl := Option.some.inj hF
                exact s_v10
              · replace hF := gNeg c12 hF
                obtain rfl := Option.some.inj hF
                exact s_v10
            · replace hF := gNeg c11 hF
              obtain rfl := Option.some.inj hF
              exact s_v10
        · replace hF := gNeg c8 hF
          obtain rfl := Option.some.inj hF
          exact gSame.rf
      · replace hF := gNeg c6 hF
        obtain rfl := Option.some.inj hF
        exact gSame.rf
    · replace hF := gNeg c4 hF
      obtain rfl := Option.some.inj hF
      exact gSame.rf
theorem fr_X10_fault_82 {P : Nat → Prop} {a0 : Nat} {x3 : Int32} {l4 : Int64} {l6 : Int64} {x9 : Int32} {k_72 : Int32 → Int32 → gHp → Option (Int32 × gHp)} (H_a0 : ∀ x : Nat, a0 ≤ x → x < a0 + 13 → P x) (hk_72 : ∀ (y0 : Int32) (y1 : Int32) (y2 : gHp) (o : Int32 × gHp), k_72 y0 y1 y2 = some o → gSame P y2 o.2) : ∀ (n : Nat) (x8 : Int32) (x10 : Int32) (h : gHp) (o : Int32 × gHp), f_X10_fault_82 a0 x3 l4 l6 x9 k_72 n x8 x10 h = some o → gSame P h o.2 := by
  intro n
  induction n with
  | zero => intro _ _ _ o hF; cases hF
  | succ n ih =>
    intro x8 x10 h o hF
    rw [f_X10_fault_82] at hF
    by_cases c1 : 2 < x10
    · replace hF := gPos c1 hF
      exact gSame.tr gSame.rf (hk_72 x8 (x9 + 1) h _ hF)
    · replace hF := gNeg c1 hF
      obtain ⟨v10, hv2, hF⟩ := gBind hF
      by_cases c3 : v10 = true
      · replace hF := gPos c3 hF
        obtain ⟨v12, hv4, hF⟩ := gBind hF
        by_cases c5 : v12 = 0
        · replace hF := gPos c5 hF
          obtain ⟨v14, hv6, hF⟩ := gBind hF
          have s_v14 : gSame P h v14 := gSame.tr gSame.rf (fr_X10_lay (fun x q1 q2 => H_a0 x (by omega) (by omega)) hv6)
          obtain ⟨v16, hv7, hF⟩ := gBind hF
          obtain ⟨b8, hF⟩ := gGd hF
          have b8l := gIn_lt b8
          by_cases c9 : (v14.2 (a0 + 9) (gN (v16 - 1))) = l4
          · replace hF := gPos c9 hF
            obtain ⟨v19, hv10, hF⟩ := gBind hF
            obtain ⟨b11, hF⟩ := gGd hF
            have b11l := gIn_lt b11
            by_cases c12 : (v14.2 (a0 + 10) (gN (v19 - 1))) = l6
            · replace hF := gPos c12 hF
              by_cases c13 : x8 = x3
              · replace hF := gPos c13 hF
                obtain rfl := Option.some.inj hF
                exact s_v14
              · replace hF := gNeg c13 hF
                exact gSame.tr s_v14 (ih (x8 + 1) (x10 + 1) v14 _ hF)
            · replace hF := gNeg c12 hF
              exact gSame.tr s_v14 (ih x8 (x10 + 1) v14 _ hF)
          · replace hF := gNeg c9 hF
            exact gSame.tr s_v14 (ih x8 (x10 + 1) v14 _ hF)
        · replace hF := gNeg c5 hF
          exact gSame.tr gSame.rf (hk_72 x8 (x9 + 1) h _ hF)
      · replace hF := gNeg c3 hF
        exact gSame.tr gSame.rf (hk_72 x8 (x9 + 1) h _ hF)
theorem fr_X10_fault_72 {P : Nat → Prop} {a0 : Nat} {x3 : Int32} {l4 : Int64} {l6 : Int64} (H_a0 : ∀ x : Nat, a0 ≤ x → x < a0 + 13 → P x)  : ∀ (n : Nat) (x8 : Int32) (x9 : Int32) (h : gHp) (o : Int32 × gHp), f_X10_fault_72 a0 x3 l4 l6 n x8 x9 h = some o → gSame P h o.2 := by
  intro n
  induction n with
  | zero => intro _ _ _ o hF; cases hF
  | succ n ih =>
    intro x8 x9 h o hF
    rw [f_X10_fault_72] at hF
    by_cases c1 : 6 ≤ x9
    · replace hF := gPos c1 hF
      obtain rfl := Option.some.inj hF
      exact gSame.rf
    · replace hF := gNeg c1 hF
      exact gSame.tr gSame.rf (fr_X10_fault_82 (fun x q1 q2 => H_a0 x (by omega) (by omega)) (fun y0 y1 y2 o q => ih y0 y1 y2 o q) gFuel x8 1 h _ hF)
theorem fr_X10_fault_29 {P : Nat → Prop} {a0 : Nat} {x1 : Int32} {x2 : Int32} {x3 : Int32} {h : gHp} (H_a0 : ∀ x : Nat, a0 ≤ x → x < a0 + 13 → P x)  {o : Int32 × gHp} (hF : f_X10_fault_29 a0 x1 x2 x3 h = some o) : gSame P h o.2 := by
  rw [f_X10_fault_29] at hF
  by_cases c1 : 0 ≤ x3
  · replace hF := gPos c1 hF
    obtain ⟨v6, hv2, hF⟩ := gBind hF
    by_cases c3 : v6 = 0
    · replace hF := gPos c3 hF
      obtain rfl := Option.some.inj hF
      exact gSame.rf
    · replace hF := gNeg c3 hF
      obtain ⟨v8, hv4, hF⟩ := gBind hF
      have s_v8 : gSame P h v8 := gSame.tr gSame.rf (fr_X10_becomes (fun x q1 q2 => H_a0 x (by omega) (by omega)) hv4)
      exact gSame.tr s_v8 (fr_X10_fault_72 (fun x q1 q2 => H_a0 x (by omega) (by omega)) gFuel 0 0 v8 _ hF)
  · replace hF := gNeg c1 hF
    obtain rfl := Option.some.inj hF
    exact gSame.rf
theorem fr_X10_fault {P : Nat → Prop} {a0 : Nat} {x1 : Int32} {x2 : Int32} {x3 : Int32} {h : gHp} (H_a0 : ∀ x : Nat, a0 ≤ x → x < a0 + 13 → P x)  {o : Int32 × gHp} (hF : f_X10_fault a0 x1 x2 x3 h = some o) : gSame P h o.2 := by
  rw [f_X10_fault] at hF
  obtain ⟨v2, hv1, hF⟩ := gBind hF
  by_cases c2 : v2 = true
  · replace hF := gPos c2 hF
    obtain ⟨v4, hv3, hF⟩ := gBind hF
    by_cases c4 : v4 = true
    · replace hF := gPos c4 hF
      by_cases c5 : x1 = 0
      · replace hF := gPos c5 hF
        by_cases c6 : x2 = 0
        · replace hF := gPos c6 hF
          obtain rfl := Option.some.inj hF
          exact gSame.rf
        · replace hF := gNeg c6 hF
          exact gSame.tr gSame.rf (fr_X10_fault_29 (fun x q1 q2 => H_a0 x (by omega) (by omega)) hF)
      · replace hF := gNeg c5 hF
        exact gSame.tr gSame.rf (fr_X10_fault_29 (fun x q1 q2 => H_a0 x (by omega) (by omega)) hF)
    · replace hF := gNeg c4 hF
      obtain rfl := Option.some.inj hF
      exact gSame.rf
  · replace hF := gNeg c2 hF
    obtain rfl := Option.some.inj hF
    exact gSame.rf
