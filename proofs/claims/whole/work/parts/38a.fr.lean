/-! what a function may write: outside P nothing -/
def gSame (P : Nat → Prop) (h h' : gHp) : Prop := ∀ x : Nat, ¬ P x → h'.1 x = h.1 x ∧ h'.2 x = h.2 x
theorem gSame.rf {P : Nat → Prop} {h : gHp} : gSame P h h := fun _ _ => ⟨rfl, rfl⟩
theorem gSame.tr {P : Nat → Prop} {h h1 h2 : gHp} (a : gSame P h h1) (b : gSame P h1 h2) : gSame P h h2 := fun x q => ⟨(b x q).1.trans (a x q).1, (b x q).2.trans (a x q).2⟩
theorem gSame.I {P : Nat → Prop} {h h1 : gHp} (s : gSame P h h1) {a k : Nat} {v : Int32} (ha : P a) : gSame P h (gsI h1 a k v) := fun x q => by
  have n : x ≠ a := fun e => q (by rw [e]; exact ha)
  exact ⟨(gU_ne n).trans (s x q).1, (s x q).2⟩
theorem gSame.L {P : Nat → Prop} {h h1 : gHp} (s : gSame P h h1) {a k : Nat} {v : Int64} (ha : P a) : gSame P h (gsL h1 a k v) := fun x q => by
  have n : x ≠ a := fun e => q (by rw [e]; exact ha)
  exact ⟨(s x q).1, (gU_ne n).trans (s x q).2⟩
theorem gSame.mono {P Q : Nat → Prop} {h h1 : gHp} (s : gSame P h h1) (hq : ∀ x, P x → Q x) : gSame Q h h1 := fun x q => s x (fun r => q (hq x r))
theorem gIn_lt {i : Int32} {n : Nat} (h : gIn i n) : gN i < n := Nat.not_le.mp fun q => h (Or.inr q)
theorem fr_X2_put {P : Nat → Prop} {a0 : Nat} {l1 : Int64} {l3 : Int64} {h : gHp} (H_a0 : ∀ x : Nat, a0 ≤ x → x < a0 + 1 → P x)  {o : gHp} (hF : f_X2_put a0 l1 l3 h = some o) : gSame P h o := by
  rw [f_X2_put] at hF
  obtain ⟨v2, hv1, hF⟩ := gBind hF
  obtain ⟨b2, hF⟩ := gGn hF
  obtain ⟨b3, hF⟩ := gGn hF
  obtain rfl := Option.some.inj hF
  exact (gSame.L (gSame.L gSame.rf (H_a0 (a0) (by omega) (by omega))) (H_a0 (a0) (by omega) (by omega)))
theorem fr_X2_copy {P : Nat → Prop} {a0 : Nat} {a1 : Nat} {h : gHp} (H_a0 : ∀ x : Nat, a0 ≤ x → x < a0 + 1 → P x)  {o : gHp} (hF : f_X2_copy a0 a1 h = some o) : gSame P h o := by
  rw [f_X2_copy] at hF
  obtain rfl := Option.some.inj hF
  exact (gSame.L (gSame.L gSame.rf (H_a0 (a0) (by omega) (by omega))) (H_a0 (a0) (by omega) (by omega)))
theorem fr_X2_invert {P : Nat → Prop} {a0 : Nat} {h : gHp} (H_a0 : ∀ x : Nat, a0 ≤ x → x < a0 + 1 → P x)  {o : gHp} (hF : f_X2_invert a0 h = some o) : gSame P h o := by
  rw [f_X2_invert] at hF
  obtain rfl := Option.some.inj hF
  exact (gSame.L (gSame.L gSame.rf (H_a0 (a0) (by omega) (by omega))) (H_a0 (a0) (by omega) (by omega)))
theorem fr_X2_add_18 {P : Nat → Prop} {a0 : Nat} {h : gHp} (H_a0 : ∀ x : Nat, a0 ≤ x → x < a0 + 1 → P x)  {o : gHp} (hF : f_X2_add_18 a0 h = some o) : gSame P h o := by
  rw [f_X2_add_18] at hF
  obtain ⟨v2, hv1, hF⟩ := gBind hF
  have s_v2 : gSame P h v2 := gSame.tr gSame.rf (fr_X2_put (fun x q1 q2 => H_a0 x (by omega) (by omega)) hv1)
  obtain rfl := Option.some.inj hF
  exact s_v2
theorem fr_X2_add {P : Nat → Prop} {a0 : Nat} {a1 : Nat} {x2 : Int32} {h : gHp} (H_a0 : ∀ x : Nat, a0 ≤ x → x < a0 + 1 → P x)  {o : gHp} (hF : f_X2_add a0 a1 x2 h = some o) : gSame P h o := by
  rw [f_X2_add] at hF
  by_cases c1 : (h.2 a0 1) = 0
  · replace hF := gPos c1 hF
    exact gSame.tr gSame.rf (fr_X2_add_18 (fun x q1 q2 => H_a0 x (by omega) (by omega)) hF)
  · replace hF := gNeg c1 hF
    by_cases c2 : (h.2 a1 1) = 0
    · replace hF := gPos c2 hF
      exact gSame.tr gSame.rf (fr_X2_add_18 (fun x q1 q2 => H_a0 x (by omega) (by omega)) hF)
    · replace hF := gNeg c2 hF
      obtain ⟨v4, hv3, hF⟩ := gBind hF
      obtain ⟨b4, hF⟩ := gGn hF
      obtain ⟨b5, hF⟩ := gGn hF
      obtain ⟨v8, hv6, hF⟩ := gBind hF
      have s_v8 : gSame P h v8 := gSame.tr gSame.rf (fr_X2_put (fun x q1 q2 => H_a0 x (by omega) (by omega)) hv6)
      obtain rfl := Option.some.inj hF
      exact s_v8
theorem fr_X2_multiply {P : Nat → Prop} {a0 : Nat} {a1 : Nat} {h : gHp} (H_a0 : ∀ x : Nat, a0 ≤ x → x < a0 + 1 → P x)  {o : gHp} (hF : f_X2_multiply a0 a1 h = some o) : gSame P h o := by
  rw [f_X2_multiply] at hF
  obtain ⟨v2, hv1, hF⟩ := gBind hF
  obtain ⟨v4, hv2, hF⟩ := gBind hF
  obtain ⟨b3, hF⟩ := gGn hF
  obtain ⟨b4, hF⟩ := gGn hF
  obtain ⟨b5, hF⟩ := gGn hF
  obtain ⟨b6, hF⟩ := gGn hF
  obtain rfl := Option.some.inj hF
  exact (gSame.L (gSame.L gSame.rf (H_a0 (a0) (by omega) (by omega))) (H_a0 (a0) (by omega) (by omega)))
theorem fr_X4_append {P : Nat → Prop} {a0 : Nat} {x1 : Int32} {h : gHp} (H_a0 : ∀ x : Nat, a0 ≤ x → x < a0 + 2 → P x)  {o : gHp} (hF : f_X4_append a0 x1 h = some o) : gSame P h o := by
  rw [f_X4_append] at hF
  by_cases c1 : 40 ≤ (h.1 a0 1)
  · replace hF := gPos c1 hF
    obtain rfl := Option.some.inj hF
    exact gSame.rf
  · replace hF := gNeg c1 hF
    obtain ⟨b2, hF⟩ := gGd hF
    have b2l := gIn_lt b2
    obtain rfl := Option.some.inj hF
    exact (gSame.I (gSame.I gSame.rf (H_a0 (a0 + 1) (by omega) (by omega))) (H_a0 (a0) (by omega) (by omega)))
theorem fr_X5_copy_2 {P : Nat → Prop} {a0 : Nat} {a1 : Nat} (H_a0 : ∀ x : Nat, a0 ≤ x → x < a0 + 5 → P x)  : ∀ (n : Nat) (x2 : Int32) (h : gHp) (o : gHp), f_X5_copy_2 a0 a1 n x2 h = some o → gSame P h o := by
  intro n
  induction n with
  | zero => intro _ _ o hF; cases hF
  | succ n ih =>
    intro x2 h o hF
    rw [f_X5_copy_2] at hF
    by_cases c1 : 11 ≤ x2
    · replace hF := gPos c1 hF
      obtain rfl := Option.some.inj hF
      exact gSame.rf
    · replace hF := gNeg c1 hF
      obtain ⟨b2, hF⟩ := gGd hF
      have b2l := gIn_lt b2
      obtain ⟨b3, hF⟩ := gGd hF
      have b3l := gIn_lt b3
      obtain ⟨b4, hF⟩ := gGd hF
      have b4l := gIn_lt b4
      obtain ⟨b5, hF⟩ := gGd hF
      have b5l := gIn_lt b5
      obtain ⟨b6, hF⟩ := gGd hF
      have b6l := gIn_lt b6
      obtain ⟨b7, hF⟩ := gGd hF
      have b7l := gIn_lt b7
      exact gSame.tr (gSame.I (gSame.I (gSame.I gSame.rf (H_a0 (a0 + 1) (by omega) (by omega))) (H_a0 (a0 + 2) (by omega) (by omega))) (H_a0 (a0 + 3) (by omega) (by omega))) (ih (x2 + 1) (gsI (gsI (gsI h (a0 + 1) (gN x2) (h.1 (a1 + 1) (gN x2))) (a0 + 2) (gN x2) ((gsI h (a0 + 1) (gN x2) (h.1 (a1 + 1) (gN x2))).1 (a1 + 2) (gN x2))) (a0 + 3) (gN x2) ((gsI (gsI h (a0 + 1) (gN x2) (h.1 (a1 + 1) (gN x2))) (a0 + 2) (gN x2) ((gsI h (a0 + 1) (gN x2) (h.1 (a1 + 1) (gN x2))).1 (a1 + 2) (gN x2))).1 (a1 + 3) (gN x2))) _ hF)
theorem fr_X5_copy_52 {P : Nat → Prop} {a0 : Nat} {a1 : Nat} (H_a0 : ∀ x : Nat, a0 ≤ x → x < a0 + 5 → P x)  : ∀ (n : Nat) (x2 : Int32) (h : gHp) (o : gHp), f_X5_copy_52 a0 a1 n x2 h = some o → gSame P h o := by
  intro n
  induction n with
  | zero => intro _ _ o hF; cases hF
  | succ n ih =>
    intro x2 h o hF
    rw [f_X5_copy_52] at hF
    by_cases c1 : 6 ≤ x2
    · replace hF := gPos c1 hF
      obtain rfl := Option.some.inj hF
      exact gSame.rf
    · replace hF := gNeg c1 hF
      obtain ⟨b2, hF⟩ := gGd hF
      have b2l := gIn_lt b2
      obtain ⟨b3, hF⟩ := gGd hF
      have b3l := gIn_lt b3
      exact gSame.tr (gSame.I gSame.rf (H_a0 (a0 + 4) (by omega) (by omega))) (ih (x2 + 1) (gsI h (a0 + 4) (gN x2) (h.1 (a1 + 4) (gN x2))) _ hF)
theorem fr_X5_copy {P : Nat → Prop} {a0 : Nat} {a1 : Nat} {h : gHp} (H_a0 : ∀ x : Nat, a0 ≤ x → x < a0 + 5 → P x)  {o : gHp} (hF : f_X5_copy a0 a1 h = some o) : gSame P h o := by
  rw [f_X5_copy] at hF
  obtain ⟨v7, hv1, hF⟩ := gBind hF
  have s_v7 : gSame P h v7 := gSame.tr gSame.rf (fr_X5_copy_2 (fun x q1 q2 => H_a0 x (by omega) (by omega)) gFuel 0 h _ hv1)
  obtain ⟨v12, hv2, hF⟩ := gBind hF
  have s_v12 : gSame P h v12 := gSame.tr s_v7 (fr_X5_copy_52 (fun x q1 q2 => H_a0 x (by omega) (by omega)) gFuel 0 v7 _ hv2)
  obtain rfl := Option.some.inj hF
  exact (gSame.I s_v12 (H_a0 (a0) (by omega) (by omega)))
theorem fr_X7_copy_2 {P : Nat → Prop} {a0 : Nat} {a1 : Nat} (H_a0 : ∀ x : Nat, a0 ≤ x → x < a0 + 4 → P x)  : ∀ (n : Nat) (x2 : Int32) (h : gHp) (o : gHp), f_X7_copy_2 a0 a1 n x2 h = some o → gSame P h o := by
  intro n
  induction n with
  | zero => intro _ _ o hF; cases hF
  | succ n ih =>
    intro x2 h o hF
    rw [f_X7_copy_2] at hF
    by_cases c1 : 20 ≤ x2
    · replace hF := gPos c1 hF
      obtain rfl := Option.some.inj hF
      exact gSame.rf
    · replace hF := gNeg c1 hF
      obtain ⟨b2, hF⟩ := gGd hF
      have b2l := gIn_lt b2
      obtain ⟨b3, hF⟩ := gGd hF
      have b3l := gIn_lt b3
      obtain ⟨b4, hF⟩ := gGd hF
      have b4l := gIn_lt b4
      obtain ⟨b5, hF⟩ := gGd hF
      have b5l := gIn_lt b5
      obtain ⟨b6, hF⟩ := gGd hF
      have b6l := gIn_lt b6
      obtain ⟨b7, hF⟩ := gGd hF
      have b7l := gIn_lt b7
      exact gSame.tr (gSame.I (gSame.L (gSame.L gSame.rf (H_a0 (a0 + 1) (by omega) (by omega))) (H_a0 (a0 + 2) (by omega) (by omega))) (H_a0 (a0 + 3) (by omega) (by omega))) (ih (x2 + 1) (gsI (gsL (gsL h (a0 + 1) (gN x2) (h.2 (a1 + 1) (gN x2))) (a0 + 2) (gN x2) ((gsL h (a0 + 1) (gN x2) (h.2 (a1 + 1) (gN x2))).2 (a1 + 2) (gN x2))) (a0 + 3) (gN x2) ((gsL (gsL h (a0 + 1) (gN x2) (h.2 (a1 + 1) (gN x2))) (a0 + 2) (gN x2) ((gsL h (a0 + 1) (gN x2) (h.2 (a1 + 1) (gN x2))).2 (a1 + 2) (gN x2))).1 (a1 + 3) (gN x2))) _ hF)
theorem fr_X7_copy {P : Nat → Prop} {a0 : Nat} {a1 : Nat} {h : gHp} (H_a0 : ∀ x : Nat, a0 ≤ x → x < a0 + 4 → P x)  {o : gHp} (hF : f_X7_copy a0 a1 h = some o) : gSame P h o := by
  rw [f_X7_copy] at hF
  obtain ⟨v7, hv1, hF⟩ := gBind hF
  have s_v7 : gSame P h v7 := gSame.tr gSame.rf (fr_X7_copy_2 (fun x q1 q2 => H_a0 x (by omega) (by omega)) gFuel 0 h _ hv1)
  obtain rfl := Option.some.inj hF
  exact (gSame.I s_v7 (H_a0 (a0) (by omega) (by omega)))
theorem fr_X5_clear_7 {P : Nat → Prop} {a0 : Nat} (H_a0 : ∀ x : Nat, a0 ≤ x → x < a0 + 5 → P x)  : ∀ (n : Nat) (x1 : Int32) (h : gHp) (o : gHp), f_X5_clear_7 a0 n x1 h = some o → gSame P h o := by
  intro n
  induction n with
  | zero => intro _ _ o hF; cases hF
  | succ n ih =>
    intro x1 h o hF
    rw [f_X5_clear_7] at hF
    by_cases c1 : 6 ≤ x1
    · replace hF := gPos c1 hF
      obtain rfl := Option.some.inj hF
      exact gSame.rf
    · replace hF := gNeg c1 hF
      obtain ⟨b2, hF⟩ := gGd hF
      have b2l := gIn_lt b2
      exact gSame.tr (gSame.I gSame.rf (H_a0 (a0 + 4) (by omega) (by omega))) (ih (x1 + 1) (gsI h (a0 + 4) (gN x1) (-1)) _ hF)
theorem fr_X5_clear {P : Nat → Prop} {a0 : Nat} {h : gHp} (H_a0 : ∀ x : Nat, a0 ≤ x → x < a0 + 5 → P x)  {o : gHp} (hF : f_X5_clear a0 h = some o) : gSame P h o := by
  rw [f_X5_clear] at hF
  obtain ⟨v2, hv1, hF⟩ := gBind hF
  have s_v2 : gSame P h v2 := gSame.tr (gSame.I gSame.rf (H_a0 (a0) (by omega) (by omega))) (fr_X5_clear_7 (fun x q1 q2 => H_a0 x (by omega) (by omega)) gFuel 0 (gsI h a0 4 0) _ hv1)
  obtain rfl := Option.some.inj hF
  exact s_v2
theorem fr_X5_addPart {P : Nat → Prop} {a0 : Nat} {x1 : Int32} {h : gHp} (H_a0 : ∀ x : Nat, a0 ≤ x → x < a0 + 5 → P x)  {o : Int32 × gHp} (hF : f_X5_addPart a0 x1 h = some o) : gSame P h o.2 := by
  rw [f_X5_addPart] at hF
  by_cases c1 : (h.1 a0 4) < 11
  · replace hF := gPos c1 hF
    obtain ⟨b2, hF⟩ := gGd hF
    have b2l := gIn_lt b2
    obtain ⟨b3, hF⟩ := gGd hF
    have b3l := gIn_lt b3
    obtain ⟨b4, hF⟩ := gGd hF
    have b4l := gIn_lt b4
    obtain rfl := Option.some.inj hF
    exact (gSame.I (gSame.I (gSame.I (gSame.I gSame.rf (H_a0 (a0 + 1) (by omega) (by omega))) (H_a0 (a0 + 2) (by omega) (by omega))) (H_a0 (a0 + 3) (by omega) (by omega))) (H_a0 (a0) (by omega) (by omega)))
  · replace hF := gNeg c1 hF
    obtain rfl := Option.some.inj hF
    exact gSame.rf
theorem fr_X5_join_19 {P : Nat → Prop} {a0 : Nat} {x1 : Int32} {x3 : Int32} (H_a0 : ∀ x : Nat, a0 ≤ x → x < a0 + 5 → P x)  : ∀ (n : Nat) (x4 : Int32) (h : gHp) (o : gHp), f_X5_join_19 a0 x1 x3 n x4 h = some o → gSame P h o := by
  intro n
  induction n with
  | zero => intro _ _ o hF; cases hF
  | succ n ih =>
    intro x4 h o hF
    rw [f_X5_join_19] at hF
    by_cases c1 : ((h.1 a0 4) - 1) ≤ x4
    · replace hF := gPos c1 hF
      obtain rfl := Option.some.inj hF
      exact gSame.rf
    · replace hF := gNeg c1 hF
      by_cases c2 : ((x1 >>> (x4 &&& 31)) &&& 1) = 1
      · replace hF := gPos c2 hF
        obtain ⟨b3, hF⟩ := gGd hF
        have b3l := gIn_lt b3
        exact gSame.tr (gSame.I gSame.rf (H_a0 (a0 + 2) (by omega) (by omega))) (ih (x4 + 1) (gsI h (a0 + 2) (gN x4) ((h.1 a0 4) - 1)) _ hF)
      · replace hF := gNeg c2 hF
        exact gSame.tr gSame.rf (ih (x4 + 1) h _ hF)
theorem fr_X5_join {P : Nat → Prop} {a0 : Nat} {x1 : Int32} {x2 : Int32} {h : gHp} (H_a0 : ∀ x : Nat, a0 ≤ x → x < a0 + 5 → P x)  {o : Int32 × gHp} (hF : f_X5_join a0 x1 x2 h = some o) : gSame P h o.2 := by
  rw [f_X5_join] at hF
  obtain ⟨v2, hv1, hF⟩ := gBind hF
  by_cases c2 : 2 ≤ v2
  · replace hF := gPos c2 hF
    obtain ⟨v4, hv3, hF⟩ := gBind hF
    have s_v4 : gSame P h v4.2 := gSame.tr gSame.rf (fr_X5_addPart (fun x q1 q2 => H_a0 x (by omega) (by omega)) hv3)
    obtain ⟨v6, hv4, hF⟩ := gBind hF
    have s_v6 : gSame P h v6 := gSame.tr s_v4 (fr_X5_join_19 (fun x q1 q2 => H_a0 x (by omega) (by omega)) gFuel 0 v4.2 _ hv4)
    obtain rfl := Option.some.inj hF
    exact s_v6
  · replace hF := gNeg c2 hF
    obtain rfl := Option.some.inj hF
    exact gSame.rf
theorem fr_X5_addArm {P : Nat → Prop} {a0 : Nat} {x1 : Int32} {h : gHp} (H_a0 : ∀ x : Nat, a0 ≤ x → x < a0 + 5 → P x)  {o : Int32 × gHp} (hF : f_X5_addArm a0 x1 h = some o) : gSame P h o.2 := by
  rw [f_X5_addArm] at hF
  obtain ⟨v2, hv1, hF⟩ := gBind hF
  have s_v2 : gSame P h v2.2 := gSame.tr gSame.rf (fr_X5_addPart (fun x q1 q2 => H_a0 x (by omega) (by omega)) hv1)
  by_cases c2 : v2.1 = 0
  · replace hF := gPos c2 hF
    obtain rfl := Option.some.inj hF
    exact s_v2
  · replace hF := gNeg c2 hF
    by_cases c3 : x1 < 0
    · replace hF := gPos c3 hF
      obtain rfl := Option.some.inj hF
      exact s_v2
    · replace hF := gNeg c3 hF
      by_cases c4 : 6 ≤ x1
      · replace hF := gPos c4 hF
        obtain rfl := Option.some.inj hF
        exact s_v2
      · replace hF := gNeg c4 hF
        obtain ⟨b5, hF⟩ := gGd hF
        have b5l := gIn_lt b5
        obtain ⟨b6, hF⟩ := gGd hF
        have b6l := gIn_lt b6
        obtain rfl := Option.some.inj hF
        exact (gSame.I (gSame.I s_v2 (H_a0 (a0 + 4) (by omega) (by omega))) (H_a0 (a0 + 3) (by omega) (by omega)))
theorem fr_X7_put {P : Nat → Prop} {a0 : Nat} {a1 : Nat} {x2 : Int32} {h : gHp} (H_a0 : ∀ x : Nat, a0 ≤ x → x < a0 + 4 → P x)  {o : Int32 × gHp} (hF : f_X7_put a0 a1 x2 h = some o) : gSame P h o.2 := by
  rw [f_X7_put] at hF
  obtain ⟨v1, hv1, hF⟩ := gBind hF
  have s_v1 : gSame P h v1.2 := by
    replace hF := hv1
    by_cases c2 : x2 = (-1)
    · replace hF := gPos c2 hF
      by_cases c3 : 20 ≤ (h.1 a0 3)
      · replace hF := gPos c3 hF
        obtain rfl := Option.some.inj hF
        exact gSame.rf
      · replace hF := gNeg c3 hF
        obtain ⟨b4, hF⟩ := gGd hF
        have b4l := gIn_lt b4
        obtain ⟨b5, hF⟩ := gGd hF
        have b5l := gIn_lt b5
        obtain ⟨b6, hF⟩ := gGd hF
        have b6l := gIn_lt b6
        obtain rfl := Option.some.inj hF
        exact (gSame.I (gSame.I (gSame.L (gSame.L gSame.rf (H_a0 (a0 + 1) (by omega) (by omega))) (H_a0 (a0 + 2) (by omega) (by omega))) (H_a0 (a0 + 3) (by omega) (by omega))) (H_a0 (a0) (by omega) (by omega)))
    · replace hF := gNeg c2 hF
      obtain rfl := Option.some.inj hF
      exact gSame.rf
  by_cases c7 : v1.1 < 0
  · replace hF := gPos c7 hF
    obtain rfl := Option.some.inj hF
    exact s_v1
  · replace hF := gNeg c7 hF
    by_cases c8 : v1.1 < (v1.2.1 a0 3)
    · replace hF := gPos c8 hF
      obtain ⟨b9, hF⟩ := gGd hF
      have b9l := gIn_lt b9
      obtain ⟨b10, hF⟩ := gGd hF
      have b10l := gIn_lt b10
      obtain ⟨b11, hF⟩ := gGd hF
      have b11l := gIn_lt b11
      obtain rfl := Option.some.inj hF
      exact (gSame.I s_v1 (H_a0 (a0 + 3) (by omega) (by omega)))
    · replace hF := gNeg c8 hF
      obtain rfl := Option.some.inj hF
      exact s_v1
theorem fr_X8_copy_24 {P : Nat → Prop} {a0 : Nat} {a1 : Nat} (H_a0 : ∀ x : Nat, a0 ≤ x → x < a0 + 13 → P x)  : ∀ (n : Nat) (x2 : Int32) (h : gHp) (o : gHp), f_X8_copy_24 a0 a1 n x2 h = some o → gSame P h o := by
  intro n
  induction n with
  | zero => intro _ _ o hF; cases hF
  | succ n ih =>
    intro x2 h o hF
    rw [f_X8_copy_24] at hF
    by_cases c1 : 6 ≤ x2
    · replace hF := gPos c1 hF
      obtain rfl := Option.some.inj hF
      exact gSame.rf
    · replace hF := gNeg c1 hF
      obtain ⟨b2, hF⟩ := gGd hF
      have b2l := gIn_lt b2
      obtain ⟨b3, hF⟩ := gGd hF
      have b3l := gIn_lt b3
      obtain ⟨b4, hF⟩ := gGd hF
      have b4l := gIn_lt b4
      obtain ⟨b5, hF⟩ := gGd hF
      have b5l := gIn_lt b5
      exact gSame.tr (gSame.I (gSame.I gSame.rf (H_a0 (a0 + 10) (by omega) (by omega))) (H_a0 (a0 + 11) (by omega) (by omega))) (ih (x2 + 1) (gsI (gsI h (a0 + 10) (gN x2) (h.1 (a1 + 10) (gN x2))) (a0 + 11) (gN x2) ((gsI h (a0 + 10) (gN x2) (h.1 (a1 + 10) (gN x2))).1 (a1 + 11) (gN x2))) _ hF)
theorem fr_X8_copy_62 {P : Nat → Prop} {a0 : Nat} {a1 : Nat} (H_a0 : ∀ x : Nat, a0 ≤ x → x < a0 + 13 → P x)  : ∀ (n : Nat) (x2 : Int32) (h : gHp) (o : gHp), f_X8_copy_62 a0 a1 n x2 h = some o → gSame P h o := by
  intro n
  induction n with
  | zero => intro _ _ o hF; cases hF
  | succ n ih =>
    intro x2 h o hF
    rw [f_X8_copy_62] at hF
    by_cases c1 : 11 ≤ x2
    · replace hF := gPos c1 hF
      obtain rfl := Option.some.inj hF
      exact gSame.rf
    · replace hF := gNeg c1 hF
      obtain ⟨b2, hF⟩ := gGd hF
      have b2l := gIn_lt b2
      obtain ⟨b3, hF⟩ := gGd hF
      have b3l := gIn_lt b3
      exact gSame.tr (gSame.I gSame.rf (H_a0 (a0 + 12) (by omega) (by omega))) (ih (x2 + 1) (gsI h (a0 + 12) (gN x2) (vp_nar .boolean (h.1 (a1 + 12) (gN x2)))) _ hF)
theorem fr_X8_copy {P : Nat → Prop} {a0 : Nat} {a1 : Nat} {h : gHp} (H_a0 : ∀ x : Nat, a0 ≤ x → x < a0 + 13 → P x)  {o : gHp} (hF : f_X8_copy a0 a1 h = some o) : gSame P h o := by
  rw [f_X8_copy] at hF
  obtain ⟨v2, hv1, hF⟩ := gBind hF
  have s_v2 : gSame P h v2 := gSame.tr gSame.rf (fr_X5_copy (fun x q1 q2 => H_a0 x (by omega) (by omega)) hv1)
  obtain ⟨v4, hv2, hF⟩ := gBind hF
  have s_v4 : gSame P h v4 := gSame.tr s_v2 (fr_X7_copy (fun x q1 q2 => H_a0 x (by omega) (by omega)) hv2)
  obtain ⟨v9, hv3, hF⟩ := gBind hF
  have s_v9 : gSame P h v9 := gSame.tr s_v4 (fr_X8_copy_24 (fun x q1 q2 => H_a0 x (by omega) (by omega)) gFuel 0 v4 _ hv3)
  obtain ⟨v14, hv4, hF⟩ := gBind hF
  have s_v14 : gSame P h v14 := gSame.tr s_v9 (fr_X8_copy_62 (fun x q1 q2 => H_a0 x (by omega) (by omega)) gFuel 0 v9 _ hv4)
  obtain rfl := Option.some.inj hF
  exact (gSame.I (gSame.I (gSame.I s_v14 (H_a0 (a0) (by omega) (by omega))) (H_a0 (a0) (by omega) (by omega))) (H_a0 (a0) (by omega) (by omega)))
theorem fr_X3_record {P : Nat → Prop} {a0 : Nat} {a1 : Nat} {h : gHp} (H_a0 : ∀ x : Nat, a0 ≤ x → x < a0 + 67 → P x)  {o : gHp} (hF : f_X3_record a0 a1 h = some o) : gSame P h o := by
  rw [f_X3_record] at hF
  obtain ⟨v1, hv1, hF⟩ := gBind hF
  have s_v1 : gSame P h v1 := by
    replace hF := hv1
    by_cases c2 : 5 ≤ (h.1 a0 2)
    · replace hF := gPos c2 hF
      obtain rfl := Option.some.inj hF
      exact (gSame.I gSame.rf (H_a0 (a0) (by omega) (by omega)))
    · replace hF := gNeg c2 hF
      obtain rfl := Option.some.inj hF
      exact (gSame.I gSame.rf (H_a0 (a0) (by omega) (by omega)))
  obtain ⟨b3, hF⟩ := gGd hF
  have b3l := gIn_lt b3
  obtain ⟨v6, hv4, hF⟩ := gBind hF
  have s_v6 : gSame P h v6 := gSame.tr s_v1 (fr_X8_copy (fun x q1 q2 => H_a0 x (by omega) (by omega)) hv4)
  obtain rfl := Option.some.inj hF
  exact s_v6
theorem fr_X8_unfoldEach_2 {P : Nat → Prop} {a0 : Nat} (H_a0 : ∀ x : Nat, a0 ≤ x → x < a0 + 13 → P x)  : ∀ (n : Nat) (x1 : Int32) (h : gHp) (o : gHp), f_X8_unfoldEach_2 a0 n x1 h = some o → gSame P h o := by
  intro n
  induction n with
  | zero => intro _ _ o hF; cases hF
  | succ n ih =>
    intro x1 h o hF
    rw [f_X8_unfoldEach_2] at hF
    by_cases c1 : (h.1 (a0 + 1) 4) ≤ x1
    · replace hF := gPos c1 hF
      obtain rfl := Option.some.inj hF
      exact gSame.rf
    · replace hF := gNeg c1 hF
      obtain ⟨b2, hF⟩ := gGd hF
      have b2l := gIn_lt b2
      by_cases c3 : (h.1 (a0 + 1 + 1) (gN x1)) = 0
      · replace hF := gPos c3 hF
        obtain ⟨b4, hF⟩ := gGd hF
        have b4l := gIn_lt b4
        exact gSame.tr (gSame.I gSame.rf (H_a0 (a0 + 12) (by omega) (by omega))) (ih (x1 + 1) (gsI h (a0 + 12) (gN x1) (vp_nar .boolean 1)) _ hF)
      · replace hF := gNeg c3 hF
        obtain ⟨b5, hF⟩ := gGd hF
        have b5l := gIn_lt b5
        exact gSame.tr (gSame.I gSame.rf (H_a0 (a0 + 12) (by omega) (by omega))) (ih (x1 + 1) (gsI h (a0 + 12) (gN x1) (vp_nar .boolean 0)) _ hF)
theorem fr_X8_unfoldEach {P : Nat → Prop} {a0 : Nat} {h : gHp} (H_a0 : ∀ x : Nat, a0 ≤ x → x < a0 + 13 → P x)  {o : gHp} (hF : f_X8_unfoldEach a0 h = some o) : gSame P h o := by
  rw [f_X8_unfoldEach] at hF
  obtain ⟨v4, hv1, hF⟩ := gBind hF
  have s_v4 : gSame P h v4 := gSame.tr gSame.rf (fr_X8_unfoldEach_2 (fun x q1 q2 => H_a0 x (by omega) (by omega)) gFuel 0 h _ hv1)
  obtain rfl := Option.some.inj hF
  exact s_v4
theorem fr_X8_resetArms_2 {P : Nat → Prop} {a0 : Nat} (H_a0 : ∀ x : Nat, a0 ≤ x → x < a0 + 13 → P x)  : ∀ (n : Nat) (x1 : Int32) (h : gHp) (o : gHp), f_X8_resetArms_2 a0 n x1 h = some o → gSame P h o := by
  intro n
  induction n with
  | zero => intro _ _ o hF; cases hF
  | succ n ih =>
    intro x1 h o hF
    rw [f_X8_resetArms_2] at hF
    by_cases c1 : 6 ≤ x1
    · replace hF := gPos c1 hF
      obtain rfl := Option.some.inj hF
      exact gSame.rf
    · replace hF := gNeg c1 hF
      obtain ⟨b2, hF⟩ := gGd hF
      have b2l := gIn_lt b2
      obtain ⟨b3, hF⟩ := gGd hF
      have b3l := gIn_lt b3
      exact gSame.tr (gSame.I (gSame.I gSame.rf (H_a0 (a0 + 10) (by omega) (by omega))) (H_a0 (a0 + 11) (by omega) (by omega))) (ih (x1 + 1) (gsI (gsI h (a0 + 10) (gN x1) 10) (a0 + 11) (gN x1) 0) _ hF)
theorem fr_X8_resetArms {P : Nat → Prop} {a0 : Nat} {h : gHp} (H_a0 : ∀ x : Nat, a0 ≤ x → x < a0 + 13 → P x)  {o : gHp} (hF : f_X8_resetArms a0 h = some o) : gSame P h o := by
  rw [f_X8_resetArms] at hF
  obtain ⟨v3, hv1, hF⟩ := gBind hF
  have s_v3 : gSame P h v3 := gSame.tr gSame.rf (fr_X8_resetArms_2 (fun x q1 q2 => H_a0 x (by omega) (by omega)) gFuel 0 h _ hv1)
  obtain ⟨v7, hv2, hF⟩ := gBind hF
  have s_v7 : gSame P h v7 := gSame.tr s_v3 (fr_X8_unfoldEach (fun x q1 q2 => H_a0 x (by omega) (by omega)) hv2)
  obtain rfl := Option.some.inj hF
  exact s_v7
theorem fr_X8_setArm {P : Nat → Prop} {a0 : Nat} {x1 : Int32} {x2 : Int32} {x3 : Int32} {h : gHp} (H_a0 : ∀ x : Nat, a0 ≤ x → x < a0 + 13 → P x)  {o : gHp} (hF : f_X8_setArm a0 x1 x2 x3 h = some o) : gSame P h o := by
  rw [f_X8_setArm] at hF
  obtain ⟨b1, hF⟩ := gGd hF
  have b1l := gIn_lt b1
  obtain ⟨b2, hF⟩ := gGd hF
  have b2l := gIn_lt b2
  obtain ⟨v4, hv3, hF⟩ := gBind hF
  have s_v4 : gSame P h v4 := gSame.tr (gSame.I (gSame.I gSame.rf (H_a0 (a0 + 10) (by omega) (by omega))) (H_a0 (a0 + 11) (by omega) (by omega))) (fr_X8_unfoldEach (fun x q1 q2 => H_a0 x (by omega) (by omega)) hv3)
  obtain rfl := Option.some.inj hF
  exact s_v4
theorem fr_X8_foldOne {P : Nat → Prop} {a0 : Nat} {x1 : Int32} {h : gHp} (H_a0 : ∀ x : Nat, a0 ≤ x → x < a0 + 13 → P x)  {o : gHp} (hF : f_X8_foldOne a0 x1 h = some o) : gSame P h o := by
  rw [f_X8_foldOne] at hF
  obtain ⟨b1, hF⟩ := gGd hF
  have b1l := gIn_lt b1
  obtain rfl := Option.some.inj hF
  exact (gSame.I (gSame.I gSame.rf (H_a0 (a0 + 12) (by omega) (by omega))) (H_a0 (a0) (by omega) (by omega)))
theorem fr_X8_unfoldFrom_14 {P : Nat → Prop} {a0 : Nat} {x2 : Int32} (H_a0 : ∀ x : Nat, a0 ≤ x → x < a0 + 13 → P x)  : ∀ (n : Nat) (x3 : Int32) (x4 : Int32) (h : gHp) (o : Int32 × gHp), f_X8_unfoldFrom_14 a0 x2 n x3 x4 h = some o → gSame P h o.2 := by
  intro n
  induction n with
  | zero => intro _ _ _ o hF; cases hF
  | succ n ih =>
    intro x3 x4 h o hF
    rw [f_X8_unfoldFrom_14] at hF
    by_cases c1 : (h.1 (a0 + 1) 4) ≤ x4
    · replace hF := gPos c1 hF
      obtain rfl := Option.some.inj hF
      exact gSame.rf
    · replace hF := gNeg c1 hF
      by_cases c2 : ((x2 >>> (x4 &&& 31)) &&& 1) = 1
      · replace hF := gPos c2 hF
        obtain ⟨b3, hF⟩ := gGd hF
        have b3l := gIn_lt b3
        by_cases c4 : (h.1 (a0 + 12) (gN x4)) = 0
        · replace hF := gPos c4 hF
          exact gSame.tr gSame.rf (ih x3 (x4 + 1) h _ hF)
        · replace hF := gNeg c4 hF
          obtain ⟨b5, hF⟩ := gGd hF
          have b5l := gIn_lt b5
          exact gSame.tr (gSame.I gSame.rf (H_a0 (a0 + 12) (by omega) (by omega))) (ih (x3 + 1) (x4 + 1) (gsI h (a0 + 12) (gN x4) (vp_nar .boolean 0)) _ hF)
      · replace hF := gNeg c2 hF
        exact gSame.tr gSame.rf (ih x3 (x4 + 1) h _ hF)
theorem fr_X8_unfoldFrom {P : Nat → Prop} {a0 : Nat} {x1 : Int32} {h : gHp} (H_a0 : ∀ x : Nat, a0 ≤ x → x < a0 + 13 → P x)  {o : Int32 × gHp} (hF : f_X8_unfoldFrom a0 x1 h = some o) : gSame P h o.2 := by
  rw [f_X8_unfoldFrom] at hF
  obtain ⟨v2, hv1, hF⟩ := gBind hF
  obtain ⟨v5, hv2, hF⟩ := gBind hF
  have s_v5 : gSame P h v5.2 := gSame.tr gSame.rf (fr_X8_unfoldFrom_14 (fun x q1 q2 => H_a0 x (by omega) (by omega)) gFuel 0 0 h _ hv2)
  obtain rfl := Option.some.inj hF
  exact s_v5
theorem fr_X3_giveBack {P : Nat → Prop} {a0 : Nat} {a1 : Nat} {h : gHp} (H_a0 : ∀ x : Nat, a0 ≤ x → x < a0 + 67 → P x) (H_a1 : ∀ x : Nat, a1 ≤ x → x < a1 + 13 → P x)  {o : gHp} (hF : f_X3_giveBack a0 a1 h = some o) : gSame P h o := by
  rw [f_X3_giveBack] at hF
  by_cases c1 : (h.1 a0 2) ≤ 0
  · replace hF := gPos c1 hF
    obtain rfl := Option.some.inj hF
    exact gSame.rf
  · replace hF := gNeg c1 hF
    obtain ⟨b2, hF⟩ := gGd hF
    have b2l := gIn_lt b2
    obtain ⟨v3, hv3, hF⟩ := gBind hF
    have s_v3 : gSame P h v3 := gSame.tr gSame.rf (fr_X8_copy (fun x q1 q2 => H_a1 x (by omega) (by omega)) hv3)
    obtain rfl := Option.some.inj hF
    exact (gSame.I s_v3 (H_a0 (a0) (by omega) (by omega)))
theorem fr_X6_clearDepth {P : Nat → Prop} {a0 : Nat} {h : gHp} (H_a0 : ∀ x : Nat, a0 ≤ x → x < a0 + 3 → P x)  {o : gHp} (hF : f_X6_clearDepth a0 h = some o) : gSame P h o := by
  rw [f_X6_clearDepth] at hF
  obtain ⟨b1, hF⟩ := gGd hF
  have b1l := gIn_lt b1
  obtain ⟨b2, hF⟩ := gGd hF
  have b2l := gIn_lt b2
  obtain rfl := Option.some.inj hF
  exact (gSame.I (gSame.I gSame.rf (H_a0 (a0 + 1) (by omega) (by omega))) (H_a0 (a0 + 2) (by omega) (by omega)))
theorem fr_X6_endLink {P : Nat → Prop} {a0 : Nat} {a1 : Nat} {h : gHp} (H_a0 : ∀ x : Nat, a0 ≤ x → x < a0 + 3 → P x) (H_a1 : ∀ x : Nat, a1 ≤ x → x < a1 + 5 → P x)  {o : gHp} (hF : f_X6_endLink a0 a1 h = some o) : gSame P h o := by
  rw [f_X6_endLink] at hF
  obtain ⟨b1, hF⟩ := gGd hF
  have b1l := gIn_lt b1
  obtain ⟨b2, hF⟩ := gGd hF
  have b2l := gIn_lt b2
  obtain ⟨v4, hv3, hF⟩ := gBind hF
  have s_v4 : gSame P h v4.2 := gSame.tr gSame.rf (fr_X5_join (fun x q1 q2 => H_a1 x (by omega) (by omega)) hv3)
  obtain ⟨b4, hF⟩ := gGd hF
  have b4l := gIn_lt b4
  obtain ⟨b5, hF⟩ := gGd hF
  have b5l := gIn_lt b5
  obtain rfl := Option.some.inj hF
  exact (gSame.I (gSame.I s_v4 (H_a0 (a0 + 2) (by omega) (by omega))) (H_a0 (a0 + 1) (by omega) (by omega)))
theorem fr_X6_endChain {P : Nat → Prop} {a0 : Nat} {a1 : Nat} {h : gHp} (H_a0 : ∀ x : Nat, a0 ≤ x → x < a0 + 3 → P x) (H_a1 : ∀ x : Nat, a1 ≤ x → x < a1 + 5 → P x)  {o : Int32 × gHp} (hF : f_X6_endChain a0 a1 h = some o) : gSame P h o.2 := by
  rw [f_X6_endChain] at hF
  obtain ⟨v2, hv1, hF⟩ := gBind hF
  have s_v2 : gSame P h v2 := gSame.tr gSame.rf (fr_X6_endLink (fun x q1 q2 => H_a0 x (by omega) (by omega)) (fun x q1 q2 => H_a1 x (by omega) (by omega)) hv1)
  obtain ⟨b2, hF⟩ := gGd hF
  have b2l := gIn_lt b2
  obtain ⟨v5, hv3, hF⟩ := gBind hF
  have s_v5 : gSame P h v5.2 := gSame.tr s_v2 (fr_X5_join (fun x q1 q2 => H_a1 x (by omega) (by omega)) hv3)
  obtain rfl := Option.some.inj hF
  exact s_v5
theorem fr_X6_take {P : Nat → Prop} {a0 : Nat} {x1 : Int32} {a2 : Nat} {h : gHp} (H_a0 : ∀ x : Nat, a0 ≤ x → x < a0 + 3 → P x) (H_a2 : ∀ x : Nat, a2 ≤ x → x < a2 + 5 → P x)  {o : gHp} (hF : f_X6_take a0 x1 a2 h = some o) : gSame P h o := by
  rw [f_X6_take] at hF
  by_cases c1 : x1 = 40
  · replace hF := gPos c1 hF
    by_cases c2 : 40 ≤ (h.1 a0 2)
    · replace hF := gPos c2 hF
      obtain rfl := Option.some.inj hF
      exact gSame.rf
    · replace hF := gNeg c2 hF
      obtain ⟨v14, hv3, hF⟩ := gBind hF
      have s_v14 : gSame P h v14 := gSame.tr (gSame.I gSame.rf (H_a0 (a0) (by omega) (by omega))) (fr_X6_clearDepth (fun x q1 q2 => H_a0 x (by omega) (by omega)) hv3)
      obtain rfl := Option.some.inj hF
      exact s_v14
  · replace hF := gNeg c1 hF
    by_cases c4 : x1 = 41
    · replace hF := gPos c4 hF
      obtain ⟨v10, hv5, hF⟩ := gBind hF
      have s_v10 : gSame P h v10.2 := gSame.tr gSame.rf (fr_X6_endChain (fun x q1 q2 => H_a0 x (by omega) (by omega)) (fun x q1 q2 => H_a2 x (by omega) (by omega)) hv5)
      by_cases c6 : (v10.2.1 a0 2) ≤ 0
      · replace hF := gPos c6 hF
        obtain rfl := Option.some.inj hF
        exact s_v10
      · replace hF := gNeg c6 hF
        obtain ⟨b7, hF⟩ := gGd hF
        have b7l := gIn_lt b7
        obtain ⟨b8, hF⟩ := gGd hF
        have b8l := gIn_lt b8
        obtain rfl := Option.some.inj hF
        exact (gSame.I (gSame.I s_v10 (H_a0 (a0) (by omega) (by omega))) (H_a0 (a0 + 1) (by omega) (by omega)))
    · replace hF := gNeg c4 hF
      by_cases c9 : x1 = 43
      · replace hF := gPos c9 hF
        obtain ⟨v8, hv10, hF⟩ := gBind hF
        have s_v8 : gSame P h v8 := gSame.tr gSame.rf (fr_X6_endLink (fun x q1 q2 => H_a0 x (by omega) (by omega)) (fun x q1 q2 => H_a2 x (by omega) (by omega)) hv10)
        obtain rfl := Option.some.inj hF
        exact s_v8
      · replace hF := gNeg c9 hF
        by_cases c11 : x1 = 124
        · replace hF := gPos c11 hF
          obtain rfl := Option.some.inj hF
          exact gSame.rf
        · replace hF := gNeg c11 hF
          obtain ⟨b12, hF⟩ := gGd hF
          have b12l := gIn_lt b12
          obtain ⟨v3, hv13, hF⟩ := gBind hF
          obtain ⟨v5, hv14, hF⟩ := gBind hF
          have s_v5 : gSame P h v5.2 := gSame.tr gSame.rf (fr_X5_addArm (fun x q1 q2 => H_a2 x (by omega) (by omega)) hv14)
          obtain ⟨b15, hF⟩ := gGd hF
          have b15l := gIn_lt b15
          obtain rfl := Option.some.inj hF
          exact (gSame.I s_v5 (H_a0 (a0 + 1) (by omega) (by omega)))
theorem fr_X6_build_15 {P : Nat → Prop} {a0 : Nat} {a1 : Nat} {a2 : Nat} (H_a0 : ∀ x : Nat, a0 ≤ x → x < a0 + 3 → P x) (H_a2 : ∀ x : Nat, a2 ≤ x → x < a2 + 5 → P x)  : ∀ (n : Nat) (x3 : Int32) (h : gHp) (o : gHp), f_X6_build_15 a0 a1 a2 n x3 h = some o → gSame P h o := by
  intro n
  induction n with
  | zero => intro _ _ o hF; cases hF
  | succ n ih =>
    intro x3 h o hF
    rw [f_X6_build_15] at hF
    by_cases c1 : (h.1 a1 1) ≤ x3
    · replace hF := gPos c1 hF
      obtain rfl := Option.some.inj hF
      exact gSame.rf
    · replace hF := gNeg c1 hF
      obtain ⟨b2, hF⟩ := gGd hF
      have b2l := gIn_lt b2
      obtain ⟨v7, hv3, hF⟩ := gBind hF
      have s_v7 : gSame P h v7 := gSame.tr gSame.rf (fr_X6_take (fun x q1 q2 => H_a0 x (by omega) (by omega)) (fun x q1 q2 => H_a2 x (by omega) (by omega)) hv3)
      exact gSame.tr s_v7 (ih (x3 + 1) v7 _ hF)
theorem fr_X6_build {P : Nat → Prop} {a0 : Nat} {a1 : Nat} {a2 : Nat} {h : gHp} (H_a0 : ∀ x : Nat, a0 ≤ x → x < a0 + 3 → P x) (H_a2 : ∀ x : Nat, a2 ≤ x → x < a2 + 5 → P x)  {o : gHp} (hF : f_X6_build a0 a1 a2 h = some o) : gSame P h o := by
  rw [f_X6_build] at hF
  obtain ⟨v2, hv1, hF⟩ := gBind hF
  have s_v2 : gSame P h v2 := gSame.tr gSame.rf (fr_X5_clear (fun x q1 q2 => H_a2 x (by omega) (by omega)) hv1)
  obtain ⟨v4, hv2, hF⟩ := gBind hF
  have s_v4 : gSame P h v4 := gSame.tr (gSame.I s_v2 (H_a0 (a0) (by omega) (by omega))) (fr_X6_clearDepth (fun x q1 q2 => H_a0 x (by omega) (by omega)) hv2)
  obtain ⟨v8, hv3, hF⟩ := gBind hF
  have s_v8 : gSame P h v8 := gSame.tr s_v4 (fr_X6_build_15 (fun x q1 q2 => H_a0 x (by omega) (by omega)) (fun x q1 q2 => H_a2 x (by omega) (by omega)) gFuel 0 v4 _ hv3)
  obtain ⟨v12, hv4, hF⟩ := gBind hF
  have s_v12 : gSame P h v12.2 := gSame.tr s_v8 (fr_X6_endChain (fun x q1 q2 => H_a0 x (by omega) (by omega)) (fun x q1 q2 => H_a2 x (by omega) (by omega)) hv4)
  obtain rfl := Option.some.inj hF
  exact s_v12
theorem fr_X1_read_150 {P : Nat → Prop} {a1 : Nat} {x2 : Int32} {h : gHp}   {o : Int32 × gHp} (hF : f_X1_read_150 a1 x2 h = some o) : gSame P h o.2 := by
  rw [f_X1_read_150] at hF
  by_cases c1 : (h.1 a1 1) ≤ x2
  · replace hF := gPos c1 hF
    obtain rfl := Option.some.inj hF
    exact gSame.rf
  · replace hF := gNeg c1 hF
    obtain rfl := Option.some.inj hF
    exact gSame.rf
theorem fr_X1_read_83 {P : Nat → Prop} {a0 : Nat} {a1 : Nat} {x2 : Int32} {h : gHp} (H_a0 : ∀ x : Nat, a0 ≤ x → x < a0 + 1 → P x)  {o : Int32 × gHp} (hF : f_X1_read_83 a0 a1 x2 h = some o) : gSame P h o.2 := by
  rw [f_X1_read_83] at hF
  obtain ⟨v8, hv1, hF⟩ := gBind hF
  by_cases c2 : v8 = true
  · replace hF := gPos c2 hF
    obtain ⟨v10, hv3, hF⟩ := gBind hF
    obtain ⟨v12, hv4, hF⟩ := gBind hF
    by_cases c5 : ((gsI h a0 1 v12).1 a0 1) < 1
    · replace hF := gPos c5 hF
      obtain rfl := Option.some.inj hF
      exact (gSame.I gSame.rf (H_a0 (a0) (by omega) (by omega)))
    · replace hF := gNeg c5 hF
      obtain ⟨v13, hv6, hF⟩ := gBind hF
      by_cases c7 : ((gsI h a0 1 v12).1 a0 1) ≤ v13
      · replace hF := gPos c7 hF
        exact gSame.tr (gSame.I gSame.rf (H_a0 (a0) (by omega) (by omega))) (fr_X1_read_150  hF)
      · replace hF := gNeg c7 hF
        obtain rfl := Option.some.inj hF
        exact (gSame.I gSame.rf (H_a0 (a0) (by omega) (by omega)))
  · replace hF := gNeg c2 hF
    exact gSame.tr gSame.rf (fr_X1_read_150  hF)
theorem fr_X1_read {P : Nat → Prop} {a0 : Nat} {a1 : Nat} {h : gHp} (H_a0 : ∀ x : Nat, a0 ≤ x → x < a0 + 1 → P x)  {o : Int32 × gHp} (hF : f_X1_read a0 a1 h = some o) : gSame P h o.2 := by
  rw [f_X1_read] at hF
  obtain ⟨v2, hv1, hF⟩ := gBind hF
  obtain ⟨v4, hv2, hF⟩ := gBind hF
  by_cases c3 : ((gsI h a0 0 v4).1 a0 0) = (-1)
  · replace hF := gPos c3 hF
    obtain rfl := Option.some.inj hF
    exact (gSame.I gSame.rf (H_a0 (a0) (by omega) (by omega)))
  · replace hF := gNeg c3 hF
    obtain ⟨v6, hv4, hF⟩ := gBind hF
    by_cases c5 : v6 = true
    · replace hF := gPos c5 hF
      obtain ⟨v17, hv6, hF⟩ := gBind hF
      obtain ⟨v18, hv7, hF⟩ := gBind hF
      by_cases c8 : ((gsI (gsI h a0 0 v4) a0 2 v18).1 a0 2) = (-1)
      · replace hF := gPos c8 hF
        obtain rfl := Option.some.inj hF
        exact (gSame.I (gSame.I gSame.rf (H_a0 (a0) (by omega) (by omega))) (H_a0 (a0) (by omega) (by omega)))
      · replace hF := gNeg c8 hF
        exact gSame.tr (gSame.I (gSame.I gSame.rf (H_a0 (a0) (by omega) (by omega))) (H_a0 (a0) (by omega) (by omega))) (fr_X1_read_83 (fun x q1 q2 => H_a0 x (by omega) (by omega)) hF)
    · replace hF := gNeg c5 hF
      exact gSame.tr (gSame.I gSame.rf (H_a0 (a0) (by omega) (by omega))) (fr_X1_read_83 (fun x q1 q2 => H_a0 x (by omega) (by omega)) hF)
theorem fr_X1_changeIn {P : Nat → Prop} {a0 : Nat} {a1 : Nat} {h : gHp} (H_a1 : ∀ x : Nat, a1 ≤ x → x < a1 + 13 → P x)  {o : gHp} (hF : f_X1_changeIn a0 a1 h = some o) : gSame P h o := by
  rw [f_X1_changeIn] at hF
  by_cases c1 : (h.1 a0 0) = 0
  · replace hF := gPos c1 hF
    obtain ⟨b2, hF⟩ := gGd hF
    have b2l := gIn_lt b2
    obtain ⟨v3, hv3, hF⟩ := gBind hF
    have s_v3 : gSame P h v3 := gSame.tr gSame.rf (fr_X8_setArm (fun x q1 q2 => H_a1 x (by omega) (by omega)) hv3)
    obtain rfl := Option.some.inj hF
    exact s_v3
  · replace hF := gNeg c1 hF
    by_cases c4 : (h.1 a0 0) = 1
    · replace hF := gPos c4 hF
      obtain ⟨b5, hF⟩ := gGd hF
      have b5l := gIn_lt b5
      obtain ⟨v6, hv6, hF⟩ := gBind hF
      have s_v6 : gSame P h v6 := gSame.tr gSame.rf (fr_X8_setArm (fun x q1 q2 => H_a1 x (by omega) (by omega)) hv6)
      obtain rfl := Option.some.inj hF
      exact s_v6
    · replace hF := gNeg c4 hF
      by_cases c7 : (h.1 a0 0) = 2
      · replace hF := gPos c7 hF
        obtain ⟨b8, hF⟩ := gGd hF
        have b8l := gIn_lt b8
        obtain ⟨v9, hv9, hF⟩ := gBind hF
        have s_v9 : gSame P h v9 := gSame.tr gSame.rf (fr_X8_setArm (fun x q1 q2 => H_a1 x (by omega) (by omega)) hv9)
        obtain rfl := Option.some.inj hF
        exact s_v9
      · replace hF := gNeg c7 hF
        by_cases c10 : (h.1 a0 0) = 3
        · replace hF := gPos c10 hF
          obtain ⟨b11, hF⟩ := gGd hF
          have b11l := gIn_lt b11
          obtain ⟨v12, hv12, hF⟩ := gBind hF
          have s_v12 : gSame P h v12 := gSame.tr gSame.rf (fr_X8_setArm (fun x q1 q2 => H_a1 x (by omega) (by omega)) hv12)
          obtain rfl := Option.some.inj hF
          exact s_v12
        · replace hF := gNeg c10 hF
          by_cases c13 : (h.1 a0 0) = 4
          · replace hF := gPos c13 hF
            obtain rfl := Option.some.inj hF
            exact (gSame.I gSame.rf (H_a1 (a1) (by omega) (by omega)))
          · replace hF := gNeg c13 hF
            obtain rfl := Option.some.inj hF
            exact (gSame.I gSame.rf (H_a1 (a1) (by omega) (by omega)))
theorem fr_X0_putArm {P : Nat → Prop} {a0 : Nat} {a1 : Nat} {x2 : Int32} {h : gHp} (H_a0 : ∀ x : Nat, a0 ≤ x → x < a0 + 28 → P x)  {o : gHp} (hF : f_X0_putArm a0 a1 x2 h = some o) : gSame P h o := by
  rw [f_X0_putArm] at hF
  obtain ⟨b1, hF⟩ := gGd hF
  have b1l := gIn_lt b1
  by_cases c2 : (h.1 (a1 + 1 + 3) (gN x2)) < 0
  · replace hF := gPos c2 hF
    obtain rfl := Option.some.inj hF
    exact gSame.rf
  · replace hF := gNeg c2 hF
    by_cases c3 : (h.1 (a1 + 1 + 3) (gN x2)) < 6
    · replace hF := gPos c3 hF
      obtain ⟨b4, hF⟩ := gGd hF
      have b4l := gIn_lt b4
      by_cases c5 : (h.1 (a1 + 11) (gN (h.1 (a1 + 1 + 3) (gN x2)))) = 0
      · replace hF := gPos c5 hF
        obtain ⟨b6, hF⟩ := gGd hF
        have b6l := gIn_lt b6
        obtain ⟨b7, hF⟩ := gGd hF
        have b7l := gIn_lt b7
        obtain ⟨v13, hv8, hF⟩ := gBind hF
        have s_v13 : gSame P h v13 := gSame.tr gSame.rf (fr_X2_put (fun x q1 q2 => H_a0 x (by omega) (by omega)) hv8)
        obtain rfl := Option.some.inj hF
        exact s_v13
      · replace hF := gNeg c5 hF
        obtain ⟨b9, hF⟩ := gGd hF
        have b9l := gIn_lt b9
        by_cases c10 : (h.1 (a1 + 11) (gN (h.1 (a1 + 1 + 3) (gN x2)))) = 1
        · replace hF := gPos c10 hF
          obtain ⟨b11, hF⟩ := gGd hF
          have b11l := gIn_lt b11
          obtain ⟨v9, hv12, hF⟩ := gBind hF
          have s_v9 : gSame P h v9 := gSame.tr gSame.rf (fr_X2_put (fun x q1 q2 => H_a0 x (by omega) (by omega)) hv12)
          obtain rfl := Option.some.inj hF
          exact s_v9
        · replace hF := gNeg c10 hF
          obtain ⟨b13, hF⟩ := gGd hF
          have b13l := gIn_lt b13
          obtain ⟨v6, hv14, hF⟩ := gBind hF
          have s_v6 : gSame P h v6 := gSame.tr gSame.rf (fr_X2_put (fun x q1 q2 => H_a0 x (by omega) (by omega)) hv14)
          obtain rfl := Option.some.inj hF
          exact s_v6
    · replace hF := gNeg c3 hF
      obtain rfl := Option.some.inj hF
      exact gSame.rf
theorem fr_X0_addUp_12 {P : Nat → Prop} {a0 : Nat} {a1 : Nat} {x2 : Int32} {x3 : Int32} (H_a0 : ∀ x : Nat, a0 ≤ x → x < a0 + 28 → P x)  : ∀ (n : Nat) (x4 : Int32) (h : gHp) (o : gHp), f_X0_addUp_12 a0 a1 x2 x3 n x4 h = some o → gSame P h o := by
  intro n
  induction n with
  | zero => intro _ _ o hF; cases hF
  | succ n ih =>
    intro x4 h o hF
    rw [f_X0_addUp_12] at hF
    by_cases c1 : x2 ≤ x4
    · replace hF := gPos c1 hF
      obtain rfl := Option.some.inj hF
      exact gSame.rf
    · replace hF := gNeg c1 hF
      obtain ⟨b2, hF⟩ := gGd hF
      have b2l := gIn_lt b2
      by_cases c3 : (h.1 (a1 + 2) (gN x4)) = x2
      · replace hF := gPos c3 hF
        by_cases c4 : x4 = x3
        · replace hF := gPos c4 hF
          exact gSame.tr gSame.rf (ih (x4 + 1) h _ hF)
        · replace hF := gNeg c4 hF
          obtain ⟨b5, hF⟩ := gGd hF
          have b5l := gIn_lt b5
          obtain ⟨v6, hv6, hF⟩ := gBind hF
          have s_v6 : gSame P h v6 := gSame.tr gSame.rf (fr_X2_copy (fun x q1 q2 => H_a0 x (by omega) (by omega)) hv6)
          obtain ⟨v8, hv7, hF⟩ := gBind hF
          obtain ⟨v9, hv8, hF⟩ := gBind hF
          have s_v9 : gSame P h v9 := by
            replace hF := hv8
            by_cases c9 : v8 = true
            · replace hF := gPos c9 hF
              obtain ⟨v15, hv10, hF⟩ := gBind hF
              have s_v15 : gSame P h v15 := gSame.tr s_v6 (fr_X2_invert (fun x q1 q2 => H_a0 x (by omega) (by omega)) hv10)
              obtain rfl := Option.some.inj hF
              exact s_v15
            · replace hF := gNeg c9 hF
              obtain rfl := Option.some.inj hF
              exact s_v6
          obtain ⟨v13, hv11, hF⟩ := gBind hF
          have s_v13 : gSame P h v13 := gSame.tr s_v9 (fr_X2_add (fun x q1 q2 => H_a0 x (by omega) (by omega)) hv11)
          exact gSame.tr s_v13 (ih (x4 + 1) v13 _ hF)
      · replace hF := gNeg c3 hF
        exact gSame.tr gSame.rf (ih (x4 + 1) h _ hF)
theorem fr_X0_addUp {P : Nat → Prop} {a0 : Nat} {a1 : Nat} {x2 : Int32} {x3 : Int32} {h : gHp} (H_a0 : ∀ x : Nat, a0 ≤ x → x < a0 + 28 → P x)  {o : gHp} (hF : f_X0_addUp a0 a1 x2 x3 h = some o) : gSame P h o := by
  rw [f_X0_addUp] at hF
  obtain ⟨v2, hv1, hF⟩ := gBind hF
  have s_v2 : gSame P h v2 := gSame.tr gSame.rf (fr_X2_put (fun x q1 q2 => H_a0 x (by omega) (by omega)) hv1)
  obtain ⟨v16, hv2, hF⟩ := gBind hF
  have s_v16 : gSame P h v16 := gSame.tr s_v2 (fr_X0_addUp_12 (fun x q1 q2 => H_a0 x (by omega) (by omega)) gFuel 0 v2 _ hv2)
  obtain rfl := Option.some.inj hF
  exact s_v16
theorem fr_X0_addMeter {P : Nat → Prop} {a0 : Nat} {a1 : Nat} {x2 : Int32} {h : gHp} (H_a0 : ∀ x : Nat, a0 ≤ x → x < a0 + 28 → P x) (H_a1 : ∀ x : Nat, a1 ≤ x → x < a1 + 1 → P x)  {o : gHp} (hF : f_X0_addMeter a0 a1 x2 h = some o) : gSame P h o := by
  rw [f_X0_addMeter] at hF
  obtain ⟨v2, hv1, hF⟩ := gBind hF
  have s_v2 : gSame P h v2 := gSame.tr gSame.rf (fr_X2_put (fun x q1 q2 => H_a0 x (by omega) (by omega)) hv1)
  obtain ⟨v4, hv2, hF⟩ := gBind hF
  have s_v4 : gSame P h v4 := gSame.tr s_v2 (fr_X2_invert (fun x q1 q2 => H_a1 x (by omega) (by omega)) hv2)
  obtain ⟨v6, hv3, hF⟩ := gBind hF
  have s_v6 : gSame P h v6 := gSame.tr s_v4 (fr_X2_add (fun x q1 q2 => H_a1 x (by omega) (by omega)) hv3)
  obtain ⟨v8, hv4, hF⟩ := gBind hF
  have s_v8 : gSame P h v8 := gSame.tr s_v6 (fr_X2_invert (fun x q1 q2 => H_a1 x (by omega) (by omega)) hv4)
  obtain rfl := Option.some.inj hF
  exact s_v8
theorem fr_X0_findOhms_8 {P : Nat → Prop} {a0 : Nat} {a1 : Nat} {x2 : Int32} {a3 : Nat} (H_a0 : ∀ x : Nat, a0 ≤ x → x < a0 + 28 → P x)  : ∀ (n : Nat) (x4 : Int32) (h : gHp) (o : gHp), f_X0_findOhms_8 a0 a1 x2 a3 n x4 h = some o → gSame P h o := by
  intro n
  induction n with
  | zero => intro _ _ o hF; cases hF
  | succ n ih =>
    intro x4 h o hF
    rw [f_X0_findOhms_8] at hF
    by_cases c1 : (h.1 a3 4) ≤ x4
    · replace hF := gPos c1 hF
      obtain rfl := Option.some.inj hF
      exact gSame.rf
    · replace hF := gNeg c1 hF
      obtain ⟨v2, hv2, hF⟩ := gBind hF
      obtain ⟨v3, hv3, hF⟩ := gBind hF
      have s_v3 : gSame P h v3 := by
        replace hF := hv3
        by_cases c4 : v2 = true
        · replace hF := gPos c4 hF
          obtain ⟨v20, hv5, hF⟩ := gBind hF
          have s_v20 : gSame P h v20 := gSame.tr gSame.rf (fr_X0_putArm (fun x q1 q2 => H_a0 x (by omega) (by omega)) hv5)
          obtain rfl := Option.some.inj hF
          exact s_v20
        · replace hF := gNeg c4 hF
          obtain ⟨v10, hv6, hF⟩ := gBind hF
          have s_v10 : gSame P h v10 := gSame.tr gSame.rf (fr_X0_addUp (fun x q1 q2 => H_a0 x (by omega) (by omega)) hv6)
          obtain ⟨b7, hF⟩ := gGd hF
          have b7l := gIn_lt b7
          obtain ⟨v13, hv8, hF⟩ := gBind hF
          have s_v13 : gSame P h v13 := gSame.tr s_v10 (fr_X2_copy (fun x q1 q2 => H_a0 x (by omega) (by omega)) hv8)
          obtain ⟨v15, hv9, hF⟩ := gBind hF
          by_cases c10 : v15 = true
          · replace hF := gPos c10 hF
            obtain ⟨b11, hF⟩ := gGd hF
            have b11l := gIn_lt b11
            obtain ⟨v18, hv12, hF⟩ := gBind hF
            have s_v18 : gSame P h v18 := gSame.tr s_v13 (fr_X2_invert (fun x q1 q2 => H_a0 x (by omega) (by omega)) hv12)
            obtain rfl := Option.some.inj hF
            exact s_v18
          · replace hF := gNeg c10 hF
            obtain rfl := Option.some.inj hF
            exact s_v13
      by_cases c13 : x4 = x2
      · replace hF := gPos c13 hF
        obtain ⟨b14, hF⟩ := gGd hF
        have b14l := gIn_lt b14
        obtain ⟨v8, hv15, hF⟩ := gBind hF
        have s_v8 : gSame P h v8 := gSame.tr s_v3 (fr_X0_addMeter (fun x q1 q2 => H_a0 x (by omega) (by omega)) (fun x q1 q2 => H_a0 x (by omega) (by omega)) hv15)
        exact gSame.tr s_v8 (ih (x4 + 1) v8 _ hF)
      · replace hF := gNeg c13 hF
        exact gSame.tr s_v3 (ih (x4 + 1) v3 _ hF)
theorem fr_X0_findOhms {P : Nat → Prop} {a0 : Nat} {a1 : Nat} {x2 : Int32} {h : gHp} (H_a0 : ∀ x : Nat, a0 ≤ x → x < a0 + 28 → P x)  {o : gHp} (hF : f_X0_findOhms a0 a1 x2 h = some o) : gSame P h o := by
  rw [f_X0_findOhms] at hF
  obtain ⟨v21, hv1, hF⟩ := gBind hF
  have s_v21 : gSame P h v21 := gSame.tr gSame.rf (fr_X0_findOhms_8 (fun x q1 q2 => H_a0 x (by omega) (by omega)) gFuel 0 h _ hv1)
  obtain rfl := Option.some.inj hF
  exact s_v21
theorem fr_X0_divideVolts_48 {P : Nat → Prop} {a0 : Nat} {x3 : Int32} {h : gHp} (H_a0 : ∀ x : Nat, a0 ≤ x → x < a0 + 28 → P x)  {o : gHp} (hF : f_X0_divideVolts_48 a0 x3 h = some o) : gSame P h o := by
  rw [f_X0_divideVolts_48] at hF
  obtain ⟨b1, hF⟩ := gGd hF
  have b1l := gIn_lt b1
  obtain ⟨v9, hv2, hF⟩ := gBind hF
  have s_v9 : gSame P h v9 := gSame.tr gSame.rf (fr_X2_put (fun x q1 q2 => H_a0 x (by omega) (by omega)) hv2)
  obtain rfl := Option.some.inj hF
  exact s_v9
theorem fr_X0_divideVolts {P : Nat → Prop} {a0 : Nat} {a1 : Nat} {x2 : Int32} {x3 : Int32} {h : gHp} (H_a0 : ∀ x : Nat, a0 ≤ x → x < a0 + 28 → P x)  {o : gHp} (hF : f_X0_divideVolts a0 a1 x2 x3 h = some o) : gSame P h o := by
  rw [f_X0_divideVolts] at hF
  obtain ⟨b1, hF⟩ := gGd hF
  have b1l := gIn_lt b1
  obtain ⟨v3, hv2, hF⟩ := gBind hF
  obtain ⟨v4, hv3, hF⟩ := gBind hF
  by_cases c4 : v4 = 0
  · replace hF := gPos c4 hF
    obtain ⟨b5, hF⟩ := gGd hF
    have b5l := gIn_lt b5
    obtain ⟨v12, hv6, hF⟩ := gBind hF
    by_cases c7 : v12 = true
    · replace hF := gPos c7 hF
      exact gSame.tr gSame.rf (fr_X0_divideVolts_48 (fun x q1 q2 => H_a0 x (by omega) (by omega)) hF)
    · replace hF := gNeg c7 hF
      obtain ⟨b8, hF⟩ := gGd hF
      have b8l := gIn_lt b8
      obtain ⟨v15, hv9, hF⟩ := gBind hF
      obtain ⟨v16, hv10, hF⟩ := gBind hF
      have s_v16 : gSame P h v16 := by
        replace hF := hv10
        by_cases c11 : v15 = true
        · replace hF := gPos c11 hF
          obtain ⟨v35, hv12, hF⟩ := gBind hF
          obtain ⟨v37, hv13, hF⟩ := gBind hF
          have s_v37 : gSame P h v37 := gSame.tr gSame.rf (fr_X2_put (fun x q1 q2 => H_a0 x (by omega) (by omega)) hv13)
          obtain rfl := Option.some.inj hF
          exact s_v37
        · replace hF := gNeg c11 hF
          obtain ⟨b14, hF⟩ := gGd hF
          have b14l := gIn_lt b14
          obtain ⟨v28, hv15, hF⟩ := gBind hF
          have s_v28 : gSame P h v28 := gSame.tr gSame.rf (fr_X2_copy (fun x q1 q2 => H_a0 x (by omega) (by omega)) hv15)
          obtain ⟨v30, hv16, hF⟩ := gBind hF
          have s_v30 : gSame P h v30 := gSame.tr s_v28 (fr_X2_invert (fun x q1 q2 => H_a0 x (by omega) (by omega)) hv16)
          obtain ⟨b17, hF⟩ := gGd hF
          have b17l := gIn_lt b17
          obtain ⟨v33, hv18, hF⟩ := gBind hF
          have s_v33 : gSame P h v33 := gSame.tr s_v30 (fr_X2_multiply (fun x q1 q2 => H_a0 x (by omega) (by omega)) hv18)
          obtain rfl := Option.some.inj hF
          exact s_v33
      obtain ⟨b19, hF⟩ := gGd hF
      have b19l := gIn_lt b19
      obtain ⟨b20, hF⟩ := gGd hF
      have b20l := gIn_lt b20
      obtain ⟨v22, hv21, hF⟩ := gBind hF
      have s_v22 : gSame P h v22 := gSame.tr s_v16 (fr_X2_copy (fun x q1 q2 => H_a0 x (by omega) (by omega)) hv21)
      obtain ⟨b22, hF⟩ := gGd hF
      have b22l := gIn_lt b22
      obtain ⟨v25, hv23, hF⟩ := gBind hF
      have s_v25 : gSame P h v25 := gSame.tr s_v22 (fr_X2_multiply (fun x q1 q2 => H_a0 x (by omega) (by omega)) hv23)
      obtain rfl := Option.some.inj hF
      exact s_v25
  · replace hF := gNeg c4 hF
    exact gSame.tr gSame.rf (fr_X0_divideVolts_48 (fun x q1 q2 => H_a0 x (by omega) (by omega)) hF)
theorem fr_X0_findVolts_13 {P : Nat → Prop} {a0 : Nat} {a1 : Nat} {x2 : Int32} {a3 : Nat} (H_a0 : ∀ x : Nat, a0 ≤ x → x < a0 + 28 → P x)  : ∀ (n : Nat) (x4 : Int32) (h : gHp) (o : gHp), f_X0_findVolts_13 a0 a1 x2 a3 n x4 h = some o → gSame P h o := by
  intro n
  induction n with
  | zero => intro _ _ o hF; cases hF
  | succ n ih =>
    intro x4 h o hF
    rw [f_X0_findVolts_13] at hF
    by_cases c1 : x4 < x2
    · replace hF := gPos c1 hF
      obtain rfl := Option.some.inj hF
      exact gSame.rf
    · replace hF := gNeg c1 hF
      obtain ⟨b2, hF⟩ := gGd hF
      have b2l := gIn_lt b2
      obtain ⟨v3, hv3, hF⟩ := gBind hF
      by_cases c4 : v3 = true
      · replace hF := gPos c4 hF
        obtain ⟨v5, hv5, hF⟩ := gBind hF
        by_cases c6 : v5 = true
        · replace hF := gPos c6 hF
          obtain ⟨b7, hF⟩ := gGd hF
          have b7l := gIn_lt b7
          obtain ⟨b8, hF⟩ := gGd hF
          have b8l := gIn_lt b8
          obtain ⟨v11, hv9, hF⟩ := gBind hF
          have s_v11 : gSame P h v11 := gSame.tr gSame.rf (fr_X2_copy (fun x q1 q2 => H_a0 x (by omega) (by omega)) hv9)
          exact gSame.tr s_v11 (ih (x4 + (-1)) v11 _ hF)
        · replace hF := gNeg c6 hF
          obtain ⟨v7, hv10, hF⟩ := gBind hF
          have s_v7 : gSame P h v7 := gSame.tr gSame.rf (fr_X0_divideVolts (fun x q1 q2 => H_a0 x (by omega) (by omega)) hv10)
          exact gSame.tr s_v7 (ih (x4 + (-1)) v7 _ hF)
      · replace hF := gNeg c4 hF
        obtain ⟨b11, hF⟩ := gGd hF
        have b11l := gIn_lt b11
        obtain ⟨v14, hv12, hF⟩ := gBind hF
        have s_v14 : gSame P h v14 := gSame.tr gSame.rf (fr_X2_put (fun x q1 q2 => H_a0 x (by omega) (by omega)) hv12)
        exact gSame.tr s_v14 (ih (x4 + (-1)) v14 _ hF)
