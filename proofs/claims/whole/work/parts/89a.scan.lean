/-! the network's text, looked over -/
def gSc (z : Nat × (Nat → Int32)) : Nat → Nat → Int → Nat → Bool → Int
  | 0, _, o, _, w => if w = false ∧ o ≤ 0 then -1 else (z.1 : Int)
  | r + 1, i, o, M, w => if w = false then (if z.2 i = 43 then gSc z r (i + 1) o M true else if z.2 i = 124 then gSc z r (i + 1) o M true else if z.2 i = 41 then (if o ≤ 0 then (i : Int) else gSc z r (i + 1) (o - 1) M false) else (i : Int)) else if z.2 i = 40 then gSc z r (i + 1) (o + 1) M true else if 97 ≤ (z.2 i).toInt ∧ (z.2 i).toInt < 103 then (if M.testBit ((z.2 i).toInt - 97).toNat = true then (i : Int) else gSc z r (i + 1) o (M ||| 2 ^ ((z.2 i).toInt - 97).toNat) false) else (i : Int)
theorem sc_0t {z : Nat × (Nat → Int32)} {i M : Nat} {o : Int} : gSc z 0 i o M true = z.1 := by
  rw [gSc]
  exact if_neg (fun x => absurd x.1 (by decide))
theorem sc_0a {z : Nat × (Nat → Int32)} {i M : Nat} {o : Int} (h : o ≤ 0) : gSc z 0 i o M false = -1 := by
  rw [gSc]
  exact if_pos ⟨rfl, h⟩
theorem sc_0b {z : Nat × (Nat → Int32)} {i M : Nat} {o : Int} (h : 0 < o) : gSc z 0 i o M false = z.1 := by
  rw [gSc]
  exact if_neg (fun x => absurd x.2 (by omega))
theorem sc_43 {z : Nat × (Nat → Int32)} {r i M : Nat} {o : Int} (c : z.2 i = 43) : gSc z (r + 1) i o M false = gSc z r (i + 1) o M true := by
  rw [gSc]
  exact (if_pos rfl).trans (if_pos c)
theorem sc_124 {z : Nat × (Nat → Int32)} {r i M : Nat} {o : Int} (c1 : ¬ z.2 i = 43) (c : z.2 i = 124) : gSc z (r + 1) i o M false = gSc z r (i + 1) o M true := by
  rw [gSc]
  exact (if_pos rfl).trans ((if_neg c1).trans (if_pos c))
theorem sc_41a {z : Nat × (Nat → Int32)} {r i M : Nat} {o : Int} (c1 : ¬ z.2 i = 43) (c2 : ¬ z.2 i = 124) (c : z.2 i = 41) (ho : o ≤ 0) : gSc z (r + 1) i o M false = i := by
  rw [gSc]
  exact (if_pos rfl).trans ((if_neg c1).trans ((if_neg c2).trans ((if_pos c).trans (if_pos ho))))
theorem sc_41b {z : Nat × (Nat → Int32)} {r i M : Nat} {o : Int} (c1 : ¬ z.2 i = 43) (c2 : ¬ z.2 i = 124) (c : z.2 i = 41) (ho : ¬ o ≤ 0) : gSc z (r + 1) i o M false = gSc z r (i + 1) (o - 1) M false := by
  rw [gSc]
  exact (if_pos rfl).trans ((if_neg c1).trans ((if_neg c2).trans ((if_pos c).trans (if_neg ho))))
theorem sc_bf {z : Nat × (Nat → Int32)} {r i M : Nat} {o : Int} (c1 : ¬ z.2 i = 43) (c2 : ¬ z.2 i = 124) (c3 : ¬ z.2 i = 41) : gSc z (r + 1) i o M false = i := by
  rw [gSc]
  exact (if_pos rfl).trans ((if_neg c1).trans ((if_neg c2).trans (if_neg c3)))
theorem sc_40 {z : Nat × (Nat → Int32)} {r i M : Nat} {o : Int} (c : z.2 i = 40) : gSc z (r + 1) i o M true = gSc z r (i + 1) (o + 1) M true := by
  rw [gSc]
  exact (if_neg (by decide)).trans (if_pos c)
theorem sc_bt {z : Nat × (Nat → Int32)} {r i M : Nat} {o : Int} (c1 : ¬ z.2 i = 40) (c2 : ¬ (97 ≤ (z.2 i).toInt ∧ (z.2 i).toInt < 103)) : gSc z (r + 1) i o M true = i := by
  rw [gSc]
  exact (if_neg (by decide)).trans ((if_neg c1).trans (if_neg c2))
theorem sc_la {z : Nat × (Nat → Int32)} {r i M : Nat} {o : Int} (c1 : ¬ z.2 i = 40) (c2 : 97 ≤ (z.2 i).toInt ∧ (z.2 i).toInt < 103) (c : M.testBit ((z.2 i).toInt - 97).toNat = true) : gSc z (r + 1) i o M true = i := by
  rw [gSc]
  exact (if_neg (by decide)).trans ((if_neg c1).trans ((if_pos c2).trans (if_pos c)))
theorem sc_lb {z : Nat × (Nat → Int32)} {r i M : Nat} {o : Int} (c1 : ¬ z.2 i = 40) (c2 : 97 ≤ (z.2 i).toInt ∧ (z.2 i).toInt < 103) (c : ¬ M.testBit ((z.2 i).toInt - 97).toNat = true) : gSc z (r + 1) i o M true = gSc z r (i + 1) o (M ||| 2 ^ ((z.2 i).toInt - 97).toNat) false := by
  rw [gSc]
  exact (if_neg (by decide)).trans ((if_neg c1).trans ((if_pos c2).trans (if_neg c)))
/-- a fault is no -1 -/
theorem sc_b {z : Nat × (Nat → Int32)} : ∀ (r i : Nat) (o : Int) (M : Nat) (w : Bool), i + r = z.1 → -1 ≤ gSc z r i o M w ∧ gSc z r i o M w ≤ z.1 := by
  intro r
  induction r with
  | zero =>
    intro i o M w hi
    rw [gSc]
    split <;> omega
  | succ r ih =>
    intro i o M w hi
    have go := fun (o' : Int) (M' : Nat) (w' : Bool) => ih (i + 1) o' M' w' (by omega)
    rw [gSc]
    repeat' split
    all_goals first
      | exact go _ _ _
      | omega
theorem u_scan {h : gHp} {a : Nat} {z : Nat × (Nat → Int32)} (T : cTx h a z) (hl : z.1 ≤ 40) : ∀ (r i : Nat) (o : Int) (M : Nat) (w : Bool) (f : Nat), i + r = z.1 → r < f → 0 ≤ o → o ≤ i → M < 64 → f_X6_findFault_10 a h f (jI o) (jI M) (gZ w) (jI i) = some (jI (gSc z r i o M w)) := by
  intro r
  induction r with
  | zero =>
    intro i o M w f hi hf o1 o2 hM
    obtain ⟨f', rfl⟩ : ∃ f', f = f' + 1 := ⟨f - 1, by omega⟩
    rw [f_X6_findFault_10, T.1]
    refine gIT (jle (by omega) (by omega) (by omega) (by omega) (by omega)) ?_
    cases w with
    | true =>
      rw [sc_0t]
      exact gIF (show ¬ gZ true = 0 by decide) rfl
    | false =>
      refine gIT (show gZ false = 0 from rfl) ?_
      by_cases c : o ≤ 0
      · rw [sc_0a c]
        exact gIT (jle (b := 0) (by omega) (by omega) (by omega) (by omega) c) rfl
      · rw [sc_0b (by omega)]
        exact gIF (jnle (b := 0) (by omega) (by omega) (by omega) (by omega) (by omega)) rfl
  | succ r ih =>
    intro i o M w f hi hf o1 o2 hM
    obtain ⟨f', rfl⟩ : ∃ f', f = f' + 1 := ⟨f - 1, by omega⟩
    have nle : ¬ jI (z.1 : Int) ≤ jI i := jnle (by omega) (by omega) (by omega) (by omega) (by omega)
    have g40 : gIn (jI (i : Int)) 40 := jin (by omega) (by omega) (by omega)
    have ch : h.1 (a + 1) i = z.2 i := T.2 i (by omega)
    have ei : jI (i : Int) + 1 = jI ((i + 1 : Nat) : Int) := by rw [jl_1, jI_add]; rfl
    have eo : jI o + -1 = jI (o - 1) := by rw [show (-1 : Int32) = jI (-1) from rfl, jI_add, Int.sub_eq_add_neg]
    have eo1 : jI o + 1 = jI (o + 1) := by rw [jl_1, jI_add]
    have go := fun (o' : Int) (M' : Nat) (w' : Bool) (p1 : 0 ≤ o') (p2 : o' ≤ i + 1) (p3 : M' < 64) => ih (i + 1) o' M' w' f' (by omega) (by omega) p1 (by omega) p3
    rw [f_X6_findFault_10, T.1, gNp (by omega), ch, ei, eo, eo1]
    refine gIF nle (gIT g40 ?_)
    cases w with
    | false =>
      refine gIT (show gZ false = 0 from rfl) ?_
      by_cases c1 : z.2 i = 43
      · rw [sc_43 c1]; exact gIT c1 (go o M true o1 (by omega) hM)
      refine gIF c1 ?_
      by_cases c2 : z.2 i = 124
      · rw [sc_124 c1 c2]; exact gIT c2 (go o M true o1 (by omega) hM)
      refine gIF c2 ?_
      by_cases c3 : z.2 i = 41
      · refine gIT c3 ?_
        by_cases c : o ≤ 0
        · rw [sc_41a c1 c2 c3 c]; exact gIT (jle (b := 0) (by omega) (by omega) (by omega) (by omega) c) rfl
        · rw [sc_41b c1 c2 c3 c]
          exact gIF (jnle (b := 0) (by omega) (by omega) (by omega) (by omega) (by omega)) (go (o - 1) M false (by omega) (by omega) hM)
      · rw [sc_bf c1 c2 c3]; exact gIF c3 rfl
    | true =>
      refine gIF (show ¬ gZ true = 0 by decide) ?_
      obtain ⟨q, hq, q1, q2⟩ := jI_ex (z.2 i)
      have ex := u_index h q1 q2
      rw [← hq] at ex
      have et : (z.2 i).toInt = q := by rw [hq]; exact jI_toInt q1 q2
      refine gBs ex ?_
      by_cases c1 : z.2 i = 40
      · rw [sc_40 c1]; exact gIT c1 (go (o + 1) M true (by omega) (by omega) hM)
      refine gIF c1 ?_
      by_cases c2 : 97 ≤ q ∧ q < 103
      · rw [if_pos c2]
        obtain ⟨l, hl'⟩ : ∃ l : Nat, q - 97 = l := ⟨(q - 97).toNat, by omega⟩
        have et2 : ((z.2 i).toInt - 97).toNat = l := by rw [et, hl', Int.toNat_natCast]
        have bt := bit_at (M := M) (q := l) (by omega) (by omega)
        rw [← jl_31, ← jl_1] at bt
        have b1 := bit_one (q := l) (by omega)
        rw [← jl_31, ← jl_1] at b1
        rw [hl']
        refine gIF (jne (b := -1) (by omega) (by omega) (by omega) (by omega) (by omega)) ?_
        cases hb : M.testBit l with
        | true =>
          rw [sc_la c1 (by rw [et]; exact c2) (by rw [et2]; exact hb)]
          rw [hb] at bt
          exact gIF (by rw [bt]; decide) rfl
        | false =>
          rw [sc_lb c1 (by rw [et]; exact c2) (by rw [et2, hb]; exact Bool.false_ne_true), et2]
          rw [hb] at bt
          refine gIT (by rw [bt]; rfl) ?_
          rw [b1, bit_or]
          exact go o (M ||| 2 ^ l) false o1 (by omega) (Nat.or_lt_two_pow (n := 6) hM (Nat.pow_lt_pow_right (by decide) (by omega)))
      · rw [if_neg c2, sc_bt c1 (by rw [et]; exact c2)]
        exact gIT rfl rfl
theorem u_findFault {h : gHp} {a : Nat} {z : Nat × (Nat → Int32)} (T : cTx h a z) (hl : z.1 ≤ 40) (x : Nat) : f_X6_findFault x a h = some (jI (gSc z z.1 0 0 0 true)) := by
  rw [f_X6_findFault]
  exact u_scan T hl z.1 0 0 0 true gFuel (by omega) (by unfold gFuel; omega) (by omega) (by omega) (by omega)
