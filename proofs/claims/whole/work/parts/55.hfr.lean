/-! divisors -/
theorem p63 : (2 : Nat) ^ 63 = 9223372036854775808 := by decide
theorem gcd_step (a b : Nat) : Nat.gcd b (a % b) = Nat.gcd a b := by
  rw [Nat.gcd_comm a b, Nat.gcd_rec b a, Nat.gcd_comm]
theorem lI_rem {a b : Nat} (ha : a < 9223372036854775808) (hb : b < 9223372036854775808) : lI a - lI a / lI b * lI b = lI ((a % b : Nat) : Int) := by
  rw [lI_divN ha hb, lI_mul, lI_sub]
  congr 1
  have h := Nat.div_add_mod a b
  have h2 : ((b * (a / b) + a % b : Nat) : Int) = (a : Int) := by rw [h]
  rw [Int.natCast_add, Int.natCast_mul] at h2
  rw [Int.mul_comm]
  omega
theorem lI_z {b : Nat} (hb : b < 9223372036854775808) : lI b = 0 ↔ b = 0 := by
  rw [l0, lI_eq (by omega) (by omega) (by omega) (by omega)]; omega
theorem half_mod {a b : Nat} (hb : 0 < a % b) : 2 * (b % (a % b)) < b ∨ b = 0 := by
  by_cases h0 : b = 0
  · exact Or.inr h0
  · left
    have h1 : a % b < b := Nat.mod_lt a (Nat.pos_of_ne_zero h0)
    have h2 : b % (a % b) < a % b := Nat.mod_lt b hb
    have h3 := Nat.div_add_mod b (a % b)
    have h4 : 1 ≤ b / (a % b) := Nat.div_pos (Nat.le_of_lt h1) hb
    have h5 : (a % b) * 1 ≤ (a % b) * (b / (a % b)) := Nat.mul_le_mul_left _ h4
    omega
/-- the reference's loop of divisors -/
theorem dv28 (h : gHp) : ∀ (k a b n : Nat), a < 9223372036854775808 → b < 9223372036854775808 → b < 2 ^ k → 2 * k < n → f_X10_divisor_28 h n (lI a) (lI b) = some (lI (Nat.gcd a b : Nat)) := by
  intro k
  induction k with
  | zero =>
    intro a b n ha hb hk hn
    obtain ⟨m, rfl⟩ : ∃ m, n = m + 1 := ⟨n - 1, by omega⟩
    have e : b = 0 := by simpa using hk
    subst e
    rw [f_X10_divisor_28, if_pos ((lI_z hb).mpr rfl), Nat.gcd_zero_right]
  | succ k ih =>
    intro a b n ha hb hk hn
    obtain ⟨m, rfl⟩ : ∃ m, n = m + 1 := ⟨n - 1, by omega⟩
    rw [f_X10_divisor_28]
    by_cases h0 : b = 0
    · subst h0
      rw [if_pos ((lI_z hb).mpr rfl), Nat.gcd_zero_right]
    · have hz : ¬ lI b = 0 := fun q => h0 ((lI_z hb).mp q)
      rw [if_neg hz, if_neg hz, lI_rem ha hb]
      obtain ⟨m2, rfl⟩ : ∃ m2, m = m2 + 1 := ⟨m - 1, by omega⟩
      have hr : a % b < b := Nat.mod_lt a (Nat.pos_of_ne_zero h0)
      have hrb : a % b < 9223372036854775808 := by omega
      rw [f_X10_divisor_28]
      by_cases h1 : a % b = 0
      · rw [if_pos ((lI_z hrb).mpr h1), ← gcd_step, h1, Nat.gcd_zero_right]
      · have hz1 : ¬ lI (a % b : Nat) = 0 := fun q => h1 ((lI_z hrb).mp q)
        rw [if_neg hz1, if_neg hz1, lI_rem hb hrb]
        have h2 := half_mod (a := a) (b := b) (Nat.pos_of_ne_zero h1)
        have h3 : b % (a % b) < a % b := Nat.mod_lt b (Nat.pos_of_ne_zero h1)
        rw [ih (a % b) (b % (a % b)) m2 hrb (by omega) (by rw [Nat.pow_succ] at hk; omega) (by omega), gcd_step, gcd_step]
/-- the class's loop -/
theorem dv31 (h : gHp) : ∀ (k a b n : Nat) (c : Int), a < 9223372036854775808 → b < 9223372036854775808 → b < 2 ^ k → 2 * k < n → 0 ≤ c → c + 2 * k < 999 → f_X2_commonDivisor_31 h n (lI a) (lI b) (jI c) = some (lI (Nat.gcd a b : Nat)) := by
  have e := jl_1000
  intro k
  induction k with
  | zero =>
    intro a b n c ha hb hk hn hc hc2
    obtain ⟨m, rfl⟩ : ∃ m, n = m + 1 := ⟨n - 1, by omega⟩
    have e0 : b = 0 := by simpa using hk
    subst e0
    rw [f_X2_commonDivisor_31, e, if_neg (by rw [jI_le (by omega) (by omega) (by omega) (by omega)]; omega), if_pos ((lI_z hb).mpr rfl), Nat.gcd_zero_right]
  | succ k ih =>
    intro a b n c ha hb hk hn hc hc2
    obtain ⟨m, rfl⟩ : ∃ m, n = m + 1 := ⟨n - 1, by omega⟩
    rw [f_X2_commonDivisor_31, e, if_neg (by rw [jI_le (by omega) (by omega) (by omega) (by omega)]; omega)]
    by_cases h0 : b = 0
    · subst h0
      rw [if_pos ((lI_z hb).mpr rfl), Nat.gcd_zero_right]
    · have hz : ¬ lI b = 0 := fun q => h0 ((lI_z hb).mp q)
      rw [if_neg hz, if_neg hz, lI_rem ha hb, jl_1, jI_add]
      obtain ⟨m2, rfl⟩ : ∃ m2, m = m2 + 1 := ⟨m - 1, by omega⟩
      have hr : a % b < b := Nat.mod_lt a (Nat.pos_of_ne_zero h0)
      have hrb : a % b < 9223372036854775808 := by omega
      rw [f_X2_commonDivisor_31, e, if_neg (by rw [jI_le (by omega) (by omega) (by omega) (by omega)]; omega)]
      by_cases h1 : a % b = 0
      · rw [if_pos ((lI_z hrb).mpr h1), ← gcd_step, h1, Nat.gcd_zero_right]
      · have hz1 : ¬ lI (a % b : Nat) = 0 := fun q => h1 ((lI_z hrb).mp q)
        rw [if_neg hz1, if_neg hz1, lI_rem hb hrb, jl_1, jI_add]
        have h2 := half_mod (a := a) (b := b) (Nat.pos_of_ne_zero h1)
        have h3 : b % (a % b) < a % b := Nat.mod_lt b (Nat.pos_of_ne_zero h1)
        rw [ih (a % b) (b % (a % b)) m2 (c + 1 + 1) hrb (by omega) (by rw [Nat.pow_succ] at hk; omega) (by omega) (by omega) (by omega), gcd_step, gcd_step]
theorem lI_abs {z : Int} (hz : -9223372036854775808 < z ∧ z < 9223372036854775808) : (if (0 : Int64) ≤ lI z then some (lI z) else some (-lI z)) = some (lI (z.natAbs : Int)) := by
  rw [l0]
  by_cases h : 0 ≤ z
  · rw [if_pos (by rw [lI_le (by omega) (by omega) (by omega) (by omega)]; exact h), show ((z.natAbs : Nat) : Int) = z by omega]
  · rw [if_neg (by rw [lI_le (by omega) (by omega) (by omega) (by omega)]; exact h), lI_neg, show ((z.natAbs : Nat) : Int) = -z by omega]
/-- the reference's divisor -/
theorem q_divisor (h : gHp) {a b : Int} (ha : -9223372036854775808 < a ∧ a < 9223372036854775808) (hb : -9223372036854775808 < b ∧ b < 9223372036854775808) : f_X10_divisor (lI a) (lI b) h = some (lI (Int.gcd a b : Nat)) := by
  rw [f_X10_divisor, lI_abs ha, lI_abs hb]
  show (f_X10_divisor_28 h gFuel (lI (a.natAbs : Int)) (lI (b.natAbs : Int))).bind _ = _
  rw [dv28 h 63 a.natAbs b.natAbs gFuel (by omega) (by omega) (by rw [p63]; omega) (by decide)]
  rfl
/-- the class's divisor: at least 1 -/
theorem q_commonDivisor (h : gHp) {a b : Int} (ha : -9223372036854775808 < a ∧ a < 9223372036854775808) (hb : -9223372036854775808 < b ∧ b < 9223372036854775808) (h0 : ¬ (a = 0 ∧ b = 0)) : f_X2_commonDivisor (lI a) (lI b) h = some (lI (Int.gcd a b : Nat)) := by
  rw [f_X2_commonDivisor, lI_abs ha, lI_abs hb]
  show (f_X2_commonDivisor_31 h gFuel (lI (a.natAbs : Int)) (lI (b.natAbs : Int)) 0).bind _ = _
  rw [jl_0, dv31 h 63 a.natAbs b.natAbs gFuel 0 (by omega) (by omega) (by rw [p63]; omega) (by decide) (by omega) (by omega)]
  show (if 1 ≤ lI _ then _ else _) = _
  have hg : 0 < Nat.gcd a.natAbs b.natAbs := by
    rcases Nat.eq_zero_or_pos (Nat.gcd a.natAbs b.natAbs) with q | q
    · rw [Nat.gcd_eq_zero_iff] at q
      exact absurd ⟨by omega, by omega⟩ h0
    · exact q
  have hgl : Nat.gcd a.natAbs b.natAbs ≤ a.natAbs ∨ a.natAbs = 0 := by
    rcases Nat.eq_zero_or_pos a.natAbs with q | q
    · exact Or.inr q
    · exact Or.inl (Nat.gcd_le_left _ q)
  have hgl2 : Nat.gcd a.natAbs b.natAbs ≤ b.natAbs ∨ b.natAbs = 0 := by
    rcases Nat.eq_zero_or_pos b.natAbs with q | q
    · exact Or.inr q
    · exact Or.inl (Nat.gcd_le_right _ q)
  rw [l1, if_pos (by rw [lI_le (by omega) (by omega) (by omega) (by omega)]; omega)]
  rfl
/-! fractions in the two tables -/
abbrev gS64 (z : Int) : Prop := -9223372036854775808 < z ∧ z < 9223372036854775808
def hF (h : gHp) (x : Nat) (q : Int × Int) : Prop := h.2 x 0 = lI q.1 ∧ h.2 x 1 = lI q.2
/-- the fraction at x is written -/
def qPut (h : gHp) (x : Nat) (q : Int × Int) : gHp := gsL (gsL h x 0 (lI q.1)) x 1 (lI q.2)
theorem gsL_eq (h : gHp) (a k : Nat) (v : Int64) : (gsL h a k v).2 a k = v := gU_eq _ _ _ _
theorem gsI_eq (h : gHp) (a k : Nat) (v : Int32) : (gsI h a k v).1 a k = v := gU_eq _ _ _ _
theorem gsL_ne {h : gHp} {a k x : Nat} {v : Int64} (q : x ≠ a) : (gsL h a k v).2 x = h.2 x := gU_ne q
theorem gsI_ne {h : gHp} {a k x : Nat} {v : Int32} (q : x ≠ a) : (gsI h a k v).1 x = h.1 x := gU_ne q
theorem gsL_nk {h : gHp} {a k x j : Nat} {v : Int64} (q : j ≠ k) : (gsL h a k v).2 x j = h.2 x j := gU_ne2 (Or.inr q)
theorem gsI_nk {h : gHp} {a k x j : Nat} {v : Int32} (q : j ≠ k) : (gsI h a k v).1 x j = h.1 x j := gU_ne2 (Or.inr q)
theorem qPut_fr (h : gHp) (x : Nat) (q : Int × Int) : hF (qPut h x q) x q := ⟨by unfold qPut; rw [gsL_nk (by decide), gsL_eq], by unfold qPut; rw [gsL_eq]⟩
theorem qPut_1 (h : gHp) (x : Nat) (q : Int × Int) : (qPut h x q).1 = h.1 := rfl
theorem qPut_2 {h : gHp} {x y : Nat} {q : Int × Int} (n : y ≠ x) : (qPut h x q).2 y = h.2 y := by unfold qPut; rw [gsL_ne n, gsL_ne n]
theorem qPut_ne {h : gHp} {x y : Nat} {q r : Int × Int} (n : y ≠ x) (hr : hF h y r) : hF (qPut h x q) y r := by
  unfold hF
  rw [qPut_2 n]
  exact hr
theorem qPut_swap (h : gHp) (x : Nat) (q : Int × Int) : gsL (gsL h x 1 (lI q.2)) x 0 (lI q.1) = qPut h x q := by
  unfold qPut gsL
  refine Prod.ext rfl ?_
  funext y j
  simp only [gU]
  by_cases h1 : y = x
  · by_cases h2 : j = 0
    · subst h2; simp [h1]
    · by_cases h3 : j = 1
      · subst h3; simp [h1]
      · simp [h1, h2, h3]
  · simp [h1]
/-- in lowest terms -/
def fRed (u l : Int) : Int × Int := (u / (Int.gcd u l : Int), l / (Int.gcd u l : Int))
def fNum (x y : Int × Int) : Int := x.1 * (y.2 / (Int.gcd x.2 y.2 : Int)) + y.1 * (x.2 / (Int.gcd x.2 y.2 : Int))
def fDen (x y : Int × Int) : Int := x.2 * (y.2 / (Int.gcd x.2 y.2 : Int))
def fAdd (x y : Int × Int) : Int × Int := fRed (fNum x y) (fDen x y)
def fMul (x y : Int × Int) : Int × Int := ((x.1 / (Int.gcd x.1 y.2 : Int)) * (y.1 / (Int.gcd y.1 x.2 : Int)), (x.2 / (Int.gcd y.1 x.2 : Int)) * (y.2 / (Int.gcd x.1 y.2 : Int)))
theorem gcd_pos' {a b : Int} (h : ¬ (a = 0 ∧ b = 0)) : 0 < Int.gcd a b := by
  rcases Nat.eq_zero_or_pos (Int.gcd a b) with q | q
  · rw [Int.gcd_eq_zero_iff] at q
    exact absurd q h
  · exact q
theorem gcd_s64 {a b : Int} (ha : gS64 a) (hb : gS64 b) : ((Int.gcd a b : Nat) : Int) < 9223372036854775808 := by
  by_cases h : a = 0
  · subst h
    rw [Int.gcd_zero_left]; omega
  · have h1 : Int.gcd a b ≤ a.natAbs := Nat.le_of_dvd (by omega) (by
      have := Int.gcd_dvd_left a b
      exact Int.ofNat_dvd_left.mp this)
    omega
theorem tdivL {a : Int} {g : Nat} (h : (g : Int) ∣ a) : a.tdiv g = a / g := Int.tdiv_eq_ediv_of_dvd h
theorem div_s64 {a : Int} {g : Nat} (ha : gS64 a) (hg : 0 < g) : gS64 (a / (g : Int)) := by
  have h1 : (a / (g : Int)).natAbs ≤ a.natAbs := Int.natAbs_ediv_le_natAbs a g
  omega
theorem lI_divg {a b c : Int} (hc : gS64 c) (ha : gS64 a) (hb : gS64 b) (hd : ((Int.gcd a b : Nat) : Int) ∣ c) : lI c / lI (Int.gcd a b : Nat) = lI (c / (Int.gcd a b : Nat)) := by
  have hg := gcd_s64 ha hb
  rw [lI_div (by omega) (by omega) (by omega) (by omega), tdivL hd]
theorem lI_gz {a b : Int} (ha : gS64 a) (hb : gS64 b) (h : ¬ (a = 0 ∧ b = 0)) : ¬ lI (Int.gcd a b : Nat) = 0 := by
  have hg := gcd_s64 ha hb
  have hp := gcd_pos' h
  rw [l0, lI_eq (by omega) (by omega) (by omega) (by omega)]
  omega
theorem q_put (h : gHp) (x : Nat) {u l : Int} (hu : gS64 u) (hl : gS64 l) (h0 : ¬ (u = 0 ∧ l = 0)) : f_X2_put x (lI u) (lI l) h = some (qPut h x (fRed u l)) := by
  rw [f_X2_put, q_commonDivisor h hu hl h0]
  show (if lI (Int.gcd u l : Nat) = 0 then _ else _) = _
  rw [if_neg (lI_gz hu hl h0), if_neg (lI_gz hu hl h0), lI_divg hu hu hl (Int.gcd_dvd_left u l), lI_divg hl hu hl (Int.gcd_dvd_right u l)]
  rfl
theorem q_copy {h : gHp} {x y : Nat} {q : Int × Int} (hq : hF h y q) : f_X2_copy x y h = some (qPut h x q) := by
  rw [f_X2_copy, hq.1]
  have e : (gsL h x 0 (lI q.1)).2 y 1 = lI q.2 := by rw [gsL_nk (by decide)]; exact hq.2
  rw [e]; rfl
theorem q_invert {h : gHp} {x : Nat} {q : Int × Int} (hq : hF h x q) : f_X2_invert x h = some (qPut h x (q.2, q.1)) := by
  rw [f_X2_invert, hq.1, hq.2]; rfl
theorem q_half {h : gHp} {x : Nat} {q : Int × Int} (hq : hF h x q) (w : Int32) : f_X2_half x w h = some (if w = 0 then lI q.1 else lI q.2) := by
  rw [f_X2_half, hq.1, hq.2]
  by_cases c : w = 0 <;> simp [c]
theorem q_isInf {h : gHp} {x : Nat} {q : Int × Int} (hq : hF h x q) (hb : gS64 q.2) : f_X2_isInfinite x h = some (decide (q.2 = 0)) := by
  rw [f_X2_isInfinite, hq.2, l0]
  by_cases c : q.2 = 0
  · rw [if_pos (by rw [c]), decide_eq_true c]
  · rw [if_neg (fun e => c (by rw [lI_eq (by omega) (by omega) (by omega) (by omega)] at e; exact e)), decide_eq_false c]
theorem q_isZero {h : gHp} {x : Nat} {q : Int × Int} (hq : hF h x q) (hb : gS64 q.1) : f_X2_isZero x h = some (decide (q.1 = 0)) := by
  rw [f_X2_isZero, hq.1, l0]
  by_cases c : q.1 = 0
  · rw [if_pos (by rw [c]), decide_eq_true c]
  · rw [if_neg (fun e => c (by rw [lI_eq (by omega) (by omega) (by omega) (by omega)] at e; exact e)), decide_eq_false c]
/-- an infinite one makes the sum infinite -/
theorem q_addInf {h : gHp} {x y : Nat} {q r : Int × Int} (hq : hF h x q) (hr : hF h y r) (s : Int32) (hi : q.2 = 0 ∨ r.2 = 0) : f_X2_add x y s h = some (qPut h x (1, 0)) := by
  have e : f_X2_add_18 x h = some (qPut h x (1, 0)) := by
    rw [f_X2_add_18, l1, l0, q_put h x (by decide) (by decide) (by decide)]
    rfl
  rw [f_X2_add, hq.2, hr.2]
  rcases hi with c | c
  · rw [c, if_pos l0.symm, e]
  · rw [c]
    by_cases c2 : lI q.2 = 0
    · rw [if_pos c2, e]
    · rw [if_neg c2, if_pos l0.symm, e]
/-- s is 1 or -1 -/
theorem q_add {h : gHp} {x y : Nat} {q r : Int × Int} {s : Int} (hs : s = 1 ∨ s = -1) (hq : hF h x q) (hr : hF h y r) (hq2 : gS64 q.2) (hr2 : gS64 r.2) (n1 : q.2 ≠ 0) (n2 : r.2 ≠ 0) (hN : gS64 (fNum q (s * r.1, r.2))) (hD : gS64 (fDen q r)) (hD0 : fDen q r ≠ 0) : f_X2_add x y (jI s) h = some (qPut h x (fAdd q (s * r.1, r.2))) := by
  have hz : ¬ (q.2 = 0 ∧ r.2 = 0) := fun e => n1 e.1
  have es : (jI s).toInt64 = lI s := jI_to64 (by omega) (by omega)
  rw [f_X2_add, hq.1, hq.2, hr.1, hr.2, es, if_neg (by rw [l0, lI_eq (by omega) (by omega) (by omega) (by omega)]; exact n1), if_neg (by rw [l0, lI_eq (by omega) (by omega) (by omega) (by omega)]; exact n2), q_commonDivisor h hq2 hr2 hz]
  show (if lI (Int.gcd q.2 r.2 : Nat) = 0 then _ else _) = _
  rw [if_neg (lI_gz hq2 hr2 hz), if_neg (lI_gz hq2 hr2 hz), lI_divg hr2 hq2 hr2 (Int.gcd_dvd_right _ _), lI_divg hq2 hq2 hr2 (Int.gcd_dvd_left _ _), lI_mul, lI_mul, lI_mul, lI_add, lI_mul]
  show (f_X2_put x (lI (fNum q (s * r.1, r.2))) (lI (fDen q r)) h).bind _ = _
  rw [q_put h x hN hD (fun e => hD0 e.2)]
  rfl
theorem q_mul {h : gHp} {x y : Nat} {q r : Int × Int} (hq : hF h x q) (hr : hF h y r) (b1 : gS64 q.1) (b2 : gS64 q.2) (b3 : gS64 r.1) (b4 : gS64 r.2) (n1 : q.2 ≠ 0) (n2 : r.2 ≠ 0) : f_X2_multiply x y h = some (qPut h x (fMul q r)) := by
  have hz1 : ¬ (q.1 = 0 ∧ r.2 = 0) := fun e => n2 e.2
  have hz2 : ¬ (r.1 = 0 ∧ q.2 = 0) := fun e => n1 e.2
  rw [f_X2_multiply, hq.1, hq.2, hr.1, hr.2, q_commonDivisor h b1 b4 hz1]
  show ((f_X2_commonDivisor (lI r.1) (lI q.2) h).bind _) = _
  rw [q_commonDivisor h b3 b2 hz2]
  show (if lI (Int.gcd q.1 r.2 : Nat) = 0 then _ else _) = _
  rw [if_neg (lI_gz b1 b4 hz1), if_neg (lI_gz b3 b2 hz2), if_neg (lI_gz b3 b2 hz2), if_neg (lI_gz b1 b4 hz1), lI_divg b2 b3 b2 (Int.gcd_dvd_right _ _), lI_divg b4 b1 b4 (Int.gcd_dvd_right _ _), lI_divg b1 b1 b4 (Int.gcd_dvd_left _ _), lI_divg b3 b3 b2 (Int.gcd_dvd_left _ _), lI_mul, lI_mul]
  exact congrArg some (qPut_swap h x (fMul q r))
/-- the reference's two numbers -/
def mPut (h : gHp) (m : Nat) (q : Int × Int) : gHp := gsL (gsL h m 17 (lI q.1)) m 18 (lI q.2)
theorem q_becomes (h : gHp) (m : Nat) {u l : Int} (hu : gS64 u) (hl : gS64 l) (h0 : ¬ (u = 0 ∧ l = 0)) : f_X10_becomes m (lI u) (lI l) h = some (mPut h m (fRed u l)) := by
  rw [f_X10_becomes, q_divisor h hu hl]
  show (if lI (Int.gcd u l : Nat) = 0 then _ else _) = _
  rw [if_neg (lI_gz hu hl h0), if_neg (lI_gz hu hl h0), lI_divg hu hu hl (Int.gcd_dvd_left u l), lI_divg hl hu hl (Int.gcd_dvd_right u l)]
  rfl
theorem fDen_alt (q r : Int × Int) : q.2 / (Int.gcd q.2 r.2 : Int) * r.2 = fDen q r := by
  unfold fDen
  obtain ⟨k, hk⟩ := Int.gcd_dvd_right q.2 r.2
  obtain ⟨j, hj⟩ := Int.gcd_dvd_left q.2 r.2
  by_cases hg : ((Int.gcd q.2 r.2 : Nat) : Int) = 0
  · have h1 : q.2 = 0 := by rw [hj, hg]; simp
    rw [h1]; simp
  · have e1 : q.2 / (Int.gcd q.2 r.2 : Int) = j := Int.ediv_eq_of_eq_mul_right hg hj
    have e2 : r.2 / (Int.gcd q.2 r.2 : Int) = k := Int.ediv_eq_of_eq_mul_right hg hk
    rw [e1, e2]
    generalize (Int.gcd q.2 r.2 : Int) = g at hj hk
    rw [hj, hk]
    rw [← Int.mul_assoc, Int.mul_comm j g]
theorem q_sum (h : gHp) (m : Nat) {q r : Int × Int} (hq2 : gS64 q.2) (hr2 : gS64 r.2) (n1 : q.2 ≠ 0) (hN : gS64 (fNum q r)) (hD : gS64 (fDen q r)) (hD0 : fDen q r ≠ 0) : f_X10_sum m (lI q.1) (lI q.2) (lI r.1) (lI r.2) h = some (mPut h m (fAdd q r)) := by
  have hz : ¬ (q.2 = 0 ∧ r.2 = 0) := fun e => n1 e.1
  rw [f_X10_sum, q_divisor h hq2 hr2]
  show (if lI (Int.gcd q.2 r.2 : Nat) = 0 then _ else _) = _
  rw [if_neg (lI_gz hq2 hr2 hz), if_neg (lI_gz hq2 hr2 hz), if_neg (lI_gz hq2 hr2 hz), lI_divg hr2 hq2 hr2 (Int.gcd_dvd_right _ _), lI_divg hq2 hq2 hr2 (Int.gcd_dvd_left _ _), lI_mul, lI_mul, lI_add, lI_mul, fDen_alt]
  show (f_X10_becomes m (lI (fNum q r)) (lI (fDen q r)) h).bind _ = _
  rw [q_becomes h m hN hD (fun e => hD0 e.2)]
  rfl
theorem q_product (h : gHp) (m : Nat) {q r : Int × Int} (b1 : gS64 q.1) (b2 : gS64 q.2) (b3 : gS64 r.1) (b4 : gS64 r.2) (n1 : q.2 ≠ 0) (n2 : r.2 ≠ 0) (hN : gS64 (fMul q r).1) (hD : gS64 (fMul q r).2) (hD0 : (fMul q r).2 ≠ 0) : f_X10_product m (lI q.1) (lI q.2) (lI r.1) (lI r.2) h = some (mPut h m (fRed (fMul q r).1 (fMul q r).2)) := by
  have hz1 : ¬ (q.1 = 0 ∧ r.2 = 0) := fun e => n2 e.2
  have hz2 : ¬ (r.1 = 0 ∧ q.2 = 0) := fun e => n1 e.2
  rw [f_X10_product, q_divisor h b1 b4]
  show ((f_X10_divisor (lI r.1) (lI q.2) h).bind _) = _
  rw [q_divisor h b3 b2]
  show (if lI (Int.gcd q.1 r.2 : Nat) = 0 then _ else _) = _
  rw [if_neg (lI_gz b1 b4 hz1), if_neg (lI_gz b3 b2 hz2), if_neg (lI_gz b3 b2 hz2), if_neg (lI_gz b1 b4 hz1), lI_divg b2 b3 b2 (Int.gcd_dvd_right _ _), lI_divg b4 b1 b4 (Int.gcd_dvd_right _ _), lI_divg b1 b1 b4 (Int.gcd_dvd_left _ _), lI_divg b3 b3 b2 (Int.gcd_dvd_left _ _), lI_mul, lI_mul]
  show (f_X10_becomes m (lI (fMul q r).1) (lI (fMul q r).2) h).bind _ = _
  rw [q_becomes h m hN hD (fun e => hD0 e.2)]
  rfl
