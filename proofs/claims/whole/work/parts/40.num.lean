/-! ints and longs as whole numbers -/
def jI (z : Int) : Int32 := Int32.ofInt z
def lI (z : Int) : Int64 := Int64.ofInt z
theorem jI_toInt {z : Int} (h1 : -2147483648 ≤ z) (h2 : z < 2147483648) : (jI z).toInt = z := Int32.toInt_ofInt_of_le h1 h2
theorem lI_toInt {z : Int} (h1 : -9223372036854775808 ≤ z) (h2 : z < 9223372036854775808) : (lI z).toInt = z := Int64.toInt_ofInt_of_le h1 h2
theorem jI_of (x : Int32) : jI x.toInt = x := Int32.ofInt_toInt x
theorem lI_of (x : Int64) : lI x.toInt = x := Int64.ofInt_toInt x
theorem jI_ex (x : Int32) : ∃ z : Int, x = jI z ∧ -2147483648 ≤ z ∧ z < 2147483648 := ⟨x.toInt, (jI_of x).symm, Int32.le_toInt x, Int32.toInt_lt x⟩
theorem jI_add (a b : Int) : jI a + jI b = jI (a + b) := (Int32.ofInt_add a b).symm
theorem jI_sub (a b : Int) : jI a - jI b = jI (a - b) := (Int32.ofInt_sub a b).symm
theorem jI_mul (a b : Int) : jI a * jI b = jI (a * b) := (Int32.ofInt_mul a b).symm
theorem jI_neg (a : Int) : -jI a = jI (-a) := (Int32.ofInt_neg a).symm
theorem lI_add (a b : Int) : lI a + lI b = lI (a + b) := (Int64.ofInt_add a b).symm
theorem lI_sub (a b : Int) : lI a - lI b = lI (a - b) := (Int64.ofInt_sub a b).symm
theorem lI_mul (a b : Int) : lI a * lI b = lI (a * b) := (Int64.ofInt_mul a b).symm
theorem lI_neg (a : Int) : -lI a = lI (-a) := (Int64.ofInt_neg a).symm
theorem jI_lt {a b : Int} (h1 : -2147483648 ≤ a) (h2 : a < 2147483648) (h3 : -2147483648 ≤ b) (h4 : b < 2147483648) : (jI a < jI b) = (a < b) := by rw [Int32.lt_iff_toInt_lt, jI_toInt h1 h2, jI_toInt h3 h4]
theorem jI_le {a b : Int} (h1 : -2147483648 ≤ a) (h2 : a < 2147483648) (h3 : -2147483648 ≤ b) (h4 : b < 2147483648) : (jI a ≤ jI b) = (a ≤ b) := by rw [Int32.le_iff_toInt_le, jI_toInt h1 h2, jI_toInt h3 h4]
theorem jI_eq {a b : Int} (h1 : -2147483648 ≤ a) (h2 : a < 2147483648) (h3 : -2147483648 ≤ b) (h4 : b < 2147483648) : (jI a = jI b) = (a = b) := by rw [← Int32.toInt_inj, jI_toInt h1 h2, jI_toInt h3 h4]
theorem lI_lt {a b : Int} (h1 : -9223372036854775808 ≤ a) (h2 : a < 9223372036854775808) (h3 : -9223372036854775808 ≤ b) (h4 : b < 9223372036854775808) : (lI a < lI b) = (a < b) := by rw [Int64.lt_iff_toInt_lt, lI_toInt h1 h2, lI_toInt h3 h4]
theorem lI_le {a b : Int} (h1 : -9223372036854775808 ≤ a) (h2 : a < 9223372036854775808) (h3 : -9223372036854775808 ≤ b) (h4 : b < 9223372036854775808) : (lI a ≤ lI b) = (a ≤ b) := by rw [Int64.le_iff_toInt_le, lI_toInt h1 h2, lI_toInt h3 h4]
theorem lI_eq {a b : Int} (h1 : -9223372036854775808 ≤ a) (h2 : a < 9223372036854775808) (h3 : -9223372036854775808 ≤ b) (h4 : b < 9223372036854775808) : (lI a = lI b) = (a = b) := by rw [← Int64.toInt_inj, lI_toInt h1 h2, lI_toInt h3 h4]
theorem gN_jI {z : Int} (h1 : -2147483648 ≤ z) (h2 : z < 2147483648) : gN (jI z) = z.toNat := by
  show (jI z).toInt.toNat = _
  rw [jI_toInt h1 h2]
theorem gIn_jI {z : Int} (n : Nat) (h1 : -2147483648 ≤ z) (h2 : z < 2147483648) : gIn (jI z) n ↔ 0 ≤ z ∧ z < n := by
  have e : (0 : Int32).toInt = 0 := rfl
  have e2 := gN_jI h1 h2
  unfold gIn
  rw [Int32.lt_iff_toInt_lt, e, jI_toInt h1 h2]
  unfold gN at e2
  rw [e2]
  omega
theorem gIf {α : Type} {z : Int} {n : Nat} {a b : α} {i : Decidable (gIn (jI z) n)} (h0 : 0 ≤ z) (h1 : z < n) (h2 : z < 2147483648) : (@ite α (gIn (jI z) n) i a b) = a := if_pos ((gIn_jI n (by omega) h2).mpr ⟨h0, h1⟩)
theorem gIe {α : Type} {z : Int} {n : Nat} {a b : α} {i : Decidable (gIn (jI z) n)} (h1 : z < 0 ∨ (n : Int) ≤ z) (h2 : -2147483648 ≤ z) (h3 : z < 2147483648) : (@ite α (gIn (jI z) n) i a b) = b := if_neg (fun q => by
  have := (gIn_jI n h2 h3).mp q
  omega)
theorem jI_to64 {z : Int} (h1 : -2147483648 ≤ z) (h2 : z < 2147483648) : (jI z).toInt64 = lI z := by
  rw [← Int64.ofInt_int32ToInt, jI_toInt h1 h2]; rfl
theorem lI_to32 {z : Int} (h1 : -9223372036854775808 ≤ z) (h2 : z < 9223372036854775808) : (lI z).toInt32 = jI z := by
  rw [← Int32.ofInt_int64ToInt, lI_toInt h1 h2]; rfl
theorem lI_div {a b : Int} (h1 : -9223372036854775808 ≤ a) (h2 : a < 9223372036854775808) (h3 : -9223372036854775808 ≤ b) (h4 : b < 9223372036854775808) : lI a / lI b = lI (a.tdiv b) := (Int64.ofInt_tdiv h1 (Int.le_of_lt_add_one h2) h3 (Int.le_of_lt_add_one h4)).symm
theorem lI_divN {a b : Nat} (ha : a < 9223372036854775808) (hb : b < 9223372036854775808) : lI a / lI b = lI ((a / b : Nat) : Int) := by
  rw [lI_div (by omega) (by omega) (by omega) (by omega)]
  rfl
theorem jI_div0 {a b : Int} (h1 : -2147483648 ≤ a) (h2 : a < 2147483648) (h3 : -2147483648 ≤ b) (h4 : b < 2147483648) : jI a / jI b = jI (a.tdiv b) := (Int32.ofInt_tdiv h1 (Int.le_of_lt_add_one h2) h3 (Int.le_of_lt_add_one h4)).symm
theorem jI_div {a b : Nat} (ha : a < 2147483648) (hb : b < 2147483648) : jI a / jI b = jI ((a / b : Nat) : Int) := by
  rw [jI_div0 (by omega) (by omega) (by omega) (by omega)]
  rfl
theorem l0 : (0 : Int64) = lI 0 := rfl
theorem l1 : (1 : Int64) = lI 1 := rfl
theorem jl_0 : (0 : Int32) = jI 0 := rfl
theorem jl_1 : (1 : Int32) = jI 1 := rfl
theorem jl_2 : (2 : Int32) = jI 2 := rfl
theorem jl_3 : (3 : Int32) = jI 3 := rfl
theorem jl_4 : (4 : Int32) = jI 4 := rfl
theorem jl_5 : (5 : Int32) = jI 5 := rfl
theorem jl_6 : (6 : Int32) = jI 6 := rfl
theorem jl_10 : (10 : Int32) = jI 10 := rfl
theorem jl_11 : (11 : Int32) = jI 11 := rfl
theorem jl_20 : (20 : Int32) = jI 20 := rfl
theorem jl_26 : (26 : Int32) = jI 26 := rfl
theorem jl_31 : (31 : Int32) = jI 31 := rfl
theorem jl_32 : (32 : Int32) = jI 32 := rfl
theorem jl_40 : (40 : Int32) = jI 40 := rfl
theorem jl_41 : (41 : Int32) = jI 41 := rfl
theorem jl_42 : (42 : Int32) = jI 42 := rfl
theorem jl_43 : (43 : Int32) = jI 43 := rfl
theorem jl_47 : (47 : Int32) = jI 47 := rfl
theorem jl_48 : (48 : Int32) = jI 48 := rfl
theorem jl_57 : (57 : Int32) = jI 57 := rfl
theorem jl_81 : (81 : Int32) = jI 81 := rfl
theorem jl_97 : (97 : Int32) = jI 97 := rfl
theorem jl_99 : (99 : Int32) = jI 99 := rfl
theorem jl_100 : (100 : Int32) = jI 100 := rfl
theorem jl_102 : (102 : Int32) = jI 102 := rfl
theorem jl_103 : (103 : Int32) = jI 103 := rfl
theorem jl_124 : (124 : Int32) = jI 124 := rfl
theorem jl_141 : (141 : Int32) = jI 141 := rfl
theorem jl_564 : (564 : Int32) = jI 564 := rfl
theorem jl_705 : (705 : Int32) = jI 705 := rfl
theorem jl_999 : (999 : Int32) = jI 999 := rfl
theorem jl_1000 : (1000 : Int32) = jI 1000 := rfl
theorem jl_9999 : (9999 : Int32) = jI 9999 := rfl
theorem jm_1 : (-1 : Int32) = jI (-1) := rfl
theorem jm_2 : (-2 : Int32) = jI (-2) := rfl
theorem jm_3 : (-3 : Int32) = jI (-3) := rfl
theorem jm_4 : (-4 : Int32) = jI (-4) := rfl
theorem jm_100 : (-100 : Int32) = jI (-100) := rfl
theorem nI_jI (n : Nat) : nI n = jI n := Int32.ofInt_eq_ofNat.symm
theorem tn_0 : (0 : Int).toNat = 0 := rfl
theorem tn_1 : (1 : Int).toNat = 1 := rfl
theorem tn_2 : (2 : Int).toNat = 2 := rfl
theorem tn_3 : (3 : Int).toNat = 3 := rfl
theorem tn_4 : (4 : Int).toNat = 4 := rfl
theorem cs1 (i : Nat) : ((i + 1 : Nat) : Int) = (i : Int) + 1 := rfl
/-! loops -/
theorem gUp {σ ρ : Type} (F : Nat → Nat → σ → Option ρ) (N : Nat) (I : Nat → σ → Prop) (Q : ρ → Prop)
  (stop : ∀ (n : Nat) (s : σ), I N s → ∃ o, F (n + 1) N s = some o ∧ Q o)
  (step : ∀ (n i : Nat) (s : σ), i < N → I i s → (∃ s', F (n + 1) i s = F n (i + 1) s' ∧ I (i + 1) s') ∨ (∃ o, F (n + 1) i s = some o ∧ Q o)) :
  ∀ (n i : Nat) (s : σ), i ≤ N → N - i < n → I i s → ∃ o, F n i s = some o ∧ Q o := by
  intro n
  induction n with
  | zero => intro i s h1 h2; omega
  | succ n ih =>
    intro i s h1 h2 hI
    by_cases c : i = N
    · subst c; exact stop n s hI
    · rcases step n i s (by omega) hI with ⟨s', e, h⟩ | ⟨o, e, h⟩
      · rw [e]; exact ih (i + 1) s' (by omega) (by omega) h
      · exact ⟨o, e, h⟩
/-- down from i to b: the loop stands at i when i parts are left, the next is i - 1 -/
theorem gDn {σ ρ : Type} (F : Nat → Nat → σ → Option ρ) (b : Nat) (I : Nat → σ → Prop) (Q : ρ → Prop)
  (stop : ∀ (n : Nat) (s : σ), I b s → ∃ o, F (n + 1) b s = some o ∧ Q o)
  (step : ∀ (n i : Nat) (s : σ), b ≤ i → I (i + 1) s → (∃ s', F (n + 1) (i + 1) s = F n i s' ∧ I i s') ∨ (∃ o, F (n + 1) (i + 1) s = some o ∧ Q o)) :
  ∀ (n i : Nat) (s : σ), b ≤ i → i - b < n → I i s → ∃ o, F n i s = some o ∧ Q o := by
  intro n
  induction n with
  | zero => intro i s h1 h2; omega
  | succ n ih =>
    intro i s h1 h2 hI
    by_cases c : i = b
    · subst c; exact stop n s hI
    · obtain ⟨j, rfl⟩ : ∃ j, i = j + 1 := ⟨i - 1, by omega⟩
      rcases step n j s (by omega) hI with ⟨s', e, h⟩ | ⟨o, e, h⟩
      · rw [e]; exact ih j s' (by omega) (by omega) h
      · exact ⟨o, e, h⟩
/-- a loop that returns just what is said -/
theorem gUpE {σ ρ : Type} (F : Nat → Nat → σ → Option ρ) (N : Nat) (I : Nat → σ → Prop) (r : ρ)
  (stop : ∀ (n : Nat) (s : σ), I N s → F (n + 1) N s = some r)
  (step : ∀ (n i : Nat) (s : σ), i < N → I i s → (∃ s', F (n + 1) i s = F n (i + 1) s' ∧ I (i + 1) s') ∨ F (n + 1) i s = some r)
  (n : Nat) (s : σ) (h2 : N < n) (hI : I 0 s) : F n 0 s = some r := by
  obtain ⟨o, e, rfl⟩ := gUp F N I (fun o => o = r) (fun n s h => ⟨r, stop n s h, rfl⟩) (fun n i s hi h => by
    rcases step n i s hi h with h | h
    · exact Or.inl h
    · exact Or.inr ⟨r, h, rfl⟩) n 0 s (Nat.zero_le _) (by omega) hI
  exact e
/-- how many below n -/
def gCnt (P : Nat → Bool) : Nat → Nat
  | 0 => 0
  | n + 1 => gCnt P n + if P n = true then 1 else 0
theorem gCnt_T {P : Nat → Bool} {n : Nat} (h : P n = true) : gCnt P (n + 1) = gCnt P n + 1 := by rw [gCnt, if_pos h]
theorem gCnt_F {P : Nat → Bool} {n : Nat} (h : ¬ P n = true) : gCnt P (n + 1) = gCnt P n := by rw [gCnt, if_neg h, Nat.add_zero]
theorem gCnt_le (P : Nat → Bool) (n : Nat) : gCnt P n ≤ n := by
  induction n with
  | zero => exact Nat.le_refl _
  | succ n ih => rw [gCnt]; split <;> omega
theorem gCnt_congr {P Q : Nat → Bool} {n : Nat} (h : ∀ q, q < n → P q = Q q) : gCnt P n = gCnt Q n := by
  induction n with
  | zero => rfl
  | succ n ih => rw [gCnt, gCnt, ih (fun q hq => h q (by omega)), h n (by omega)]
theorem gCnt_mono (P : Nat → Bool) {i n : Nat} (h : i ≤ n) : gCnt P i ≤ gCnt P n := by
  induction n with
  | zero => rw [Nat.le_zero.mp h]; exact Nat.le_refl _
  | succ n ih =>
    by_cases c : i = n + 1
    · rw [c]; exact Nat.le_refl _
    · have := ih (by omega)
      rw [gCnt]; omega
theorem gCnt_hit {P : Nat → Bool} {i n : Nat} (h : i < n) (c : P i = true) : gCnt P n ≠ 0 := by
  have := gCnt_mono P (i := i + 1) (n := n) h
  rw [gCnt_T c] at this
  omega
/-- the first below n, or n -/
def gFst (P : Nat → Bool) : Nat → Nat
  | 0 => 0
  | n + 1 => if gFst P n < n then gFst P n else if P n = true then n else n + 1
theorem gFst_no {P : Nat → Bool} {n : Nat} (h : ∀ q, q < n → ¬ P q = true) : gFst P n = n := by
  induction n with
  | zero => rfl
  | succ n ih => rw [gFst, ih (fun q hq => h q (by omega)), if_neg (by omega), if_neg (h n (by omega))]
theorem gFst_hit {P : Nat → Bool} {i n : Nat} (h : ∀ q, q < i → ¬ P q = true) (hi : i < n) (c : P i = true) : gFst P n = i := by
  induction n with
  | zero => omega
  | succ n ih =>
    by_cases e : i = n
    · subst e
      rw [gFst, gFst_no h, if_neg (by omega), if_pos c]
    · rw [gFst, ih (by omega), if_pos (by omega)]
theorem gFuel_s : gFuel = 4095 + 1 := rfl
