/-! sets of parts as bits -/
theorem bit_or (a b : Nat) : jI a ||| jI b = jI ((a ||| b : Nat) : Int) := by
  rw [← nI_jI, ← nI_jI, ← nI_jI]
  exact Int32.toBitVec.inj (by simp [nI])
set_option maxRecDepth 20000 in
theorem bit_at0 : ∀ M : Nat, M < 2048 → ∀ q : Nat, q < 11 → ((nI M >>> (nI q &&& 31)) &&& 1) = (if M.testBit q = true then 1 else 0) := by decide +kernel
theorem bit_at {M q : Nat} (hM : M < 2048) (hq : q < 11) : ((jI M >>> (jI q &&& jI 31)) &&& jI 1) = jI (if M.testBit q = true then 1 else 0) := by
  have e := bit_at0 M hM q hq
  rw [nI_jI, nI_jI] at e
  rw [← jl_31, ← jl_1, e]
  split <;> rfl
theorem bit_one0 : ∀ q : Nat, q < 11 → ((1 : Int32) <<< (nI q &&& 31)) = nI (2 ^ q) := by decide +kernel
theorem bit_one {q : Nat} (hq : q < 11) : (jI 1 <<< (jI q &&& jI 31)) = jI ((2 ^ q : Nat) : Int) := by
  have e := bit_one0 q hq
  rw [nI_jI, nI_jI] at e
  exact e
def hZ : gHp := (fun _ _ => 0, fun _ _ => 0)
set_option maxRecDepth 20000 in
theorem bit_cnt0 : ∀ M : Nat, M < 2048 → f_J6_bitCount_0f7a4 (nI M) hZ = some (nI (gCnt (fun q => M.testBit q) 11)) := by decide +kernel
theorem bit_cnt {M : Nat} (h : gHp) (hM : M < 2048) : f_J6_bitCount_0f7a4 (jI M) h = some (jI (gCnt (fun q => M.testBit q) 11)) := by
  have e := bit_cnt0 M hM
  rw [nI_jI, nI_jI] at e
  exact e
theorem two_lt {q : Nat} (h : q < 11) : 2 ^ q < 2048 := Nat.pow_lt_pow_right (a := 2) (n := 11) (by decide) h
theorem or_lt {a b : Nat} (h1 : a < 2048) (h2 : b < 2048) : a ||| b < 2048 := Nat.or_lt_two_pow (n := 11) h1 h2
/-! the way up -/
def gPth (S : gTb) : Nat → Int → Nat → Bool
  | 0, _, _ => false
  | k + 1, z, q => if 0 ≤ z then decide (z.toNat = q) || gPth S k (S 5 z.toNat) q else false
def gOn (S : gTb) (p q : Nat) : Bool := gPth S 11 p q
theorem gPth_neg (S : gTb) {k : Nat} {z : Int} {q : Nat} (h : z < 0) : gPth S k z q = false := by
  cases k with
  | zero => rfl
  | succ k => rw [gPth, if_neg (by omega)]
theorem gPth_s (S : gTb) (k p q : Nat) : gPth S (k + 1) p q = (decide (p = q) || gPth S k (S 5 p) q) := by
  rw [gPth, if_pos (by omega), Int.toNat_natCast]
theorem gPth_fu {t n c : Nat} {S : gTb} (W : gWf t n c S) (q : Nat) : ∀ (k p : Nat), p < n → n ≤ k + p → gPth S (k + 1) p q = gPth S k p q := by
  intro k
  induction k with
  | zero => intro p h1 h2; omega
  | succ k ih =>
    intro p h1 h2
    rw [gPth_s, gPth_s]
    rcases W.ar h1 with ⟨_, b, d⟩ | ⟨_, b⟩
    · obtain ⟨r, hr⟩ : ∃ r : Nat, S 5 p = r := ⟨(S 5 p).toNat, by omega⟩
      rw [hr]
      by_cases hk : n ≤ k + r
      · rw [ih r (by omega) hk]
      · omega
    · rw [gPth_neg S (by omega), gPth_neg S (by omega)]
theorem gOn_s {t n c : Nat} {S : gTb} (W : gWf t n c S) {p q : Nat} (h : p < n) : gOn S p q = (decide (p = q) || gPth S 11 (S 5 p) q) := by
  have hn := W.n
  unfold gOn
  rw [← gPth_fu W q 11 p h (by omega), gPth_s]
theorem gOn_nx {t n c : Nat} {S : gTb} (W : gWf t n c S) {p r q : Nat} (h : p < n) (hr : S 5 p = r) : gOn S p q = (decide (p = q) || gOn S r q) := by
  rw [gOn_s W h, hr]; rfl
theorem gOn_rt {t n c : Nat} {S : gTb} (W : gWf t n c S) {p q : Nat} (h : p < n) (hr : S 5 p = -1) : gOn S p q = decide (p = q) := by
  rw [gOn_s W h, hr, gPth_neg S (by omega), Bool.or_false]
theorem gOn_self {t n c : Nat} {S : gTb} (W : gWf t n c S) {p : Nat} (h : p < n) : gOn S p p = true := by
  rw [gOn_s W h, decide_eq_true rfl, Bool.true_or]
theorem gOn_le {t n c : Nat} {S : gTb} (W : gWf t n c S) {q : Nat} : ∀ (k p : Nat), p < n → n ≤ k + p → gOn S p q = true → p ≤ q ∧ q < n := by
  intro k
  induction k with
  | zero => intro p h1 h2; omega
  | succ k ih =>
    intro p h1 h2 h3
    rcases W.ar h1 with ⟨_, b, d⟩ | ⟨_, b⟩
    · obtain ⟨r, hr⟩ : ∃ r : Nat, S 5 p = r := ⟨(S 5 p).toNat, by omega⟩
      rw [gOn_nx W h1 hr] at h3
      by_cases e : p = q
      · omega
      · rw [decide_eq_false e, Bool.false_or] at h3
        have := ih r (by omega) (by omega) h3
        omega
    · rw [gOn_rt W h1 b] at h3
      have := of_decide_eq_true h3
      omega
theorem u_findWayUp {h : gHp} {a t n c : Nat} {S : gTb} (R : cNet h a n S) (W : gWf t n c S) {p : Nat} (hp : p < n) : ∃ M : Nat, M < 2048 ∧ f_X5_findWayUp a (jI p) h = some (jI M) ∧ ∀ q : Nat, M.testBit q = gOn S p q := by
  have hn := W.n
  have R3 := R.2.2.1
  obtain ⟨o, eo, M, hM, rfl, hb⟩ := gUp (fun k i (s : Int32 × Int32) => f_X5_findWayUp_7 a h k s.1 s.2 (jI i)) 11 (fun i s => ∃ (M : Nat) (z : Int), s = (jI M, jI z) ∧ M < 2048 ∧ -1 ≤ z ∧ z < n ∧ ∀ q : Nat, (M.testBit q || gPth S (11 - i) z q) = gOn S p q) (fun o => ∃ M : Nat, M < 2048 ∧ o = jI M ∧ ∀ q : Nat, M.testBit q = gOn S p q) (by
    rintro k _ ⟨M, z, rfl, hM, hz1, hz2, hb⟩
    refine ⟨jI M, ?_, M, hM, rfl, ?_⟩
    · try dsimp only
      simp (disch := omega) only [jl_0, jl_1, jl_2, jl_3, jl_4, jl_5, jl_6, jl_10, jl_11, jl_20, jl_26, jl_31, jl_32, jl_40, jl_41, jl_42, jl_43, jl_47, jl_48, jl_57, jl_81, jl_97, jl_99, jl_100, jl_102, jl_103, jl_124, jl_141, jl_564, jl_705, jl_999, jl_1000, jl_9999, jI_neg, cs1, jI_add, jI_sub, jI_mul, jI_neg, jI_lt, jI_le, jI_eq, gIf, gIe, gN_jI, tn_0, tn_1, tn_2, tn_3, tn_4, Int.toNat_natCast, Int.cast_ofNat_Int, if_pos, if_neg, Option.bind_some, eq_self, Bool.false_eq_true, reduceIte, f_X5_findWayUp_7]
    · intro q
      have := hb q
      rw [Nat.sub_self, gPth, Bool.or_false] at this
      exact this) (by
    rintro k i _ hi ⟨M, z, rfl, hM, hz1, hz2, hb⟩
    try dsimp only
    by_cases cz : z < 0
    · right
      have e := u_hasPart R hn (z := z) (by omega) (by omega)
      rw [decide_eq_false (by omega)] at e
      refine ⟨jI M, ?_, M, hM, rfl, ?_⟩
      · simp (disch := omega) only [jl_0, jl_1, jl_2, jl_3, jl_4, jl_5, jl_6, jl_10, jl_11, jl_20, jl_26, jl_31, jl_32, jl_40, jl_41, jl_42, jl_43, jl_47, jl_48, jl_57, jl_81, jl_97, jl_99, jl_100, jl_102, jl_103, jl_124, jl_141, jl_564, jl_705, jl_999, jl_1000, jl_9999, jI_neg, cs1, jI_add, jI_sub, jI_mul, jI_neg, jI_lt, jI_le, jI_eq, gIf, gIe, gN_jI, tn_0, tn_1, tn_2, tn_3, tn_4, Int.toNat_natCast, Int.cast_ofNat_Int, if_pos, if_neg, Option.bind_some, eq_self, Bool.false_eq_true, reduceIte, f_X5_findWayUp_7, e]
      · intro q
        have := hb q
        rw [gPth_neg S cz, Bool.or_false] at this
        exact this
    · left
      obtain ⟨r, rfl⟩ : ∃ r : Nat, z = r := ⟨z.toNat, by omega⟩
      have hr : r < n := by omega
      have e := u_hasPartT R hn hr
      have b := W.ar hr
      refine ⟨(jI ((M ||| 2 ^ r : Nat) : Int), jI (S 5 r)), ?_, M ||| 2 ^ r, S 5 r, rfl, or_lt hM (two_lt (by omega)), by omega, by omega, ?_⟩
      · simp (disch := omega) only [jl_0, jl_1, jl_2, jl_3, jl_4, jl_5, jl_6, jl_10, jl_11, jl_20, jl_26, jl_31, jl_32, jl_40, jl_41, jl_42, jl_43, jl_47, jl_48, jl_57, jl_81, jl_97, jl_99, jl_100, jl_102, jl_103, jl_124, jl_141, jl_564, jl_705, jl_999, jl_1000, jl_9999, jI_neg, cs1, jI_add, jI_sub, jI_mul, jI_neg, jI_lt, jI_le, jI_eq, gIf, gIe, gN_jI, tn_0, tn_1, tn_2, tn_3, tn_4, Int.toNat_natCast, Int.cast_ofNat_Int, if_pos, if_neg, Option.bind_some, eq_self, Bool.false_eq_true, reduceIte, f_X5_findWayUp_7, e, R3, bit_one, bit_or]
      · intro q
        rw [← hb q, Nat.testBit_or, Nat.testBit_two_pow, show 11 - i = (11 - (i + 1)) + 1 by omega, gPth_s, Bool.or_assoc]) gFuel 0 (jI (0 : Nat), jI p) (by omega) (by unfold gFuel; omega) ⟨0, p, rfl, by omega, by omega, by omega, fun q => by rw [Nat.zero_testBit, Bool.false_or]; rfl⟩
  try dsimp only at eo
  refine ⟨M, hM, ?_, hb⟩
  rw [f_X5_findWayUp]
  simp (disch := omega) only [jl_0, jl_1, jl_2, jl_3, jl_4, jl_5, jl_6, jl_10, jl_11, jl_20, jl_26, jl_31, jl_32, jl_40, jl_41, jl_42, jl_43, jl_47, jl_48, jl_57, jl_81, jl_97, jl_99, jl_100, jl_102, jl_103, jl_124, jl_141, jl_564, jl_705, jl_999, jl_1000, jl_9999, jI_neg, ]
  rw [show ((0 : Nat) : Int) = 0 from rfl] at eo
  rw [eo]
  rfl
theorem u_countArms {h : gHp} {a t n c : Nat} {S : gTb} (R : cNet h a n S) (W : gWf t n c S) {p : Nat} (hp : p < n) : f_X5_countArms a (jI p) h = some (jI (gCnt (fun l => decide (S 3 l ≠ 0) && gOn S (S 3 l - 1).toNat p) 6)) := by
  have hn := W.n
  have R5 := R.2.2.2.2
  have L := gUpE (fun k i (s : Int32) => f_X5_countArms_4 a (jI p) h k s (jI i)) 6 (fun i s => s = jI (gCnt (fun l => decide (S 3 l ≠ 0) && gOn S (S 3 l - 1).toNat p) i)) (jI (gCnt (fun l => decide (S 3 l ≠ 0) && gOn S (S 3 l - 1).toNat p) 6)) (by
    rintro k _ rfl
    try dsimp only
    simp (disch := omega) only [jl_0, jl_1, jl_2, jl_3, jl_4, jl_5, jl_6, jl_10, jl_11, jl_20, jl_26, jl_31, jl_32, jl_40, jl_41, jl_42, jl_43, jl_47, jl_48, jl_57, jl_81, jl_97, jl_99, jl_100, jl_102, jl_103, jl_124, jl_141, jl_564, jl_705, jl_999, jl_1000, jl_9999, jI_neg, cs1, jI_add, jI_sub, jI_mul, jI_neg, jI_lt, jI_le, jI_eq, gIf, gIe, gN_jI, tn_0, tn_1, tn_2, tn_3, tn_4, Int.toNat_natCast, Int.cast_ofNat_Int, if_pos, if_neg, Option.bind_some, eq_self, Bool.false_eq_true, reduceIte, f_X5_countArms_4]) (by
    rintro k i _ hi rfl
    left
    have e1 := u_hasArm R W (z := i) (by omega) (by omega)
    rw [Int.toNat_natCast] at e1
    have b := W.an hi
    refine ⟨_, ?_, rfl⟩
    try dsimp only
    by_cases c : S 3 i = 0
    · have e := gCnt_F (P := fun l => decide (S 3 l ≠ 0) && gOn S (S 3 l - 1).toNat p) (n := i) (by simp [c])
      rw [decide_eq_false (by omega)] at e1
      simp (disch := omega) only [jl_0, jl_1, jl_2, jl_3, jl_4, jl_5, jl_6, jl_10, jl_11, jl_20, jl_26, jl_31, jl_32, jl_40, jl_41, jl_42, jl_43, jl_47, jl_48, jl_57, jl_81, jl_97, jl_99, jl_100, jl_102, jl_103, jl_124, jl_141, jl_564, jl_705, jl_999, jl_1000, jl_9999, jI_neg, cs1, jI_add, jI_sub, jI_mul, jI_neg, jI_lt, jI_le, jI_eq, gIf, gIe, gN_jI, tn_0, tn_1, tn_2, tn_3, tn_4, Int.toNat_natCast, Int.cast_ofNat_Int, if_pos, if_neg, Option.bind_some, eq_self, Bool.false_eq_true, reduceIte, f_X5_countArms_4, e1, e]
    · rw [decide_eq_true (by omega)] at e1
      obtain ⟨r, hr⟩ : ∃ r : Nat, S 3 i - 1 = r := ⟨(S 3 i - 1).toNat, by omega⟩
      have hrn : r < n := by omega
      obtain ⟨M, hM, eM, hb⟩ := u_findWayUp R W hrn
      have R5i := R5 i hi
      rw [hr] at R5i
      have eb := bit_at hM (q := p) (by omega)
      rw [hb p] at eb
      have er : (S 3 i - 1).toNat = r := by omega
      rcases hg : gOn S r p with _ | _
      · have e := gCnt_F (P := fun l => decide (S 3 l ≠ 0) && gOn S (S 3 l - 1).toNat p) (n := i) (by simp [er, hg])
        rw [hg] at eb
        simp (disch := omega) only [jl_0, jl_1, jl_2, jl_3, jl_4, jl_5, jl_6, jl_10, jl_11, jl_20, jl_26, jl_31, jl_32, jl_40, jl_41, jl_42, jl_43, jl_47, jl_48, jl_57, jl_81, jl_97, jl_99, jl_100, jl_102, jl_103, jl_124, jl_141, jl_564, jl_705, jl_999, jl_1000, jl_9999, jI_neg, cs1, jI_add, jI_sub, jI_mul, jI_neg, jI_lt, jI_le, jI_eq, gIf, gIe, gN_jI, tn_0, tn_1, tn_2, tn_3, tn_4, Int.toNat_natCast, Int.cast_ofNat_Int, if_pos, if_neg, Option.bind_some, eq_self, Bool.false_eq_true, reduceIte, f_X5_countArms_4, e1, e, R5i, eM, eb]
      · have e := gCnt_T (P := fun l => decide (S 3 l ≠ 0) && gOn S (S 3 l - 1).toNat p) (n := i) (by simp [er, hg, c])
        rw [hg] at eb
        simp (disch := omega) only [jl_0, jl_1, jl_2, jl_3, jl_4, jl_5, jl_6, jl_10, jl_11, jl_20, jl_26, jl_31, jl_32, jl_40, jl_41, jl_42, jl_43, jl_47, jl_48, jl_57, jl_81, jl_97, jl_99, jl_100, jl_102, jl_103, jl_124, jl_141, jl_564, jl_705, jl_999, jl_1000, jl_9999, jI_neg, cs1, jI_add, jI_sub, jI_mul, jI_neg, jI_lt, jI_le, jI_eq, gIf, gIe, gN_jI, tn_0, tn_1, tn_2, tn_3, tn_4, Int.toNat_natCast, Int.cast_ofNat_Int, if_pos, if_neg, Option.bind_some, eq_self, Bool.false_eq_true, reduceIte, f_X5_countArms_4, e1, e, R5i, eM, eb]) gFuel (jI 0) (by unfold gFuel; omega) rfl
  try dsimp only at L
  rw [f_X5_countArms]
  simp (disch := omega) only [jl_0, jl_1, jl_2, jl_3, jl_4, jl_5, jl_6, jl_10, jl_11, jl_20, jl_26, jl_31, jl_32, jl_40, jl_41, jl_42, jl_43, jl_47, jl_48, jl_57, jl_81, jl_97, jl_99, jl_100, jl_102, jl_103, jl_124, jl_141, jl_564, jl_705, jl_999, jl_1000, jl_9999, jI_neg, ]
  rw [show ((0 : Nat) : Int) = 0 from rfl] at L
  rw [L]
  rfl
