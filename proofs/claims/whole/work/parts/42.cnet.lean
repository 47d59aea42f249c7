/-! the class's network, state and notes: what is read -/
theorem u_hasPart {h : gHp} {a n : Nat} {S : gTb} (R : cNet h a n S) (hn : n ≤ 11) {z : Int} (h1 : -2147483648 ≤ z) (h2 : z < 2147483648) : f_X5_hasPart a (jI z) h = some (decide (0 ≤ z ∧ z < n)) := by
  have R1 := R.1
  by_cases c1 : z < 0
  · have e : decide (0 ≤ z ∧ z < (n : Int)) = false := decide_eq_false (by omega)
    simp (disch := omega) only [jl_0, jl_1, jl_2, jl_3, jl_4, jl_5, jl_6, jl_10, jl_11, jl_20, jl_26, jl_31, jl_32, jl_40, jl_41, jl_42, jl_43, jl_47, jl_48, jl_57, jl_81, jl_97, jl_99, jl_100, jl_102, jl_103, jl_124, jl_141, jl_564, jl_705, jl_999, jl_1000, jl_9999, jI_neg, cs1, jI_add, jI_sub, jI_mul, jI_neg, jI_lt, jI_le, jI_eq, gIf, gIe, gN_jI, tn_0, tn_1, tn_2, tn_3, tn_4, Int.toNat_natCast, Int.cast_ofNat_Int, if_pos, if_neg, Option.bind_some, eq_self, Bool.false_eq_true, reduceIte, f_X5_hasPart, R1, e]
  · by_cases c2 : (n : Int) ≤ z
    · have e : decide (0 ≤ z ∧ z < (n : Int)) = false := decide_eq_false (by omega)
      simp (disch := omega) only [jl_0, jl_1, jl_2, jl_3, jl_4, jl_5, jl_6, jl_10, jl_11, jl_20, jl_26, jl_31, jl_32, jl_40, jl_41, jl_42, jl_43, jl_47, jl_48, jl_57, jl_81, jl_97, jl_99, jl_100, jl_102, jl_103, jl_124, jl_141, jl_564, jl_705, jl_999, jl_1000, jl_9999, jI_neg, cs1, jI_add, jI_sub, jI_mul, jI_neg, jI_lt, jI_le, jI_eq, gIf, gIe, gN_jI, tn_0, tn_1, tn_2, tn_3, tn_4, Int.toNat_natCast, Int.cast_ofNat_Int, if_pos, if_neg, Option.bind_some, eq_self, Bool.false_eq_true, reduceIte, f_X5_hasPart, R1, e]
    · have e : decide (0 ≤ z ∧ z < (n : Int)) = true := decide_eq_true (by omega)
      simp (disch := omega) only [jl_0, jl_1, jl_2, jl_3, jl_4, jl_5, jl_6, jl_10, jl_11, jl_20, jl_26, jl_31, jl_32, jl_40, jl_41, jl_42, jl_43, jl_47, jl_48, jl_57, jl_81, jl_97, jl_99, jl_100, jl_102, jl_103, jl_124, jl_141, jl_564, jl_705, jl_999, jl_1000, jl_9999, jI_neg, cs1, jI_add, jI_sub, jI_mul, jI_neg, jI_lt, jI_le, jI_eq, gIf, gIe, gN_jI, tn_0, tn_1, tn_2, tn_3, tn_4, Int.toNat_natCast, Int.cast_ofNat_Int, if_pos, if_neg, Option.bind_some, eq_self, Bool.false_eq_true, reduceIte, f_X5_hasPart, R1, e]
theorem u_hasPartT {h : gHp} {a n : Nat} {S : gTb} (R : cNet h a n S) (hn : n ≤ 11) {p : Nat} (hp : p < n) : f_X5_hasPart a (jI p) h = some true := by
  rw [u_hasPart R hn (by omega) (by omega), decide_eq_true (by omega)]
theorem u_hasArm {h : gHp} {a t n c : Nat} {S : gTb} (R : cNet h a n S) (W : gWf t n c S) {z : Int} (h1 : -2147483648 ≤ z) (h2 : z < 2147483648) : f_X5_hasArm a (jI z) h = some (decide (0 ≤ z ∧ z < 6 ∧ S 3 z.toNat ≠ 0)) := by
  obtain ⟨R1, R2, R3, R4, R5⟩ := R
  by_cases c1 : 0 ≤ z ∧ z < 6
  · obtain ⟨l, rfl⟩ : ∃ l : Nat, z = l := ⟨z.toNat, by omega⟩
    have b := W.an (l := l) (by omega)
    have hn := W.n
    by_cases c2 : S 3 l = 0
    · have e : decide (0 ≤ (l : Int) ∧ (l : Int) < 6 ∧ S 3 (l : Int).toNat ≠ 0) = false := decide_eq_false (by rw [Int.toNat_natCast]; omega)
      rw [e]
      simp (disch := omega) only [jl_0, jl_1, jl_2, jl_3, jl_4, jl_5, jl_6, jl_10, jl_11, jl_20, jl_26, jl_31, jl_32, jl_40, jl_41, jl_42, jl_43, jl_47, jl_48, jl_57, jl_81, jl_97, jl_99, jl_100, jl_102, jl_103, jl_124, jl_141, jl_564, jl_705, jl_999, jl_1000, jl_9999, jI_neg, cs1, jI_add, jI_sub, jI_mul, jI_neg, jI_lt, jI_le, jI_eq, gIf, gIe, gN_jI, tn_0, tn_1, tn_2, tn_3, tn_4, Int.toNat_natCast, Int.cast_ofNat_Int, if_pos, if_neg, Option.bind_some, eq_self, Bool.false_eq_true, reduceIte, f_X5_hasArm, R5]
    · have e : decide (0 ≤ (l : Int) ∧ (l : Int) < 6 ∧ S 3 (l : Int).toNat ≠ 0) = true := decide_eq_true (by rw [Int.toNat_natCast]; omega)
      rw [e]
      simp (disch := omega) only [jl_0, jl_1, jl_2, jl_3, jl_4, jl_5, jl_6, jl_10, jl_11, jl_20, jl_26, jl_31, jl_32, jl_40, jl_41, jl_42, jl_43, jl_47, jl_48, jl_57, jl_81, jl_97, jl_99, jl_100, jl_102, jl_103, jl_124, jl_141, jl_564, jl_705, jl_999, jl_1000, jl_9999, jI_neg, cs1, jI_add, jI_sub, jI_mul, jI_neg, jI_lt, jI_le, jI_eq, gIf, gIe, gN_jI, tn_0, tn_1, tn_2, tn_3, tn_4, Int.toNat_natCast, Int.cast_ofNat_Int, if_pos, if_neg, Option.bind_some, eq_self, Bool.false_eq_true, reduceIte, f_X5_hasArm, R5]
  · have e : decide (0 ≤ z ∧ z < 6 ∧ S 3 z.toNat ≠ 0) = false := decide_eq_false (by omega)
    rw [e]
    by_cases c2 : z < 0
    · simp (disch := omega) only [jl_0, jl_1, jl_2, jl_3, jl_4, jl_5, jl_6, jl_10, jl_11, jl_20, jl_26, jl_31, jl_32, jl_40, jl_41, jl_42, jl_43, jl_47, jl_48, jl_57, jl_81, jl_97, jl_99, jl_100, jl_102, jl_103, jl_124, jl_141, jl_564, jl_705, jl_999, jl_1000, jl_9999, jI_neg, cs1, jI_add, jI_sub, jI_mul, jI_neg, jI_lt, jI_le, jI_eq, gIf, gIe, gN_jI, tn_0, tn_1, tn_2, tn_3, tn_4, Int.toNat_natCast, Int.cast_ofNat_Int, if_pos, if_neg, Option.bind_some, eq_self, Bool.false_eq_true, reduceIte, f_X5_hasArm]
    · simp (disch := omega) only [jl_0, jl_1, jl_2, jl_3, jl_4, jl_5, jl_6, jl_10, jl_11, jl_20, jl_26, jl_31, jl_32, jl_40, jl_41, jl_42, jl_43, jl_47, jl_48, jl_57, jl_81, jl_97, jl_99, jl_100, jl_102, jl_103, jl_124, jl_141, jl_564, jl_705, jl_999, jl_1000, jl_9999, jI_neg, cs1, jI_add, jI_sub, jI_mul, jI_neg, jI_lt, jI_le, jI_eq, gIf, gIe, gN_jI, tn_0, tn_1, tn_2, tn_3, tn_4, Int.toNat_natCast, Int.cast_ofNat_Int, if_pos, if_neg, Option.bind_some, eq_self, Bool.false_eq_true, reduceIte, f_X5_hasArm]
theorem u_isKind {h : gHp} {a t n c : Nat} {S : gTb} (R : cNet h a n S) (W : gWf t n c S) {p : Nat} (hp : p < n) {z : Int} (h1 : -2147483648 ≤ z) (h2 : z < 2147483648) : f_X5_isKind a (jI p) (jI z) h = some (decide (S 4 p = z)) := by
  have hn := W.n
  have b := W.kd hp
  have e1 := u_hasPartT R hn hp
  have R2 := R.2.1
  by_cases c : S 4 p = z
  · rw [decide_eq_true c]
    simp (disch := omega) only [jl_0, jl_1, jl_2, jl_3, jl_4, jl_5, jl_6, jl_10, jl_11, jl_20, jl_26, jl_31, jl_32, jl_40, jl_41, jl_42, jl_43, jl_47, jl_48, jl_57, jl_81, jl_97, jl_99, jl_100, jl_102, jl_103, jl_124, jl_141, jl_564, jl_705, jl_999, jl_1000, jl_9999, jI_neg, cs1, jI_add, jI_sub, jI_mul, jI_neg, jI_lt, jI_le, jI_eq, gIf, gIe, gN_jI, tn_0, tn_1, tn_2, tn_3, tn_4, Int.toNat_natCast, Int.cast_ofNat_Int, if_pos, if_neg, Option.bind_some, eq_self, Bool.false_eq_true, reduceIte, f_X5_isKind, e1, R2, c]
  · rw [decide_eq_false c]
    simp (disch := omega) only [jl_0, jl_1, jl_2, jl_3, jl_4, jl_5, jl_6, jl_10, jl_11, jl_20, jl_26, jl_31, jl_32, jl_40, jl_41, jl_42, jl_43, jl_47, jl_48, jl_57, jl_81, jl_97, jl_99, jl_100, jl_102, jl_103, jl_124, jl_141, jl_564, jl_705, jl_999, jl_1000, jl_9999, jI_neg, cs1, jI_add, jI_sub, jI_mul, jI_neg, jI_lt, jI_le, jI_eq, gIf, gIe, gN_jI, tn_0, tn_1, tn_2, tn_3, tn_4, Int.toNat_natCast, Int.cast_ofNat_Int, if_pos, if_neg, Option.bind_some, eq_self, Bool.false_eq_true, reduceIte, f_X5_isKind, e1, R2, c]

theorem u_countParts {h : gHp} {a t n c : Nat} {S : gTb} (R : cNet h a n S) (W : gWf t n c S) {p : Nat} (hp : p < n) : f_X5_countParts a (jI p) h = some (jI (gCnt (fun q => decide (S 5 q = p)) p)) := by
  have hn := W.n
  have R3 := R.2.2.1
  have L := gUpE (fun k i (s : Int32) => f_X5_countParts_4 a (jI p) h k s (jI i)) p (fun i s => s = jI (gCnt (fun q => decide (S 5 q = p)) i)) (jI (gCnt (fun q => decide (S 5 q = p)) p)) (by
    rintro k _ rfl
    try dsimp only
    simp (disch := omega) only [jl_0, jl_1, jl_2, jl_3, jl_4, jl_5, jl_6, jl_10, jl_11, jl_20, jl_26, jl_31, jl_32, jl_40, jl_41, jl_42, jl_43, jl_47, jl_48, jl_57, jl_81, jl_97, jl_99, jl_100, jl_102, jl_103, jl_124, jl_141, jl_564, jl_705, jl_999, jl_1000, jl_9999, jI_neg, cs1, jI_add, jI_sub, jI_mul, jI_neg, jI_lt, jI_le, jI_eq, gIf, gIe, gN_jI, tn_0, tn_1, tn_2, tn_3, tn_4, Int.toNat_natCast, Int.cast_ofNat_Int, if_pos, if_neg, Option.bind_some, eq_self, Bool.false_eq_true, reduceIte, f_X5_countParts_4]) (by
    rintro k i _ hi rfl
    left
    have b := W.ar (p := i) (by omega)
    refine ⟨_, ?_, rfl⟩
    try dsimp only
    by_cases c : S 5 i = p
    · have e := gCnt_T (P := fun q => decide (S 5 q = (p : Int))) (n := i) (decide_eq_true c)
      simp (disch := omega) only [jl_0, jl_1, jl_2, jl_3, jl_4, jl_5, jl_6, jl_10, jl_11, jl_20, jl_26, jl_31, jl_32, jl_40, jl_41, jl_42, jl_43, jl_47, jl_48, jl_57, jl_81, jl_97, jl_99, jl_100, jl_102, jl_103, jl_124, jl_141, jl_564, jl_705, jl_999, jl_1000, jl_9999, jI_neg, cs1, jI_add, jI_sub, jI_mul, jI_neg, jI_lt, jI_le, jI_eq, gIf, gIe, gN_jI, tn_0, tn_1, tn_2, tn_3, tn_4, Int.toNat_natCast, Int.cast_ofNat_Int, if_pos, if_neg, Option.bind_some, eq_self, Bool.false_eq_true, reduceIte, f_X5_countParts_4, R3, c, e]
    · have e := gCnt_F (P := fun q => decide (S 5 q = (p : Int))) (n := i) (by simp [c])
      simp (disch := omega) only [jl_0, jl_1, jl_2, jl_3, jl_4, jl_5, jl_6, jl_10, jl_11, jl_20, jl_26, jl_31, jl_32, jl_40, jl_41, jl_42, jl_43, jl_47, jl_48, jl_57, jl_81, jl_97, jl_99, jl_100, jl_102, jl_103, jl_124, jl_141, jl_564, jl_705, jl_999, jl_1000, jl_9999, jI_neg, cs1, jI_add, jI_sub, jI_mul, jI_neg, jI_lt, jI_le, jI_eq, gIf, gIe, gN_jI, tn_0, tn_1, tn_2, tn_3, tn_4, Int.toNat_natCast, Int.cast_ofNat_Int, if_pos, if_neg, Option.bind_some, eq_self, Bool.false_eq_true, reduceIte, f_X5_countParts_4, R3, c, e]) gFuel (jI 0) (by unfold gFuel; omega) rfl
  try dsimp only at L
  rw [f_X5_countParts]
  simp (disch := omega) only [jl_0, jl_1, jl_2, jl_3, jl_4, jl_5, jl_6, jl_10, jl_11, jl_20, jl_26, jl_31, jl_32, jl_40, jl_41, jl_42, jl_43, jl_47, jl_48, jl_57, jl_81, jl_97, jl_99, jl_100, jl_102, jl_103, jl_124, jl_141, jl_564, jl_705, jl_999, jl_1000, jl_9999, jI_neg, cs1, jI_add, jI_sub, jI_mul, jI_neg, jI_lt, jI_le, jI_eq, gIf, gIe, gN_jI, tn_0, tn_1, tn_2, tn_3, tn_4, Int.toNat_natCast, Int.cast_ofNat_Int, if_pos, if_neg, Option.bind_some, eq_self, Bool.false_eq_true, reduceIte, ]
  rw [show ((0 : Nat) : Int) = 0 from rfl] at L
  rw [L]
  rfl
theorem u_findFirst {h : gHp} {a t n c : Nat} {S : gTb} (R : cNet h a n S) (W : gWf t n c S) {p : Nat} (hp : p < n) : f_X5_findFirst a (jI p) h = some (if gFst (fun q => decide (S 5 q = p)) p < p then jI (gFst (fun q => decide (S 5 q = p)) p) else jI (-1)) := by
  have hn := W.n
  have R3 := R.2.2.1
  have L := gUpE (fun k i (_ : Unit) => f_X5_findFirst_2 a (jI p) h k (jI i)) p (fun i _ => ∀ q, q < i → ¬ decide (S 5 q = p) = true) (if gFst (fun q => decide (S 5 q = p)) p < p then jI (gFst (fun q => decide (S 5 q = p)) p) else jI (-1)) (by
    intro k s hI
    try dsimp only
    have e := gFst_no hI
    rw [e]
    simp (disch := omega) only [jl_0, jl_1, jl_2, jl_3, jl_4, jl_5, jl_6, jl_10, jl_11, jl_20, jl_26, jl_31, jl_32, jl_40, jl_41, jl_42, jl_43, jl_47, jl_48, jl_57, jl_81, jl_97, jl_99, jl_100, jl_102, jl_103, jl_124, jl_141, jl_564, jl_705, jl_999, jl_1000, jl_9999, jI_neg, cs1, jI_add, jI_sub, jI_mul, jI_neg, jI_lt, jI_le, jI_eq, gIf, gIe, gN_jI, tn_0, tn_1, tn_2, tn_3, tn_4, Int.toNat_natCast, Int.cast_ofNat_Int, if_pos, if_neg, Option.bind_some, eq_self, Bool.false_eq_true, reduceIte, f_X5_findFirst_2]) (by
    intro k i s hi hI
    have b := W.ar (p := i) (by omega)
    try dsimp only
    by_cases c : S 5 i = p
    · right
      have e := gFst_hit (P := fun q => decide (S 5 q = (p : Int))) hI hi (decide_eq_true c)
      rw [e]
      simp (disch := omega) only [jl_0, jl_1, jl_2, jl_3, jl_4, jl_5, jl_6, jl_10, jl_11, jl_20, jl_26, jl_31, jl_32, jl_40, jl_41, jl_42, jl_43, jl_47, jl_48, jl_57, jl_81, jl_97, jl_99, jl_100, jl_102, jl_103, jl_124, jl_141, jl_564, jl_705, jl_999, jl_1000, jl_9999, jI_neg, cs1, jI_add, jI_sub, jI_mul, jI_neg, jI_lt, jI_le, jI_eq, gIf, gIe, gN_jI, tn_0, tn_1, tn_2, tn_3, tn_4, Int.toNat_natCast, Int.cast_ofNat_Int, if_pos, if_neg, Option.bind_some, eq_self, Bool.false_eq_true, reduceIte, f_X5_findFirst_2, R3, c]
    · left
      refine ⟨(), ?_, ?_⟩
      · simp (disch := omega) only [jl_0, jl_1, jl_2, jl_3, jl_4, jl_5, jl_6, jl_10, jl_11, jl_20, jl_26, jl_31, jl_32, jl_40, jl_41, jl_42, jl_43, jl_47, jl_48, jl_57, jl_81, jl_97, jl_99, jl_100, jl_102, jl_103, jl_124, jl_141, jl_564, jl_705, jl_999, jl_1000, jl_9999, jI_neg, cs1, jI_add, jI_sub, jI_mul, jI_neg, jI_lt, jI_le, jI_eq, gIf, gIe, gN_jI, tn_0, tn_1, tn_2, tn_3, tn_4, Int.toNat_natCast, Int.cast_ofNat_Int, if_pos, if_neg, Option.bind_some, eq_self, Bool.false_eq_true, reduceIte, f_X5_findFirst_2, R3, c]
      · intro q hq
        by_cases e : q = i
        · rw [e]; simp [c]
        · exact hI q (by omega)) gFuel () (by unfold gFuel; omega) (by intro q hq; omega)
  try dsimp only at L
  rw [f_X5_findFirst]
  exact L
theorem u_countKind {h : gHp} {a t n c : Nat} {S : gTb} (R : cNet h a n S) (W : gWf t n c S) : f_X5_countKind a (jI 0) h = some (jI (gCnt (fun q => decide (S 4 q = 0)) n)) := by
  have hn := W.n
  have R1 := R.1
  have R2 := R.2.1
  have L := gUpE (fun k i (s : Int32) => f_X5_countKind_4 a (jI 0) h k s (jI i)) n (fun i s => s = jI (gCnt (fun q => decide (S 4 q = 0)) i)) (jI (gCnt (fun q => decide (S 4 q = 0)) n)) (by
    rintro k _ rfl
    try dsimp only
    simp (disch := omega) only [jl_0, jl_1, jl_2, jl_3, jl_4, jl_5, jl_6, jl_10, jl_11, jl_20, jl_26, jl_31, jl_32, jl_40, jl_41, jl_42, jl_43, jl_47, jl_48, jl_57, jl_81, jl_97, jl_99, jl_100, jl_102, jl_103, jl_124, jl_141, jl_564, jl_705, jl_999, jl_1000, jl_9999, jI_neg, cs1, jI_add, jI_sub, jI_mul, jI_neg, jI_lt, jI_le, jI_eq, gIf, gIe, gN_jI, tn_0, tn_1, tn_2, tn_3, tn_4, Int.toNat_natCast, Int.cast_ofNat_Int, if_pos, if_neg, Option.bind_some, eq_self, Bool.false_eq_true, reduceIte, f_X5_countKind_4, R1]) (by
    rintro k i _ hi rfl
    left
    have b := W.kd hi
    refine ⟨_, ?_, rfl⟩
    try dsimp only
    by_cases c : S 4 i = 0
    · have e := gCnt_T (P := fun q => decide (S 4 q = 0)) (n := i) (decide_eq_true c)
      simp (disch := omega) only [jl_0, jl_1, jl_2, jl_3, jl_4, jl_5, jl_6, jl_10, jl_11, jl_20, jl_26, jl_31, jl_32, jl_40, jl_41, jl_42, jl_43, jl_47, jl_48, jl_57, jl_81, jl_97, jl_99, jl_100, jl_102, jl_103, jl_124, jl_141, jl_564, jl_705, jl_999, jl_1000, jl_9999, jI_neg, cs1, jI_add, jI_sub, jI_mul, jI_neg, jI_lt, jI_le, jI_eq, gIf, gIe, gN_jI, tn_0, tn_1, tn_2, tn_3, tn_4, Int.toNat_natCast, Int.cast_ofNat_Int, if_pos, if_neg, Option.bind_some, eq_self, Bool.false_eq_true, reduceIte, f_X5_countKind_4, R1, R2, c, e]
    · have e := gCnt_F (P := fun q => decide (S 4 q = 0)) (n := i) (by simp [c])
      simp (disch := omega) only [jl_0, jl_1, jl_2, jl_3, jl_4, jl_5, jl_6, jl_10, jl_11, jl_20, jl_26, jl_31, jl_32, jl_40, jl_41, jl_42, jl_43, jl_47, jl_48, jl_57, jl_81, jl_97, jl_99, jl_100, jl_102, jl_103, jl_124, jl_141, jl_564, jl_705, jl_999, jl_1000, jl_9999, jI_neg, cs1, jI_add, jI_sub, jI_mul, jI_neg, jI_lt, jI_le, jI_eq, gIf, gIe, gN_jI, tn_0, tn_1, tn_2, tn_3, tn_4, Int.toNat_natCast, Int.cast_ofNat_Int, if_pos, if_neg, Option.bind_some, eq_self, Bool.false_eq_true, reduceIte, f_X5_countKind_4, R1, R2, c, e]) gFuel (jI 0) (by unfold gFuel; omega) rfl
  try dsimp only at L
  rw [f_X5_countKind]
  simp (disch := omega) only [jl_0, jl_1, jl_2, jl_3, jl_4, jl_5, jl_6, jl_10, jl_11, jl_20, jl_26, jl_31, jl_32, jl_40, jl_41, jl_42, jl_43, jl_47, jl_48, jl_57, jl_81, jl_97, jl_99, jl_100, jl_102, jl_103, jl_124, jl_141, jl_564, jl_705, jl_999, jl_1000, jl_9999, jI_neg, cs1, jI_add, jI_sub, jI_mul, jI_neg, jI_lt, jI_le, jI_eq, gIf, gIe, gN_jI, tn_0, tn_1, tn_2, tn_3, tn_4, Int.toNat_natCast, Int.cast_ofNat_Int, if_pos, if_neg, Option.bind_some, eq_self, Bool.false_eq_true, reduceIte, ]
  rw [show ((0 : Nat) : Int) = 0 from rfl] at L
  rw [L]
  rfl
/-- may be folded -/
def gMay (S : gTb) (p : Nat) : Bool := decide (gCnt (fun q => decide (S 5 q = p ∧ S 8 q = 0)) p = 0)
theorem u_hasFolded {h : gHp} {a t n c : Nat} {S : gTb} (R : cSt h a n c S) (W : gWf t n c S) {p : Nat} (hp : p < n) : f_X8_hasFoldedParts a (jI p) h = some (gMay S p) := by
  have hn := W.n
  have R3 : ∀ p : Nat, p < n → h.1 (a + 1 + 2) p = jI (S 5 p) := R.1.2.2.1
  have R4 := R.2.2.2.1
  have L := gUpE (fun k i (_ : Unit) => f_X8_hasFoldedParts_2 a (jI p) h k (jI i)) p (fun i _ => gCnt (fun q => decide (S 5 q = p ∧ S 8 q = 0)) i = 0) (gMay S p) (by
    intro k s hI
    try dsimp only
    have e : gMay S p = true := decide_eq_true hI
    rw [e]
    simp (disch := omega) only [jl_0, jl_1, jl_2, jl_3, jl_4, jl_5, jl_6, jl_10, jl_11, jl_20, jl_26, jl_31, jl_32, jl_40, jl_41, jl_42, jl_43, jl_47, jl_48, jl_57, jl_81, jl_97, jl_99, jl_100, jl_102, jl_103, jl_124, jl_141, jl_564, jl_705, jl_999, jl_1000, jl_9999, jI_neg, cs1, jI_add, jI_sub, jI_mul, jI_neg, jI_lt, jI_le, jI_eq, gIf, gIe, gN_jI, tn_0, tn_1, tn_2, tn_3, tn_4, Int.toNat_natCast, Int.cast_ofNat_Int, if_pos, if_neg, Option.bind_some, eq_self, Bool.false_eq_true, reduceIte, f_X8_hasFoldedParts_2]) (by
    intro k i s hi hI
    have b := W.ar (p := i) (by omega)
    have b2 := W.fo (p := i) (by omega)
    try dsimp only
    by_cases c : S 5 i = p ∧ S 8 i = 0
    · right
      have e : gMay S p = false := decide_eq_false (gCnt_hit (P := fun q => decide (S 5 q = (p : Int) ∧ S 8 q = 0)) hi (decide_eq_true c))
      rw [e]
      obtain ⟨c1, c2⟩ := c
      simp (disch := omega) only [jl_0, jl_1, jl_2, jl_3, jl_4, jl_5, jl_6, jl_10, jl_11, jl_20, jl_26, jl_31, jl_32, jl_40, jl_41, jl_42, jl_43, jl_47, jl_48, jl_57, jl_81, jl_97, jl_99, jl_100, jl_102, jl_103, jl_124, jl_141, jl_564, jl_705, jl_999, jl_1000, jl_9999, jI_neg, cs1, jI_add, jI_sub, jI_mul, jI_neg, jI_lt, jI_le, jI_eq, gIf, gIe, gN_jI, tn_0, tn_1, tn_2, tn_3, tn_4, Int.toNat_natCast, Int.cast_ofNat_Int, if_pos, if_neg, Option.bind_some, eq_self, Bool.false_eq_true, reduceIte, f_X8_hasFoldedParts_2, R3, R4, c1, c2]
    · left
      refine ⟨(), ?_, ?_⟩
      · by_cases c1 : S 5 i = p
        · have c2 : ¬ S 8 i = 0 := fun q => c ⟨c1, q⟩
          simp (disch := omega) only [jl_0, jl_1, jl_2, jl_3, jl_4, jl_5, jl_6, jl_10, jl_11, jl_20, jl_26, jl_31, jl_32, jl_40, jl_41, jl_42, jl_43, jl_47, jl_48, jl_57, jl_81, jl_97, jl_99, jl_100, jl_102, jl_103, jl_124, jl_141, jl_564, jl_705, jl_999, jl_1000, jl_9999, jI_neg, cs1, jI_add, jI_sub, jI_mul, jI_neg, jI_lt, jI_le, jI_eq, gIf, gIe, gN_jI, tn_0, tn_1, tn_2, tn_3, tn_4, Int.toNat_natCast, Int.cast_ofNat_Int, if_pos, if_neg, Option.bind_some, eq_self, Bool.false_eq_true, reduceIte, f_X8_hasFoldedParts_2, R3, R4, c1, c2]
        · simp (disch := omega) only [jl_0, jl_1, jl_2, jl_3, jl_4, jl_5, jl_6, jl_10, jl_11, jl_20, jl_26, jl_31, jl_32, jl_40, jl_41, jl_42, jl_43, jl_47, jl_48, jl_57, jl_81, jl_97, jl_99, jl_100, jl_102, jl_103, jl_124, jl_141, jl_564, jl_705, jl_999, jl_1000, jl_9999, jI_neg, cs1, jI_add, jI_sub, jI_mul, jI_neg, jI_lt, jI_le, jI_eq, gIf, gIe, gN_jI, tn_0, tn_1, tn_2, tn_3, tn_4, Int.toNat_natCast, Int.cast_ofNat_Int, if_pos, if_neg, Option.bind_some, eq_self, Bool.false_eq_true, reduceIte, f_X8_hasFoldedParts_2, R3, R4, c1]
      · rw [gCnt_F (by simp only [decide_eq_true_eq]; exact c)]; exact hI) gFuel () (by unfold gFuel; omega) rfl
  try dsimp only at L
  rw [f_X8_hasFoldedParts]
  exact L
theorem u_isFoldable {h : gHp} {a t n c : Nat} {S : gTb} (R : cSt h a n c S) (W : gWf t n c S) {p : Nat} (hp : p < n) : f_X8_isFoldable a (jI p) h = some (decide (S 8 p = 0) && gMay S p) := by
  have hn := W.n
  have R4 := R.2.2.2.1
  have b2 := W.fo hp
  have e := u_hasFolded R W hp
  by_cases c : S 8 p = 0
  · rw [decide_eq_true c]
    rcases hm : gMay S p with _ | _
    · rw [hm] at e
      simp (disch := omega) only [jl_0, jl_1, jl_2, jl_3, jl_4, jl_5, jl_6, jl_10, jl_11, jl_20, jl_26, jl_31, jl_32, jl_40, jl_41, jl_42, jl_43, jl_47, jl_48, jl_57, jl_81, jl_97, jl_99, jl_100, jl_102, jl_103, jl_124, jl_141, jl_564, jl_705, jl_999, jl_1000, jl_9999, jI_neg, cs1, jI_add, jI_sub, jI_mul, jI_neg, jI_lt, jI_le, jI_eq, gIf, gIe, gN_jI, tn_0, tn_1, tn_2, tn_3, tn_4, Int.toNat_natCast, Int.cast_ofNat_Int, if_pos, if_neg, Option.bind_some, eq_self, Bool.false_eq_true, reduceIte, f_X8_isFoldable, R4, c, e]
      rfl
    · rw [hm] at e
      simp (disch := omega) only [jl_0, jl_1, jl_2, jl_3, jl_4, jl_5, jl_6, jl_10, jl_11, jl_20, jl_26, jl_31, jl_32, jl_40, jl_41, jl_42, jl_43, jl_47, jl_48, jl_57, jl_81, jl_97, jl_99, jl_100, jl_102, jl_103, jl_124, jl_141, jl_564, jl_705, jl_999, jl_1000, jl_9999, jI_neg, cs1, jI_add, jI_sub, jI_mul, jI_neg, jI_lt, jI_le, jI_eq, gIf, gIe, gN_jI, tn_0, tn_1, tn_2, tn_3, tn_4, Int.toNat_natCast, Int.cast_ofNat_Int, if_pos, if_neg, Option.bind_some, eq_self, Bool.false_eq_true, reduceIte, f_X8_isFoldable, R4, c, e]
      rfl
  · rw [decide_eq_false c]
    simp (disch := omega) only [jl_0, jl_1, jl_2, jl_3, jl_4, jl_5, jl_6, jl_10, jl_11, jl_20, jl_26, jl_31, jl_32, jl_40, jl_41, jl_42, jl_43, jl_47, jl_48, jl_57, jl_81, jl_97, jl_99, jl_100, jl_102, jl_103, jl_124, jl_141, jl_564, jl_705, jl_999, jl_1000, jl_9999, jI_neg, cs1, jI_add, jI_sub, jI_mul, jI_neg, jI_lt, jI_le, jI_eq, gIf, gIe, gN_jI, tn_0, tn_1, tn_2, tn_3, tn_4, Int.toNat_natCast, Int.cast_ofNat_Int, if_pos, if_neg, Option.bind_some, eq_self, Bool.false_eq_true, reduceIte, f_X8_isFoldable, R4, c]
    rfl
/-- the next part to be folded -/
def gNxt (S : gTb) (g : Bool) : Nat → Int
  | 0 => -1
  | i + 1 => if (decide (S 8 i = 0) && gMay S i) = true ∧ (gNxt S g i = -1 ∨ g = true) then i else gNxt S g i
theorem gNxt_b (S : gTb) (g : Bool) (i : Nat) : -1 ≤ gNxt S g i ∧ gNxt S g i < i := by
  induction i with
  | zero => rw [gNxt]; omega
  | succ i ih => rw [gNxt]; split <;> omega
theorem u_findFoldable {h : gHp} {a t n c : Nat} {S : gTb} (R : cSt h a n c S) (W : gWf t n c S) (g : Bool) : f_X8_findFoldable a (gZ g) h = some (jI (gNxt S g n)) := by
  have hn := W.n
  have R1 : h.1 (a + 1) 4 = jI n := R.1.1
  have L := gUpE (fun k i (s : Int32) => f_X8_findFoldable_4 a (gZ g) h k s (jI i)) n (fun i s => s = jI (gNxt S g i)) (jI (gNxt S g n)) (by
    rintro k _ rfl
    try dsimp only
    simp (disch := omega) only [jl_0, jl_1, jl_2, jl_3, jl_4, jl_5, jl_6, jl_10, jl_11, jl_20, jl_26, jl_31, jl_32, jl_40, jl_41, jl_42, jl_43, jl_47, jl_48, jl_57, jl_81, jl_97, jl_99, jl_100, jl_102, jl_103, jl_124, jl_141, jl_564, jl_705, jl_999, jl_1000, jl_9999, jI_neg, cs1, jI_add, jI_sub, jI_mul, jI_neg, jI_lt, jI_le, jI_eq, gIf, gIe, gN_jI, tn_0, tn_1, tn_2, tn_3, tn_4, Int.toNat_natCast, Int.cast_ofNat_Int, if_pos, if_neg, Option.bind_some, eq_self, Bool.false_eq_true, reduceIte, f_X8_findFoldable_4, R1]) (by
    rintro k i _ hi rfl
    left
    have b := gNxt_b S g i
    have e := u_isFoldable R W hi
    refine ⟨_, ?_, rfl⟩
    try dsimp only
    rw [gNxt]
    rcases hf : (decide (S 8 i = 0) && gMay S i) with _ | _
    · rw [hf] at e
      simp (disch := omega) only [jl_0, jl_1, jl_2, jl_3, jl_4, jl_5, jl_6, jl_10, jl_11, jl_20, jl_26, jl_31, jl_32, jl_40, jl_41, jl_42, jl_43, jl_47, jl_48, jl_57, jl_81, jl_97, jl_99, jl_100, jl_102, jl_103, jl_124, jl_141, jl_564, jl_705, jl_999, jl_1000, jl_9999, jI_neg, cs1, jI_add, jI_sub, jI_mul, jI_neg, jI_lt, jI_le, jI_eq, gIf, gIe, gN_jI, tn_0, tn_1, tn_2, tn_3, tn_4, Int.toNat_natCast, Int.cast_ofNat_Int, if_pos, if_neg, Option.bind_some, eq_self, Bool.false_eq_true, reduceIte, f_X8_findFoldable_4, R1, e, false_and]
    · rw [hf] at e
      rcases g with _ | _
      · have z0 : gZ false = jI 0 := rfl
        by_cases c : gNxt S false i = -1
        · simp (disch := omega) only [jl_0, jl_1, jl_2, jl_3, jl_4, jl_5, jl_6, jl_10, jl_11, jl_20, jl_26, jl_31, jl_32, jl_40, jl_41, jl_42, jl_43, jl_47, jl_48, jl_57, jl_81, jl_97, jl_99, jl_100, jl_102, jl_103, jl_124, jl_141, jl_564, jl_705, jl_999, jl_1000, jl_9999, jI_neg, cs1, jI_add, jI_sub, jI_mul, jI_neg, jI_lt, jI_le, jI_eq, gIf, gIe, gN_jI, tn_0, tn_1, tn_2, tn_3, tn_4, Int.toNat_natCast, Int.cast_ofNat_Int, if_pos, if_neg, Option.bind_some, eq_self, Bool.false_eq_true, reduceIte, f_X8_findFoldable_4, R1, e, z0, c, true_and, or_false]
        · simp (disch := omega) only [jl_0, jl_1, jl_2, jl_3, jl_4, jl_5, jl_6, jl_10, jl_11, jl_20, jl_26, jl_31, jl_32, jl_40, jl_41, jl_42, jl_43, jl_47, jl_48, jl_57, jl_81, jl_97, jl_99, jl_100, jl_102, jl_103, jl_124, jl_141, jl_564, jl_705, jl_999, jl_1000, jl_9999, jI_neg, cs1, jI_add, jI_sub, jI_mul, jI_neg, jI_lt, jI_le, jI_eq, gIf, gIe, gN_jI, tn_0, tn_1, tn_2, tn_3, tn_4, Int.toNat_natCast, Int.cast_ofNat_Int, if_pos, if_neg, Option.bind_some, eq_self, Bool.false_eq_true, reduceIte, f_X8_findFoldable_4, R1, e, z0, c, true_and, or_false]
      · have z0 : gZ true = jI 1 := rfl
        simp (disch := omega) only [jl_0, jl_1, jl_2, jl_3, jl_4, jl_5, jl_6, jl_10, jl_11, jl_20, jl_26, jl_31, jl_32, jl_40, jl_41, jl_42, jl_43, jl_47, jl_48, jl_57, jl_81, jl_97, jl_99, jl_100, jl_102, jl_103, jl_124, jl_141, jl_564, jl_705, jl_999, jl_1000, jl_9999, jI_neg, cs1, jI_add, jI_sub, jI_mul, jI_neg, jI_lt, jI_le, jI_eq, gIf, gIe, gN_jI, tn_0, tn_1, tn_2, tn_3, tn_4, Int.toNat_natCast, Int.cast_ofNat_Int, if_pos, if_neg, Option.bind_some, eq_self, Bool.false_eq_true, reduceIte, f_X8_findFoldable_4, R1, e, z0, true_and, or_true]) gFuel (jI (-1)) (by unfold gFuel; omega) rfl
  try dsimp only at L
  rw [f_X8_findFoldable]
  simp (disch := omega) only [jl_0, jl_1, jl_2, jl_3, jl_4, jl_5, jl_6, jl_10, jl_11, jl_20, jl_26, jl_31, jl_32, jl_40, jl_41, jl_42, jl_43, jl_47, jl_48, jl_57, jl_81, jl_97, jl_99, jl_100, jl_102, jl_103, jl_124, jl_141, jl_564, jl_705, jl_999, jl_1000, jl_9999, jI_neg, ]
  rw [show ((0 : Nat) : Int) = 0 from rfl] at L
  rw [L]
  rfl
theorem u_countUnfolded {h : gHp} {a t n c : Nat} {S : gTb} (R : cSt h a n c S) (W : gWf t n c S) : f_X8_countUnfolded a h = some (jI (gCnt (fun q => decide (S 8 q = 0)) n)) := by
  have hn := W.n
  have R1 : h.1 (a + 1) 4 = jI n := R.1.1
  have R4 := R.2.2.2.1
  have L := gUpE (fun k i (s : Int32) => f_X8_countUnfolded_4 a h k s (jI i)) n (fun i s => s = jI (gCnt (fun q => decide (S 8 q = 0)) i)) (jI (gCnt (fun q => decide (S 8 q = 0)) n)) (by
    rintro k _ rfl
    try dsimp only
    simp (disch := omega) only [jl_0, jl_1, jl_2, jl_3, jl_4, jl_5, jl_6, jl_10, jl_11, jl_20, jl_26, jl_31, jl_32, jl_40, jl_41, jl_42, jl_43, jl_47, jl_48, jl_57, jl_81, jl_97, jl_99, jl_100, jl_102, jl_103, jl_124, jl_141, jl_564, jl_705, jl_999, jl_1000, jl_9999, jI_neg, cs1, jI_add, jI_sub, jI_mul, jI_neg, jI_lt, jI_le, jI_eq, gIf, gIe, gN_jI, tn_0, tn_1, tn_2, tn_3, tn_4, Int.toNat_natCast, Int.cast_ofNat_Int, if_pos, if_neg, Option.bind_some, eq_self, Bool.false_eq_true, reduceIte, f_X8_countUnfolded_4, R1]) (by
    rintro k i _ hi rfl
    left
    have b := W.fo hi
    refine ⟨_, ?_, rfl⟩
    try dsimp only
    by_cases c : S 8 i = 0
    · have e := gCnt_T (P := fun q => decide (S 8 q = 0)) (n := i) (decide_eq_true c)
      simp (disch := omega) only [jl_0, jl_1, jl_2, jl_3, jl_4, jl_5, jl_6, jl_10, jl_11, jl_20, jl_26, jl_31, jl_32, jl_40, jl_41, jl_42, jl_43, jl_47, jl_48, jl_57, jl_81, jl_97, jl_99, jl_100, jl_102, jl_103, jl_124, jl_141, jl_564, jl_705, jl_999, jl_1000, jl_9999, jI_neg, cs1, jI_add, jI_sub, jI_mul, jI_neg, jI_lt, jI_le, jI_eq, gIf, gIe, gN_jI, tn_0, tn_1, tn_2, tn_3, tn_4, Int.toNat_natCast, Int.cast_ofNat_Int, if_pos, if_neg, Option.bind_some, eq_self, Bool.false_eq_true, reduceIte, f_X8_countUnfolded_4, R1, R4, c, e]
    · have e := gCnt_F (P := fun q => decide (S 8 q = 0)) (n := i) (by simp [c])
      simp (disch := omega) only [jl_0, jl_1, jl_2, jl_3, jl_4, jl_5, jl_6, jl_10, jl_11, jl_20, jl_26, jl_31, jl_32, jl_40, jl_41, jl_42, jl_43, jl_47, jl_48, jl_57, jl_81, jl_97, jl_99, jl_100, jl_102, jl_103, jl_124, jl_141, jl_564, jl_705, jl_999, jl_1000, jl_9999, jI_neg, cs1, jI_add, jI_sub, jI_mul, jI_neg, jI_lt, jI_le, jI_eq, gIf, gIe, gN_jI, tn_0, tn_1, tn_2, tn_3, tn_4, Int.toNat_natCast, Int.cast_ofNat_Int, if_pos, if_neg, Option.bind_some, eq_self, Bool.false_eq_true, reduceIte, f_X8_countUnfolded_4, R1, R4, c, e]) gFuel (jI 0) (by unfold gFuel; omega) rfl
  try dsimp only at L
  rw [f_X8_countUnfolded]
  simp (disch := omega) only [jl_0, jl_1, jl_2, jl_3, jl_4, jl_5, jl_6, jl_10, jl_11, jl_20, jl_26, jl_31, jl_32, jl_40, jl_41, jl_42, jl_43, jl_47, jl_48, jl_57, jl_81, jl_97, jl_99, jl_100, jl_102, jl_103, jl_124, jl_141, jl_564, jl_705, jl_999, jl_1000, jl_9999, jI_neg, ]
  rw [show ((0 : Nat) : Int) = 0 from rfl] at L
  rw [L]
  rfl
theorem u_countNotSound {h : gHp} {a t n c : Nat} {S : gTb} (R : cSt h a n c S) (W : gWf t n c S) : f_X8_countNotSound a h = some (jI (gCnt (fun l => decide (S 3 l ≠ 0 ∧ S 2 l ≠ 0)) 6)) := by
  have R3 := R.2.2.1.2
  have L := gUpE (fun k i (s : Int32) => f_X8_countNotSound_4 a h k s (jI i)) 6 (fun i s => s = jI (gCnt (fun l => decide (S 3 l ≠ 0 ∧ S 2 l ≠ 0)) i)) (jI (gCnt (fun l => decide (S 3 l ≠ 0 ∧ S 2 l ≠ 0)) 6)) (by
    rintro k _ rfl
    try dsimp only
    simp (disch := omega) only [jl_0, jl_1, jl_2, jl_3, jl_4, jl_5, jl_6, jl_10, jl_11, jl_20, jl_26, jl_31, jl_32, jl_40, jl_41, jl_42, jl_43, jl_47, jl_48, jl_57, jl_81, jl_97, jl_99, jl_100, jl_102, jl_103, jl_124, jl_141, jl_564, jl_705, jl_999, jl_1000, jl_9999, jI_neg, cs1, jI_add, jI_sub, jI_mul, jI_neg, jI_lt, jI_le, jI_eq, gIf, gIe, gN_jI, tn_0, tn_1, tn_2, tn_3, tn_4, Int.toNat_natCast, Int.cast_ofNat_Int, if_pos, if_neg, Option.bind_some, eq_self, Bool.false_eq_true, reduceIte, f_X8_countNotSound_4, Int.cast_ofNat_Int]) (by
    rintro k i _ hi rfl
    left
    have e1 := u_hasArm R.1 W (z := i) (by omega) (by omega)
    rw [Int.toNat_natCast] at e1
    refine ⟨_, ?_, rfl⟩
    try dsimp only
    by_cases c : S 3 i = 0
    · have e := gCnt_F (P := fun l => decide (S 3 l ≠ 0 ∧ S 2 l ≠ 0)) (n := i) (by simp [c])
      rw [decide_eq_false (by omega)] at e1
      simp (disch := omega) only [jl_0, jl_1, jl_2, jl_3, jl_4, jl_5, jl_6, jl_10, jl_11, jl_20, jl_26, jl_31, jl_32, jl_40, jl_41, jl_42, jl_43, jl_47, jl_48, jl_57, jl_81, jl_97, jl_99, jl_100, jl_102, jl_103, jl_124, jl_141, jl_564, jl_705, jl_999, jl_1000, jl_9999, jI_neg, cs1, jI_add, jI_sub, jI_mul, jI_neg, jI_lt, jI_le, jI_eq, gIf, gIe, gN_jI, tn_0, tn_1, tn_2, tn_3, tn_4, Int.toNat_natCast, Int.cast_ofNat_Int, if_pos, if_neg, Option.bind_some, eq_self, Bool.false_eq_true, reduceIte, f_X8_countNotSound_4, e1, e]
    · have b := W.lt hi c
      rw [decide_eq_true (by omega)] at e1
      have R3i := R3 i hi c
      by_cases c2 : S 2 i = 0
      · have e := gCnt_F (P := fun l => decide (S 3 l ≠ 0 ∧ S 2 l ≠ 0)) (n := i) (by simp [c2])
        simp (disch := omega) only [jl_0, jl_1, jl_2, jl_3, jl_4, jl_5, jl_6, jl_10, jl_11, jl_20, jl_26, jl_31, jl_32, jl_40, jl_41, jl_42, jl_43, jl_47, jl_48, jl_57, jl_81, jl_97, jl_99, jl_100, jl_102, jl_103, jl_124, jl_141, jl_564, jl_705, jl_999, jl_1000, jl_9999, jI_neg, cs1, jI_add, jI_sub, jI_mul, jI_neg, jI_lt, jI_le, jI_eq, gIf, gIe, gN_jI, tn_0, tn_1, tn_2, tn_3, tn_4, Int.toNat_natCast, Int.cast_ofNat_Int, if_pos, if_neg, Option.bind_some, eq_self, Bool.false_eq_true, reduceIte, f_X8_countNotSound_4, e1, e, R3i, c2]
      · have e := gCnt_T (P := fun l => decide (S 3 l ≠ 0 ∧ S 2 l ≠ 0)) (n := i) (decide_eq_true ⟨c, c2⟩)
        simp (disch := omega) only [jl_0, jl_1, jl_2, jl_3, jl_4, jl_5, jl_6, jl_10, jl_11, jl_20, jl_26, jl_31, jl_32, jl_40, jl_41, jl_42, jl_43, jl_47, jl_48, jl_57, jl_81, jl_97, jl_99, jl_100, jl_102, jl_103, jl_124, jl_141, jl_564, jl_705, jl_999, jl_1000, jl_9999, jI_neg, cs1, jI_add, jI_sub, jI_mul, jI_neg, jI_lt, jI_le, jI_eq, gIf, gIe, gN_jI, tn_0, tn_1, tn_2, tn_3, tn_4, Int.toNat_natCast, Int.cast_ofNat_Int, if_pos, if_neg, Option.bind_some, eq_self, Bool.false_eq_true, reduceIte, f_X8_countNotSound_4, e1, e, R3i, c2]) gFuel (jI 0) (by unfold gFuel; omega) rfl
  try dsimp only at L
  rw [f_X8_countNotSound]
  simp (disch := omega) only [jl_0, jl_1, jl_2, jl_3, jl_4, jl_5, jl_6, jl_10, jl_11, jl_20, jl_26, jl_31, jl_32, jl_40, jl_41, jl_42, jl_43, jl_47, jl_48, jl_57, jl_81, jl_97, jl_99, jl_100, jl_102, jl_103, jl_124, jl_141, jl_564, jl_705, jl_999, jl_1000, jl_9999, jI_neg, ]
  rw [show ((0 : Nat) : Int) = 0 from rfl] at L
  rw [L]
  rfl
