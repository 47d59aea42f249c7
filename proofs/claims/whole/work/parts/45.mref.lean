/-! the reference's row: what is read -/
theorem m_in (h : gHp) {x y z : Int} (h1 : -2147483648 ≤ x) (h2 : x < 2147483648) (h3 : -2147483648 ≤ y) (h4 : y < 2147483648) (h5 : -2147483648 ≤ z) (h6 : z < 2147483648) : f_X10_in (jI x) (jI y) (jI z) h = some (decide (y ≤ x ∧ x ≤ z)) := by
  by_cases c1 : x < y
  · rw [decide_eq_false (by omega)]
    simp (disch := omega) only [jl_0, jl_1, jl_2, jl_3, jl_4, jl_5, jl_6, jl_10, jl_11, jl_20, jl_26, jl_31, jl_32, jl_40, jl_41, jl_42, jl_43, jl_47, jl_48, jl_57, jl_81, jl_97, jl_99, jl_100, jl_102, jl_103, jl_124, jl_141, jl_564, jl_705, jl_999, jl_1000, jl_9999, jI_neg, cs1, jI_add, jI_sub, jI_mul, jI_neg, jI_lt, jI_le, jI_eq, gIf, gIe, gN_jI, tn_0, tn_1, tn_2, tn_3, tn_4, Int.toNat_natCast, Int.cast_ofNat_Int, if_pos, if_neg, Option.bind_some, eq_self, Bool.false_eq_true, reduceIte, f_X10_in]
  · by_cases c2 : z < x
    · rw [decide_eq_false (by omega)]
      simp (disch := omega) only [jl_0, jl_1, jl_2, jl_3, jl_4, jl_5, jl_6, jl_10, jl_11, jl_20, jl_26, jl_31, jl_32, jl_40, jl_41, jl_42, jl_43, jl_47, jl_48, jl_57, jl_81, jl_97, jl_99, jl_100, jl_102, jl_103, jl_124, jl_141, jl_564, jl_705, jl_999, jl_1000, jl_9999, jI_neg, cs1, jI_add, jI_sub, jI_mul, jI_neg, jI_lt, jI_le, jI_eq, gIf, gIe, gN_jI, tn_0, tn_1, tn_2, tn_3, tn_4, Int.toNat_natCast, Int.cast_ofNat_Int, if_pos, if_neg, Option.bind_some, eq_self, Bool.false_eq_true, reduceIte, f_X10_in]
    · rw [decide_eq_true (by omega)]
      simp (disch := omega) only [jl_0, jl_1, jl_2, jl_3, jl_4, jl_5, jl_6, jl_10, jl_11, jl_20, jl_26, jl_31, jl_32, jl_40, jl_41, jl_42, jl_43, jl_47, jl_48, jl_57, jl_81, jl_97, jl_99, jl_100, jl_102, jl_103, jl_124, jl_141, jl_564, jl_705, jl_999, jl_1000, jl_9999, jI_neg, cs1, jI_add, jI_sub, jI_mul, jI_neg, jI_lt, jI_le, jI_eq, gIf, gIe, gN_jI, tn_0, tn_1, tn_2, tn_3, tn_4, Int.toNat_natCast, Int.cast_ofNat_Int, if_pos, if_neg, Option.bind_some, eq_self, Bool.false_eq_true, reduceIte, f_X10_in]
theorem m_parts {h : gHp} {m n c : Nat} {S : gTb} (R : mRow (h.2 (m + 1)) n c S) (hn : n ≤ 11) : f_X10_parts m h = some (jI n) := by
  have e := R.1.1
  simp (disch := omega) only [jl_0, jl_1, jl_2, jl_3, jl_4, jl_5, jl_6, jl_10, jl_11, jl_20, jl_26, jl_31, jl_32, jl_40, jl_41, jl_42, jl_43, jl_47, jl_48, jl_57, jl_81, jl_97, jl_99, jl_100, jl_102, jl_103, jl_124, jl_141, jl_564, jl_705, jl_999, jl_1000, jl_9999, jI_neg, cs1, jI_add, jI_sub, jI_mul, jI_neg, jI_lt, jI_le, jI_eq, gIf, gIe, gN_jI, tn_0, tn_1, tn_2, tn_3, tn_4, Int.toNat_natCast, Int.cast_ofNat_Int, if_pos, if_neg, Option.bind_some, eq_self, Bool.false_eq_true, reduceIte, f_X10_parts, e, lI_to32]
theorem m_noPart {h : gHp} {m n c : Nat} {S : gTb} (R : mRow (h.2 (m + 1)) n c S) (hn : n ≤ 11) {z : Int} (h1 : -2147483648 ≤ z) (h2 : z < 2147483648) : f_X10_noPart m (jI z) h = some (!decide (0 ≤ z ∧ z < n)) := by
  have e := m_parts R hn
  by_cases c : 0 ≤ z ∧ z < n
  · have d := m_in h (x := z) (y := 0) (z := (n : Int) - 1) h1 h2 (by omega) (by omega) (by omega) (by omega)
    rw [decide_eq_true (by omega)] at d
    rw [decide_eq_true c]
    simp (disch := omega) only [jl_0, jl_1, jl_2, jl_3, jl_4, jl_5, jl_6, jl_10, jl_11, jl_20, jl_26, jl_31, jl_32, jl_40, jl_41, jl_42, jl_43, jl_47, jl_48, jl_57, jl_81, jl_97, jl_99, jl_100, jl_102, jl_103, jl_124, jl_141, jl_564, jl_705, jl_999, jl_1000, jl_9999, jI_neg, cs1, jI_add, jI_sub, jI_mul, jI_neg, jI_lt, jI_le, jI_eq, gIf, gIe, gN_jI, tn_0, tn_1, tn_2, tn_3, tn_4, Int.toNat_natCast, Int.cast_ofNat_Int, if_pos, if_neg, Option.bind_some, eq_self, Bool.false_eq_true, reduceIte, f_X10_noPart, e, d]
    rfl
  · have d := m_in h (x := z) (y := 0) (z := (n : Int) - 1) h1 h2 (by omega) (by omega) (by omega) (by omega)
    rw [decide_eq_false (by omega)] at d
    rw [decide_eq_false c]
    simp (disch := omega) only [jl_0, jl_1, jl_2, jl_3, jl_4, jl_5, jl_6, jl_10, jl_11, jl_20, jl_26, jl_31, jl_32, jl_40, jl_41, jl_42, jl_43, jl_47, jl_48, jl_57, jl_81, jl_97, jl_99, jl_100, jl_102, jl_103, jl_124, jl_141, jl_564, jl_705, jl_999, jl_1000, jl_9999, jI_neg, cs1, jI_add, jI_sub, jI_mul, jI_neg, jI_lt, jI_le, jI_eq, gIf, gIe, gN_jI, tn_0, tn_1, tn_2, tn_3, tn_4, Int.toNat_natCast, Int.cast_ofNat_Int, if_pos, if_neg, Option.bind_some, eq_self, Bool.false_eq_true, reduceIte, f_X10_noPart, e, d]
    rfl
theorem m_noPartT {h : gHp} {m n c : Nat} {S : gTb} (R : mRow (h.2 (m + 1)) n c S) (hn : n ≤ 11) {p : Nat} (hp : p < n) : f_X10_noPart m (jI p) h = some false := by
  rw [m_noPart R hn (by omega) (by omega), decide_eq_true (by omega)]
  rfl
theorem m_ofPart0 (h : gHp) (m : Nat) {p w : Nat} (h1 : p < 23) (h2 : w < 5) : f_X10_ofPart m (jI p) (jI w) h = some ((h.2 (m + 1) (26 + 5 * p + w)).toInt32) := by
  have e : (26 + 5 * (p : Int) + w).toNat = 26 + 5 * p + w := by omega
  simp (disch := omega) only [jl_0, jl_1, jl_2, jl_3, jl_4, jl_5, jl_6, jl_10, jl_11, jl_20, jl_26, jl_31, jl_32, jl_40, jl_41, jl_42, jl_43, jl_47, jl_48, jl_57, jl_81, jl_97, jl_99, jl_100, jl_102, jl_103, jl_124, jl_141, jl_564, jl_705, jl_999, jl_1000, jl_9999, jI_neg, cs1, jI_add, jI_sub, jI_mul, jI_neg, jI_lt, jI_le, jI_eq, gIf, gIe, gN_jI, tn_0, tn_1, tn_2, tn_3, tn_4, Int.toNat_natCast, Int.cast_ofNat_Int, if_pos, if_neg, Option.bind_some, eq_self, Bool.false_eq_true, reduceIte, f_X10_ofPart, e]
theorem m_ofArm0 (h : gHp) (m : Nat) {l w : Nat} (h1 : l < 6) (h2 : w < 3) : f_X10_ofArm m (jI l) (jI w) h = some ((h.2 (m + 1) (8 + 3 * l + w)).toInt32) := by
  have e : (8 + 3 * (l : Int) + w).toNat = 8 + 3 * l + w := by omega
  have l8 : (8 : Int32) = jI 8 := rfl
  simp (disch := omega) only [jl_0, jl_1, jl_2, jl_3, jl_4, jl_5, jl_6, jl_10, jl_11, jl_20, jl_26, jl_31, jl_32, jl_40, jl_41, jl_42, jl_43, jl_47, jl_48, jl_57, jl_81, jl_97, jl_99, jl_100, jl_102, jl_103, jl_124, jl_141, jl_564, jl_705, jl_999, jl_1000, jl_9999, jI_neg, cs1, jI_add, jI_sub, jI_mul, jI_neg, jI_lt, jI_le, jI_eq, gIf, gIe, gN_jI, tn_0, tn_1, tn_2, tn_3, tn_4, Int.toNat_natCast, Int.cast_ofNat_Int, if_pos, if_neg, Option.bind_some, eq_self, Bool.false_eq_true, reduceIte, f_X10_ofArm, e, l8]
theorem m_kind {h : gHp} {m t n c : Nat} {S : gTb} (R : mRow (h.2 (m + 1)) n c S) (W : gWf t n c S) {p : Nat} (hp : p < n) : f_X10_ofPart m (jI p) (jI 0) h = some (jI (S 4 p)) := by
  have hn := W.n
  have b := W.kd hp
  have e := m_ofPart0 h m (p := p) (w := 0) (by omega) (by omega)
  rw [show 26 + 5 * p + 0 = 26 + 5 * p from rfl, (R.2.2.2.1 p hp).1, lI_to32 (by omega) (by omega)] at e
  exact e
theorem m_around {h : gHp} {m t n c : Nat} {S : gTb} (R : mRow (h.2 (m + 1)) n c S) (W : gWf t n c S) {p : Nat} (hp : p < n) : f_X10_ofPart m (jI p) (jI 1) h = some (jI (r4 (S 5 p))) := by
  have hn := W.n
  have b := W.ar hp
  have e := m_ofPart0 h m (p := p) (w := 1) (by omega) (by omega)
  rw [(R.2.2.2.1 p hp).2.1, lI_to32 (by unfold r4; split <;> omega) (by unfold r4; split <;> omega)] at e
  exact e
theorem m_letter {h : gHp} {m t n c : Nat} {S : gTb} (R : mRow (h.2 (m + 1)) n c S) (W : gWf t n c S) {p : Nat} (hp : p < n) : f_X10_ofPart m (jI p) (jI 2) h = some (jI (r4 (S 6 p))) := by
  have hn := W.n
  have b := W.letp hp
  have e := m_ofPart0 h m (p := p) (w := 2) (by omega) (by omega)
  rw [(R.2.2.2.1 p hp).2.2.1, lI_to32 (by unfold r4; split <;> omega) (by unfold r4; split <;> omega)] at e
  exact e
theorem m_sons {h : gHp} {m t n c : Nat} {S : gTb} (R : mRow (h.2 (m + 1)) n c S) (W : gWf t n c S) {p : Nat} (hp : p < n) : f_X10_ofPart m (jI p) (jI 3) h = some (jI (gCnt (fun q => decide (S 5 q = p)) p)) := by
  have hn := W.n
  have b := gCnt_le (fun q => decide (S 5 q = (p : Int))) p
  have e := m_ofPart0 h m (p := p) (w := 3) (by omega) (by omega)
  rw [(R.2.2.2.1 p hp).2.2.2.1, W.sn hp, lI_to32 (by omega) (by omega)] at e
  exact e
theorem m_folded {h : gHp} {m t n c : Nat} {S : gTb} (R : mRow (h.2 (m + 1)) n c S) (W : gWf t n c S) {p : Nat} (hp : p < n) : f_X10_ofPart m (jI p) (jI 4) h = some (jI (S 8 p)) := by
  have hn := W.n
  have b := W.fo hp
  have e := m_ofPart0 h m (p := p) (w := 4) (by omega) (by omega)
  rw [(R.2.2.2.1 p hp).2.2.2.2, lI_to32 (by omega) (by omega)] at e
  exact e
theorem m_value {h : gHp} {m t n c : Nat} {S : gTb} (R : mRow (h.2 (m + 1)) n c S) (W : gWf t n c S) {l : Nat} (hl : l < 6) (h0 : S 3 l ≠ 0) : f_X10_ofArm m (jI l) (jI 0) h = some (jI (S 1 l)) := by
  have b := W.lt hl h0
  have e := m_ofArm0 h m (l := l) (w := 0) hl (by omega)
  rw [show 8 + 3 * l + 0 = 8 + 3 * l from rfl, (R.2.2.1 l hl h0).1, lI_to32 (by omega) (by omega)] at e
  exact e
theorem m_state {h : gHp} {m t n c : Nat} {S : gTb} (R : mRow (h.2 (m + 1)) n c S) (W : gWf t n c S) {l : Nat} (hl : l < 6) (h0 : S 3 l ≠ 0) : f_X10_ofArm m (jI l) (jI 1) h = some (jI (S 2 l)) := by
  have b := W.lt hl h0
  have e := m_ofArm0 h m (l := l) (w := 1) hl (by omega)
  rw [(R.2.2.1 l hl h0).2, lI_to32 (by omega) (by omega)] at e
  exact e
theorem m_at {h : gHp} {m t n c : Nat} {S : gTb} (R : mRow (h.2 (m + 1)) n c S) (W : gWf t n c S) {l : Nat} (hl : l < 6) : f_X10_ofArm m (jI l) (jI 2) h = some (jI (S 3 l)) := by
  have hn := W.n
  have b := W.an hl
  have e := m_ofArm0 h m (l := l) (w := 2) hl (by omega)
  rw [R.2.1 l hl, lI_to32 (by omega) (by omega)] at e
  exact e
theorem m_hasArm {h : gHp} {m t n c : Nat} {S : gTb} (R : mRow (h.2 (m + 1)) n c S) (W : gWf t n c S) {z : Int} (h1 : -2147483648 ≤ z) (h2 : z < 2147483648) : f_X10_hasArm m (jI z) h = some (decide (0 ≤ z ∧ z < 6 ∧ S 3 z.toNat ≠ 0)) := by
  have d := m_in h (x := z) (y := 0) (z := 5) h1 h2 (by omega) (by omega) (by omega) (by omega)
  by_cases c1 : 0 ≤ z ∧ z < 6
  · obtain ⟨l, rfl⟩ : ∃ l : Nat, z = l := ⟨z.toNat, by omega⟩
    have b := W.an (l := l) (by omega)
    have hn := W.n
    have e := m_at R W (l := l) (by omega)
    rw [decide_eq_true (by omega)] at d
    rw [Int.toNat_natCast]
    by_cases c2 : S 3 l = 0
    · rw [decide_eq_false (by omega)]
      simp (disch := omega) only [jl_0, jl_1, jl_2, jl_3, jl_4, jl_5, jl_6, jl_10, jl_11, jl_20, jl_26, jl_31, jl_32, jl_40, jl_41, jl_42, jl_43, jl_47, jl_48, jl_57, jl_81, jl_97, jl_99, jl_100, jl_102, jl_103, jl_124, jl_141, jl_564, jl_705, jl_999, jl_1000, jl_9999, jI_neg, cs1, jI_add, jI_sub, jI_mul, jI_neg, jI_lt, jI_le, jI_eq, gIf, gIe, gN_jI, tn_0, tn_1, tn_2, tn_3, tn_4, Int.toNat_natCast, Int.cast_ofNat_Int, if_pos, if_neg, Option.bind_some, eq_self, Bool.false_eq_true, reduceIte, f_X10_hasArm, d, e]
    · rw [decide_eq_true (by omega)]
      simp (disch := omega) only [jl_0, jl_1, jl_2, jl_3, jl_4, jl_5, jl_6, jl_10, jl_11, jl_20, jl_26, jl_31, jl_32, jl_40, jl_41, jl_42, jl_43, jl_47, jl_48, jl_57, jl_81, jl_97, jl_99, jl_100, jl_102, jl_103, jl_124, jl_141, jl_564, jl_705, jl_999, jl_1000, jl_9999, jI_neg, cs1, jI_add, jI_sub, jI_mul, jI_neg, jI_lt, jI_le, jI_eq, gIf, gIe, gN_jI, tn_0, tn_1, tn_2, tn_3, tn_4, Int.toNat_natCast, Int.cast_ofNat_Int, if_pos, if_neg, Option.bind_some, eq_self, Bool.false_eq_true, reduceIte, f_X10_hasArm, d, e]
  · rw [decide_eq_false (by omega)] at d
    rw [decide_eq_false (by omega)]
    simp (disch := omega) only [jl_0, jl_1, jl_2, jl_3, jl_4, jl_5, jl_6, jl_10, jl_11, jl_20, jl_26, jl_31, jl_32, jl_40, jl_41, jl_42, jl_43, jl_47, jl_48, jl_57, jl_81, jl_97, jl_99, jl_100, jl_102, jl_103, jl_124, jl_141, jl_564, jl_705, jl_999, jl_1000, jl_9999, jI_neg, cs1, jI_add, jI_sub, jI_mul, jI_neg, jI_lt, jI_le, jI_eq, gIf, gIe, gN_jI, tn_0, tn_1, tn_2, tn_3, tn_4, Int.toNat_natCast, Int.cast_ofNat_Int, if_pos, if_neg, Option.bind_some, eq_self, Bool.false_eq_true, reduceIte, f_X10_hasArm, d]
theorem m_isFolded {h : gHp} {m t n c : Nat} {S : gTb} (R : mRow (h.2 (m + 1)) n c S) (W : gWf t n c S) {p : Nat} (hp : p < n) : f_X10_isFolded m (jI p) h = some (decide (S 8 p = 1)) := by
  have e := m_folded R W hp
  have b := W.fo hp
  by_cases c : S 8 p = 1
  · rw [decide_eq_true c]
    simp (disch := omega) only [jl_0, jl_1, jl_2, jl_3, jl_4, jl_5, jl_6, jl_10, jl_11, jl_20, jl_26, jl_31, jl_32, jl_40, jl_41, jl_42, jl_43, jl_47, jl_48, jl_57, jl_81, jl_97, jl_99, jl_100, jl_102, jl_103, jl_124, jl_141, jl_564, jl_705, jl_999, jl_1000, jl_9999, jI_neg, cs1, jI_add, jI_sub, jI_mul, jI_neg, jI_lt, jI_le, jI_eq, gIf, gIe, gN_jI, tn_0, tn_1, tn_2, tn_3, tn_4, Int.toNat_natCast, Int.cast_ofNat_Int, if_pos, if_neg, Option.bind_some, eq_self, Bool.false_eq_true, reduceIte, f_X10_isFolded, e]
  · rw [decide_eq_false c]
    simp (disch := omega) only [jl_0, jl_1, jl_2, jl_3, jl_4, jl_5, jl_6, jl_10, jl_11, jl_20, jl_26, jl_31, jl_32, jl_40, jl_41, jl_42, jl_43, jl_47, jl_48, jl_57, jl_81, jl_97, jl_99, jl_100, jl_102, jl_103, jl_124, jl_141, jl_564, jl_705, jl_999, jl_1000, jl_9999, jI_neg, cs1, jI_add, jI_sub, jI_mul, jI_neg, jI_lt, jI_le, jI_eq, gIf, gIe, gN_jI, tn_0, tn_1, tn_2, tn_3, tn_4, Int.toNat_natCast, Int.cast_ofNat_Int, if_pos, if_neg, Option.bind_some, eq_self, Bool.false_eq_true, reduceIte, f_X10_isFolded, e]
theorem m_mayFold {h : gHp} {m t n c : Nat} {S : gTb} (R : mRow (h.2 (m + 1)) n c S) (W : gWf t n c S) {p : Nat} (hp : p < n) : f_X10_mayFold m (jI p) h = some (gMay S p) := by
  have hn := W.n
  have L := gUpE (fun k i (_ : Unit) => f_X10_mayFold_2 m (jI p) h k (jI i)) p (fun i _ => gCnt (fun q => decide (S 5 q = p ∧ S 8 q = 0)) i = 0) (gMay S p) (by
    intro k s hI
    try dsimp only
    have e : gMay S p = true := decide_eq_true hI
    rw [e]
    simp (disch := omega) only [jl_0, jl_1, jl_2, jl_3, jl_4, jl_5, jl_6, jl_10, jl_11, jl_20, jl_26, jl_31, jl_32, jl_40, jl_41, jl_42, jl_43, jl_47, jl_48, jl_57, jl_81, jl_97, jl_99, jl_100, jl_102, jl_103, jl_124, jl_141, jl_564, jl_705, jl_999, jl_1000, jl_9999, jI_neg, cs1, jI_add, jI_sub, jI_mul, jI_neg, jI_lt, jI_le, jI_eq, gIf, gIe, gN_jI, tn_0, tn_1, tn_2, tn_3, tn_4, Int.toNat_natCast, Int.cast_ofNat_Int, if_pos, if_neg, Option.bind_some, eq_self, Bool.false_eq_true, reduceIte, f_X10_mayFold_2]) (by
    intro k i s hi hI
    have b := W.ar (p := i) (by omega)
    have b2 := W.fo (p := i) (by omega)
    have e1 := m_around R W (p := i) (by omega)
    have e2 := m_isFolded R W (p := i) (by omega)
    try dsimp only
    by_cases c : S 5 i = p ∧ S 8 i = 0
    · right
      have e : gMay S p = false := decide_eq_false (gCnt_hit (P := fun q => decide (S 5 q = (p : Int) ∧ S 8 q = 0)) hi (decide_eq_true c))
      rw [e]
      rw [decide_eq_false (by omega)] at e2
      have c1 : r4 (S 5 i) = p := by rw [r4_p (by omega)]; exact c.1
      simp (disch := omega) only [jl_0, jl_1, jl_2, jl_3, jl_4, jl_5, jl_6, jl_10, jl_11, jl_20, jl_26, jl_31, jl_32, jl_40, jl_41, jl_42, jl_43, jl_47, jl_48, jl_57, jl_81, jl_97, jl_99, jl_100, jl_102, jl_103, jl_124, jl_141, jl_564, jl_705, jl_999, jl_1000, jl_9999, jI_neg, cs1, jI_add, jI_sub, jI_mul, jI_neg, jI_lt, jI_le, jI_eq, gIf, gIe, gN_jI, tn_0, tn_1, tn_2, tn_3, tn_4, Int.toNat_natCast, Int.cast_ofNat_Int, if_pos, if_neg, Option.bind_some, eq_self, Bool.false_eq_true, reduceIte, f_X10_mayFold_2, e1, e2, c1]
    · left
      refine ⟨(), ?_, ?_⟩
      · by_cases c1 : S 5 i = p
        · rw [decide_eq_true (by omega)] at e2
          have c2 : r4 (S 5 i) = p := by rw [r4_p (by omega)]; exact c1
          simp (disch := omega) only [jl_0, jl_1, jl_2, jl_3, jl_4, jl_5, jl_6, jl_10, jl_11, jl_20, jl_26, jl_31, jl_32, jl_40, jl_41, jl_42, jl_43, jl_47, jl_48, jl_57, jl_81, jl_97, jl_99, jl_100, jl_102, jl_103, jl_124, jl_141, jl_564, jl_705, jl_999, jl_1000, jl_9999, jI_neg, cs1, jI_add, jI_sub, jI_mul, jI_neg, jI_lt, jI_le, jI_eq, gIf, gIe, gN_jI, tn_0, tn_1, tn_2, tn_3, tn_4, Int.toNat_natCast, Int.cast_ofNat_Int, if_pos, if_neg, Option.bind_some, eq_self, Bool.false_eq_true, reduceIte, f_X10_mayFold_2, e1, e2, c2]
        · have c2 : ¬ r4 (S 5 i) = p := fun q => c1 ((r4_eq (by omega)).mp q)
          have b3 : -4 ≤ r4 (S 5 i) ∧ r4 (S 5 i) < n := by unfold r4; split <;> omega
          simp (disch := omega) only [jl_0, jl_1, jl_2, jl_3, jl_4, jl_5, jl_6, jl_10, jl_11, jl_20, jl_26, jl_31, jl_32, jl_40, jl_41, jl_42, jl_43, jl_47, jl_48, jl_57, jl_81, jl_97, jl_99, jl_100, jl_102, jl_103, jl_124, jl_141, jl_564, jl_705, jl_999, jl_1000, jl_9999, jI_neg, cs1, jI_add, jI_sub, jI_mul, jI_neg, jI_lt, jI_le, jI_eq, gIf, gIe, gN_jI, tn_0, tn_1, tn_2, tn_3, tn_4, Int.toNat_natCast, Int.cast_ofNat_Int, if_pos, if_neg, Option.bind_some, eq_self, Bool.false_eq_true, reduceIte, f_X10_mayFold_2, e1, c2]
      · rw [gCnt_F (by simp only [decide_eq_true_eq]; exact c)]; exact hI) gFuel () (by unfold gFuel; omega) rfl
  try dsimp only at L
  rw [f_X10_mayFold]
  exact L
theorem m_open {h : gHp} {m t n c : Nat} {S : gTb} (R : mRow (h.2 (m + 1)) n c S) (W : gWf t n c S) : f_X10_open m h = some (jI (gCnt (fun q => decide (S 8 q = 0)) n)) := by
  have hn := W.n
  have e0 := m_parts R hn
  have L := gUpE (fun k i (s : Int32) => f_X10_open_4 m h k s (jI i)) n (fun i s => s = jI (gCnt (fun q => decide (S 8 q = 0)) i)) (jI (gCnt (fun q => decide (S 8 q = 0)) n)) (by
    rintro k _ rfl
    try dsimp only
    simp (disch := omega) only [jl_0, jl_1, jl_2, jl_3, jl_4, jl_5, jl_6, jl_10, jl_11, jl_20, jl_26, jl_31, jl_32, jl_40, jl_41, jl_42, jl_43, jl_47, jl_48, jl_57, jl_81, jl_97, jl_99, jl_100, jl_102, jl_103, jl_124, jl_141, jl_564, jl_705, jl_999, jl_1000, jl_9999, jI_neg, cs1, jI_add, jI_sub, jI_mul, jI_neg, jI_lt, jI_le, jI_eq, gIf, gIe, gN_jI, tn_0, tn_1, tn_2, tn_3, tn_4, Int.toNat_natCast, Int.cast_ofNat_Int, if_pos, if_neg, Option.bind_some, eq_self, Bool.false_eq_true, reduceIte, f_X10_open_4, e0]) (by
    rintro k i _ hi rfl
    left
    have b := W.fo hi
    have e2 := m_isFolded R W hi
    refine ⟨_, ?_, rfl⟩
    try dsimp only
    by_cases c : S 8 i = 0
    · have e := gCnt_T (P := fun q => decide (S 8 q = 0)) (n := i) (decide_eq_true c)
      rw [decide_eq_false (by omega)] at e2
      simp (disch := omega) only [jl_0, jl_1, jl_2, jl_3, jl_4, jl_5, jl_6, jl_10, jl_11, jl_20, jl_26, jl_31, jl_32, jl_40, jl_41, jl_42, jl_43, jl_47, jl_48, jl_57, jl_81, jl_97, jl_99, jl_100, jl_102, jl_103, jl_124, jl_141, jl_564, jl_705, jl_999, jl_1000, jl_9999, jI_neg, cs1, jI_add, jI_sub, jI_mul, jI_neg, jI_lt, jI_le, jI_eq, gIf, gIe, gN_jI, tn_0, tn_1, tn_2, tn_3, tn_4, Int.toNat_natCast, Int.cast_ofNat_Int, if_pos, if_neg, Option.bind_some, eq_self, Bool.false_eq_true, reduceIte, f_X10_open_4, e0, e2, e]
    · have e := gCnt_F (P := fun q => decide (S 8 q = 0)) (n := i) (by simp [c])
      rw [decide_eq_true (by omega)] at e2
      simp (disch := omega) only [jl_0, jl_1, jl_2, jl_3, jl_4, jl_5, jl_6, jl_10, jl_11, jl_20, jl_26, jl_31, jl_32, jl_40, jl_41, jl_42, jl_43, jl_47, jl_48, jl_57, jl_81, jl_97, jl_99, jl_100, jl_102, jl_103, jl_124, jl_141, jl_564, jl_705, jl_999, jl_1000, jl_9999, jI_neg, cs1, jI_add, jI_sub, jI_mul, jI_neg, jI_lt, jI_le, jI_eq, gIf, gIe, gN_jI, tn_0, tn_1, tn_2, tn_3, tn_4, Int.toNat_natCast, Int.cast_ofNat_Int, if_pos, if_neg, Option.bind_some, eq_self, Bool.false_eq_true, reduceIte, f_X10_open_4, e0, e2, e, Int.add_zero]) gFuel (jI 0) (by unfold gFuel; omega) rfl
  try dsimp only at L
  rw [f_X10_open]
  simp (disch := omega) only [jl_0, jl_1, jl_2, jl_3, jl_4, jl_5, jl_6, jl_10, jl_11, jl_20, jl_26, jl_31, jl_32, jl_40, jl_41, jl_42, jl_43, jl_47, jl_48, jl_57, jl_81, jl_97, jl_99, jl_100, jl_102, jl_103, jl_124, jl_141, jl_564, jl_705, jl_999, jl_1000, jl_9999, jI_neg, ]
  rw [show ((0 : Nat) : Int) = 0 from rfl] at L
  rw [L]
  rfl
theorem m_nextFold {h : gHp} {m t n c : Nat} {S : gTb} (R : mRow (h.2 (m + 1)) n c S) (W : gWf t n c S) (g : Bool) : f_X10_nextFold m (gZ g) h = some (jI (r4 (gNxt S g n))) := by
  have hn := W.n
  have e0 := m_parts R hn
  have L := gUpE (fun k i (s : Int32) => f_X10_nextFold_5 m (gZ g) h k s (jI i)) n (fun i s => s = jI (r4 (gNxt S g i))) (jI (r4 (gNxt S g n))) (by
    rintro k _ rfl
    try dsimp only
    simp (disch := omega) only [jl_0, jl_1, jl_2, jl_3, jl_4, jl_5, jl_6, jl_10, jl_11, jl_20, jl_26, jl_31, jl_32, jl_40, jl_41, jl_42, jl_43, jl_47, jl_48, jl_57, jl_81, jl_97, jl_99, jl_100, jl_102, jl_103, jl_124, jl_141, jl_564, jl_705, jl_999, jl_1000, jl_9999, jI_neg, cs1, jI_add, jI_sub, jI_mul, jI_neg, jI_lt, jI_le, jI_eq, gIf, gIe, gN_jI, tn_0, tn_1, tn_2, tn_3, tn_4, Int.toNat_natCast, Int.cast_ofNat_Int, if_pos, if_neg, Option.bind_some, eq_self, Bool.false_eq_true, reduceIte, f_X10_nextFold_5, e0]) (by
    rintro k i _ hi rfl
    left
    have b := gNxt_b S g i
    have b1 := W.fo hi
    have e1 := m_isFolded R W hi
    have e2 := m_mayFold R W hi
    have b3 : -4 ≤ r4 (gNxt S g i) ∧ r4 (gNxt S g i) < n := by unfold r4; split <;> omega
    refine ⟨_, ?_, rfl⟩
    try dsimp only
    rw [gNxt]
    by_cases c8 : S 8 i = 0
    · rw [decide_eq_false (by omega)] at e1
      rw [decide_eq_true c8, Bool.true_and]
      rcases hm : gMay S i with _ | _
      · rw [hm] at e2
        simp (disch := omega) only [jl_0, jl_1, jl_2, jl_3, jl_4, jl_5, jl_6, jl_10, jl_11, jl_20, jl_26, jl_31, jl_32, jl_40, jl_41, jl_42, jl_43, jl_47, jl_48, jl_57, jl_81, jl_97, jl_99, jl_100, jl_102, jl_103, jl_124, jl_141, jl_564, jl_705, jl_999, jl_1000, jl_9999, jI_neg, cs1, jI_add, jI_sub, jI_mul, jI_neg, jI_lt, jI_le, jI_eq, gIf, gIe, gN_jI, tn_0, tn_1, tn_2, tn_3, tn_4, Int.toNat_natCast, Int.cast_ofNat_Int, if_pos, if_neg, Option.bind_some, eq_self, Bool.false_eq_true, reduceIte, f_X10_nextFold_5, e0, e1, e2, false_and]
      · rw [hm] at e2
        have r4i : r4 (i : Int) = i := r4_p (by omega)
        rcases g with _ | _
        · have z0 : gZ false = jI 0 := rfl
          by_cases c : gNxt S false i = -1
          · simp (disch := omega) only [jl_0, jl_1, jl_2, jl_3, jl_4, jl_5, jl_6, jl_10, jl_11, jl_20, jl_26, jl_31, jl_32, jl_40, jl_41, jl_42, jl_43, jl_47, jl_48, jl_57, jl_81, jl_97, jl_99, jl_100, jl_102, jl_103, jl_124, jl_141, jl_564, jl_705, jl_999, jl_1000, jl_9999, jI_neg, cs1, jI_add, jI_sub, jI_mul, jI_neg, jI_lt, jI_le, jI_eq, gIf, gIe, gN_jI, tn_0, tn_1, tn_2, tn_3, tn_4, Int.toNat_natCast, Int.cast_ofNat_Int, if_pos, if_neg, Option.bind_some, eq_self, Bool.false_eq_true, reduceIte, f_X10_nextFold_5, e0, e1, e2, z0, c, r4_m, r4i, true_and, or_false]
          · have c4 : ¬ r4 (gNxt S false i) = -4 := by unfold r4; rw [if_neg c]; omega
            simp (disch := omega) only [jl_0, jl_1, jl_2, jl_3, jl_4, jl_5, jl_6, jl_10, jl_11, jl_20, jl_26, jl_31, jl_32, jl_40, jl_41, jl_42, jl_43, jl_47, jl_48, jl_57, jl_81, jl_97, jl_99, jl_100, jl_102, jl_103, jl_124, jl_141, jl_564, jl_705, jl_999, jl_1000, jl_9999, jI_neg, cs1, jI_add, jI_sub, jI_mul, jI_neg, jI_lt, jI_le, jI_eq, gIf, gIe, gN_jI, tn_0, tn_1, tn_2, tn_3, tn_4, Int.toNat_natCast, Int.cast_ofNat_Int, if_pos, if_neg, Option.bind_some, eq_self, Bool.false_eq_true, reduceIte, f_X10_nextFold_5, e0, e1, e2, z0, c, c4, true_and, or_false]
        · have z0 : gZ true = jI 1 := rfl
          by_cases c : r4 (gNxt S true i) = -4
          · simp (disch := omega) only [jl_0, jl_1, jl_2, jl_3, jl_4, jl_5, jl_6, jl_10, jl_11, jl_20, jl_26, jl_31, jl_32, jl_40, jl_41, jl_42, jl_43, jl_47, jl_48, jl_57, jl_81, jl_97, jl_99, jl_100, jl_102, jl_103, jl_124, jl_141, jl_564, jl_705, jl_999, jl_1000, jl_9999, jI_neg, cs1, jI_add, jI_sub, jI_mul, jI_neg, jI_lt, jI_le, jI_eq, gIf, gIe, gN_jI, tn_0, tn_1, tn_2, tn_3, tn_4, Int.toNat_natCast, Int.cast_ofNat_Int, if_pos, if_neg, Option.bind_some, eq_self, Bool.false_eq_true, reduceIte, f_X10_nextFold_5, e0, e1, e2, z0, c, r4i, true_and, or_true]
          · simp (disch := omega) only [jl_0, jl_1, jl_2, jl_3, jl_4, jl_5, jl_6, jl_10, jl_11, jl_20, jl_26, jl_31, jl_32, jl_40, jl_41, jl_42, jl_43, jl_47, jl_48, jl_57, jl_81, jl_97, jl_99, jl_100, jl_102, jl_103, jl_124, jl_141, jl_564, jl_705, jl_999, jl_1000, jl_9999, jI_neg, cs1, jI_add, jI_sub, jI_mul, jI_neg, jI_lt, jI_le, jI_eq, gIf, gIe, gN_jI, tn_0, tn_1, tn_2, tn_3, tn_4, Int.toNat_natCast, Int.cast_ofNat_Int, if_pos, if_neg, Option.bind_some, eq_self, Bool.false_eq_true, reduceIte, f_X10_nextFold_5, e0, e1, e2, z0, c, r4i, true_and, or_true]
    · rw [decide_eq_true (by omega)] at e1
      rw [decide_eq_false c8, Bool.false_and]
      simp (disch := omega) only [jl_0, jl_1, jl_2, jl_3, jl_4, jl_5, jl_6, jl_10, jl_11, jl_20, jl_26, jl_31, jl_32, jl_40, jl_41, jl_42, jl_43, jl_47, jl_48, jl_57, jl_81, jl_97, jl_99, jl_100, jl_102, jl_103, jl_124, jl_141, jl_564, jl_705, jl_999, jl_1000, jl_9999, jI_neg, cs1, jI_add, jI_sub, jI_mul, jI_neg, jI_lt, jI_le, jI_eq, gIf, gIe, gN_jI, tn_0, tn_1, tn_2, tn_3, tn_4, Int.toNat_natCast, Int.cast_ofNat_Int, if_pos, if_neg, Option.bind_some, eq_self, Bool.false_eq_true, reduceIte, f_X10_nextFold_5, e0, e1, false_and]) gFuel (jI (-4)) (by unfold gFuel; omega) rfl
  try dsimp only at L
  rw [f_X10_nextFold]
  simp (disch := omega) only [jl_0, jl_1, jl_2, jl_3, jl_4, jl_5, jl_6, jl_10, jl_11, jl_20, jl_26, jl_31, jl_32, jl_40, jl_41, jl_42, jl_43, jl_47, jl_48, jl_57, jl_81, jl_97, jl_99, jl_100, jl_102, jl_103, jl_124, jl_141, jl_564, jl_705, jl_999, jl_1000, jl_9999, jI_neg, ]
  rw [show ((0 : Nat) : Int) = 0 from rfl] at L
  rw [L]
  rfl
theorem m_firstIn {h : gHp} {m t n c : Nat} {S : gTb} (R : mRow (h.2 (m + 1)) n c S) (W : gWf t n c S) {p : Nat} (hp : p < n) : f_X10_firstIn m (jI p) h = some (if gFst (fun q => decide (S 5 q = p)) p < p then jI (gFst (fun q => decide (S 5 q = p)) p) else jI (-4)) := by
  have hn := W.n
  have L := gUpE (fun k i (_ : Unit) => f_X10_firstIn_2 m (jI p) h k (jI i)) p (fun i _ => ∀ q, q < i → ¬ decide (S 5 q = p) = true) (if gFst (fun q => decide (S 5 q = p)) p < p then jI (gFst (fun q => decide (S 5 q = p)) p) else jI (-4)) (by
    intro k s hI
    try dsimp only
    have e := gFst_no hI
    rw [e]
    simp (disch := omega) only [jl_0, jl_1, jl_2, jl_3, jl_4, jl_5, jl_6, jl_10, jl_11, jl_20, jl_26, jl_31, jl_32, jl_40, jl_41, jl_42, jl_43, jl_47, jl_48, jl_57, jl_81, jl_97, jl_99, jl_100, jl_102, jl_103, jl_124, jl_141, jl_564, jl_705, jl_999, jl_1000, jl_9999, jI_neg, cs1, jI_add, jI_sub, jI_mul, jI_neg, jI_lt, jI_le, jI_eq, gIf, gIe, gN_jI, tn_0, tn_1, tn_2, tn_3, tn_4, Int.toNat_natCast, Int.cast_ofNat_Int, if_pos, if_neg, Option.bind_some, eq_self, Bool.false_eq_true, reduceIte, f_X10_firstIn_2]) (by
    intro k i s hi hI
    have b := W.ar (p := i) (by omega)
    have e1 := m_around R W (p := i) (by omega)
    try dsimp only
    by_cases c : S 5 i = p
    · right
      have e := gFst_hit (P := fun q => decide (S 5 q = (p : Int))) hI hi (decide_eq_true c)
      have c2 : r4 (S 5 i) = p := by rw [r4_p (by omega)]; exact c
      rw [e]
      simp (disch := omega) only [jl_0, jl_1, jl_2, jl_3, jl_4, jl_5, jl_6, jl_10, jl_11, jl_20, jl_26, jl_31, jl_32, jl_40, jl_41, jl_42, jl_43, jl_47, jl_48, jl_57, jl_81, jl_97, jl_99, jl_100, jl_102, jl_103, jl_124, jl_141, jl_564, jl_705, jl_999, jl_1000, jl_9999, jI_neg, cs1, jI_add, jI_sub, jI_mul, jI_neg, jI_lt, jI_le, jI_eq, gIf, gIe, gN_jI, tn_0, tn_1, tn_2, tn_3, tn_4, Int.toNat_natCast, Int.cast_ofNat_Int, if_pos, if_neg, Option.bind_some, eq_self, Bool.false_eq_true, reduceIte, f_X10_firstIn_2, e1, c2]
    · left
      refine ⟨(), ?_, ?_⟩
      · have c2 : ¬ r4 (S 5 i) = p := fun q => c ((r4_eq (by omega)).mp q)
        have b3 : -4 ≤ r4 (S 5 i) ∧ r4 (S 5 i) < n := by unfold r4; split <;> omega
        simp (disch := omega) only [jl_0, jl_1, jl_2, jl_3, jl_4, jl_5, jl_6, jl_10, jl_11, jl_20, jl_26, jl_31, jl_32, jl_40, jl_41, jl_42, jl_43, jl_47, jl_48, jl_57, jl_81, jl_97, jl_99, jl_100, jl_102, jl_103, jl_124, jl_141, jl_564, jl_705, jl_999, jl_1000, jl_9999, jI_neg, cs1, jI_add, jI_sub, jI_mul, jI_neg, jI_lt, jI_le, jI_eq, gIf, gIe, gN_jI, tn_0, tn_1, tn_2, tn_3, tn_4, Int.toNat_natCast, Int.cast_ofNat_Int, if_pos, if_neg, Option.bind_some, eq_self, Bool.false_eq_true, reduceIte, f_X10_firstIn_2, e1, c2]
      · intro q hq
        by_cases e : q = i
        · rw [e]; simp [c]
        · exact hI q (by omega)) gFuel () (by unfold gFuel; omega) (by intro q hq; omega)
  try dsimp only at L
  rw [f_X10_firstIn]
  exact L
