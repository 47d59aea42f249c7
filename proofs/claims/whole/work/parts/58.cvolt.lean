/-! the class finds voltages -/
theorem share_9 {t n c : Nat} {S : gTb} (W : gWf t n c S) {x : Int} {u p : Nat} (hp : p < n) (h : S 5 p = u) (hx : (u : Int) ≠ x) (c2 : S 4 u ≠ 2) (i2 : (rR S x n u).2 ≠ 0) (i3 : (rR S x n u).1 ≠ 0) : nG (nMul (iInv (rR S x n u)) (rR S x n p)) ∧ 0 < (nMul (iInv (rR S x n u)) (rR S x n p)).2 ∧ (nMul (iInv (rR S x n u)) (rR S x n p)).1 ≤ 1000000000000000 ∧ (nMul (iInv (rR S x n u)) (rR S x n p)).2 ≤ 1000000000000000 ∧ 0 < (rR S x n p).2 := by
  have ar := W.ar hp
  have hu : u < n := by omega
  have hpu : p < u := by omega
  have h4 := W.so hu hp h
  have kd := W.kd hu
  have c1 : S 4 u = 1 := by omega
  have gu := rR_G hu (S := S) (x := x)
  have gp := rR_G hp (S := S) (x := x)
  have Vu := rR_V W n u (by omega) hu (x := x)
  have Vp := rR_V W n p (by omega) hp (x := x)
  have hson : gSon S u p = true := decide_eq_true h
  have Uu : rU S x n u = uRaw S (rU S x n) u := by rw [rU_e hu]; unfold uPart; rw [if_neg hx]
  have Pu0 : 0 < (rU S x n u).1 := by have := (nV_z Vu).1; omega
  have Qu0 : 0 < (rU S x n u).2 := by have := (nV_z Vu).2; omega
  have eU : rU S x n u = gCb (gAcc (rU S x n) (gBut (gSon S u) p) u) (rU S x n p) := by
    have e1 : rU S x n u = if (gAcc (rU S x n) (gSon S u) u).2 = 0 then (1, 0) else gAcc (rU S x n) (gSon S u) u := by
      rw [Uu]; unfold uRaw; rw [if_neg h4, if_pos c1]
    by_cases c3 : (gAcc (rU S x n) (gSon S u) u).2 = 0
    · rw [if_pos c3] at e1
      rw [e1] at Qu0
      exact absurd Qu0 (by decide)
    · rw [if_neg c3, gAcc_but hson u hpu] at e1
      exact e1
  generalize gAcc (rU S x n) (gBut (gSon S u) p) u = o at eU
  have eP : (rU S x n u).1 = o.1 * (rU S x n p).2 + (rU S x n p).1 * o.2 := by rw [eU]; rfl
  have eQ : (rU S x n u).2 = o.2 * (rU S x n p).2 := by rw [eU]; rfl
  have Qp0 : 0 < (rU S x n p).2 := by
    rcases Nat.eq_zero_or_pos (rU S x n p).2 with e | e
    · rw [e, Nat.mul_zero] at eQ; omega
    · exact e
  obtain ⟨s1, s2, s3⟩ := share_V gu gp Vu Vp eQ Pu0 Qp0
  have h9 := rU_9 W (x := x) hu
  have l9 := nV_le s1
  refine ⟨s2, s3, by omega, by omega, ?_⟩
  have := (nV_z Vp).2
  omega
theorem u_countInf {h : gHp} {a s t n c : Nat} {S : gTb} (R : cNet h (s + 1) n S) (W : gWf t n c S) {x : Int} (Q : ∀ q, q < n → hQ h (a + 6 + 2 * q) (rR S x n q)) {u : Nat} (hu : u < n) : f_X0_countInfinite a (s + 1) (jI u) h = some (jI (gCnt (fun q => gSon S u q && decide ((rR S x n q).2 = 0)) u)) := by
  have hn := W.n
  have R3 := R.2.2.1
  have L := gUpE (fun k i (v : Int32) => f_X0_countInfinite_5 a (s + 1) (jI u) h k v (jI i)) u (fun i v => v = jI (gCnt (fun q => gSon S u q && decide ((rR S x n q).2 = 0)) i)) (jI (gCnt (fun q => gSon S u q && decide ((rR S x n q).2 = 0)) u)) (by
    rintro k _ rfl
    try dsimp only
    simp (disch := omega) only [jl_0, jl_1, jl_2, jl_3, jl_4, jl_5, jl_6, jl_10, jl_11, jl_20, jl_26, jl_31, jl_32, jl_40, jl_41, jl_42, jl_43, jl_47, jl_48, jl_57, jl_81, jl_97, jl_99, jl_100, jl_102, jl_103, jl_124, jl_141, jl_564, jl_705, jl_999, jl_1000, jl_9999, jI_neg, cs1, jI_add, jI_sub, jI_mul, jI_neg, jI_lt, jI_le, jI_eq, gIf, gIe, gN_jI, tn_0, tn_1, tn_2, tn_3, tn_4, Int.toNat_natCast, Int.cast_ofNat_Int, if_pos, if_neg, Option.bind_some, eq_self, Bool.false_eq_true, reduceIte, f_X0_countInfinite_5]) (by
    rintro k i _ hi rfl
    left
    have b := W.ar (p := i) (by omega)
    refine ⟨_, ?_, rfl⟩
    try dsimp only
    by_cases c : S 5 i = u
    · have ri := rR_9 W (x := x) (p := i) (by omega)
      have e1 := k_isInf (Q i (by omega)) (by omega)
      by_cases c2 : (rR S x n i).2 = 0
      · have e := gCnt_T (P := fun q => gSon S u q && decide ((rR S x n q).2 = 0)) (n := i) (by rw [show gSon S u i = true from decide_eq_true c, decide_eq_true c2]; rfl)
        rw [decide_eq_true c2] at e1
        simp (disch := omega) only [jl_0, jl_1, jl_2, jl_3, jl_4, jl_5, jl_6, jl_10, jl_11, jl_20, jl_26, jl_31, jl_32, jl_40, jl_41, jl_42, jl_43, jl_47, jl_48, jl_57, jl_81, jl_97, jl_99, jl_100, jl_102, jl_103, jl_124, jl_141, jl_564, jl_705, jl_999, jl_1000, jl_9999, jI_neg, cs1, jI_add, jI_sub, jI_mul, jI_neg, jI_lt, jI_le, jI_eq, gIf, gIe, gN_jI, tn_0, tn_1, tn_2, tn_3, tn_4, Int.toNat_natCast, Int.cast_ofNat_Int, if_pos, if_neg, Option.bind_some, eq_self, Bool.false_eq_true, reduceIte, f_X0_countInfinite_5, R3, c, e, e1]
      · have e := gCnt_F (P := fun q => gSon S u q && decide ((rR S x n q).2 = 0)) (n := i) (by rw [decide_eq_false c2, Bool.and_false]; exact Bool.false_ne_true)
        rw [decide_eq_false c2] at e1
        simp (disch := omega) only [jl_0, jl_1, jl_2, jl_3, jl_4, jl_5, jl_6, jl_10, jl_11, jl_20, jl_26, jl_31, jl_32, jl_40, jl_41, jl_42, jl_43, jl_47, jl_48, jl_57, jl_81, jl_97, jl_99, jl_100, jl_102, jl_103, jl_124, jl_141, jl_564, jl_705, jl_999, jl_1000, jl_9999, jI_neg, cs1, jI_add, jI_sub, jI_mul, jI_neg, jI_lt, jI_le, jI_eq, gIf, gIe, gN_jI, tn_0, tn_1, tn_2, tn_3, tn_4, Int.toNat_natCast, Int.cast_ofNat_Int, if_pos, if_neg, Option.bind_some, eq_self, Bool.false_eq_true, reduceIte, f_X0_countInfinite_5, R3, c, e, e1]
    · have e := gCnt_F (P := fun q => gSon S u q && decide ((rR S x n q).2 = 0)) (n := i) (by rw [show gSon S u i = false from decide_eq_false c, Bool.false_and]; exact Bool.false_ne_true)
      simp (disch := omega) only [jl_0, jl_1, jl_2, jl_3, jl_4, jl_5, jl_6, jl_10, jl_11, jl_20, jl_26, jl_31, jl_32, jl_40, jl_41, jl_42, jl_43, jl_47, jl_48, jl_57, jl_81, jl_97, jl_99, jl_100, jl_102, jl_103, jl_124, jl_141, jl_564, jl_705, jl_999, jl_1000, jl_9999, jI_neg, cs1, jI_add, jI_sub, jI_mul, jI_neg, jI_lt, jI_le, jI_eq, gIf, gIe, gN_jI, tn_0, tn_1, tn_2, tn_3, tn_4, Int.toNat_natCast, Int.cast_ofNat_Int, if_pos, if_neg, Option.bind_some, eq_self, Bool.false_eq_true, reduceIte, f_X0_countInfinite_5, R3, c, e]) gFuel (jI 0) (by unfold gFuel; omega) rfl
  try dsimp only at L
  rw [f_X0_countInfinite]
  simp (disch := omega) only [jl_0, jl_1, jl_2, jl_3, jl_4, jl_5, jl_6, jl_10, jl_11, jl_20, jl_26, jl_31, jl_32, jl_40, jl_41, jl_42, jl_43, jl_47, jl_48, jl_57, jl_81, jl_97, jl_99, jl_100, jl_102, jl_103, jl_124, jl_141, jl_564, jl_705, jl_999, jl_1000, jl_9999, jI_neg, ]
  rw [show ((0 : Nat) : Int) = 0 from rfl] at L
  rw [L]
  rfl
theorem u_divideVolts {h : gHp} {a s t n c : Nat} {S : gTb} (R : cNet h (s + 1) n S) (W : gWf t n c S) {x : Int} (Q : ∀ q, q < n → hQ h (a + 6 + 2 * q) (rR S x n q)) {u p : Nat} (hp : p < n) (h5 : S 5 p = u) (hx : (u : Int) ≠ x) (c2 : S 4 u ≠ 2) {V : gQ} (QV : hQ h (a + 7 + 2 * u) V) (gV : nG V) (v1 : V.1 < 9223372036854775808) (v2 : V.2 < 9223372036854775808) (v3 : 0 < V.2) : ∃ h', f_X0_divideVolts a (s + 1) (jI u) (jI p) h = some h' ∧ hQ h' (a + 7 + 2 * p) (vStep S (rR S x n) V u p) ∧ h'.1 = h.1 ∧ ∀ y, y ≠ a + 4 → y ≠ a + 7 + 2 * p → h'.2 y = h.2 y := by
  have hn := W.n
  have ar := W.ar hp
  have hu : u < n := by omega
  have ru := rR_9 W (x := x) hu
  have rp := rR_9 W (x := x) hp
  have eiu := k_isInf (Q u hu) (by omega)
  have eip := k_isInf (Q p hp) (by omega)
  have ezu := k_isZero (Q u hu) (by omega)
  have zero : ∃ h', f_X0_divideVolts_48 a (jI p) h = some h' ∧ hQ h' (a + 7 + 2 * p) (0, 1) ∧ h'.1 = h.1 ∧ ∀ y, y ≠ a + 4 → y ≠ a + 7 + 2 * p → h'.2 y = h.2 y := by
    refine ⟨nPut h (a + 7 + 2 * p) (0, 1), ?_, nPut_Q _ _ _, rfl, fun y _ h2 => nPut_2 h2⟩
    simp (disch := omega) only [jl_0, jl_1, jl_2, jl_3, jl_4, jl_5, jl_6, jl_10, jl_11, jl_20, jl_26, jl_31, jl_32, jl_40, jl_41, jl_42, jl_43, jl_47, jl_48, jl_57, jl_81, jl_97, jl_99, jl_100, jl_102, jl_103, jl_124, jl_141, jl_564, jl_705, jl_999, jl_1000, jl_9999, jI_neg, cs1, jI_add, jI_sub, jI_mul, jI_neg, jI_lt, jI_le, jI_eq, gIf, gIe, gN_jI, tn_0, tn_1, tn_2, tn_3, tn_4, Int.toNat_natCast, Int.cast_ofNat_Int, if_pos, if_neg, Option.bind_some, eq_self, Bool.false_eq_true, reduceIte, f_X0_divideVolts_48, k_put01]
  unfold vStep
  rw [if_neg c2]
  by_cases i2 : (rR S x n u).2 = 0
  · rw [if_pos i2]
    rw [decide_eq_true i2] at eiu
    by_cases i3 : (rR S x n p).2 = 0
    · rw [if_pos i3]
      rw [decide_eq_true i3] at eip
      have i1 : ¬ (rR S x n u).1 = 0 := fun e => by
        have g : Nat.gcd (rR S x n u).1 (rR S x n u).2 = 1 := rR_G hu
        rw [e, i2] at g
        exact absurd g (by decide)
      rw [decide_eq_false i1] at ezu
      have ec := u_countInf R W Q hu
      have kle := gCnt_le (fun q => gSon S u q && decide ((rR S x n q).2 = 0)) u
      have kpos : gCnt (fun q => gSon S u q && decide ((rR S x n q).2 = 0)) u ≠ 0 := gCnt_hit (i := p) (by omega) (by rw [show gSon S u p = true from decide_eq_true h5, decide_eq_true i3]; rfl)
      generalize gCnt (fun q => gSon S u q && decide ((rR S x n q).2 = 0)) u = k at *
      have ek : (if (1 : Int) < k then jI k else jI 1) = jI k := by
        by_cases e : (1 : Int) < k
        · rw [if_pos e]
        · rw [if_neg e, show ((k : Nat) : Int) = 1 by omega]
      have e64 := jI_to64 (z := (k : Int)) (by omega) (by omega)
      have d1 := k_put h (a + 4) (u := 1) (l := k) (by omega) (by omega) (by omega)
      rw [show nRed 1 k = (1, k) from nRed_self (x := (1, k)) (nG_one _)] at d1
      have d1' : f_X2_put (a + 4) 1 (lI k) h = some (nPut h (a + 4) (1, k)) := d1
      have d2 := k_copy (x := a + 7 + 2 * p) (nPut_ne (x := a + 4) (q := (1, k)) (by omega) QV)
      have d3 := k_mul (nPut_Q (nPut h (a + 4) (1, k)) (a + 7 + 2 * p) V) (y := a + 4) (r := (1, k)) (nPut_ne (by omega) (nPut_Q _ _ _)) v1 v2 (by show 1 < _; omega) (by show k < _; omega) v3 (by show 0 < k; omega)
      refine ⟨nPut (nPut (nPut h (a + 4) (1, k)) (a + 7 + 2 * p) V) (a + 7 + 2 * p) (nMul V (1, k)), ?_, nPut_Q _ _ _, rfl, fun y h1 h2 => by rw [nPut_2 h2, nPut_2 h2, nPut_2 h1]⟩
      simp (disch := omega) only [jl_0, jl_1, jl_2, jl_3, jl_4, jl_5, jl_6, jl_10, jl_11, jl_20, jl_26, jl_31, jl_32, jl_40, jl_41, jl_42, jl_43, jl_47, jl_48, jl_57, jl_81, jl_97, jl_99, jl_100, jl_102, jl_103, jl_124, jl_141, jl_564, jl_705, jl_999, jl_1000, jl_9999, jI_neg, cs1, jI_add, jI_sub, jI_mul, jI_neg, jI_lt, jI_le, jI_eq, gIf, gIe, gN_jI, tn_0, tn_1, tn_2, tn_3, tn_4, Int.toNat_natCast, Int.cast_ofNat_Int, if_pos, if_neg, Option.bind_some, eq_self, Bool.false_eq_true, reduceIte, f_X0_divideVolts, eiu, eip, ezu, ec, ek, e64, d1', d2, d3]
    · rw [if_neg i3]
      rw [decide_eq_false i3] at eip
      obtain ⟨h', e', r'⟩ := zero
      refine ⟨h', ?_, r'⟩
      simp (disch := omega) only [jl_0, jl_1, jl_2, jl_3, jl_4, jl_5, jl_6, jl_10, jl_11, jl_20, jl_26, jl_31, jl_32, jl_40, jl_41, jl_42, jl_43, jl_47, jl_48, jl_57, jl_81, jl_97, jl_99, jl_100, jl_102, jl_103, jl_124, jl_141, jl_564, jl_705, jl_999, jl_1000, jl_9999, jI_neg, cs1, jI_add, jI_sub, jI_mul, jI_neg, jI_lt, jI_le, jI_eq, gIf, gIe, gN_jI, tn_0, tn_1, tn_2, tn_3, tn_4, Int.toNat_natCast, Int.cast_ofNat_Int, if_pos, if_neg, Option.bind_some, eq_self, Bool.false_eq_true, reduceIte, f_X0_divideVolts, eiu, eip, e']
  · rw [if_neg i2]
    rw [decide_eq_false i2] at eiu
    by_cases i3 : (rR S x n u).1 = 0
    · rw [if_pos i3]
      rw [decide_eq_true i3] at ezu
      obtain ⟨h', e', r'⟩ := zero
      refine ⟨h', ?_, r'⟩
      simp (disch := omega) only [jl_0, jl_1, jl_2, jl_3, jl_4, jl_5, jl_6, jl_10, jl_11, jl_20, jl_26, jl_31, jl_32, jl_40, jl_41, jl_42, jl_43, jl_47, jl_48, jl_57, jl_81, jl_97, jl_99, jl_100, jl_102, jl_103, jl_124, jl_141, jl_564, jl_705, jl_999, jl_1000, jl_9999, jI_neg, cs1, jI_add, jI_sub, jI_mul, jI_neg, jI_lt, jI_le, jI_eq, gIf, gIe, gN_jI, tn_0, tn_1, tn_2, tn_3, tn_4, Int.toNat_natCast, Int.cast_ofNat_Int, if_pos, if_neg, Option.bind_some, eq_self, Bool.false_eq_true, reduceIte, f_X0_divideVolts, eiu, ezu, e']
    · rw [if_neg i3]
      rw [decide_eq_false i3] at ezu
      obtain ⟨s1, s2, s3, s4, s5⟩ := share_9 W hp h5 hx c2 i2 i3
      have d1 := k_copy (x := a + 4) (Q u hu)
      have d2 := k_invert (nPut_Q h (a + 4) (rR S x n u))
      have d3 := k_mul (nPut_Q (nPut h (a + 4) (rR S x n u)) (a + 4) (iInv (rR S x n u))) (y := a + 6 + 2 * p) (nPut_ne (by omega) (nPut_ne (by omega) (Q p hp))) (by show (rR S x n u).2 < _; omega) (by show (rR S x n u).1 < _; omega) (by omega) (by omega) (by show 0 < (rR S x n u).1; omega) s5
      have d4 := k_copy (x := a + 7 + 2 * p) (nPut_ne (x := a + 4) (q := nMul (iInv (rR S x n u)) (rR S x n p)) (by omega) (nPut_ne (x := a + 4) (q := iInv (rR S x n u)) (by omega) (nPut_ne (x := a + 4) (q := rR S x n u) (by omega) QV)))
      have d5 := k_mul (nPut_Q (nPut (nPut (nPut h (a + 4) (rR S x n u)) (a + 4) (iInv (rR S x n u))) (a + 4) (nMul (iInv (rR S x n u)) (rR S x n p))) (a + 7 + 2 * p) V) (y := a + 4) (nPut_ne (by omega) (nPut_Q _ _ _)) v1 v2 (by omega) (by omega) v3 s2
      refine ⟨nPut (nPut (nPut (nPut (nPut h (a + 4) (rR S x n u)) (a + 4) (iInv (rR S x n u))) (a + 4) (nMul (iInv (rR S x n u)) (rR S x n p))) (a + 7 + 2 * p) V) (a + 7 + 2 * p) (nMul V (nMul (iInv (rR S x n u)) (rR S x n p))), ?_, nPut_Q _ _ _, rfl, fun y h1 h2 => by rw [nPut_2 h2, nPut_2 h2, nPut_2 h1, nPut_2 h1, nPut_2 h1]⟩
      simp (disch := omega) only [jl_0, jl_1, jl_2, jl_3, jl_4, jl_5, jl_6, jl_10, jl_11, jl_20, jl_26, jl_31, jl_32, jl_40, jl_41, jl_42, jl_43, jl_47, jl_48, jl_57, jl_81, jl_97, jl_99, jl_100, jl_102, jl_103, jl_124, jl_141, jl_564, jl_705, jl_999, jl_1000, jl_9999, jI_neg, cs1, jI_add, jI_sub, jI_mul, jI_neg, jI_lt, jI_le, jI_eq, gIf, gIe, gN_jI, tn_0, tn_1, tn_2, tn_3, tn_4, Int.toNat_natCast, Int.cast_ofNat_Int, if_pos, if_neg, Option.bind_some, eq_self, Bool.false_eq_true, reduceIte, f_X0_divideVolts, eiu, ezu, d1, d2, d3, d4, d5]
theorem u_findVolts {h : gHp} {a s t n c : Nat} {S : gTb} (R : cSt h s n c S) (W : gWf t n c S) (hd : s + 13 ≤ a) {x : Int} (Q : ∀ q, q < n → hQ h (a + 6 + 2 * q) (rR S x n q)) {p : Nat} (hp : p < n) (hx : x ≤ p) : ∃ h', f_X0_findVolts a s (jI p) h = some h' ∧ hQ h' (a + 7 + 2 * p) (vV S (rR S x n) p) ∧ gFr (a + 3) 25 h h' ∧ h'.2 (a + 5) = h.2 (a + 5) := by
  have hn := W.n
  have hs : (((S 0 1).toNat : Nat) : Int) = S 0 1 ∧ 1 ≤ S 0 1 ∧ S 0 1 ≤ 99 := by have := W.1; omega
  obtain ⟨o, eo, Qo, Go, Uo⟩ := gDn (fun k i s1 => f_X0_findVolts_13 a s (jI p) (s + 1) k (jI ((i : Int) - 1)) s1) p (fun i s1 => gFr (a + 3) 25 h s1 ∧ s1.2 (a + 5) = h.2 (a + 5) ∧ (∀ q, q < n → hQ s1 (a + 6 + 2 * q) (rR S x n q)) ∧ (i ≤ n) ∧ ∀ q, i ≤ q → q < n → hQ s1 (a + 7 + 2 * q) (vV S (rR S x n) q)) (fun h' => hQ h' (a + 7 + 2 * p) (vV S (rR S x n) p) ∧ gFr (a + 3) 25 h h' ∧ h'.2 (a + 5) = h.2 (a + 5)) (by
    intro k s1 hI
    refine ⟨s1, ?_, hI.2.2.2.2 p (by omega) hp, hI.1, hI.2.1⟩
    try dsimp only
    simp (disch := omega) only [jl_0, jl_1, jl_2, jl_3, jl_4, jl_5, jl_6, jl_10, jl_11, jl_20, jl_26, jl_31, jl_32, jl_40, jl_41, jl_42, jl_43, jl_47, jl_48, jl_57, jl_81, jl_97, jl_99, jl_100, jl_102, jl_103, jl_124, jl_141, jl_564, jl_705, jl_999, jl_1000, jl_9999, jI_neg, cs1, jI_add, jI_sub, jI_mul, jI_neg, jI_lt, jI_le, jI_eq, gIf, gIe, gN_jI, tn_0, tn_1, tn_2, tn_3, tn_4, Int.toNat_natCast, Int.cast_ofNat_Int, if_pos, if_neg, Option.bind_some, eq_self, Bool.false_eq_true, reduceIte, f_X0_findVolts_13]) (by
    intro k i s1 hi hI
    obtain ⟨G, U, QR, hin, QV⟩ := hI
    left
    have Rs := R.mv (G.sa (lo' := s) (n' := 13) (by omega))
    have R3 : s1.1 (s + 1 + 2) i = jI (S 5 i) := Rs.1.2.2.1 i (by omega)
    have ei : ((i + 1 : Nat) : Int) - 1 = i := by omega
    rcases W.ar (p := i) (by omega) with ⟨a1, a2, a3⟩ | ⟨a1, a2⟩
    · obtain ⟨u, hu⟩ : ∃ u : Nat, S 5 i = u := ⟨(S 5 i).toNat, by omega⟩
      have hun : u < n := by omega
      have e1 := u_hasPartT Rs.1 hn hun
      have e2 := u_isKind Rs.1 W hun (z := 2) (by omega) (by omega)
      have vu := vV_9 W (x := x) hun (by omega)
      have eV : vV S (rR S x n) i = vStep S (rR S x n) (vV S (rR S x n) u) u i := vV_e W (by omega) hu
      rw [hu] at R3
      by_cases c2 : S 4 u = 2
      · rw [decide_eq_true c2] at e2
        have e3 := k_copy (x := a + 7 + 2 * i) (QV u (by omega) hun)
        refine ⟨nPut s1 (a + 7 + 2 * i) (vV S (rR S x n) u), ?_, G.P (by omega) (by omega), by rw [nPut_2 (by omega)]; exact U, fun q hq => nPut_ne (by omega) (QR q hq), by omega, ?_⟩
        · try dsimp only
          rw [ei]
          simp (disch := omega) only [jl_0, jl_1, jl_2, jl_3, jl_4, jl_5, jl_6, jl_10, jl_11, jl_20, jl_26, jl_31, jl_32, jl_40, jl_41, jl_42, jl_43, jl_47, jl_48, jl_57, jl_81, jl_97, jl_99, jl_100, jl_102, jl_103, jl_124, jl_141, jl_564, jl_705, jl_999, jl_1000, jl_9999, jI_neg, cs1, jI_add, jI_sub, jI_mul, jI_neg, jI_lt, jI_le, jI_eq, gIf, gIe, gN_jI, tn_0, tn_1, tn_2, tn_3, tn_4, Int.toNat_natCast, Int.cast_ofNat_Int, if_pos, if_neg, Option.bind_some, eq_self, Bool.false_eq_true, reduceIte, f_X0_findVolts_13, R3, e1, e2, e3, Int.sub_eq_add_neg]
        · intro q h1 h2
          by_cases e : q = i
          · subst e
            rw [eV]
            unfold vStep
            rw [if_pos c2]
            exact nPut_Q _ _ _
          · exact nPut_ne (by omega) (QV q (by omega) h2)
      · rw [decide_eq_false c2] at e2
        obtain ⟨h', e3, Q3, F1, F2⟩ := u_divideVolts (a := a) Rs.1 W QR (p := i) (by omega) hu (by omega) c2 (QV u (by omega) hun) vu.1 (by omega) (by omega) vu.2.1
        refine ⟨h', ?_, ?_, ?_, fun q hq => (QR q hq).mv (F2 _ (by omega) (by omega)), by omega, ?_⟩
        · try dsimp only
          rw [ei]
          simp (disch := omega) only [jl_0, jl_1, jl_2, jl_3, jl_4, jl_5, jl_6, jl_10, jl_11, jl_20, jl_26, jl_31, jl_32, jl_40, jl_41, jl_42, jl_43, jl_47, jl_48, jl_57, jl_81, jl_97, jl_99, jl_100, jl_102, jl_103, jl_124, jl_141, jl_564, jl_705, jl_999, jl_1000, jl_9999, jI_neg, cs1, jI_add, jI_sub, jI_mul, jI_neg, jI_lt, jI_le, jI_eq, gIf, gIe, gN_jI, tn_0, tn_1, tn_2, tn_3, tn_4, Int.toNat_natCast, Int.cast_ofNat_Int, if_pos, if_neg, Option.bind_some, eq_self, Bool.false_eq_true, reduceIte, f_X0_findVolts_13, R3, e1, e2, e3, Int.sub_eq_add_neg]
        · intro y hy
          rw [F1, F2 y (by omega) (by omega)]
          exact G y hy
        · rw [F2 _ (by omega) (by omega)]; exact U
        · intro q h1 h2
          by_cases e : q = i
          · subst e
            rw [eV]
            exact Q3
          · exact (QV q (by omega) h2).mv (F2 _ (by omega) (by omega))
    · have e1 := u_hasPart Rs.1 hn (z := -1) (by omega) (by omega)
      rw [decide_eq_false (by omega)] at e1
      rw [a2] at R3
      have Rsrc : s1.1 s 5 = jI (S 0 1) := Rs.2.2.2.2.1
      have e64 := jI_to64 (z := S 0 1) (by omega) (by omega)
      have e3 := k_put s1 (a + 7 + 2 * i) (u := (S 0 1).toNat) (l := 1) (by omega) (by omega) (by omega)
      rw [show nRed (S 0 1).toNat 1 = ((S 0 1).toNat, 1) from nRed_self (x := ((S 0 1).toNat, 1)) (nG_one' _), hs.1] at e3
      have e3' : f_X2_put (a + 7 + 2 * i) (lI (S 0 1)) 1 s1 = _ := e3
      refine ⟨nPut s1 (a + 7 + 2 * i) ((S 0 1).toNat, 1), ?_, G.P (by omega) (by omega), by rw [nPut_2 (by omega)]; exact U, fun q hq => nPut_ne (by omega) (QR q hq), by omega, ?_⟩
      · try dsimp only
        rw [ei]
        simp (disch := omega) only [jl_0, jl_1, jl_2, jl_3, jl_4, jl_5, jl_6, jl_10, jl_11, jl_20, jl_26, jl_31, jl_32, jl_40, jl_41, jl_42, jl_43, jl_47, jl_48, jl_57, jl_81, jl_97, jl_99, jl_100, jl_102, jl_103, jl_124, jl_141, jl_564, jl_705, jl_999, jl_1000, jl_9999, jI_neg, cs1, jI_add, jI_sub, jI_mul, jI_neg, jI_lt, jI_le, jI_eq, gIf, gIe, gN_jI, tn_0, tn_1, tn_2, tn_3, tn_4, Int.toNat_natCast, Int.cast_ofNat_Int, if_pos, if_neg, Option.bind_some, eq_self, Bool.false_eq_true, reduceIte, f_X0_findVolts_13, R3, e1, Rsrc, e64, e3', Int.sub_eq_add_neg]
      · intro q h1 h2
        have e : q = i := by omega
        subst e
        rw [vV_rt a2]
        exact nPut_Q _ _ _) gFuel n h (by omega) (by unfold gFuel; omega) ⟨gFr.rf, rfl, Q, Nat.le_refl _, by intro q h1 h2; omega⟩
  try dsimp only at eo
  refine ⟨o, ?_, Qo, Go, Uo⟩
  have R1 : h.1 (s + 1) 4 = jI n := R.1.1
  rw [f_X0_findVolts, R1, jl_1, jI_sub, eo]
  rfl
