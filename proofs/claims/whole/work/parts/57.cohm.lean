/-! the class finds resistances: the circuit at a, the state at s -/
theorem k_put01 (h : gHp) (x : Nat) : f_X2_put x 0 1 h = some (nPut h x (0, 1)) := by
  have e := k_put h x (u := 0) (l := 1) (by omega) (by omega) (by omega)
  rw [show nRed 0 1 = (0, 1) from nRed_self (x := (0, 1)) (nG_one' 0)] at e
  exact e
theorem k_put10 (h : gHp) (x : Nat) : f_X2_put x 1 0 h = some (nPut h x (1, 0)) := by
  have e := k_put h x (u := 1) (l := 0) (by omega) (by omega) (by omega)
  rw [show nRed 1 0 = (1, 0) from nRed_self (x := (1, 0)) (nG_one 0)] at e
  exact e
theorem u_addUp {h : gHp} {a s t n c : Nat} {S : gTb} (R : cNet h (s + 1) n S) (W : gWf t n c S) (hd : s + 13 ≤ a) {x : Int} {p : Nat} (hp : p < n) (h4 : S 4 p ≠ 0) {wo : Int} (hw : -1 ≤ wo ∧ wo < 11) (T : ∀ q, q < p → hQ h (a + 6 + 2 * q) (rR S x n q)) : ∃ h', f_X0_addUp a (s + 1) (jI p) (jI wo) h = some h' ∧ hQ h' (a + 3) (gSum (fun q => if decide (S 4 p = 2) = true then iInv (rR S x n q) else rR S x n q) (fun q => gSon S p q && !decide ((q : Int) = wo)) p) ∧ gFr (a + 3) 2 h h' := by
  have hn := W.n
  obtain ⟨o, eo, Qo, Go⟩ := gUp (fun k i s1 => f_X0_addUp_12 a (s + 1) (jI p) (jI wo) k (jI i) s1) p (fun i s1 => gFr (a + 3) 2 h s1 ∧ hQ s1 (a + 3) (gSum (fun q => if decide (S 4 p = 2) = true then iInv (rR S x n q) else rR S x n q) (fun q => gSon S p q && !decide ((q : Int) = wo)) i)) (fun h' => hQ h' (a + 3) (gSum (fun q => if decide (S 4 p = 2) = true then iInv (rR S x n q) else rR S x n q) (fun q => gSon S p q && !decide ((q : Int) = wo)) p) ∧ gFr (a + 3) 2 h h') (by
    intro k s1 hI
    refine ⟨s1, ?_, hI.2, hI.1⟩
    try dsimp only
    simp (disch := omega) only [jl_0, jl_1, jl_2, jl_3, jl_4, jl_5, jl_6, jl_10, jl_11, jl_20, jl_26, jl_31, jl_32, jl_40, jl_41, jl_42, jl_43, jl_47, jl_48, jl_57, jl_81, jl_97, jl_99, jl_100, jl_102, jl_103, jl_124, jl_141, jl_564, jl_705, jl_999, jl_1000, jl_9999, jI_neg, cs1, jI_add, jI_sub, jI_mul, jI_neg, jI_lt, jI_le, jI_eq, gIf, gIe, gN_jI, tn_0, tn_1, tn_2, tn_3, tn_4, Int.toNat_natCast, Int.cast_ofNat_Int, if_pos, if_neg, Option.bind_some, eq_self, Bool.false_eq_true, reduceIte, f_X0_addUp_12]) (by
    intro k i s1 hi hI
    obtain ⟨G, Q⟩ := hI
    left
    have b := W.ar (p := i) (by omega)
    have R1 := R.mv (G.sa (by omega))
    have R3 := R1.2.2.1
    by_cases c1 : S 5 i = p
    · by_cases c2 : (i : Int) = wo
      · refine ⟨s1, ?_, G, ?_⟩
        · try dsimp only
          simp (disch := omega) only [jl_0, jl_1, jl_2, jl_3, jl_4, jl_5, jl_6, jl_10, jl_11, jl_20, jl_26, jl_31, jl_32, jl_40, jl_41, jl_42, jl_43, jl_47, jl_48, jl_57, jl_81, jl_97, jl_99, jl_100, jl_102, jl_103, jl_124, jl_141, jl_564, jl_705, jl_999, jl_1000, jl_9999, jI_neg, cs1, jI_add, jI_sub, jI_mul, jI_neg, jI_lt, jI_le, jI_eq, gIf, gIe, gN_jI, tn_0, tn_1, tn_2, tn_3, tn_4, Int.toNat_natCast, Int.cast_ofNat_Int, if_pos, if_neg, Option.bind_some, eq_self, Bool.false_eq_true, reduceIte, f_X0_addUp_12, R3, c1, ← c2]
        · rw [gSum_F (by rw [decide_eq_true c2]; simp)]
          exact Q
      · have hP : (gSon S p i && !decide ((i : Int) = wo)) = true := by
          rw [show gSon S p i = true from decide_eq_true c1, decide_eq_false c2]; rfl
        have sm := sum_R W (x := x) hp h4 (P := fun q => gSon S p q && !decide ((q : Int) = wo)) (fun q hq hc => by
          simp only [Bool.and_eq_true] at hc
          exact hc.1) (decide (S 4 p = 2)) hi hP
        have Ti := (T i hi).fr G (by omega)
        have ri := rR_9 W (x := x) (p := i) (by omega)
        have e1 := k_copy (x := a + 4) Ti
        have e2 := u_isKind (h := nPut s1 (a + 4) (rR S x n i)) (R1.mv (h' := nPut s1 (a + 4) (rR S x n i)) (fun y q1 q2 => ⟨rfl, nPut_2 (by omega)⟩)) W hp (z := 2) (by omega) (by omega)
        generalize hsum : gSum (fun q => if decide (S 4 p = 2) = true then iInv (rR S x n q) else rR S x n q) (fun q => gSon S p q && !decide ((q : Int) = wo)) i = sg at sm Q
        by_cases c4 : S 4 p = 2
        · rw [decide_eq_true c4] at e2 hsum
          have e3 := k_invert (nPut_Q s1 (a + 4) (rR S x n i))
          have e4 := k_add (x := a + 3) (y := a + 4) (h := nPut (nPut s1 (a + 4) (rR S x n i)) (a + 4) (iInv (rR S x n i))) (nPut_ne (by omega) (nPut_ne (by omega) Q)) (nPut_Q _ _ _) (by
            show (sg.1 + sg.2) * ((rR S x n i).2 + (rR S x n i).1) < _
            rw [Nat.add_comm (rR S x n i).2]
            omega) (by omega) (by show (rR S x n i).1 < _; omega)
          refine ⟨nPut (nPut (nPut s1 (a + 4) (rR S x n i)) (a + 4) (iInv (rR S x n i))) (a + 3) (iAdd sg (iInv (rR S x n i))), ?_, ((G.P (by omega) (by omega)).P (by omega) (by omega)).P (by omega) (by omega), ?_⟩
          · try dsimp only
            simp (disch := omega) only [jl_0, jl_1, jl_2, jl_3, jl_4, jl_5, jl_6, jl_10, jl_11, jl_20, jl_26, jl_31, jl_32, jl_40, jl_41, jl_42, jl_43, jl_47, jl_48, jl_57, jl_81, jl_97, jl_99, jl_100, jl_102, jl_103, jl_124, jl_141, jl_564, jl_705, jl_999, jl_1000, jl_9999, jI_neg, cs1, jI_add, jI_sub, jI_mul, jI_neg, jI_lt, jI_le, jI_eq, gIf, gIe, gN_jI, tn_0, tn_1, tn_2, tn_3, tn_4, Int.toNat_natCast, Int.cast_ofNat_Int, if_pos, if_neg, Option.bind_some, eq_self, Bool.false_eq_true, reduceIte, f_X0_addUp_12, R3, c1, c2, e1, e2, e3, e4]
          · rw [gSum_T hP]
            try dsimp only
            rw [decide_eq_true c4, if_pos rfl, hsum]
            exact nPut_Q _ _ _
        · rw [decide_eq_false c4] at e2 hsum
          have e4 := k_add (x := a + 3) (y := a + 4) (h := nPut s1 (a + 4) (rR S x n i)) (nPut_ne (by omega) Q) (nPut_Q _ _ _) (by omega) (by omega) (by omega)
          refine ⟨nPut (nPut s1 (a + 4) (rR S x n i)) (a + 3) (iAdd sg (rR S x n i)), ?_, (G.P (by omega) (by omega)).P (by omega) (by omega), ?_⟩
          · try dsimp only
            simp (disch := omega) only [jl_0, jl_1, jl_2, jl_3, jl_4, jl_5, jl_6, jl_10, jl_11, jl_20, jl_26, jl_31, jl_32, jl_40, jl_41, jl_42, jl_43, jl_47, jl_48, jl_57, jl_81, jl_97, jl_99, jl_100, jl_102, jl_103, jl_124, jl_141, jl_564, jl_705, jl_999, jl_1000, jl_9999, jI_neg, cs1, jI_add, jI_sub, jI_mul, jI_neg, jI_lt, jI_le, jI_eq, gIf, gIe, gN_jI, tn_0, tn_1, tn_2, tn_3, tn_4, Int.toNat_natCast, Int.cast_ofNat_Int, if_pos, if_neg, Option.bind_some, eq_self, Bool.false_eq_true, reduceIte, f_X0_addUp_12, R3, c1, c2, e1, e2, e4]
          · rw [gSum_T hP]
            try dsimp only
            rw [decide_eq_false c4, if_neg Bool.false_ne_true, hsum]
            exact nPut_Q _ _ _
    · refine ⟨s1, ?_, G, ?_⟩
      · try dsimp only
        simp (disch := omega) only [jl_0, jl_1, jl_2, jl_3, jl_4, jl_5, jl_6, jl_10, jl_11, jl_20, jl_26, jl_31, jl_32, jl_40, jl_41, jl_42, jl_43, jl_47, jl_48, jl_57, jl_81, jl_97, jl_99, jl_100, jl_102, jl_103, jl_124, jl_141, jl_564, jl_705, jl_999, jl_1000, jl_9999, jI_neg, cs1, jI_add, jI_sub, jI_mul, jI_neg, jI_lt, jI_le, jI_eq, gIf, gIe, gN_jI, tn_0, tn_1, tn_2, tn_3, tn_4, Int.toNat_natCast, Int.cast_ofNat_Int, if_pos, if_neg, Option.bind_some, eq_self, Bool.false_eq_true, reduceIte, f_X0_addUp_12, R3, c1]
      · rw [gSum_F (by rw [show gSon S p i = false from decide_eq_false c1]; simp)]
        exact Q) gFuel 0 (nPut h (a + 3) (0, 1)) (by omega) (by unfold gFuel; omega) ⟨gFr.rf.P (by omega) (by omega), nPut_Q _ _ _⟩
  try dsimp only at eo
  refine ⟨o, ?_, Qo, Go⟩
  rw [f_X0_addUp, k_put01, Option.bind_some, jl_0]
  rw [show ((0 : Nat) : Int) = 0 from rfl] at eo
  rw [eo]
  rfl
theorem u_putArm {h : gHp} {a s t n c : Nat} {S : gTb} (R : cSt h s n c S) (W : gWf t n c S) {p : Nat} (hp : p < n) (h4 : S 4 p = 0) : f_X0_putArm a s (jI p) h = some (nPut h (a + 6 + 2 * p) (bArm S p)) := by
  have hn := W.n
  obtain ⟨l, hl, h6, h3⟩ := W.am hp h4
  have b := W.lt hl (by omega)
  have R4 : h.1 (s + 1 + 3) p = jI (S 6 p) := R.1.2.2.2.1 p hp
  have Rv := R.2.2.1.1 l hl (by omega)
  have Rs := R.2.2.1.2 l hl (by omega)
  have b64 := jI_to64 (z := S 1 l) (by omega) (by omega)
  unfold bArm
  rw [h6, Int.toNat_natCast]
  rw [h6] at R4
  by_cases c1 : S 2 l = 0
  · rw [if_pos c1]
    have e1 := k_put h (a + 6 + 2 * p) (u := (S 1 l).toNat) (l := 1) (by omega) (by omega) (by omega)
    rw [show nRed (S 1 l).toNat 1 = ((S 1 l).toNat, 1) from nRed_self (x := ((S 1 l).toNat, 1)) (nG_one' _), show (((S 1 l).toNat : Nat) : Int) = S 1 l by omega] at e1
    have e2 : f_X2_put (a + 6 + 2 * p) (lI (S 1 l)) 1 h = _ := e1
    simp (disch := omega) only [jl_0, jl_1, jl_2, jl_3, jl_4, jl_5, jl_6, jl_10, jl_11, jl_20, jl_26, jl_31, jl_32, jl_40, jl_41, jl_42, jl_43, jl_47, jl_48, jl_57, jl_81, jl_97, jl_99, jl_100, jl_102, jl_103, jl_124, jl_141, jl_564, jl_705, jl_999, jl_1000, jl_9999, jI_neg, cs1, jI_add, jI_sub, jI_mul, jI_neg, jI_lt, jI_le, jI_eq, gIf, gIe, gN_jI, tn_0, tn_1, tn_2, tn_3, tn_4, Int.toNat_natCast, Int.cast_ofNat_Int, if_pos, if_neg, Option.bind_some, eq_self, Bool.false_eq_true, reduceIte, f_X0_putArm, R4, Rs, Rv, c1, b64, e2]
  · rw [if_neg c1]
    by_cases c2 : S 2 l = 1
    · rw [if_pos c2]
      simp (disch := omega) only [jl_0, jl_1, jl_2, jl_3, jl_4, jl_5, jl_6, jl_10, jl_11, jl_20, jl_26, jl_31, jl_32, jl_40, jl_41, jl_42, jl_43, jl_47, jl_48, jl_57, jl_81, jl_97, jl_99, jl_100, jl_102, jl_103, jl_124, jl_141, jl_564, jl_705, jl_999, jl_1000, jl_9999, jI_neg, cs1, jI_add, jI_sub, jI_mul, jI_neg, jI_lt, jI_le, jI_eq, gIf, gIe, gN_jI, tn_0, tn_1, tn_2, tn_3, tn_4, Int.toNat_natCast, Int.cast_ofNat_Int, if_pos, if_neg, Option.bind_some, eq_self, Bool.false_eq_true, reduceIte, f_X0_putArm, R4, Rs, c2, k_put10]
    · rw [if_neg c2]
      simp (disch := omega) only [jl_0, jl_1, jl_2, jl_3, jl_4, jl_5, jl_6, jl_10, jl_11, jl_20, jl_26, jl_31, jl_32, jl_40, jl_41, jl_42, jl_43, jl_47, jl_48, jl_57, jl_81, jl_97, jl_99, jl_100, jl_102, jl_103, jl_124, jl_141, jl_564, jl_705, jl_999, jl_1000, jl_9999, jI_neg, cs1, jI_add, jI_sub, jI_mul, jI_neg, jI_lt, jI_le, jI_eq, gIf, gIe, gN_jI, tn_0, tn_1, tn_2, tn_3, tn_4, Int.toNat_natCast, Int.cast_ofNat_Int, if_pos, if_neg, Option.bind_some, eq_self, Bool.false_eq_true, reduceIte, f_X0_putArm, R4, Rs, c1, c2, k_put01]
theorem u_findOhms {h : gHp} {a s t n c : Nat} {S : gTb} (R : cSt h s n c S) (W : gWf t n c S) (hd : s + 13 ≤ a) {x : Int} (hx : -1 ≤ x ∧ x < 11) : ∃ h', f_X0_findOhms a s (jI x) h = some h' ∧ (∀ p, p < n → hQ h' (a + 6 + 2 * p) (rR S x n p)) ∧ gFr (a + 3) 25 h h' ∧ h'.2 (a + 5) = h.2 (a + 5) := by
  have hn := W.n
  have hm : 0 < (S 0 2).toNat ∧ (S 0 2).toNat ≤ 999 ∧ (((S 0 2).toNat : Nat) : Int) = S 0 2 := by have := W.1; omega
  obtain ⟨o, eo, Qo, Go, Uo⟩ := gUp (fun k i s1 => f_X0_findOhms_8 a s (jI x) (s + 1) k (jI i) s1) n (fun i s1 => gFr (a + 3) 25 h s1 ∧ s1.2 (a + 5) = h.2 (a + 5) ∧ ∀ q, q < i → hQ s1 (a + 6 + 2 * q) (rR S x n q)) (fun h' => (∀ p, p < n → hQ h' (a + 6 + 2 * p) (rR S x n p)) ∧ gFr (a + 3) 25 h h' ∧ h'.2 (a + 5) = h.2 (a + 5)) (by
    intro k s1 hI
    have R1 : s1.1 (s + 1) 4 = jI n := by rw [hI.1.i1 (by omega)]; exact R.1.1
    refine ⟨s1, ?_, hI.2.2, hI.1, hI.2.1⟩
    try dsimp only
    simp (disch := omega) only [jl_0, jl_1, jl_2, jl_3, jl_4, jl_5, jl_6, jl_10, jl_11, jl_20, jl_26, jl_31, jl_32, jl_40, jl_41, jl_42, jl_43, jl_47, jl_48, jl_57, jl_81, jl_97, jl_99, jl_100, jl_102, jl_103, jl_124, jl_141, jl_564, jl_705, jl_999, jl_1000, jl_9999, jI_neg, cs1, jI_add, jI_sub, jI_mul, jI_neg, jI_lt, jI_le, jI_eq, gIf, gIe, gN_jI, tn_0, tn_1, tn_2, tn_3, tn_4, Int.toNat_natCast, Int.cast_ofNat_Int, if_pos, if_neg, Option.bind_some, eq_self, Bool.false_eq_true, reduceIte, f_X0_findOhms_8, R1]) (by
    intro k i s1 hi hI
    obtain ⟨G, U, Q⟩ := hI
    left
    have Rs := R.mv (G.sa (lo' := s) (n' := 13) (by omega))
    have R1 := Rs.1.1
    have kd := W.kd hi
    have e1 := u_isKind Rs.1 W hi (z := 0) (by omega) (by omega)
    -- ahead of the meter
    have A : ∃ s2, (if decide (S 4 i = 0) = true then (f_X0_putArm a s (jI i) s1).bind fun v20 => some v20 else (f_X0_addUp a (s + 1) (jI i) (jI (-1)) s1).bind fun v10 => (f_X2_copy (a + 6 + 2 * i) (a + 3) v10).bind fun v13 => (f_X5_isKind (s + 1) (jI i) (jI 2) v13).bind fun v15 => if v15 = true then (f_X2_invert (a + 6 + 2 * i) v13).bind fun v18 => some v18 else some v13 : Option gHp) = some s2 ∧ gFr (a + 3) 25 h s2 ∧ s2.2 (a + 5) = h.2 (a + 5) ∧ (∀ q, q < i → hQ s2 (a + 6 + 2 * q) (rR S x n q)) ∧ hQ s2 (a + 6 + 2 * i) (bRaw S (rR S x n) i) := by
      by_cases c4 : S 4 i = 0
      · rw [decide_eq_true c4, if_pos rfl, u_putArm Rs W hi c4]
        refine ⟨_, rfl, G.P (by omega) (by omega), ?_, fun q hq => nPut_ne (by omega) (Q q hq), ?_⟩
        · rw [nPut_2 (by omega)]; exact U
        · unfold bRaw
          rw [if_pos c4]
          exact nPut_Q _ _ _
      · rw [decide_eq_false c4, if_neg Bool.false_ne_true]
        obtain ⟨v10, e10, Q10, G10⟩ := u_addUp Rs.1 W hd hi c4 (wo := -1) (by omega) Q
        have eP : gSum (fun q => if decide (S 4 i = 2) = true then iInv (rR S x n q) else rR S x n q) (fun q => gSon S i q && !decide ((q : Int) = -1)) i = gSum (fun q => if decide (S 4 i = 2) = true then iInv (rR S x n q) else rR S x n q) (gSon S i) i := gSum_congr fun q hq => ⟨by rw [decide_eq_false (by omega)]; simp, fun _ => rfl⟩
        rw [eP] at Q10
        have e13 := k_copy (x := a + 6 + 2 * i) Q10
        rw [e10, Option.bind_some, e13, Option.bind_some]
        have G13 : gFr (a + 3) 25 h (nPut v10 (a + 6 + 2 * i) (gSum (fun q => if decide (S 4 i = 2) = true then iInv (rR S x n q) else rR S x n q) (gSon S i) i)) := (G.tr (G10.mono (by omega) (by omega))).P (by omega) (by omega)
        have U10 : v10.2 (a + 5) = h.2 (a + 5) := (G10.i2 (by omega)).trans U
        rw [u_isKind (R.mv (G13.sa (lo' := s) (n' := 13) (by omega))).1 W hi (z := 2) (by omega) (by omega), Option.bind_some]
        unfold bRaw
        rw [if_neg c4]
        by_cases c2 : S 4 i = 2
        · rw [decide_eq_true c2, if_pos rfl]
          rw [decide_eq_true c2] at G13
          rw [k_invert (nPut_Q _ _ _)]
          refine ⟨_, rfl, G13.P (by omega) (by omega), ?_, fun q hq => nPut_ne (by omega) (nPut_ne (by omega) ((Q q hq).fr G10 (by omega))), ?_⟩
          · rw [nPut_2 (by omega), nPut_2 (by omega)]; exact U10
          · rw [if_neg (by omega)]
            exact nPut_Q _ _ _
        · rw [decide_eq_false c2, if_neg Bool.false_ne_true]
          rw [decide_eq_false c2] at G13
          refine ⟨_, rfl, G13, ?_, fun q hq => nPut_ne (by omega) ((Q q hq).fr G10 (by omega)), ?_⟩
          · rw [nPut_2 (by omega)]; exact U10
          · rw [if_pos (by omega)]
            exact nPut_Q _ _ _
    obtain ⟨s2, e2, G2, U2, Q2, Qi⟩ := A
    have gi := bRaw_G S (rR S x n) i
    by_cases cx : (i : Int) = x
    · have Rm : s2.1 s 6 = jI (S 0 2) := by rw [G2.i1 (by omega)]; exact R.2.2.2.2.2.1
      have bi : (bRaw S (rR S x n) i).1 + (bRaw S (rR S x n) i).2 ≤ 1000000000000000 := by
        have h1 := rR_V W (x := -1) n i (by omega) hi
        have h2 := rU_9 W (x := -1) hi
        have h3 : bRaw S (rR S x n) i = rR S (-1) n i := by
          rw [rR_e hi (x := -1)]
          unfold bPart
          rw [if_neg (by omega)]
          refine bRaw_congr fun q hq hc => ?_
          rw [← cx]
          refine rR_off W hi n q (by omega) (by omega) ?_
          rcases hg : gOn S i q with _ | _
          · rfl
          · have := gOn_lt W hi hg
            omega
        rw [h3]
        have := nV_le h1
        omega
      have em : f_X0_addMeter a (a + 6 + 2 * i) (jI (S 0 2)) s2 = some (nPut (nPut (nPut (nPut s2 (a + 4) (1, (S 0 2).toNat)) (a + 6 + 2 * i) (iInv (bRaw S (rR S x n) i))) (a + 6 + 2 * i) (iAdd (iInv (bRaw S (rR S x n) i)) (1, (S 0 2).toNat))) (a + 6 + 2 * i) (iInv (iAdd (iInv (bRaw S (rR S x n) i)) (1, (S 0 2).toNat)))) := by
        have d1 := k_put s2 (a + 4) (u := 1) (l := (S 0 2).toNat) (by omega) (by omega) (by omega)
        rw [show nRed 1 (S 0 2).toNat = (1, (S 0 2).toNat) from nRed_self (x := (1, (S 0 2).toNat)) (nG_one _), hm.2.2, ← jI_to64 (z := S 0 2) (by omega) (by omega)] at d1
        have d1' : f_X2_put (a + 4) 1 (jI (S 0 2)).toInt64 s2 = _ := d1
        have d2 := k_invert (nPut_ne (h := s2) (x := a + 4) (y := a + 6 + 2 * i) (q := (1, (S 0 2).toNat)) (by omega) Qi)
        have d3 := k_add (nPut_Q (nPut s2 (a + 4) (1, (S 0 2).toNat)) (a + 6 + 2 * i) (iInv (bRaw S (rR S x n) i))) (y := a + 4) (r := (1, (S 0 2).toNat)) (nPut_ne (by omega) (nPut_Q _ _ _)) (by
          show ((bRaw S (rR S x n) i).2 + (bRaw S (rR S x n) i).1) * (1 + (S 0 2).toNat) < _
          have h5 : ((bRaw S (rR S x n) i).2 + (bRaw S (rR S x n) i).1) * (1 + (S 0 2).toNat) ≤ 1000000000000000 * 1000 := Nat.mul_le_mul (by omega) (by omega)
          omega) (by show (bRaw S (rR S x n) i).1 < _; omega) (by show (S 0 2).toNat < _; omega)
        have d4 := k_invert (nPut_Q (nPut (nPut s2 (a + 4) (1, (S 0 2).toNat)) (a + 6 + 2 * i) (iInv (bRaw S (rR S x n) i))) (a + 6 + 2 * i) (iAdd (iInv (bRaw S (rR S x n) i)) (1, (S 0 2).toNat)))
        rw [f_X0_addMeter, d1', Option.bind_some, d2, Option.bind_some, jl_1, d3, Option.bind_some, d4]
        rfl
      refine ⟨nPut (nPut (nPut (nPut s2 (a + 4) (1, (S 0 2).toNat)) (a + 6 + 2 * i) (iInv (bRaw S (rR S x n) i))) (a + 6 + 2 * i) (iAdd (iInv (bRaw S (rR S x n) i)) (1, (S 0 2).toNat))) (a + 6 + 2 * i) (iInv (iAdd (iInv (bRaw S (rR S x n) i)) (1, (S 0 2).toNat))), ?_, ?_, ?_, ?_⟩
      · try dsimp only
        rw [← cx] at em ⊢
        simp (disch := omega) only [jl_0, jl_1, jl_2, jl_3, jl_4, jl_5, jl_6, jl_10, jl_11, jl_20, jl_26, jl_31, jl_32, jl_40, jl_41, jl_42, jl_43, jl_47, jl_48, jl_57, jl_81, jl_97, jl_99, jl_100, jl_102, jl_103, jl_124, jl_141, jl_564, jl_705, jl_999, jl_1000, jl_9999, jI_neg, cs1, jI_add, jI_sub, jI_mul, jI_neg, jI_lt, jI_le, jI_eq, gIf, gIe, gN_jI, tn_0, tn_1, tn_2, tn_3, tn_4, Int.toNat_natCast, Int.cast_ofNat_Int, if_pos, if_neg, Option.bind_some, eq_self, Bool.false_eq_true, reduceIte, f_X0_findOhms_8, R1, e1, e2, Rm, em]
      · exact (((G2.P (by omega) (by omega)).P (by omega) (by omega)).P (by omega) (by omega)).P (by omega) (by omega)
      · rw [nPut_2 (by omega), nPut_2 (by omega), nPut_2 (by omega), nPut_2 (by omega)]; exact U2
      · intro q hq
        by_cases e : q = i
        · subst e
          rw [rR_e hi]
          unfold bPart bMet
          rw [if_pos cx]
          exact nPut_Q _ _ _
        · exact nPut_ne (by omega) (nPut_ne (by omega) (nPut_ne (by omega) (nPut_ne (by omega) (Q2 q (by omega)))))
    · refine ⟨s2, ?_, G2, U2, ?_⟩
      · try dsimp only
        simp (disch := omega) only [jl_0, jl_1, jl_2, jl_3, jl_4, jl_5, jl_6, jl_10, jl_11, jl_20, jl_26, jl_31, jl_32, jl_40, jl_41, jl_42, jl_43, jl_47, jl_48, jl_57, jl_81, jl_97, jl_99, jl_100, jl_102, jl_103, jl_124, jl_141, jl_564, jl_705, jl_999, jl_1000, jl_9999, jI_neg, cs1, jI_add, jI_sub, jI_mul, jI_neg, jI_lt, jI_le, jI_eq, gIf, gIe, gN_jI, tn_0, tn_1, tn_2, tn_3, tn_4, Int.toNat_natCast, Int.cast_ofNat_Int, if_pos, if_neg, Option.bind_some, eq_self, Bool.false_eq_true, reduceIte, f_X0_findOhms_8, R1, e1, e2, cx]
      · intro q hq
        by_cases e : q = i
        · subst e
          rw [rR_e hi]
          unfold bPart
          rw [if_neg cx]
          exact Qi
        · exact Q2 q (by omega)) gFuel 0 h (by omega) (by unfold gFuel; omega) ⟨gFr.rf, rfl, by intro q hq; omega⟩
  try dsimp only at eo
  refine ⟨o, ?_, Qo, Go, Uo⟩
  rw [f_X0_findOhms, jl_0]
  rw [show ((0 : Nat) : Int) = 0 from rfl] at eo
  rw [eo]
  rfl
