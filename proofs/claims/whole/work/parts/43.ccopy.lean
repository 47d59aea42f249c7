/-! the class's states are copied -/
theorem u_netcopy (h : gHp) (a0 a1 : Nat) (hd : a0 + 5 ≤ a1 ∨ a1 + 5 ≤ a0) : ∃ h', f_X5_copy a0 a1 h = some h' ∧ gFr a0 5 h h' ∧ (∀ p : Nat, p < 11 → h'.1 (a0 + 1) p = h.1 (a1 + 1) p ∧ h'.1 (a0 + 2) p = h.1 (a1 + 2) p ∧ h'.1 (a0 + 3) p = h.1 (a1 + 3) p) ∧ (∀ l : Nat, l < 6 → h'.1 (a0 + 4) l = h.1 (a1 + 4) l) ∧ h'.1 a0 4 = h.1 a1 4 := by
  obtain ⟨v7, e7, G7, E7⟩ := gUp (fun k i s => f_X5_copy_2 a0 a1 k (jI i) s) 11 (fun i s => gFr a0 5 h s ∧ (∀ p : Nat, p < i → s.1 (a0 + 1) p = h.1 (a1 + 1) p ∧ s.1 (a0 + 2) p = h.1 (a1 + 2) p ∧ s.1 (a0 + 3) p = h.1 (a1 + 3) p)) (fun s => gFr a0 5 h s ∧ (∀ p : Nat, p < 11 → s.1 (a0 + 1) p = h.1 (a1 + 1) p ∧ s.1 (a0 + 2) p = h.1 (a1 + 2) p ∧ s.1 (a0 + 3) p = h.1 (a1 + 3) p)) (by
    intro k s hI
    refine ⟨s, ?_, hI⟩
    try dsimp only
    simp (disch := omega) only [jl_0, jl_1, jl_2, jl_3, jl_4, jl_5, jl_6, jl_10, jl_11, jl_20, jl_26, jl_31, jl_32, jl_40, jl_41, jl_42, jl_43, jl_47, jl_48, jl_57, jl_81, jl_97, jl_99, jl_100, jl_102, jl_103, jl_124, jl_141, jl_564, jl_705, jl_999, jl_1000, jl_9999, jI_neg, cs1, jI_add, jI_sub, jI_mul, jI_neg, jI_lt, jI_le, jI_eq, gIf, gIe, gN_jI, tn_0, tn_1, tn_2, tn_3, tn_4, Int.toNat_natCast, Int.cast_ofNat_Int, if_pos, if_neg, Option.bind_some, eq_self, Bool.false_eq_true, reduceIte, f_X5_copy_2, Int.cast_ofNat_Int]) (by
    intro k i s hi hI
    obtain ⟨G, E⟩ := hI
    left
    refine ⟨gsI (gsI (gsI s (a0 + 1) i (s.1 (a1 + 1) i)) (a0 + 2) i (s.1 (a1 + 2) i)) (a0 + 3) i (s.1 (a1 + 3) i), ?_, ((G.I (by omega) (by omega)).I (by omega) (by omega)).I (by omega) (by omega), ?_⟩
    · try dsimp only
      simp (disch := omega) only [jl_0, jl_1, jl_2, jl_3, jl_4, jl_5, jl_6, jl_10, jl_11, jl_20, jl_26, jl_31, jl_32, jl_40, jl_41, jl_42, jl_43, jl_47, jl_48, jl_57, jl_81, jl_97, jl_99, jl_100, jl_102, jl_103, jl_124, jl_141, jl_564, jl_705, jl_999, jl_1000, jl_9999, jI_neg, cs1, jI_add, jI_sub, jI_mul, jI_neg, jI_lt, jI_le, jI_eq, gIf, gIe, gN_jI, tn_0, tn_1, tn_2, tn_3, tn_4, Int.toNat_natCast, Int.cast_ofNat_Int, if_pos, if_neg, Option.bind_some, eq_self, Bool.false_eq_true, reduceIte, and_self, rI_2, rL_1, rI_e, rL_e, rI_n, rL_n, rI_k, rL_k, f_X5_copy_2]
    · intro p hp
      by_cases c : p = i
      · subst c
        simp (disch := omega) only [and_self, rI_2, rL_1, rI_e, rL_e, rI_n, rL_n, rI_k, rL_k, G.i1 (x := a1 + 1) (by omega), G.i1 (x := a1 + 2) (by omega), G.i1 (x := a1 + 3) (by omega)]
      · simp (disch := omega) only [and_self, rI_2, rL_1, rI_e, rL_e, rI_n, rL_n, rI_k, rL_k, ]
        exact E p (by omega)) gFuel 0 h (by omega) (by unfold gFuel; omega) ⟨gFr.rf, by intro p hp; omega⟩
  obtain ⟨v12, e12, G12, E12a, E12⟩ := gUp (fun k i s => f_X5_copy_52 a0 a1 k (jI i) s) 6 (fun i s => gFr a0 5 h s ∧ (∀ p : Nat, p < 11 → s.1 (a0 + 1) p = h.1 (a1 + 1) p ∧ s.1 (a0 + 2) p = h.1 (a1 + 2) p ∧ s.1 (a0 + 3) p = h.1 (a1 + 3) p) ∧ (∀ p : Nat, p < i → s.1 (a0 + 4) p = h.1 (a1 + 4) p)) (fun s => gFr a0 5 h s ∧ (∀ p : Nat, p < 11 → s.1 (a0 + 1) p = h.1 (a1 + 1) p ∧ s.1 (a0 + 2) p = h.1 (a1 + 2) p ∧ s.1 (a0 + 3) p = h.1 (a1 + 3) p) ∧ (∀ p : Nat, p < 6 → s.1 (a0 + 4) p = h.1 (a1 + 4) p)) (by
    intro k s hI
    refine ⟨s, ?_, hI⟩
    try dsimp only
    simp (disch := omega) only [jl_0, jl_1, jl_2, jl_3, jl_4, jl_5, jl_6, jl_10, jl_11, jl_20, jl_26, jl_31, jl_32, jl_40, jl_41, jl_42, jl_43, jl_47, jl_48, jl_57, jl_81, jl_97, jl_99, jl_100, jl_102, jl_103, jl_124, jl_141, jl_564, jl_705, jl_999, jl_1000, jl_9999, jI_neg, cs1, jI_add, jI_sub, jI_mul, jI_neg, jI_lt, jI_le, jI_eq, gIf, gIe, gN_jI, tn_0, tn_1, tn_2, tn_3, tn_4, Int.toNat_natCast, Int.cast_ofNat_Int, if_pos, if_neg, Option.bind_some, eq_self, Bool.false_eq_true, reduceIte, f_X5_copy_52, Int.cast_ofNat_Int]) (by
    intro k i s hi hI
    obtain ⟨G, E, E2⟩ := hI
    left
    refine ⟨gsI s (a0 + 4) i (s.1 (a1 + 4) i), ?_, G.I (by omega) (by omega), ?_, ?_⟩
    · try dsimp only
      simp (disch := omega) only [jl_0, jl_1, jl_2, jl_3, jl_4, jl_5, jl_6, jl_10, jl_11, jl_20, jl_26, jl_31, jl_32, jl_40, jl_41, jl_42, jl_43, jl_47, jl_48, jl_57, jl_81, jl_97, jl_99, jl_100, jl_102, jl_103, jl_124, jl_141, jl_564, jl_705, jl_999, jl_1000, jl_9999, jI_neg, cs1, jI_add, jI_sub, jI_mul, jI_neg, jI_lt, jI_le, jI_eq, gIf, gIe, gN_jI, tn_0, tn_1, tn_2, tn_3, tn_4, Int.toNat_natCast, Int.cast_ofNat_Int, if_pos, if_neg, Option.bind_some, eq_self, Bool.false_eq_true, reduceIte, and_self, rI_2, rL_1, rI_e, rL_e, rI_n, rL_n, rI_k, rL_k, f_X5_copy_52]
    · intro p hp
      simp (disch := omega) only [and_self, rI_2, rL_1, rI_e, rL_e, rI_n, rL_n, rI_k, rL_k, ]
      exact E p hp
    · intro p hp
      by_cases c : p = i
      · subst c
        simp (disch := omega) only [and_self, rI_2, rL_1, rI_e, rL_e, rI_n, rL_n, rI_k, rL_k, G.i1 (x := a1 + 4) (by omega)]
      · simp (disch := omega) only [and_self, rI_2, rL_1, rI_e, rL_e, rI_n, rL_n, rI_k, rL_k, ]
        exact E2 p (by omega)) gFuel 0 v7 (by omega) (by unfold gFuel; omega) ⟨G7, E7, by intro p hp; omega⟩
  try dsimp only at e7 e12
  refine ⟨gsI v12 a0 4 (v12.1 a1 4), ?_, G12.I (by omega) (by omega), ?_, ?_, ?_⟩
  · rw [f_X5_copy, jl_0]
    rw [show ((0 : Nat) : Int) = 0 from rfl] at e7 e12
    rw [e7, Option.bind_some, e12, Option.bind_some]
  · intro p hp
    simp (disch := omega) only [and_self, rI_2, rL_1, rI_e, rL_e, rI_n, rL_n, rI_k, rL_k, ]
    exact E12a p hp
  · intro l hl
    simp (disch := omega) only [and_self, rI_2, rL_1, rI_e, rL_e, rI_n, rL_n, rI_k, rL_k, ]
    exact E12 l hl
  · simp (disch := omega) only [and_self, rI_2, rL_1, rI_e, rL_e, rI_n, rL_n, rI_k, rL_k, ]
    rw [G12.i1 (x := a1) (by omega)]
theorem u_notcopy (h : gHp) (a0 a1 : Nat) (hd : a0 + 4 ≤ a1 ∨ a1 + 4 ≤ a0) : ∃ h', f_X7_copy a0 a1 h = some h' ∧ gFr a0 4 h h' ∧ (∀ p : Nat, p < 20 → h'.2 (a0 + 1) p = h.2 (a1 + 1) p ∧ h'.2 (a0 + 2) p = h.2 (a1 + 2) p ∧ h'.1 (a0 + 3) p = h.1 (a1 + 3) p) ∧ h'.1 a0 3 = h.1 a1 3 := by
  obtain ⟨v7, e7, G7, E7⟩ := gUp (fun k i s => f_X7_copy_2 a0 a1 k (jI i) s) 20 (fun i s => gFr a0 4 h s ∧ (∀ p : Nat, p < i → s.2 (a0 + 1) p = h.2 (a1 + 1) p ∧ s.2 (a0 + 2) p = h.2 (a1 + 2) p ∧ s.1 (a0 + 3) p = h.1 (a1 + 3) p)) (fun s => gFr a0 4 h s ∧ (∀ p : Nat, p < 20 → s.2 (a0 + 1) p = h.2 (a1 + 1) p ∧ s.2 (a0 + 2) p = h.2 (a1 + 2) p ∧ s.1 (a0 + 3) p = h.1 (a1 + 3) p)) (by
    intro k s hI
    refine ⟨s, ?_, hI⟩
    try dsimp only
    simp (disch := omega) only [jl_0, jl_1, jl_2, jl_3, jl_4, jl_5, jl_6, jl_10, jl_11, jl_20, jl_26, jl_31, jl_32, jl_40, jl_41, jl_42, jl_43, jl_47, jl_48, jl_57, jl_81, jl_97, jl_99, jl_100, jl_102, jl_103, jl_124, jl_141, jl_564, jl_705, jl_999, jl_1000, jl_9999, jI_neg, cs1, jI_add, jI_sub, jI_mul, jI_neg, jI_lt, jI_le, jI_eq, gIf, gIe, gN_jI, tn_0, tn_1, tn_2, tn_3, tn_4, Int.toNat_natCast, Int.cast_ofNat_Int, if_pos, if_neg, Option.bind_some, eq_self, Bool.false_eq_true, reduceIte, f_X7_copy_2, Int.cast_ofNat_Int]) (by
    intro k i s hi hI
    obtain ⟨G, E⟩ := hI
    left
    refine ⟨gsI (gsL (gsL s (a0 + 1) i (s.2 (a1 + 1) i)) (a0 + 2) i (s.2 (a1 + 2) i)) (a0 + 3) i (s.1 (a1 + 3) i), ?_, ((G.L (by omega) (by omega)).L (by omega) (by omega)).I (by omega) (by omega), ?_⟩
    · try dsimp only
      simp (disch := omega) only [jl_0, jl_1, jl_2, jl_3, jl_4, jl_5, jl_6, jl_10, jl_11, jl_20, jl_26, jl_31, jl_32, jl_40, jl_41, jl_42, jl_43, jl_47, jl_48, jl_57, jl_81, jl_97, jl_99, jl_100, jl_102, jl_103, jl_124, jl_141, jl_564, jl_705, jl_999, jl_1000, jl_9999, jI_neg, cs1, jI_add, jI_sub, jI_mul, jI_neg, jI_lt, jI_le, jI_eq, gIf, gIe, gN_jI, tn_0, tn_1, tn_2, tn_3, tn_4, Int.toNat_natCast, Int.cast_ofNat_Int, if_pos, if_neg, Option.bind_some, eq_self, Bool.false_eq_true, reduceIte, and_self, rI_2, rL_1, rI_e, rL_e, rI_n, rL_n, rI_k, rL_k, f_X7_copy_2]
    · intro p hp
      by_cases c : p = i
      · subst c
        simp (disch := omega) only [and_self, rI_2, rL_1, rI_e, rL_e, rI_n, rL_n, rI_k, rL_k, G.i2 (x := a1 + 1) (by omega), G.i2 (x := a1 + 2) (by omega), G.i1 (x := a1 + 3) (by omega)]
      · simp (disch := omega) only [and_self, rI_2, rL_1, rI_e, rL_e, rI_n, rL_n, rI_k, rL_k, ]
        exact E p (by omega)) gFuel 0 h (by omega) (by unfold gFuel; omega) ⟨gFr.rf, by intro p hp; omega⟩
  try dsimp only at e7
  refine ⟨gsI v7 a0 3 (v7.1 a1 3), ?_, G7.I (by omega) (by omega), ?_, ?_⟩
  · rw [f_X7_copy, jl_0]
    rw [show ((0 : Nat) : Int) = 0 from rfl] at e7
    rw [e7, Option.bind_some]
  · intro p hp
    simp (disch := omega) only [and_self, rI_2, rL_1, rI_e, rL_e, rI_n, rL_n, rI_k, rL_k, ]
    exact E7 p hp
  · simp (disch := omega) only [and_self, rI_2, rL_1, rI_e, rL_e, rI_n, rL_n, rI_k, rL_k, ]
    rw [G7.i1 (x := a1) (by omega)]
theorem nar_b {z : Int} (hz : z = 0 ∨ z = 1) : vp_nar .boolean (jI z) = jI z := by
  rcases hz with rfl | rfl <;> decide +kernel
theorem u_copy {h : gHp} {a0 a1 t n c : Nat} {S : gTb} (R : cSt h a1 n c S) (W : gWf t n c S) (hd : a0 + 13 ≤ a1 ∨ a1 + 13 ≤ a0) : ∃ h', f_X8_copy a0 a1 h = some h' ∧ cSt h' a0 n c S ∧ gFr a0 13 h h' := by
  have hn := W.n
  have hc := W.c
  obtain ⟨v2, e2, G2, A1, A2, A3⟩ := u_netcopy h (a0 + 1) (a1 + 1) (by omega)
  obtain ⟨v4, e4, G4, B1, B2⟩ := u_notcopy v2 (a0 + 6) (a1 + 6) (by omega)
  have K2 : gFr a0 13 h v2 := G2.mono (by omega) (by omega)
  have K4 : gFr a0 13 h v4 := K2.tr (G4.mono (by omega) (by omega))
  have T4 : cNet v4 (a0 + 1) n S ∧ cNot v4 (a0 + 6) c S := by
    obtain ⟨⟨r1, r2, r3, r4, r5⟩, ⟨s1, s2, s3, s4⟩, _⟩ := R
    refine ⟨cNet.mv (h := v2) ⟨?_, ?_, ?_, ?_, ?_⟩ (G4.sa (by omega)), ?_, ?_, ?_, ?_⟩
    · rw [A3]; exact r1
    · intro p hp; rw [(A1 p (by omega)).1]; exact r2 p hp
    · intro p hp; rw [(A1 p (by omega)).2.1]; exact r3 p hp
    · intro p hp; rw [(A1 p (by omega)).2.2]; exact r4 p hp
    · intro l hl; rw [A2 l hl]; exact r5 l hl
    · rw [B2, G2.i1 (by omega)]; exact s1
    · intro k hk; rw [(B1 k (by omega)).1, G2.i2 (by omega)]; exact s2 k hk
    · intro k hk; rw [(B1 k (by omega)).2.1, G2.i2 (by omega)]; exact s3 k hk
    · intro k hk; rw [(B1 k (by omega)).2.2, G2.i1 (by omega)]; exact s4 k hk
  obtain ⟨v9, e9, G9, C9⟩ := gUp (fun k i s => f_X8_copy_24 a0 a1 k (jI i) s) 6 (fun i s => gFr (a0 + 10) 3 v4 s ∧ (∀ p : Nat, p < i → s.1 (a0 + 10) p = h.1 (a1 + 10) p ∧ s.1 (a0 + 11) p = h.1 (a1 + 11) p)) (fun s => gFr (a0 + 10) 3 v4 s ∧ (∀ p : Nat, p < 6 → s.1 (a0 + 10) p = h.1 (a1 + 10) p ∧ s.1 (a0 + 11) p = h.1 (a1 + 11) p)) (by
    intro k s hI
    refine ⟨s, ?_, hI⟩
    try dsimp only
    simp (disch := omega) only [jl_0, jl_1, jl_2, jl_3, jl_4, jl_5, jl_6, jl_10, jl_11, jl_20, jl_26, jl_31, jl_32, jl_40, jl_41, jl_42, jl_43, jl_47, jl_48, jl_57, jl_81, jl_97, jl_99, jl_100, jl_102, jl_103, jl_124, jl_141, jl_564, jl_705, jl_999, jl_1000, jl_9999, jI_neg, cs1, jI_add, jI_sub, jI_mul, jI_neg, jI_lt, jI_le, jI_eq, gIf, gIe, gN_jI, tn_0, tn_1, tn_2, tn_3, tn_4, Int.toNat_natCast, Int.cast_ofNat_Int, if_pos, if_neg, Option.bind_some, eq_self, Bool.false_eq_true, reduceIte, f_X8_copy_24, Int.cast_ofNat_Int]) (by
    intro k i s hi hI
    obtain ⟨G, E⟩ := hI
    left
    refine ⟨gsI (gsI s (a0 + 10) i (s.1 (a1 + 10) i)) (a0 + 11) i (s.1 (a1 + 11) i), ?_, (G.I (by omega) (by omega)).I (by omega) (by omega), ?_⟩
    · try dsimp only
      simp (disch := omega) only [jl_0, jl_1, jl_2, jl_3, jl_4, jl_5, jl_6, jl_10, jl_11, jl_20, jl_26, jl_31, jl_32, jl_40, jl_41, jl_42, jl_43, jl_47, jl_48, jl_57, jl_81, jl_97, jl_99, jl_100, jl_102, jl_103, jl_124, jl_141, jl_564, jl_705, jl_999, jl_1000, jl_9999, jI_neg, cs1, jI_add, jI_sub, jI_mul, jI_neg, jI_lt, jI_le, jI_eq, gIf, gIe, gN_jI, tn_0, tn_1, tn_2, tn_3, tn_4, Int.toNat_natCast, Int.cast_ofNat_Int, if_pos, if_neg, Option.bind_some, eq_self, Bool.false_eq_true, reduceIte, and_self, rI_2, rL_1, rI_e, rL_e, rI_n, rL_n, rI_k, rL_k, f_X8_copy_24]
    · intro p hp
      by_cases c : p = i
      · subst c
        simp (disch := omega) only [and_self, rI_2, rL_1, rI_e, rL_e, rI_n, rL_n, rI_k, rL_k, G.i1 (x := a1 + 10) (by omega), G.i1 (x := a1 + 11) (by omega), K4.i1 (x := a1 + 10) (by omega), K4.i1 (x := a1 + 11) (by omega)]
      · simp (disch := omega) only [and_self, rI_2, rL_1, rI_e, rL_e, rI_n, rL_n, rI_k, rL_k, ]
        exact E p (by omega)) gFuel 0 v4 (by omega) (by unfold gFuel; omega) ⟨gFr.rf, by intro p hp; omega⟩
  obtain ⟨v14, e14, G14, C14, D14⟩ := gUp (fun k i s => f_X8_copy_62 a0 a1 k (jI i) s) 11 (fun i s => gFr (a0 + 10) 3 v4 s ∧ (∀ p : Nat, p < 6 → s.1 (a0 + 10) p = h.1 (a1 + 10) p ∧ s.1 (a0 + 11) p = h.1 (a1 + 11) p) ∧ (∀ p : Nat, p < i → s.1 (a0 + 12) p = vp_nar .boolean (h.1 (a1 + 12) p))) (fun s => gFr (a0 + 10) 3 v4 s ∧ (∀ p : Nat, p < 6 → s.1 (a0 + 10) p = h.1 (a1 + 10) p ∧ s.1 (a0 + 11) p = h.1 (a1 + 11) p) ∧ (∀ p : Nat, p < 11 → s.1 (a0 + 12) p = vp_nar .boolean (h.1 (a1 + 12) p))) (by
    intro k s hI
    refine ⟨s, ?_, hI⟩
    try dsimp only
    simp (disch := omega) only [jl_0, jl_1, jl_2, jl_3, jl_4, jl_5, jl_6, jl_10, jl_11, jl_20, jl_26, jl_31, jl_32, jl_40, jl_41, jl_42, jl_43, jl_47, jl_48, jl_57, jl_81, jl_97, jl_99, jl_100, jl_102, jl_103, jl_124, jl_141, jl_564, jl_705, jl_999, jl_1000, jl_9999, jI_neg, cs1, jI_add, jI_sub, jI_mul, jI_neg, jI_lt, jI_le, jI_eq, gIf, gIe, gN_jI, tn_0, tn_1, tn_2, tn_3, tn_4, Int.toNat_natCast, Int.cast_ofNat_Int, if_pos, if_neg, Option.bind_some, eq_self, Bool.false_eq_true, reduceIte, f_X8_copy_62, Int.cast_ofNat_Int]) (by
    intro k i s hi hI
    obtain ⟨G, E, E2⟩ := hI
    left
    refine ⟨gsI s (a0 + 12) i (vp_nar .boolean (s.1 (a1 + 12) i)), ?_, G.I (by omega) (by omega), ?_, ?_⟩
    · try dsimp only
      simp (disch := omega) only [jl_0, jl_1, jl_2, jl_3, jl_4, jl_5, jl_6, jl_10, jl_11, jl_20, jl_26, jl_31, jl_32, jl_40, jl_41, jl_42, jl_43, jl_47, jl_48, jl_57, jl_81, jl_97, jl_99, jl_100, jl_102, jl_103, jl_124, jl_141, jl_564, jl_705, jl_999, jl_1000, jl_9999, jI_neg, cs1, jI_add, jI_sub, jI_mul, jI_neg, jI_lt, jI_le, jI_eq, gIf, gIe, gN_jI, tn_0, tn_1, tn_2, tn_3, tn_4, Int.toNat_natCast, Int.cast_ofNat_Int, if_pos, if_neg, Option.bind_some, eq_self, Bool.false_eq_true, reduceIte, and_self, rI_2, rL_1, rI_e, rL_e, rI_n, rL_n, rI_k, rL_k, f_X8_copy_62]
    · intro p hp
      simp (disch := omega) only [and_self, rI_2, rL_1, rI_e, rL_e, rI_n, rL_n, rI_k, rL_k, ]
      exact E p hp
    · intro p hp
      by_cases c : p = i
      · subst c
        simp (disch := omega) only [and_self, rI_2, rL_1, rI_e, rL_e, rI_n, rL_n, rI_k, rL_k, G.i1 (x := a1 + 12) (by omega), K4.i1 (x := a1 + 12) (by omega)]
      · simp (disch := omega) only [and_self, rI_2, rL_1, rI_e, rL_e, rI_n, rL_n, rI_k, rL_k, ]
        exact E2 p (by omega)) gFuel 0 v9 (by omega) (by unfold gFuel; omega) ⟨G9, C9, by intro p hp; omega⟩
  try dsimp only at e9 e14
  obtain ⟨_, _, ⟨r3, r3b⟩, r4, r5, r6, r7⟩ := R
  have K14 : gFr a0 13 h v14 := K4.tr (G14.mono (by omega) (by omega))
  refine ⟨gsI (gsI (gsI v14 a0 5 (v14.1 a1 5)) a0 6 (v14.1 a1 6)) a0 7 (v14.1 a1 7), ?_, ⟨?_, ?_, ⟨?_, ?_⟩, ?_, ?_, ?_, ?_⟩, ((K14.I (by omega) (by omega)).I (by omega) (by omega)).I (by omega) (by omega)⟩
  · rw [f_X8_copy, jl_0, e2, Option.bind_some, e4, Option.bind_some]
    rw [show ((0 : Nat) : Int) = 0 from rfl] at e9 e14
    rw [e9, Option.bind_some, e14, Option.bind_some]
    simp (disch := omega) only [and_self, rI_2, rL_1, rI_e, rL_e, rI_n, rL_n, rI_k, rL_k, ]
  · refine T4.1.mv ((G14.sa (by omega)).tr ?_)
    intro x q1 q2
    simp (disch := omega) only [and_self, rI_2, rL_1, rI_e, rL_e, rI_n, rL_n, rI_k, rL_k, ]
  · refine T4.2.mv ((G14.sa (by omega)).tr ?_)
    intro x q1 q2
    simp (disch := omega) only [and_self, rI_2, rL_1, rI_e, rL_e, rI_n, rL_n, rI_k, rL_k, ]
  · intro l hl h0
    simp (disch := omega) only [and_self, rI_2, rL_1, rI_e, rL_e, rI_n, rL_n, rI_k, rL_k, ]
    rw [(C14 l hl).1]; exact r3 l hl h0
  · intro l hl h0
    simp (disch := omega) only [and_self, rI_2, rL_1, rI_e, rL_e, rI_n, rL_n, rI_k, rL_k, ]
    rw [(C14 l hl).2]; exact r3b l hl h0
  · intro p hp
    simp (disch := omega) only [and_self, rI_2, rL_1, rI_e, rL_e, rI_n, rL_n, rI_k, rL_k, ]
    rw [D14 p (by omega), r4 p hp, nar_b (W.fo hp)]
  · simp (disch := omega) only [and_self, rI_2, rL_1, rI_e, rL_e, rI_n, rL_n, rI_k, rL_k, K14.i1 (x := a1) (by omega)]
    exact r5
  · simp (disch := omega) only [and_self, rI_2, rL_1, rI_e, rL_e, rI_n, rL_n, rI_k, rL_k, K14.i1 (x := a1) (by omega)]
    exact r6
  · simp (disch := omega) only [and_self, rI_2, rL_1, rI_e, rL_e, rI_n, rL_n, rI_k, rL_k, K14.i1 (x := a1) (by omega)]
    exact r7
