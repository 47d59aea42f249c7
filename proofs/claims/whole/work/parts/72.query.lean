/-! resistances, voltages, readings, losses -/
theorem m_telling {h : gHp} {m n c : Nat} {S : gTb} (R : mRow (h.2 (m + 1)) n c S) (hn : n ≤ 11) {z1 z2 : Int} (h1 : -2147483648 ≤ z1) (h2 : z1 < 2147483648) (h3 : -2147483648 ≤ z2) (h4 : z2 < 2147483648) : f_X10_telling m (jI z1) (jI z2) h = some (if 0 ≤ z1 ∧ z1 < n then (if z2 = 0 ∨ z2 = 1 then jI 0 else jI (-2)) else jI (-1)) := by
  have e := m_noPart R hn h1 h2
  have d := m_in h (x := z2) (y := 0) (z := 1) h3 h4 (by omega) (by omega) (by omega) (by omega)
  rw [f_X10_telling]
  by_cases c1 : 0 ≤ z1 ∧ z1 < n
  · rw [decide_eq_true c1] at e
    rw [if_pos c1]
    refine gBs e (gIF Bool.false_ne_true ?_)
    by_cases c2 : z2 = 0 ∨ z2 = 1
    · rw [decide_eq_true (by omega)] at d
      rw [if_pos c2]
      exact gBs d (gIT rfl rfl)
    · rw [decide_eq_false (by omega)] at d
      rw [if_neg c2]
      exact gBs d (gIF Bool.false_ne_true rfl)
  · rw [decide_eq_false c1] at e
    rw [if_neg c1]
    exact gBs e (gIT rfl rfl)
theorem u_isHalf (h : gHp) {z : Int} (h1 : -2147483648 ≤ z) (h2 : z < 2147483648) : f_X9_isHalf (jI z) h = some (decide (z = 0 ∨ z = 1)) := by
  by_cases c0 : z = 0
  · rw [decide_eq_true (by omega)]
    simp (disch := omega) only [jl_0, jl_1, jl_2, jl_3, jl_4, jl_5, jl_6, jl_10, jl_11, jl_20, jl_26, jl_31, jl_32, jl_40, jl_41, jl_42, jl_43, jl_47, jl_48, jl_57, jl_81, jl_97, jl_99, jl_100, jl_102, jl_103, jl_124, jl_141, jl_564, jl_705, jl_999, jl_1000, jl_9999, jI_neg, cs1, jI_add, jI_sub, jI_mul, jI_neg, jI_lt, jI_le, jI_eq, gIf, gIe, gN_jI, tn_0, tn_1, tn_2, tn_3, tn_4, Int.toNat_natCast, Int.cast_ofNat_Int, if_pos, if_neg, Option.bind_some, eq_self, Bool.false_eq_true, reduceIte, f_X9_isHalf, c0]
  · by_cases c1 : z = 1
    · rw [decide_eq_true (by omega)]
      simp (disch := omega) only [jl_0, jl_1, jl_2, jl_3, jl_4, jl_5, jl_6, jl_10, jl_11, jl_20, jl_26, jl_31, jl_32, jl_40, jl_41, jl_42, jl_43, jl_47, jl_48, jl_57, jl_81, jl_97, jl_99, jl_100, jl_102, jl_103, jl_124, jl_141, jl_564, jl_705, jl_999, jl_1000, jl_9999, jI_neg, cs1, jI_add, jI_sub, jI_mul, jI_neg, jI_lt, jI_le, jI_eq, gIf, gIe, gN_jI, tn_0, tn_1, tn_2, tn_3, tn_4, Int.toNat_natCast, Int.cast_ofNat_Int, if_pos, if_neg, Option.bind_some, eq_self, Bool.false_eq_true, reduceIte, f_X9_isHalf, c1]
    · rw [decide_eq_false (by omega)]
      simp (disch := omega) only [jl_0, jl_1, jl_2, jl_3, jl_4, jl_5, jl_6, jl_10, jl_11, jl_20, jl_26, jl_31, jl_32, jl_40, jl_41, jl_42, jl_43, jl_47, jl_48, jl_57, jl_81, jl_97, jl_99, jl_100, jl_102, jl_103, jl_124, jl_141, jl_564, jl_705, jl_999, jl_1000, jl_9999, jI_neg, cs1, jI_add, jI_sub, jI_mul, jI_neg, jI_lt, jI_le, jI_eq, gIf, gIe, gN_jI, tn_0, tn_1, tn_2, tn_3, tn_4, Int.toNat_natCast, Int.cast_ofNat_Int, if_pos, if_neg, Option.bind_some, eq_self, Bool.false_eq_true, reduceIte, f_X9_isHalf, c0, c1]
theorem n1_64 : (jI (-1)).toInt64 = -1 := by decide +kernel
theorem n2_64 : (jI (-2)).toInt64 = -2 := by decide +kernel
theorem half_eq {h : gHp} {u l : Int64} (z : Int32) (A B : Option (Int64 × gHp)) (hA : A = some (u, h)) (hB : B = some (l, h)) : (if z = 0 then A else B) = some (if z = 0 then u else l, h) := by
  by_cases c : z = 0
  · rw [if_pos c, if_pos c, hA]
  · rw [if_neg c, if_neg c, hB]
theorem q_resistance (b m t : Nat) (x1 x2 : Int32) : gOK b m t (f_X9_resistance b x1 x2) (f_X10_resistance m x1 x2) := by
  rintro ⟨tx, ⟨n, c, S⟩, H, X⟩ h C W
  have R : cSt h (b + 3) n c S := C.2.1
  have Wf : gWf t n c S := W.2.1
  have hn := Wf.n
  obtain ⟨z1, rfl, a1, a2⟩ := jI_ex x1
  obtain ⟨z2, rfl, b1, b2⟩ := jI_ex x2
  have eh := u_hasPart R.1 hn a1 a2
  have ef := u_isHalf h b1 b2
  have et : ∀ h2, mI m h2 (tx, (n, c, S), H, X) → _ := fun h2 M => m_telling (h := h2) M.2.1 hn a1 a2 b1 b2
  by_cases hz : 0 ≤ z1 ∧ z1 < n
  · rw [decide_eq_true hz] at eh
    by_cases hw : z2 = 0 ∨ z2 = 1
    · rw [decide_eq_true hw] at ef
      obtain ⟨p, rfl⟩ : ∃ p : Nat, z1 = p := ⟨z1.toNat, by omega⟩
      have hp : p < n := by omega
      have gp : gIn (jI p) 11 := jin (by omega) (by omega) (by omega)
      obtain ⟨h1, e1, Q1, G1, U1⟩ := u_findOhms (a := b + 113) (s := b + 3) R Wf (by omega) (x := -1) (by omega)
      refine ⟨if jI z2 = 0 then lI (rR S (-1) n p).1 else lI (rR S (-1) n p).2, h1, _, ?_, C.fr G1 (by omega), W.up (by omega), G1.mono (by omega) (by omega), fun h2 M => ?_⟩
      · rw [f_X9_resistance, gNp (by omega)]
        exact gBs eh (gIT rfl (gBs ef (gIT rfl (gBs e1 (gIT gp (gBs (k_half (Q1 p hp) (jI z2)) rfl))))))
      · have M1 : mRow (h2.2 (m + 1)) n c S := M.2.1
        have e2 := et h2 M
        rw [if_pos hz, if_pos hw] at e2
        obtain ⟨h3, e3, Q3, F3⟩ := m_lay M1 Wf Wf (A := ⟨fun _ _ _ => rfl, fun l => by rw [if_neg (by omega)]⟩) (arm := -4) (st := 0) (by omega) (by omega) (x := -1) (by omega)
        refine ⟨h3, ?_, M.fr F3, F3.fr⟩
        rw [f_X10_resistance, gNp (by omega)]
        refine gBs e2 (gIT rfl (gBs e3 ?_))
        refine half_eq (jI z2) _ _ (gIT gp ?_) (gIT gp ?_)
        · rw [(Q3 p hp).1]
        · rw [(Q3 p hp).2]
    · rw [decide_eq_false hw] at ef
      refine ⟨-2, h, _, gBs eh (gIT rfl (gBs ef (gIF Bool.false_ne_true rfl))), C, W.up (by omega), gFr.rf, fun h2 M => ⟨h2, ?_, M, gFr.rf⟩⟩
      have e2 := et h2 M
      rw [if_pos hz, if_neg hw] at e2
      exact gBs e2 (gIF (by decide +kernel) (by rw [n2_64]))
  · rw [decide_eq_false hz] at eh
    refine ⟨-1, h, _, gBs eh (gIF Bool.false_ne_true rfl), C, W.up (by omega), gFr.rf, fun h2 M => ⟨h2, ?_, M, gFr.rf⟩⟩
    have e2 := et h2 M
    rw [if_neg hz] at e2
    exact gBs e2 (gIF (by decide +kernel) (by rw [n1_64]))
theorem q_folded (b m t : Nat) (x1 x2 : Int32) : gOK b m t (f_X9_folded b x1 x2) (f_X10_folded m x1 x2) := by
  rintro ⟨tx, ⟨n, c, S⟩, H, X⟩ h C W
  have R : cSt h (b + 3) n c S := C.2.1
  have Wf : gWf t n c S := W.2.1
  have hn := Wf.n
  obtain ⟨z1, rfl, a1, a2⟩ := jI_ex x1
  obtain ⟨z2, rfl, b1, b2⟩ := jI_ex x2
  have eh := u_hasPart R.1 hn a1 a2
  have ef := u_isHalf h b1 b2
  have et : ∀ h2, mI m h2 (tx, (n, c, S), H, X) → _ := fun h2 M => m_telling (h := h2) M.2.1 hn a1 a2 b1 b2
  by_cases hz : 0 ≤ z1 ∧ z1 < n
  · rw [decide_eq_true hz] at eh
    by_cases hw : z2 = 0 ∨ z2 = 1
    · rw [decide_eq_true hw] at ef
      obtain ⟨p, rfl⟩ : ∃ p : Nat, z1 = p := ⟨z1.toNat, by omega⟩
      have hp : p < n := by omega
      have fo := Wf.fo hp
      have R8 : h.1 (b + 3 + 12) p = jI (S 8 p) := R.2.2.2.1 p hp
      have gp : gIn (jI p) 11 := jin (by omega) (by omega) (by omega)
      by_cases c8 : S 8 p = 0
      · refine ⟨-4, h, _, ?_, C, W.up (by omega), gFr.rf, fun h2 M => ⟨h2, ?_, M, gFr.rf⟩⟩
        · rw [f_X9_folded, gNp (by omega)]
          exact gBs eh (gIT rfl (gBs ef (gIT rfl (gIT gp (gIT (by rw [R8, c8]; rfl) rfl)))))
        · have M1 : mRow (h2.2 (m + 1)) n c S := M.2.1
          have e2 := et h2 M
          rw [if_pos hz, if_pos hw] at e2
          have e4 := m_isFolded M1 Wf hp
          rw [decide_eq_false (by omega)] at e4
          exact gBs e2 (gIT rfl (gBs e4 (gIF Bool.false_ne_true rfl)))
      · obtain ⟨h1, e1, Q1, G1, U1⟩ := u_findOhms (a := b + 113) (s := b + 3) R Wf (by omega) (x := -1) (by omega)
        refine ⟨if jI z2 = 0 then lI (rR S (-1) n p).1 else lI (rR S (-1) n p).2, h1, _, ?_, C.fr G1 (by omega), W.up (by omega), G1.mono (by omega) (by omega), fun h2 M => ?_⟩
        · rw [f_X9_folded, gNp (by omega)]
          exact gBs eh (gIT rfl (gBs ef (gIT rfl (gIT gp (gIF (by rw [R8, jl_0]; exact jne (by omega) (by omega) (by omega) (by omega) c8) (gBs e1 (gIT gp (gBs (k_half (Q1 p hp) (jI z2)) rfl))))))))
        · have M1 : mRow (h2.2 (m + 1)) n c S := M.2.1
          have e2 := et h2 M
          rw [if_pos hz, if_pos hw] at e2
          have e4 := m_isFolded M1 Wf hp
          rw [decide_eq_true (by omega)] at e4
          obtain ⟨h3, e3, Q3, F3⟩ := m_lay M1 Wf Wf (A := ⟨fun _ _ _ => rfl, fun l => by rw [if_neg (by omega)]⟩) (arm := -4) (st := 0) (by omega) (by omega) (x := -1) (by omega)
          refine ⟨h3, ?_, M.fr F3, F3.fr⟩
          rw [f_X10_folded, gNp (by omega)]
          refine gBs e2 (gIT rfl (gBs e4 (gIT rfl (gBs e3 ?_))))
          refine half_eq (jI z2) _ _ (gIT gp ?_) (gIT gp ?_)
          · rw [(Q3 p hp).1]
          · rw [(Q3 p hp).2]
    · rw [decide_eq_false hw] at ef
      refine ⟨-2, h, _, gBs eh (gIT rfl (gBs ef (gIF Bool.false_ne_true rfl))), C, W.up (by omega), gFr.rf, fun h2 M => ⟨h2, ?_, M, gFr.rf⟩⟩
      have e2 := et h2 M
      rw [if_pos hz, if_neg hw] at e2
      exact gBs e2 (gIF (by decide +kernel) (by rw [n2_64]))
  · rw [decide_eq_false hz] at eh
    refine ⟨-1, h, _, gBs eh (gIF Bool.false_ne_true rfl), C, W.up (by omega), gFr.rf, fun h2 M => ⟨h2, ?_, M, gFr.rf⟩⟩
    have e2 := et h2 M
    rw [if_neg hz] at e2
    exact gBs e2 (gIF (by decide +kernel) (by rw [n1_64]))
theorem q_voltage (b m t : Nat) (x1 x2 : Int32) : gOK b m t (f_X9_voltage b x1 x2) (f_X10_voltage m x1 x2) := by
  rintro ⟨tx, ⟨n, c, S⟩, H, X⟩ h C W
  have R : cSt h (b + 3) n c S := C.2.1
  have Wf : gWf t n c S := W.2.1
  have hn := Wf.n
  obtain ⟨z1, rfl, a1, a2⟩ := jI_ex x1
  obtain ⟨z2, rfl, b1, b2⟩ := jI_ex x2
  have eh := u_hasPart R.1 hn a1 a2
  have ef := u_isHalf h b1 b2
  have et : ∀ h2, mI m h2 (tx, (n, c, S), H, X) → _ := fun h2 M => m_telling (h := h2) M.2.1 hn a1 a2 b1 b2
  by_cases hz : 0 ≤ z1 ∧ z1 < n
  · rw [decide_eq_true hz] at eh
    by_cases hw : z2 = 0 ∨ z2 = 1
    · rw [decide_eq_true hw] at ef
      obtain ⟨p, rfl⟩ : ∃ p : Nat, z1 = p := ⟨z1.toNat, by omega⟩
      have hp : p < n := by omega
      obtain ⟨h1, e1, Q1, G1, U1⟩ := u_findVoltage (a := b + 113) (s := b + 3) R Wf (by omega) hp
      refine ⟨if jI z2 = 0 then lI (vV S (rR S (-1) n) p).1 else lI (vV S (rR S (-1) n) p).2, h1, _, ?_, C.fr G1 (by omega), W.up (by omega), G1.mono (by omega) (by omega), fun h2 M => ?_⟩
      · rw [f_X9_voltage]
        exact gBs eh (gIT rfl (gBs ef (gIT rfl (gBs e1 (gBs (k_half Q1 (jI z2)) rfl)))))
      · have M1 : mRow (h2.2 (m + 1)) n c S := M.2.1
        have e2 := et h2 M
        rw [if_pos hz, if_pos hw] at e2
        obtain ⟨h3, e3, q1, q2, F3⟩ := m_findVoltage M1 Wf (x := -1) (by omega) hp (by omega)
        refine ⟨h3, ?_, M.fr F3, F3.fr⟩
        rw [f_X10_voltage]
        refine gBs e2 (gIT rfl (gBs e3 ?_))
        exact half_eq (jI z2) _ _ (by rw [q1]) (by rw [q2])
    · rw [decide_eq_false hw] at ef
      refine ⟨-2, h, _, gBs eh (gIT rfl (gBs ef (gIF Bool.false_ne_true rfl))), C, W.up (by omega), gFr.rf, fun h2 M => ⟨h2, ?_, M, gFr.rf⟩⟩
      have e2 := et h2 M
      rw [if_pos hz, if_neg hw] at e2
      exact gBs e2 (gIF (by decide +kernel) (by rw [n2_64]))
  · rw [decide_eq_false hz] at eh
    refine ⟨-1, h, _, gBs eh (gIF Bool.false_ne_true rfl), C, W.up (by omega), gFr.rf, fun h2 M => ⟨h2, ?_, M, gFr.rf⟩⟩
    have e2 := et h2 M
    rw [if_neg hz] at e2
    exact gBs e2 (gIF (by decide +kernel) (by rw [n1_64]))
theorem q_reading (b m t : Nat) (x1 x2 : Int32) : gOK b m t (f_X9_reading b x1 x2) (f_X10_reading m x1 x2) := by
  rintro ⟨tx, ⟨n, c, S⟩, H, X⟩ h C W
  have R : cSt h (b + 3) n c S := C.2.1
  have Wf : gWf t n c S := W.2.1
  have hn := Wf.n
  obtain ⟨z1, rfl, a1, a2⟩ := jI_ex x1
  obtain ⟨z2, rfl, b1, b2⟩ := jI_ex x2
  have eh := u_hasPart R.1 hn a1 a2
  have ef := u_isHalf h b1 b2
  have et : ∀ h2, mI m h2 (tx, (n, c, S), H, X) → _ := fun h2 M => m_telling (h := h2) M.2.1 hn a1 a2 b1 b2
  by_cases hz : 0 ≤ z1 ∧ z1 < n
  · rw [decide_eq_true hz] at eh
    by_cases hw : z2 = 0 ∨ z2 = 1
    · rw [decide_eq_true hw] at ef
      obtain ⟨p, rfl⟩ : ∃ p : Nat, z1 = p := ⟨z1.toNat, by omega⟩
      have hp : p < n := by omega
      obtain ⟨h1, e1, Q1, G1, U1⟩ := u_findReading (a := b + 113) (s := b + 3) R Wf (by omega) hp
      refine ⟨if jI z2 = 0 then lI (vV S (rR S p n) p).1 else lI (vV S (rR S p n) p).2, h1, _, ?_, C.fr G1 (by omega), W.up (by omega), G1.mono (by omega) (by omega), fun h2 M => ?_⟩
      · rw [f_X9_reading]
        exact gBs eh (gIT rfl (gBs ef (gIT rfl (gBs e1 (gBs (k_half Q1 (jI z2)) rfl)))))
      · have M1 : mRow (h2.2 (m + 1)) n c S := M.2.1
        have e2 := et h2 M
        rw [if_pos hz, if_pos hw] at e2
        obtain ⟨h3, e3, q1, q2, F3⟩ := m_findVoltage M1 Wf (x := p) (by omega) hp (by omega)
        rw [r4_p (by omega)] at e3
        refine ⟨h3, ?_, M.fr F3, F3.fr⟩
        rw [f_X10_reading]
        refine gBs e2 (gIT rfl (gBs e3 ?_))
        exact half_eq (jI z2) _ _ (by rw [q1]) (by rw [q2])
    · rw [decide_eq_false hw] at ef
      refine ⟨-2, h, _, gBs eh (gIT rfl (gBs ef (gIF Bool.false_ne_true rfl))), C, W.up (by omega), gFr.rf, fun h2 M => ⟨h2, ?_, M, gFr.rf⟩⟩
      have e2 := et h2 M
      rw [if_pos hz, if_neg hw] at e2
      exact gBs e2 (gIF (by decide +kernel) (by rw [n2_64]))
  · rw [decide_eq_false hz] at eh
    refine ⟨-1, h, _, gBs eh (gIF Bool.false_ne_true rfl), C, W.up (by omega), gFr.rf, fun h2 M => ⟨h2, ?_, M, gFr.rf⟩⟩
    have e2 := et h2 M
    rw [if_neg hz] at e2
    exact gBs e2 (gIF (by decide +kernel) (by rw [n1_64]))
theorem q_loss (b m t : Nat) (x1 : Int32) : gOK b m t (f_X9_loss b x1) (f_X10_loss m x1) := by
  rintro ⟨tx, ⟨n, c, S⟩, H, X⟩ h C W
  have R : cSt h (b + 3) n c S := C.2.1
  have Wf : gWf t n c S := W.2.1
  have hn := Wf.n
  obtain ⟨z1, rfl, a1, a2⟩ := jI_ex x1
  have eh := u_hasPart R.1 hn a1 a2
  by_cases hz : 0 ≤ z1 ∧ z1 < n
  · rw [decide_eq_true hz] at eh
    obtain ⟨p, rfl⟩ : ∃ p : Nat, z1 = p := ⟨z1.toNat, by omega⟩
    have hp : p < n := by omega
    obtain ⟨h1, e1, G1⟩ := u_findLoss (a := b + 113) (s := b + 3) R Wf (by omega) hp
    refine ⟨jI (gLo S n p), h1, _, gBs eh (gIT rfl (gBs e1 rfl)), C.fr G1 (by omega), W.up (by omega), G1.mono (by omega) (by omega), fun h2 M => ?_⟩
    have M1 : mRow (h2.2 (m + 1)) n c S := M.2.1
    have e2 := m_noPartT M1 hn hp
    obtain ⟨h3, e3, F3⟩ := m_lossOf M1 Wf hp
    exact ⟨h3, gBs e2 (gIF Bool.false_ne_true (gBs e3 rfl)), M.fr F3, F3.fr⟩
  · rw [decide_eq_false hz] at eh
    refine ⟨-1, h, _, gBs eh (gIF Bool.false_ne_true rfl), C, W.up (by omega), gFr.rf, fun h2 M => ⟨h2, ?_, M, gFr.rf⟩⟩
    have e2 := m_noPart (h := h2) M.2.1 hn a1 a2
    rw [decide_eq_false hz] at e2
    exact gBs e2 (gIT rfl rfl)
