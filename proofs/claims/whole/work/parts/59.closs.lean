/-! the class's voltage, reading and loss -/
theorem u_findVoltage {h : gHp} {a s t n c : Nat} {S : gTb} (R : cSt h s n c S) (W : gWf t n c S) (hd : s + 13 ≤ a) {p : Nat} (hp : p < n) : ∃ h', f_X0_findVoltage a s (jI p) h = some (a + 7 + 2 * p, h') ∧ hQ h' (a + 7 + 2 * p) (vV S (rR S (-1) n) p) ∧ gFr (a + 3) 25 h h' ∧ h'.2 (a + 5) = h.2 (a + 5) := by
  have hn := W.n
  obtain ⟨h1, e1, Q1, G1, U1⟩ := u_findOhms R W hd (x := -1) (by omega)
  obtain ⟨h2, e2, Q2, G2, U2⟩ := u_findVolts (R.mv (G1.sa (lo' := s) (n' := 13) (by omega))) W hd Q1 hp (by omega)
  refine ⟨h2, ?_, Q2, G1.tr G2, U2.trans U1⟩
  simp (disch := omega) only [jl_0, jl_1, jl_2, jl_3, jl_4, jl_5, jl_6, jl_10, jl_11, jl_20, jl_26, jl_31, jl_32, jl_40, jl_41, jl_42, jl_43, jl_47, jl_48, jl_57, jl_81, jl_97, jl_99, jl_100, jl_102, jl_103, jl_124, jl_141, jl_564, jl_705, jl_999, jl_1000, jl_9999, jI_neg, cs1, jI_add, jI_sub, jI_mul, jI_neg, jI_lt, jI_le, jI_eq, gIf, gIe, gN_jI, tn_0, tn_1, tn_2, tn_3, tn_4, Int.toNat_natCast, Int.cast_ofNat_Int, if_pos, if_neg, Option.bind_some, eq_self, Bool.false_eq_true, reduceIte, f_X0_findVoltage, e1, e2]
theorem u_findReading {h : gHp} {a s t n c : Nat} {S : gTb} (R : cSt h s n c S) (W : gWf t n c S) (hd : s + 13 ≤ a) {p : Nat} (hp : p < n) : ∃ h', f_X0_findReading a s (jI p) h = some (a + 7 + 2 * p, h') ∧ hQ h' (a + 7 + 2 * p) (vV S (rR S p n) p) ∧ gFr (a + 3) 25 h h' ∧ h'.2 (a + 5) = h.2 (a + 5) := by
  have hn := W.n
  obtain ⟨h1, e1, Q1, G1, U1⟩ := u_findOhms R W hd (x := p) (by omega)
  obtain ⟨h2, e2, Q2, G2, U2⟩ := u_findVolts (R.mv (G1.sa (lo' := s) (n' := 13) (by omega))) W hd Q1 hp (by omega)
  refine ⟨h2, ?_, Q2, G1.tr G2, U2.trans U1⟩
  simp (disch := omega) only [jl_0, jl_1, jl_2, jl_3, jl_4, jl_5, jl_6, jl_10, jl_11, jl_20, jl_26, jl_31, jl_32, jl_40, jl_41, jl_42, jl_43, jl_47, jl_48, jl_57, jl_81, jl_97, jl_99, jl_100, jl_102, jl_103, jl_124, jl_141, jl_564, jl_705, jl_999, jl_1000, jl_9999, jI_neg, cs1, jI_add, jI_sub, jI_mul, jI_neg, jI_lt, jI_le, jI_eq, gIf, gIe, gN_jI, tn_0, tn_1, tn_2, tn_3, tn_4, Int.toNat_natCast, Int.cast_ofNat_Int, if_pos, if_neg, Option.bind_some, eq_self, Bool.false_eq_true, reduceIte, f_X0_findReading, e1, e2]
theorem l_xor (a b : Nat) : lI a ^^^ lI b = lI ((a ^^^ b : Nat) : Int) := by
  have e : ∀ n : Nat, lI n = Int64.ofNat n := fun n => Int64.ofInt_eq_ofNat
  rw [e, e, e]
  exact Int64.toBitVec.inj (by simp)
theorem k_floorDiv {a b : Nat} (h : gHp) (ha : a < 9223372036854775808) (hb : b < 9223372036854775808) (h0 : 0 < b) : f_J9_floorDiv_f86c9 (lI a) (lI b) h = some (lI ((a / b : Nat) : Int)) := by
  have hx : a ^^^ b < 2 ^ 63 := Nat.xor_lt_two_pow (by omega) (by omega)
  have h63 := p63
  rw [f_J9_floorDiv_f86c9, if_neg (fun e => by rw [lI_z hb] at e; omega), l_xor, l0, if_pos (by rw [lI_le (by omega) (by omega) (by omega) (by omega)]; omega), lI_divN ha hb]
/-- the loss in thousandths -/
def gLo (S : gTb) (n p : Nat) : Nat := if (vV S (rR S (-1) n) p).1 = 0 then 0 else 1000 * ((nMul (vV S (rR S p n) p) (iInv (vV S (rR S (-1) n) p))).2 - (nMul (vV S (rR S p n) p) (iInv (vV S (rR S (-1) n) p))).1) / (nMul (vV S (rR S p n) p) (iInv (vV S (rR S (-1) n) p))).2
theorem gLo_z {S : gTb} {n p : Nat} (h : (vV S (rR S (-1) n) p).1 = 0) : gLo S n p = 0 := by
  unfold gLo
  rw [if_pos h]
theorem gLo_n {S : gTb} {n p : Nat} (h : ¬ (vV S (rR S (-1) n) p).1 = 0) {r : gQ} (hr : nMul (vV S (rR S p n) p) (iInv (vV S (rR S (-1) n) p)) = r) : gLo S n p = 1000 * (r.2 - r.1) / r.2 := by
  unfold gLo
  rw [if_neg h, hr]
theorem l1000 : (1000 : Int64) = lI 1000 := rfl
theorem k_loss {r : gQ} (h : gHp) (g2 : 0 < r.2) (g3 : r.1 ≤ r.2) (g4 : r.2 ≤ 1000000000000000) : f_J9_floorDiv_f86c9 (1000 * (lI r.2 - lI r.1)) (lI r.2) h = some (lI ((1000 * (r.2 - r.1) / r.2 : Nat) : Int)) := by
  have k2 : (1000 : Int64) * (lI r.2 - lI r.1) = lI ((1000 * (r.2 - r.1) : Nat) : Int) := by
    rw [l1000, lI_sub, lI_mul]
    congr 1
    omega
  rw [k2]
  exact k_floorDiv h (by omega) (by omega) g2
theorem k_one_le {a : Nat} (h1 : 0 < a) (h2 : a < 9223372036854775808) : ((1 : Int64) ≤ lI a) = True := by
  rw [l1, lI_le (by omega) (by omega) (by omega) (by omega)]
  exact eq_true (by omega)
theorem gLo_le {t n c : Nat} {S : gTb} (W : gWf t n c S) {p : Nat} (hp : p < n) : gLo S n p ≤ 1000 := by
  unfold gLo
  split
  · omega
  · rename_i h0
    have h := loss_9 W hp h0
    refine Nat.div_le_of_le_mul ?_
    generalize nMul (vV S (rR S p n) p) (iInv (vV S (rR S (-1) n) p)) = r at h
    omega
theorem u_findLoss0 {h : gHp} {a s t n c : Nat} {S : gTb} (R : cSt h s n c S) (W : gWf t n c S) (hd : s + 13 ≤ a) {p : Nat} (hp : p < n) (c0 : (vV S (rR S (-1) n) p).1 = 0) : ∃ h', f_X0_findLoss a s (jI p) h = some (jI 0, h') ∧ gFr (a + 3) 25 h h' := by
  have hn := W.n
  obtain ⟨h1, e1, Q1, G1, U1⟩ := u_findOhms R W hd (x := -1) (by omega)
  obtain ⟨h2, e2, Q2, G2, U2⟩ := u_findVolts (R.mv (G1.sa (lo' := s) (n' := 13) (by omega))) W hd Q1 hp (by omega)
  have e3 := k_copy (x := a + 5) Q2
  have z := vV_9 W (x := -1) hp (by omega)
  have G3 : gFr (a + 3) 25 h (nPut h2 (a + 5) (vV S (rR S (-1) n) p)) := (G1.tr G2).P (by omega) (by omega)
  have e4 : f_X2_isZero (a + 5) (nPut h2 (a + 5) (vV S (rR S (-1) n) p)) = some true := by
    rw [k_isZero (nPut_Q h2 (a + 5) (vV S (rR S (-1) n) p)) (by omega), decide_eq_true c0]
  clear W R z G1 G2 Q1
  refine ⟨nPut h2 (a + 5) (vV S (rR S (-1) n) p), ?_, G3⟩
  generalize nPut h2 (a + 5) (vV S (rR S (-1) n) p) = h3 at *
  rw [f_X0_findLoss, show (-1 : Int32) = jI (-1) from rfl, e1, Option.bind_some, e2, Option.bind_some, gIf (by omega) (by omega) (by omega), gN_jI (by omega) (by omega), Int.toNat_natCast, e3, Option.bind_some, e4, Option.bind_some, if_pos rfl, jl_0]
theorem findLoss_eq {h h1 h2 h3 h5 h6 h7 h8 h9 : gHp} {a s p : Nat} {r : gQ} (hp : p < 11) (g2 : 0 < r.2) (g3 : r.1 ≤ r.2) (g4 : r.2 ≤ 1000000000000000) (e1 : f_X0_findOhms a s (jI (-1)) h = some h1) (e2 : f_X0_findVolts a s (jI p) h1 = some h2) (e3 : f_X2_copy (a + 5) (a + 7 + 2 * p) h2 = some h3) (e4 : f_X2_isZero (a + 5) h3 = some false) (e5 : f_X0_findOhms a s (jI p) h3 = some h5) (e6 : f_X0_findVolts a s (jI p) h5 = some h6) (e7 : f_X2_copy (a + 4) (a + 7 + 2 * p) h6 = some h7) (e8 : f_X2_invert (a + 5) h7 = some h8) (e9 : f_X2_multiply (a + 4) (a + 5) h8 = some h9) (q0 : h9.2 (a + 4) 0 = lI r.1) (q1 : h9.2 (a + 4) 1 = lI r.2) : f_X0_findLoss a s (jI p) h = some ((lI ((1000 * (r.2 - r.1) / r.2 : Nat) : Int)).toInt32, h9) := by
  have k1 := k_one_le g2 (a := r.2) (by omega)
  have k3 := k_loss h9 g2 g3 g4
  rw [f_X0_findLoss, show (-1 : Int32) = jI (-1) from rfl, e1, Option.bind_some, e2, Option.bind_some, gIf (by omega) (by omega) (by omega), gN_jI (by omega) (by omega), Int.toNat_natCast, e3, Option.bind_some, e4, Option.bind_some, if_neg Bool.false_ne_true, e5, Option.bind_some, e6, Option.bind_some, gIf (by omega) (by omega) (by omega), e7, Option.bind_some, e8, Option.bind_some, e9, Option.bind_some, q0, q1, if_pos (of_eq_true k1), k3, Option.bind_some]
theorem u_findLoss {h : gHp} {a s t n c : Nat} {S : gTb} (R : cSt h s n c S) (W : gWf t n c S) (hd : s + 13 ≤ a) {p : Nat} (hp : p < n) : ∃ h', f_X0_findLoss a s (jI p) h = some (jI (gLo S n p), h') ∧ gFr (a + 3) 25 h h' := by
  have hn := W.n
  obtain ⟨h1, e1, Q1, G1, U1⟩ := u_findOhms R W hd (x := -1) (by omega)
  obtain ⟨h2, e2, Q2, G2, U2⟩ := u_findVolts (R.mv (G1.sa (lo' := s) (n' := 13) (by omega))) W hd Q1 hp (by omega)
  have e3 := k_copy (x := a + 5) Q2
  have z := vV_9 W (x := -1) hp (by omega)
  have e4 := k_isZero (nPut_Q h2 (a + 5) (vV S (rR S (-1) n) p)) (by omega)
  have G3 : gFr (a + 3) 25 h (nPut h2 (a + 5) (vV S (rR S (-1) n) p)) := (G1.tr G2).P (by omega) (by omega)
  by_cases c0 : (vV S (rR S (-1) n) p).1 = 0
  · rw [gLo_z c0]
    exact u_findLoss0 R W hd hp c0
  · rw [decide_eq_false c0] at e4
    obtain ⟨h5, e5, Q5, G5, U5⟩ := u_findOhms (R.mv (G3.sa (lo' := s) (n' := 13) (by omega))) W hd (x := p) (by omega)
    have G5' := G3.tr G5
    obtain ⟨h6, e6, Q6, G6, U6⟩ := u_findVolts (R.mv (G5'.sa (lo' := s) (n' := 13) (by omega))) W hd Q5 hp (by omega)
    have e7 := k_copy (x := a + 4) Q6
    have Qu : hQ h6 (a + 5) (vV S (rR S (-1) n) p) := (nPut_Q h2 (a + 5) _).mv (U6.trans U5)
    have e8 := k_invert (nPut_ne (x := a + 4) (q := vV S (rR S p n) p) (by omega) Qu)
    have z' := vV_9 W (x := p) hp (by omega)
    have e9 := k_mul (x := a + 4) (nPut_ne (x := a + 5) (q := iInv (vV S (rR S (-1) n) p)) (by omega) (nPut_Q h6 (a + 4) (vV S (rR S p n) p))) (nPut_Q _ (a + 5) _) (by omega) (by omega) (by show (vV S (rR S (-1) n) p).2 < _; omega) (by show (vV S (rR S (-1) n) p).1 < _; omega) z'.2.1 (by show 0 < (vV S (rR S (-1) n) p).1; omega)
    obtain ⟨g1, g2, g3, g4⟩ := loss_9 W hp c0
    have el := gLo_n c0 rfl
    have hle := gLo_le W hp
    have Qf := nPut_Q (nPut (nPut h6 (a + 4) (vV S (rR S p n) p)) (a + 5) (iInv (vV S (rR S (-1) n) p))) (a + 4) (nMul (vV S (rR S p n) p) (iInv (vV S (rR S (-1) n) p)))
    have key := findLoss_eq (a := a) (s := s) (by omega) g2 g3 g4 e1 e2 e3 e4 e5 e6 e7 e8 e9 Qf.1 Qf.2
    rw [← el, lI_to32 (by omega) (by omega)] at key
    exact ⟨_, key, (((G5'.tr G6).P (by omega) (by omega)).P (by omega) (by omega)).P (by omega) (by omega)⟩
