/-! the reference lays all resistances -/
theorem gBs {α β : Type} {o : Option α} {f : α → Option β} {v : α} {r : Option β} (h : o = some v) (k : f v = r) : o.bind f = r := by
  rw [h]; exact k
theorem gIT {α : Type} {c : Prop} {_ : Decidable c} {a b r : α} (h : c) (k : a = r) : (if c then a else b) = r := by rw [if_pos h]; exact k
theorem gIF {α : Type} {c : Prop} {_ : Decidable c} {a b r : α} (h : ¬ c) (k : b = r) : (if c then a else b) = r := by rw [if_neg h]; exact k
theorem jle {a b : Int} (h1 : -2147483648 ≤ a) (h2 : a < 2147483648) (h3 : -2147483648 ≤ b) (h4 : b < 2147483648) (h : a ≤ b) : jI a ≤ jI b := by rw [jI_le h1 h2 h3 h4]; exact h
theorem jnle {a b : Int} (h1 : -2147483648 ≤ a) (h2 : a < 2147483648) (h3 : -2147483648 ≤ b) (h4 : b < 2147483648) (h : b < a) : ¬ jI a ≤ jI b := by rw [jI_le h1 h2 h3 h4]; omega
theorem jlt {a b : Int} (h1 : -2147483648 ≤ a) (h2 : a < 2147483648) (h3 : -2147483648 ≤ b) (h4 : b < 2147483648) (h : a < b) : jI a < jI b := by rw [jI_lt h1 h2 h3 h4]; exact h
theorem jnlt {a b : Int} (h1 : -2147483648 ≤ a) (h2 : a < 2147483648) (h3 : -2147483648 ≤ b) (h4 : b < 2147483648) (h : b ≤ a) : ¬ jI a < jI b := by rw [jI_lt h1 h2 h3 h4]; omega
theorem jne {a b : Int} (h1 : -2147483648 ≤ a) (h2 : a < 2147483648) (h3 : -2147483648 ≤ b) (h4 : b < 2147483648) (h : a ≠ b) : ¬ jI a = jI b := by rw [jI_eq h1 h2 h3 h4]; exact h
theorem jin {z : Int} {n : Nat} (h0 : 0 ≤ z) (h1 : z < n) (h2 : z < 2147483648) : gIn (jI z) n := (gIn_jI n (by omega) h2).mpr ⟨h0, h1⟩
theorem gNp {i : Nat} (h : (i : Int) < 2147483648) : gN (jI i) = i := by rw [gN_jI (by omega) h, Int.toNat_natCast]
theorem mFr.of {m : Nat} {h h1 h2 : gHp} (s : mFr m h h1) (a : ∀ y, y ≠ m → h2.1 y = h1.1 y ∧ h2.2 y = h1.2 y) (b : ∀ k, k ≠ 23 → h2.1 m k = h1.1 m k) : mFr m h h2 := s.tr ⟨fun x q1 _ _ _ _ => a x q1, b⟩
theorem m_letsOf0 (h : gHp) (m : Nat) : f_X10_letsOf m (jI 0) (jI (-4)) h = some (gsI (gsL (gsL h m 21 0) m 22 1) m 23 0) := by
  have e : ∀ (k : Nat) (s : gHp), f_X10_letsOf_17 m (jI 0) (jI (-4)) (k + 1) (jI 0) s = some s := fun k s => by
    simp (disch := omega) only [jl_0, jl_1, jl_2, jl_3, jl_4, jl_5, jl_6, jl_10, jl_11, jl_20, jl_26, jl_31, jl_32, jl_40, jl_41, jl_42, jl_43, jl_47, jl_48, jl_57, jl_81, jl_97, jl_99, jl_100, jl_102, jl_103, jl_124, jl_141, jl_564, jl_705, jl_999, jl_1000, jl_9999, jI_neg, cs1, jI_add, jI_sub, jI_mul, jI_neg, jI_lt, jI_le, jI_eq, gIf, gIe, gN_jI, tn_0, tn_1, tn_2, tn_3, tn_4, Int.toNat_natCast, Int.cast_ofNat_Int, if_pos, if_neg, Option.bind_some, eq_self, Bool.false_eq_true, reduceIte, f_X10_letsOf_17]
  have e' : ∀ s : gHp, f_X10_letsOf_17 m (jI 0) (jI (-4)) gFuel 0 s = some s := fun s => e 4095 s
  rw [f_X10_letsOf, e']
  rfl
theorem m_meter {h : gHp} {m p : Nat} {S : gTb} {r : gQ} (hp : p < 11) (hm : 1 ≤ S 0 2 ∧ S 0 2 ≤ 999) (Hm : h.2 (m + 1) 2 = lI (S 0 2)) (Q : mQ h m p r) (gr : nG r) (br : r.1 + r.2 ≤ 1000000000000000) : ∃ h' h1 h2 h3, f_X10_letsOf m (jI 0) (jI (-4)) h = some h1 ∧ f_X10_lets m (h.2 (m + 9) p) (h.2 (m + 10) p) h1 = some h2 ∧ f_X10_lets m (h2.2 (m + 1) 2) 1 h2 = some h3 ∧ f_X10_takeLets m (jI p) h3 = some h' ∧ mQ h' m p (bMet S r) ∧ (∀ k q, k ≠ p → mQ h m k q → mQ h' m k q) ∧ mFr m h h' := by
  have hm2 : (((S 0 2).toNat : Nat) : Int) = S 0 2 := by omega
  have L0 : mL (gsI (gsL (gsL h m 21 0) m 22 1) m 23 0) m (0, 1) false := ⟨by rw [rI_2, rL_k (by decide), rL_e]; rfl, by rw [rI_2, rL_e]; rfl, by rw [rI_e]; rfl⟩
  have F0 : mFr m h (gsI (gsL (gsL h m 21 0) m 22 1) m 23 0) := ((mFr.rf.L).L).I
  have K0 : ∀ y, y ≠ m → (gsI (gsL (gsL h m 21 0) m 22 1) m 23 0).2 y = h.2 y := fun y hy => by rw [rI_2, rL_n hy, rL_n hy]
  have e0 := m_letsOf0 h m
  generalize gsI (gsL (gsL h m 21 0) m 22 1) m 23 0 = h1 at L0 F0 K0 e0
  obtain ⟨h2, e2, L2, A2, B2, C2⟩ := m_lets (r := r) L0 (nG_one' 0) Nat.zero_lt_one gr (by decide) (by omega) (by omega) (fun _ => by
    show (0 + 1) * (r.1 + r.2) < _
    omega)
  have F2 := F0.of A2 B2
  have gL : nG (if r.1 = 0 then ((0, 1) : gQ) else iAdd (0, 1) (iInv r)) := by
    split
    · exact nG_one' 0
    · exact iAdd_G
  have eL : (if r.1 = 0 then ((0, 1) : gQ) else iAdd (0, 1) (iInv r)) = if r.1 = 0 then (0, 1) else iInv r := by
    rw [iAdd_zero (iInv_G gr)]
  rw [eL] at L2 gL
  have pL : 0 < (if r.1 = 0 then ((0, 1) : gQ) else iInv r).2 := by
    split
    · exact Nat.zero_lt_one
    · show 0 < r.1
      omega
  have sL : (if r.1 = 0 then ((0, 1) : gQ) else iInv r).1 + (if r.1 = 0 then ((0, 1) : gQ) else iInv r).2 ≤ 1000000000000000 := by
    split
    · decide
    · show r.2 + r.1 ≤ _
      omega
  obtain ⟨h3, e3, L3, A3, B3, C3⟩ := m_lets (r := ((S 0 2).toNat, 1)) L2 gL pL (nG_one' _) (by omega) (by show (S 0 2).toNat < _; omega) (by show 1 < _; omega) (fun _ => by
    have h5 : ((if r.1 = 0 then ((0, 1) : gQ) else iInv r).1 + (if r.1 = 0 then ((0, 1) : gQ) else iInv r).2) * ((S 0 2).toNat + 1) ≤ 1000000000000000 * 1000 := Nat.mul_le_mul sL (by omega)
    show _ * ((S 0 2).toNat + 1) < _
    omega)
  have F3 := F2.of A3 B3
  have hne : ¬ (S 0 2).toNat = 0 := by omega
  rw [if_neg (show ¬ (((S 0 2).toNat, 1) : gQ).1 = 0 from hne), show decide ((((S 0 2).toNat, 1) : gQ).1 = 0) = false from decide_eq_false hne, Bool.or_false] at L3
  have bL3 : (iAdd (if r.1 = 0 then ((0, 1) : gQ) else iInv r) (iInv ((S 0 2).toNat, 1))).1 < 9223372036854775808 := by
    have h6 := (nV_le (iAdd_V (x := if r.1 = 0 then ((0, 1) : gQ) else iInv r) (y := iInv ((S 0 2).toNat, 1)) pL (by show 0 < (S 0 2).toNat; omega))).1
    have h7 : (if r.1 = 0 then ((0, 1) : gQ) else iInv r).1 * (S 0 2).toNat ≤ 1000000000000000 * 999 := Nat.mul_le_mul (by omega) (by omega)
    have h8 : (if r.1 = 0 then ((0, 1) : gQ) else iInv r).1 * (iInv ((S 0 2).toNat, 1)).2 + (iInv ((S 0 2).toNat, 1)).1 * (if r.1 = 0 then ((0, 1) : gQ) else iInv r).2 = (if r.1 = 0 then ((0, 1) : gQ) else iInv r).1 * (S 0 2).toNat + 1 * (if r.1 = 0 then ((0, 1) : gQ) else iInv r).2 := rfl
    omega
  have e4 := m_takeLets hp L3 iAdd_G bL3
  have eB : (if (false || decide (r.1 = 0)) = true then ((0, 1) : gQ) else iInv (iAdd (if r.1 = 0 then ((0, 1) : gQ) else iInv r) (iInv ((S 0 2).toNat, 1)))) = bMet S r := by
    unfold bMet
    by_cases c : r.1 = 0
    · rw [decide_eq_true c, Bool.false_or, if_pos rfl, iAdd_inf (Or.inl c)]
      rfl
    · rw [decide_eq_false c, Bool.false_or, if_neg Bool.false_ne_true, if_neg c]
      rfl
  rw [eB] at e4
  refine ⟨_, h1, h2, h3, e0, ?_, ?_, e4, tPut_Q _ _ _ _, fun k q hk hq => tPut_k hk (hq.mv ?_ ?_), F3.T⟩
  · rw [Q.1, Q.2]; exact e2
  · rw [(A2 _ (by omega)).2, K0 _ (by omega), Hm, ← hm2]; exact e3
  · rw [(A3 _ (by omega)).2, (A2 _ (by omega)).2, K0 _ (by omega)]
  · rw [(A3 _ (by omega)).2, (A2 _ (by omega)).2, K0 _ (by omega)]
/-- one part -/
theorem m_layStep_eq {s1 s2 s3 h1 h2 h3 : gHp} {m n i k : Nat} {met arm st kd : Int} (hi : i < n) (hn : n ≤ 11) (hmet : -4 ≤ met ∧ met < 11) (e0 : f_X10_parts m s1 = some (jI n)) (e1 : f_X10_ofPart m (jI i) (jI 0) s1 = some (jI kd)) (hk : 0 ≤ kd ∧ kd ≤ 2) (e2 : (if kd = 0 then f_X10_layArm m (jI i) (jI arm) (jI st) s1 else if kd = 1 then f_X10_laySeries m (jI i) s1 else (f_X10_letsOf m (jI i) (jI (-4)) s1).bind fun v22 => f_X10_takeLets m (jI i) v22) = some s2) (e3 : (i : Int) = met → f_X10_letsOf m (jI 0) (jI (-4)) s2 = some h1 ∧ f_X10_lets m (s2.2 (m + 9) i) (s2.2 (m + 10) i) h1 = some h2 ∧ f_X10_lets m (h2.2 (m + 1) 2) 1 h2 = some h3 ∧ f_X10_takeLets m (jI i) h3 = some s3) (e4 : (i : Int) ≠ met → s3 = s2) : f_X10_lay_3 m (jI met) (jI arm) (jI st) (k + 1) (jI i) s1 = f_X10_lay_3 m (jI met) (jI arm) (jI st) k (jI (i + 1 : Nat)) s3 := by
  have A : (if jI kd = jI 0 then (f_X10_layArm m (jI i) (jI arm) (jI st) s1).bind fun v28 => some v28 else (f_X10_ofPart m (jI i) (jI 0) s1).bind fun v20 => if v20 = jI 1 then (f_X10_laySeries m (jI i) s1).bind fun v26 => some v26 else (f_X10_letsOf m (jI i) (jI (-4)) s1).bind fun v22 => (f_X10_takeLets m (jI i) v22).bind fun v24 => some v24 : Option gHp) = some s2 := by
    rw [e1, Option.bind_some]
    by_cases c0 : kd = 0
    · rw [if_pos c0] at e2
      rw [if_pos (by rw [c0]), e2]
      rfl
    · rw [if_neg c0] at e2
      rw [if_neg (by rw [jI_eq (by omega) (by omega) (by omega) (by omega)]; exact c0)]
      by_cases c1 : kd = 1
      · rw [if_pos c1] at e2
        rw [if_pos (by rw [c1]), e2]
        rfl
      · rw [if_neg c1] at e2
        rw [if_neg (by rw [jI_eq (by omega) (by omega) (by omega) (by omega)]; exact c1)]
        cases hL : f_X10_letsOf m (jI i) (jI (-4)) s1 with
        | none => rw [hL] at e2; cases e2
        | some v =>
          rw [hL] at e2
          rw [Option.bind_some] at e2 ⊢
          rw [e2]
          rfl
  have ei : jI (i : Int) + 1 = jI ((i + 1 : Nat) : Int) := by rw [jl_1, jI_add]; rfl
  have m4 : (-4 : Int32) = jI (-4) := rfl
  rw [f_X10_lay_3, ei]
  refine gBs e0 ?_
  refine gIF (jnle (by omega) (by omega) (by omega) (by omega) (by omega)) ?_
  rw [← jl_0] at e1 A
  rw [← jl_1, ← m4] at A
  refine gBs e1 ?_
  refine gBs A ?_
  by_cases c : (i : Int) = met
  · obtain ⟨q1, q2, q3, q4⟩ := e3 c
    rw [← jl_0, ← m4] at q1
    refine gIT (by rw [c]) ?_
    refine gIT (jin (by omega) (by omega) (by omega)) ?_
    refine gIT (jin (by omega) (by omega) (by omega)) ?_
    refine gBs q1 ?_
    rw [gNp (by omega)]
    refine gBs q2 ?_
    refine gIT (jin (z := 2) (by omega) (by omega) (by omega)) ?_
    refine gBs q3 ?_
    refine gBs q4 ?_
    rfl
  · rw [e4 c]
    refine gIF (jne (by omega) (by omega) (by omega) (by omega) c) ?_
    rfl
theorem m_lay {h : gHp} {m t n c : Nat} {S : gTb} (R : mRow (h.2 (m + 1)) n c S) (W : gWf t n c S) {S' : gTb} (W' : gWf t n c S') {arm st : Int} (A : gAs S S' arm st) (ha : -4 ≤ arm ∧ arm < 6) (hst : 0 ≤ st ∧ st ≤ 2) {x : Int} (hx : -1 ≤ x ∧ x < 11) : ∃ h', f_X10_lay m (jI (r4 x)) (jI arm) (jI st) h = some h' ∧ (∀ p, p < n → mQ h' m p (rR S' x n p)) ∧ mFr m h h' := by
  have hn := W.n
  have hm : 1 ≤ S 0 2 ∧ S 0 2 ≤ 999 := by have := W.1; omega
  have hmet : -4 ≤ r4 x ∧ r4 x < 11 := by unfold r4; split <;> omega
  have hx4 : ∀ i : Nat, (i : Int) = r4 x ↔ (i : Int) = x := fun i => by unfold r4; split <;> omega
  obtain ⟨o, eo, H1, H2⟩ := gUp (fun k i s1 => f_X10_lay_3 m (jI (r4 x)) (jI arm) (jI st) k (jI i) s1) n (fun i s1 => (∀ q, q < i → mQ s1 m q (rR S' x n q)) ∧ mFr m h s1) (fun h' => (∀ p, p < n → mQ h' m p (rR S' x n p)) ∧ mFr m h h') (by
    intro k s1 hI
    have Rs : mRow (s1.2 (m + 1)) n c S := by rw [hI.2.row]; exact R
    have e0 := m_parts Rs hn
    refine ⟨s1, ?_, hI⟩
    try dsimp only
    simp (disch := omega) only [jl_0, jl_1, jl_2, jl_3, jl_4, jl_5, jl_6, jl_10, jl_11, jl_20, jl_26, jl_31, jl_32, jl_40, jl_41, jl_42, jl_43, jl_47, jl_48, jl_57, jl_81, jl_97, jl_99, jl_100, jl_102, jl_103, jl_124, jl_141, jl_564, jl_705, jl_999, jl_1000, jl_9999, jI_neg, cs1, jI_add, jI_sub, jI_mul, jI_neg, jI_lt, jI_le, jI_eq, gIf, gIe, gN_jI, tn_0, tn_1, tn_2, tn_3, tn_4, Int.toNat_natCast, Int.cast_ofNat_Int, if_pos, if_neg, Option.bind_some, eq_self, Bool.false_eq_true, reduceIte, f_X10_lay_3, e0]) (by
    intro k i s1 hi hI
    obtain ⟨Q, F⟩ := hI
    left
    try dsimp only
    have Rs : mRow (s1.2 (m + 1)) n c S := by rw [F.row]; exact R
    have e0 := m_parts Rs hn
    have e1 := m_kind Rs W hi
    have kd := W.kd hi
    have B : ∃ s2, (if S 4 i = 0 then f_X10_layArm m (jI i) (jI arm) (jI st) s1 else if S 4 i = 1 then f_X10_laySeries m (jI i) s1 else (f_X10_letsOf m (jI i) (jI (-4)) s1).bind fun v22 => f_X10_takeLets m (jI i) v22) = some s2 ∧ (∀ q, q < i → mQ s2 m q (rR S' x n q)) ∧ mQ s2 m i (bRaw S' (rR S' x n) i) ∧ mFr m h s2 := by
      by_cases c0 : S 4 i = 0
      · rw [if_pos c0, m_layArm Rs W A ha hst hi c0]
        refine ⟨_, rfl, fun q hq => tPut_k (by omega) (Q q hq), ?_, F.T⟩
        unfold bRaw
        rw [A.1 4 i (by decide), if_pos c0]
        exact tPut_Q _ _ _ _
      · rw [if_neg c0]
        by_cases c1 : S 4 i = 1
        · rw [if_pos c1]
          obtain ⟨h', e, H1, H2⟩ := m_laySeries Rs W W' A.1 hi c1 Q
          rw [e]
          refine ⟨_, rfl, fun q hq => tPut_k (by omega) ((Q q hq).mv (H2 _ (by omega)) (H2 _ (by omega))), ?_, (F.of (fun y hy => ⟨by rw [H1], H2 y hy⟩) (fun k _ => by rw [H1])).T⟩
          unfold bRaw
          rw [A.1 4 i (by decide), if_neg c0, if_pos c1]
          exact tPut_Q _ _ _ _
        · rw [if_neg c1]
          obtain ⟨h', e, HL, H2, H3⟩ := m_letsOf Rs W W' A.1 hi c0 Q (but := -4) (by omega)
          have gL : nG (gLs (rR S' x n) (fun q => gSon S' i q && !decide ((q : Int) = -4)) i) := gSum_G i
          have eP : gSum (fun q => iInv (rR S' x n q)) (fun q => gSon S' i q && !decide ((q : Int) = -4)) i = gSum (fun q => iInv (rR S' x n q)) (gSon S' i) i := gSum_congr fun q hq => ⟨by rw [decide_eq_false (by omega)]; simp, fun _ => rfl⟩
          have eS := gZr_sum (R := rR S' x n) (P := fun q => gSon S' i q && !decide ((q : Int) = -4)) i
          rw [eP] at eS
          have bL : (gLs (rR S' x n) (fun q => gSon S' i q && !decide ((q : Int) = -4)) i).1 < 9223372036854775808 := by
            have hw : ∀ q, q < i → gSon S' i q = true → 1 ≤ rW S' 100 1000 x n q := fun q hq _ => rW_pos (by omega) (by omega) n q (by omega) (by omega)
            have hP : ∀ q, q < i → ((gSon S' i q && !decide ((q : Int) = -4)) && !decide ((rR S' x n q).1 = 0)) = true → gSon S' i q = true := fun q hq hc => by
              simp only [Bool.and_eq_true] at hc
              exact hc.1.1
            have hB : gPro (rW S' 100 1000 x n) (fun q => (gSon S' i q && !decide ((q : Int) = -4)) && !decide ((rR S' x n q).1 = 0)) i ≤ 1000000000000000 := by
              refine Nat.le_trans (gPro_sub hP hw) ?_
              have h1 := rW_le W' (b := 100) (y := 1000) (x := x) (by omega) (by omega) hi
              rw [rW_e hi] at h1
              unfold wPart at h1
              rw [if_neg (by rw [A.1 4 i (by decide)]; exact c0)] at h1
              refine Nat.le_trans ?_ h1
              exact Nat.le_mul_of_pos_right _ (by split <;> omega)
            unfold gLs
            dsimp only
            rcases gSum_V (f := fun q => iInv (rR S' x n q)) (g := fun q => iInv (rU S' x n q)) (P := fun q => (gSon S' i q && !decide ((q : Int) = -4)) && !decide ((rR S' x n q).1 = 0)) i (fun q hq _ => nV_inv (rR_V W' n q (by omega) (by omega) (x := x))) with ⟨a, b⟩ | ⟨a, b⟩
            · rw [b]
              show 1 < _
              omega
            · have h7 := gAcc_le (g := fun q => iInv (rU S' x n q)) (w := rW S' 100 1000 x n) (P := fun q => (gSon S' i q && !decide ((q : Int) = -4)) && !decide ((rR S' x n q).1 = 0)) i (fun q hq _ => by
                have := rU_le W' n q (by omega) (by omega) (x := x)
                show (rU S' x n q).2 + (rU S' x n q).1 ≤ _
                omega)
              have h8 := nV_le b
              omega
          have e2 := m_takeLets (p := i) (by omega) HL gL bL
          rw [e, Option.bind_some, e2]
          refine ⟨_, rfl, fun q hq => tPut_k (by omega) ((Q q hq).mv (H2 _ (by omega)).2 (H2 _ (by omega)).2), ?_, (F.of H2 H3).T⟩
          have eB : bRaw S' (rR S' x n) i = if gZr (rR S' x n) (fun q => gSon S' i q && !decide ((q : Int) = -4)) i = true then (0, 1) else iInv (gLs (rR S' x n) (fun q => gSon S' i q && !decide ((q : Int) = -4)) i) := by
            unfold bRaw
            rw [A.1 4 i (by decide), if_neg c0, if_neg c1, eS]
            split <;> rfl
          rw [eB]
          exact tPut_Q _ _ _ _
    obtain ⟨s2, e2, Q2, Qi, F2⟩ := B
    have gi := bRaw_G S' (rR S' x n) i
    by_cases cx : (i : Int) = x
    · have bi : (bRaw S' (rR S' x n) i).1 + (bRaw S' (rR S' x n) i).2 ≤ 1000000000000000 := by
        have h1 := rR_V W' (x := -1) n i (by omega) hi
        have h2 := rU_9 W' (x := -1) hi
        have h3 : bRaw S' (rR S' x n) i = rR S' (-1) n i := by
          rw [rR_e hi (x := -1)]
          unfold bPart
          rw [if_neg (by omega)]
          refine bRaw_congr fun q hq hc => ?_
          rw [← cx]
          refine rR_off W' hi n q (by omega) (by omega) ?_
          rcases hg : gOn S' i q with _ | _
          · rfl
          · have := gOn_lt W' hi hg
            omega
        rw [h3]
        have := nV_le h1
        omega
      obtain ⟨s3, h1, h2, h3, q1, q2, q3, q4, q5, q6, q7⟩ := m_meter (h := s2) (m := m) (p := i) (S := S) (r := bRaw S' (rR S' x n) i) (by omega) hm (by rw [F2.row]; exact R.1.2.2.1) Qi gi bi
      refine ⟨s3, m_layStep_eq hi hn hmet e0 e1 kd e2 (fun _ => ⟨q1, q2, q3, q4⟩) (fun e => absurd ((hx4 i).mpr cx) e), ?_, F2.tr q7⟩
      intro q hq
      by_cases e : q = i
      · subst e
        rw [rR_e hi]
        unfold bPart
        rw [if_pos cx]
        have : bMet S' (bRaw S' (rR S' x n) q) = bMet S (bRaw S' (rR S' x n) q) := by
          unfold bMet
          rw [A.1 0 2 (by decide)]
        rw [this]
        exact q5
      · exact q6 q _ e (Q2 q (by omega))
    · refine ⟨s2, m_layStep_eq (h1 := s1) (h2 := s1) (h3 := s1) hi hn hmet e0 e1 kd e2 (fun e => absurd ((hx4 i).mp e) cx) (fun _ => rfl), ?_, F2⟩
      intro q hq
      by_cases e : q = i
      · subst e
        rw [rR_e hi]
        unfold bPart
        rw [if_neg cx]
        exact Qi
      · exact Q2 q (by omega)) gFuel 0 h (by omega) (by unfold gFuel; omega) ⟨by intro q hq; omega, mFr.rf⟩
  try dsimp only at eo
  refine ⟨o, ?_, H1, H2⟩
  rw [show ((0 : Nat) : Int) = 0 from rfl, ← jl_0] at eo
  rw [f_X10_lay, eo]
  rfl
