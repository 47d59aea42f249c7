/-! the reference's parallel parts -/
/-- of which only those that are not 0 are added -/
def gLs (R : Nat → gQ) (P : Nat → Bool) : Nat → gQ := gSum (fun q => iInv (R q)) (fun q => P q && !decide ((R q).1 = 0))
def gZr (R : Nat → gQ) (P : Nat → Bool) (i : Nat) : Bool := !decide (gCnt (fun q => P q && decide ((R q).1 = 0)) i = 0)
def mL (h : gHp) (m : Nat) (L : gQ) (f : Bool) : Prop := h.2 m 21 = lI L.1 ∧ h.2 m 22 = lI L.2 ∧ h.1 m 23 = gZ f
theorem gLs_pos {R : Nat → gQ} {P : Nat → Bool} : ∀ i, 0 < (gLs R P i).2 := by
  intro i
  induction i with
  | zero => exact Nat.zero_lt_one
  | succ i ih =>
    unfold gLs at ih ⊢
    by_cases c : (P i && !decide ((R i).1 = 0)) = true
    · rw [gSum_T c]
      refine iAdd_pos ih ?_
      simp only [Bool.and_eq_true, Bool.not_eq_true', decide_eq_false_iff_not] at c
      show 0 < (R i).1
      omega
    · rw [gSum_F c]; exact ih
theorem gZr_sum {R : Nat → gQ} {P : Nat → Bool} : ∀ i, gSum (fun q => iInv (R q)) P i = if gZr R P i = true then (1, 0) else gLs R P i := by
  intro i
  induction i with
  | zero => rfl
  | succ i ih =>
    have e0 : gZr R P (i + 1) = (gZr R P i || (P i && decide ((R i).1 = 0))) := by
      unfold gZr
      rcases hc : (P i && decide ((R i).1 = 0)) with _ | _
      · rw [gCnt_F (by rw [hc]; exact Bool.false_ne_true), Bool.or_false]
      · rw [gCnt_T hc, Bool.or_true, decide_eq_false (by omega)]
        rfl
    rcases hp : P i with _ | _
    · rw [gSum_F (by rw [hp]; exact Bool.false_ne_true), ih, e0, hp, Bool.false_and, Bool.or_false]
      have : gLs R P (i + 1) = gLs R P i := gSum_F (by rw [hp]; exact Bool.false_ne_true)
      rw [this]
    · rw [gSum_T hp, ih, e0, hp, Bool.true_and]
      by_cases c : (R i).1 = 0
      · rw [decide_eq_true c, Bool.or_true, if_pos rfl, iAdd_inf (Or.inr c)]
      · rw [decide_eq_false c, Bool.or_false]
        have e1 : gLs R P (i + 1) = iAdd (gLs R P i) (iInv (R i)) := gSum_T (by rw [hp, decide_eq_false c]; rfl)
        rw [e1]
        rcases gZr R P i with _ | _
        · rfl
        · rw [if_pos rfl, if_pos rfl, iAdd_inf (Or.inl rfl)]
theorem m_lets {h : gHp} {m : Nat} {L r : gQ} {f : Bool} (H : mL h m L f) (gL : nG L) (hL : 0 < L.2) (gr : nG r) (b0 : L.2 < 9223372036854775808) (b1 : r.1 < 9223372036854775808) (b2 : r.2 < 9223372036854775808) (hb : r.1 ≠ 0 → (L.1 + L.2) * (r.1 + r.2) < 9223372036854775808) : ∃ h', f_X10_lets m (lI r.1) (lI r.2) h = some h' ∧ mL h' m (if r.1 = 0 then L else iAdd L (iInv r)) (f || decide (r.1 = 0)) ∧ (∀ y, y ≠ m → h'.1 y = h.1 y ∧ h'.2 y = h.2 y) ∧ (∀ k, k ≠ 23 → h'.1 m k = h.1 m k) ∧ (∀ k, k ≠ 17 → k ≠ 18 → k ≠ 21 → k ≠ 22 → h'.2 m k = h.2 m k) := by
  obtain ⟨H1, H2, H3⟩ := H
  by_cases c : r.1 = 0
  · rw [decide_eq_true c, if_pos c, Bool.or_true]
    refine ⟨gsI h m 23 1, ?_, ⟨H1, H2, rI_e _ _ _ _⟩, fun y hy => ⟨rI_n hy, rfl⟩, fun k hk => rI_k hk, fun _ _ _ _ _ => rfl⟩
    rw [f_X10_lets, if_pos ((lI_z b1).mpr c)]
  · rw [decide_eq_false c, if_neg c, Bool.or_false]
    by_cases c2 : r.2 = 0
    · have e : iAdd L (iInv r) = L := by
        rw [nG_inf gr c2, iAdd_comm]
        exact iAdd_zero gL
      rw [e]
      refine ⟨h, ?_, ⟨H1, H2, H3⟩, fun _ _ => ⟨rfl, rfl⟩, fun _ _ => rfl, fun _ _ _ _ _ => rfl⟩
      rw [f_X10_lets, if_neg (fun q => c ((lI_z b1).mp q)), if_pos (by rw [l0, lI_le (by omega) (by omega) (by omega) (by omega)]; omega)]
    · have hb2 := hb c
      have e := s_sum h m (q := L) (r := iInv r) (by
        show (L.1 + L.2) * (r.2 + r.1) < _
        rw [Nat.add_comm r.2]; exact hb2) b0 b1 hL (by show 0 < r.1; omega)
      have e' : f_X10_sum m (lI L.1) (lI L.2) (lI r.2) (lI r.1) h = some (sPut h m (iAdd L (iInv r))) := e
      refine ⟨gsL (gsL (sPut h m (iAdd L (iInv r))) m 21 (lI (iAdd L (iInv r)).1)) m 22 (lI (iAdd L (iInv r)).2), ?_, ⟨?_, rL_e _ _ _ _, H3⟩, fun y hy => ⟨rfl, ?_⟩, fun _ _ => rfl, fun k k1 k2 k3 k4 => ?_⟩
      · rw [f_X10_lets, if_neg (fun q => c ((lI_z b1).mp q)), if_neg (by rw [l0, lI_le (by omega) (by omega) (by omega) (by omega)]; omega), H1, H2, e', Option.bind_some, sPut_17, rL_k (by decide), sPut_18]
      · rw [rL_k (by decide), rL_e]
      · rw [rL_n hy, rL_n hy, sPut_2 hy]
      · rw [rL_k k4, rL_k k3, sPut_k k1 k2]
/-- all lets of the parts of p but one -/
theorem m_letsOf {h : gHp} {m t n c : Nat} {S : gTb} (R : mRow (h.2 (m + 1)) n c S) (W : gWf t n c S) {S' : gTb} (W' : gWf t n c S') (hS : ∀ f k, f ≠ 2 → S' f k = S f k) {x : Int} {p : Nat} (hp : p < n) (h4 : S 4 p ≠ 0) (Q : ∀ q, q < p → mQ h m q (rR S' x n q)) {but : Int} (hbut : -4 ≤ but ∧ but < 11) : ∃ h', f_X10_letsOf m (jI p) (jI but) h = some h' ∧ mL h' m (gLs (rR S' x n) (fun q => gSon S' p q && !decide ((q : Int) = but)) p) (gZr (rR S' x n) (fun q => gSon S' p q && !decide ((q : Int) = but)) p) ∧ (∀ y, y ≠ m → h'.1 y = h.1 y ∧ h'.2 y = h.2 y) ∧ (∀ k, k ≠ 23 → h'.1 m k = h.1 m k) := by
  have hn := W.n
  obtain ⟨o, eo, H1, H2, H3⟩ := gUp (fun k i s1 => f_X10_letsOf_17 m (jI p) (jI but) k (jI i) s1) p (fun i s1 => mL s1 m (gLs (rR S' x n) (fun q => gSon S' p q && !decide ((q : Int) = but)) i) (gZr (rR S' x n) (fun q => gSon S' p q && !decide ((q : Int) = but)) i) ∧ (∀ y, y ≠ m → s1.1 y = h.1 y ∧ s1.2 y = h.2 y) ∧ (∀ k, k ≠ 23 → s1.1 m k = h.1 m k)) (fun s1 => mL s1 m (gLs (rR S' x n) (fun q => gSon S' p q && !decide ((q : Int) = but)) p) (gZr (rR S' x n) (fun q => gSon S' p q && !decide ((q : Int) = but)) p) ∧ (∀ y, y ≠ m → s1.1 y = h.1 y ∧ s1.2 y = h.2 y) ∧ (∀ k, k ≠ 23 → s1.1 m k = h.1 m k)) (by
    intro k s1 hI
    refine ⟨s1, ?_, hI⟩
    try dsimp only
    simp (disch := omega) only [jl_0, jl_1, jl_2, jl_3, jl_4, jl_5, jl_6, jl_10, jl_11, jl_20, jl_26, jl_31, jl_32, jl_40, jl_41, jl_42, jl_43, jl_47, jl_48, jl_57, jl_81, jl_97, jl_99, jl_100, jl_102, jl_103, jl_124, jl_141, jl_564, jl_705, jl_999, jl_1000, jl_9999, jI_neg, cs1, jI_add, jI_sub, jI_mul, jI_neg, jI_lt, jI_le, jI_eq, gIf, gIe, gN_jI, tn_0, tn_1, tn_2, tn_3, tn_4, Int.toNat_natCast, Int.cast_ofNat_Int, if_pos, if_neg, Option.bind_some, eq_self, Bool.false_eq_true, reduceIte, f_X10_letsOf_17]) (by
    intro k i s1 hi hI
    obtain ⟨IL, I3, I4⟩ := hI
    left
    try dsimp only
    have Rs : mRow (s1.2 (m + 1)) n c S := by rw [(I3 _ (by omega)).2]; exact R
    have b := W.ar (p := i) (by omega)
    have e1 := m_around Rs W (p := i) (by omega)
    have b3 : -4 ≤ r4 (S 5 i) ∧ r4 (S 5 i) < n := by unfold r4; split <;> omega
    have e00 : gZr (rR S' x n) (fun q => gSon S' p q && !decide ((q : Int) = but)) (i + 1) = (gZr (rR S' x n) (fun q => gSon S' p q && !decide ((q : Int) = but)) i || ((gSon S' p i && !decide ((i : Int) = but)) && decide ((rR S' x n i).1 = 0))) := by
      unfold gZr
      rcases hc : ((gSon S' p i && !decide ((i : Int) = but)) && decide ((rR S' x n i).1 = 0)) with _ | _
      · rw [gCnt_F (by rw [hc]; exact Bool.false_ne_true), Bool.or_false]
      · rw [gCnt_T hc, Bool.or_true, decide_eq_false (by omega)]
        rfl
    by_cases c1 : S 5 i = p
    · have c2 : r4 (S 5 i) = p := by rw [r4_p (by omega)]; exact c1
      have hs : gSon S' p i = true := decide_eq_true (by rw [hS 5 i (by decide)]; exact c1)
      by_cases cb : (i : Int) = but
      · refine ⟨s1, ?_, ?_, I3, I4⟩
        · simp (disch := omega) only [jl_0, jl_1, jl_2, jl_3, jl_4, jl_5, jl_6, jl_10, jl_11, jl_20, jl_26, jl_31, jl_32, jl_40, jl_41, jl_42, jl_43, jl_47, jl_48, jl_57, jl_81, jl_97, jl_99, jl_100, jl_102, jl_103, jl_124, jl_141, jl_564, jl_705, jl_999, jl_1000, jl_9999, jI_neg, cs1, jI_add, jI_sub, jI_mul, jI_neg, jI_lt, jI_le, jI_eq, gIf, gIe, gN_jI, tn_0, tn_1, tn_2, tn_3, tn_4, Int.toNat_natCast, Int.cast_ofNat_Int, if_pos, if_neg, Option.bind_some, eq_self, Bool.false_eq_true, reduceIte, f_X10_letsOf_17, e1, c2, ← cb]
        · rw [e00, decide_eq_true cb, Bool.not_true, Bool.and_false, Bool.false_and, Bool.or_false]
          have : gLs (rR S' x n) (fun q => gSon S' p q && !decide ((q : Int) = but)) (i + 1) = gLs (rR S' x n) (fun q => gSon S' p q && !decide ((q : Int) = but)) i := gSum_F (by dsimp only; rw [decide_eq_true cb, Bool.not_true, Bool.and_false, Bool.false_and]; exact Bool.false_ne_true)
          rw [this]
          exact IL
      · have ri := rR_9 W' (x := x) (p := i) (by omega)
        have gi := rR_G (S := S') (x := x) (n := n) (p := i) (by omega)
        have Qi := (Q i hi).mv (h' := s1) (I3 _ (by omega)).2 (I3 _ (by omega)).2
        have gL : nG (gLs (rR S' x n) (fun q => gSon S' p q && !decide ((q : Int) = but)) i) := gSum_G i
        have pL := gLs_pos (R := rR S' x n) (P := fun q => gSon S' p q && !decide ((q : Int) = but)) i
        have bL : (gLs (rR S' x n) (fun q => gSon S' p q && !decide ((q : Int) = but)) i).2 < 9223372036854775808 ∧ ((rR S' x n i).1 ≠ 0 → ((gLs (rR S' x n) (fun q => gSon S' p q && !decide ((q : Int) = but)) i).1 + (gLs (rR S' x n) (fun q => gSon S' p q && !decide ((q : Int) = but)) i).2) * ((rR S' x n i).1 + (rR S' x n i).2) < 9223372036854775808) := by
          have all : ∀ j, j ≤ i → (gLs (rR S' x n) (fun q => gSon S' p q && !decide ((q : Int) = but)) j).1 + (gLs (rR S' x n) (fun q => gSon S' p q && !decide ((q : Int) = but)) j).2 ≤ 1000000000000000 ∧ ((gSon S' p j && !decide ((j : Int) = but)) && !decide ((rR S' x n j).1 = 0)) = true → j < p → ((gLs (rR S' x n) (fun q => gSon S' p q && !decide ((q : Int) = but)) j).1 + (gLs (rR S' x n) (fun q => gSon S' p q && !decide ((q : Int) = but)) j).2) * ((rR S' x n j).1 + (rR S' x n j).2) ≤ 1000000000000000 := by
            intro j hj h1 h2
            have sm := sum_R W' (x := x) hp (by rw [hS 4 p (by decide)]; exact h4) (P := fun q => (gSon S' p q && !decide ((q : Int) = but)) && !decide ((rR S' x n q).1 = 0)) (fun q hq hc => by
              simp only [Bool.and_eq_true] at hc
              exact hc.1.1) true h2 h1.2
            exact sm.2
          have one : (gLs (rR S' x n) (fun q => gSon S' p q && !decide ((q : Int) = but)) i).1 + (gLs (rR S' x n) (fun q => gSon S' p q && !decide ((q : Int) = but)) i).2 ≤ 1000000000000000 := by
            have hw : ∀ q, q < p → gSon S' p q = true → 1 ≤ rW S' 100 1000 x n q := fun q hq _ => rW_pos (by omega) (by omega) n q (by omega) (by omega)
            have hP : ∀ q, q < p → ((gSon S' p q && !decide ((q : Int) = but)) && !decide ((rR S' x n q).1 = 0)) = true → gSon S' p q = true := fun q hq hc => by
              simp only [Bool.and_eq_true] at hc
              exact hc.1.1
            have hB : gPro (rW S' 100 1000 x n) (fun q => (gSon S' p q && !decide ((q : Int) = but)) && !decide ((rR S' x n q).1 = 0)) p ≤ 1000000000000000 := by
              refine Nat.le_trans (gPro_sub hP hw) ?_
              have h1 := rW_le W' (b := 100) (y := 1000) (x := x) (by omega) (by omega) hp
              rw [rW_e hp] at h1
              unfold wPart at h1
              rw [if_neg (by rw [hS 4 p (by decide)]; exact h4)] at h1
              refine Nat.le_trans ?_ h1
              exact Nat.le_mul_of_pos_right _ (by split <;> omega)
            have h1' := gPro_mono (f := rW S' 100 1000 x n) (P := fun q => (gSon S' p q && !decide ((q : Int) = but)) && !decide ((rR S' x n q).1 = 0)) (i := i) (n := p) (by omega) (fun q hq hc => hw q hq (hP q hq hc))
            have h4' := gPro_one (f := rW S' 100 1000 x n) (P := fun q => (gSon S' p q && !decide ((q : Int) = but)) && !decide ((rR S' x n q).1 = 0)) (n := i) (fun q hq hc => hw q (by omega) (hP q (by omega) hc))
            unfold gLs
            dsimp only
            rcases gSum_V (f := fun q => iInv (rR S' x n q)) (g := fun q => iInv (rU S' x n q)) (P := fun q => (gSon S' p q && !decide ((q : Int) = but)) && !decide ((rR S' x n q).1 = 0)) i (fun q hq _ => nV_inv (rR_V W' n q (by omega) (by omega) (x := x))) with ⟨a, b⟩ | ⟨a, b⟩
            · rw [b]
              show 1 + 0 ≤ _
              omega
            · have h7 := gAcc_le (g := fun q => iInv (rU S' x n q)) (w := rW S' 100 1000 x n) (P := fun q => (gSon S' p q && !decide ((q : Int) = but)) && !decide ((rR S' x n q).1 = 0)) i (fun q hq _ => by
                have := rU_le W' n q (by omega) (by omega) (x := x)
                show (rU S' x n q).2 + (rU S' x n q).1 ≤ _
                omega)
              have h8 := nV_le b
              omega
          refine ⟨by omega, fun h0 => ?_⟩
          have := all i (Nat.le_refl _) ⟨one, by rw [hs, decide_eq_false cb, decide_eq_false h0]; rfl⟩ hi
          omega
        obtain ⟨h1, e2, L1, F1, F2, F3⟩ := m_lets IL gL pL gi bL.1 (by omega) (by omega) bL.2
        refine ⟨h1, ?_, ?_, fun y hy => ⟨(F1 y hy).1.trans (I3 y hy).1, (F1 y hy).2.trans (I3 y hy).2⟩, fun k hk => (F2 k hk).trans (I4 k hk)⟩
        · simp (disch := omega) only [jl_0, jl_1, jl_2, jl_3, jl_4, jl_5, jl_6, jl_10, jl_11, jl_20, jl_26, jl_31, jl_32, jl_40, jl_41, jl_42, jl_43, jl_47, jl_48, jl_57, jl_81, jl_97, jl_99, jl_100, jl_102, jl_103, jl_124, jl_141, jl_564, jl_705, jl_999, jl_1000, jl_9999, jI_neg, cs1, jI_add, jI_sub, jI_mul, jI_neg, jI_lt, jI_le, jI_eq, gIf, gIe, gN_jI, tn_0, tn_1, tn_2, tn_3, tn_4, Int.toNat_natCast, Int.cast_ofNat_Int, if_pos, if_neg, Option.bind_some, eq_self, Bool.false_eq_true, reduceIte, f_X10_letsOf_17, e1, c2, cb, Qi.1, Qi.2, e2]
        · rw [e00, hs, decide_eq_false cb]
          have e3 : gLs (rR S' x n) (fun q => gSon S' p q && !decide ((q : Int) = but)) (i + 1) = if (rR S' x n i).1 = 0 then gLs (rR S' x n) (fun q => gSon S' p q && !decide ((q : Int) = but)) i else iAdd (gLs (rR S' x n) (fun q => gSon S' p q && !decide ((q : Int) = but)) i) (iInv (rR S' x n i)) := by
            by_cases c0 : (rR S' x n i).1 = 0
            · rw [if_pos c0]
              exact gSum_F (by dsimp only; rw [decide_eq_true c0, Bool.not_true, Bool.and_false]; exact Bool.false_ne_true)
            · rw [if_neg c0]
              exact gSum_T (by dsimp only; rw [hs, decide_eq_false cb, decide_eq_false c0]; rfl)
          rw [e3]
          exact L1
    · have c2 : ¬ r4 (S 5 i) = p := fun q => c1 ((r4_eq (by omega)).mp q)
      have hs : gSon S' p i = false := by
        show decide _ = false
        rw [hS 5 i (by decide)]
        exact decide_eq_false c1
      refine ⟨s1, ?_, ?_, I3, I4⟩
      · simp (disch := omega) only [jl_0, jl_1, jl_2, jl_3, jl_4, jl_5, jl_6, jl_10, jl_11, jl_20, jl_26, jl_31, jl_32, jl_40, jl_41, jl_42, jl_43, jl_47, jl_48, jl_57, jl_81, jl_97, jl_99, jl_100, jl_102, jl_103, jl_124, jl_141, jl_564, jl_705, jl_999, jl_1000, jl_9999, jI_neg, cs1, jI_add, jI_sub, jI_mul, jI_neg, jI_lt, jI_le, jI_eq, gIf, gIe, gN_jI, tn_0, tn_1, tn_2, tn_3, tn_4, Int.toNat_natCast, Int.cast_ofNat_Int, if_pos, if_neg, Option.bind_some, eq_self, Bool.false_eq_true, reduceIte, f_X10_letsOf_17, e1, c2]
      · rw [e00, hs, Bool.false_and, Bool.false_and, Bool.or_false]
        have : gLs (rR S' x n) (fun q => gSon S' p q && !decide ((q : Int) = but)) (i + 1) = gLs (rR S' x n) (fun q => gSon S' p q && !decide ((q : Int) = but)) i := gSum_F (by dsimp only; rw [hs, Bool.false_and, Bool.false_and]; exact Bool.false_ne_true)
        rw [this]
        exact IL) gFuel 0 (gsI (gsL (gsL h m 21 0) m 22 1) m 23 0) (by omega) (by unfold gFuel; omega) ⟨⟨by rw [rI_2, rL_k (by decide), rL_e]; rfl, by rw [rI_2, rL_e]; rfl, by rw [rI_e]; rfl⟩, fun y hy => ⟨rI_n hy, by rw [rI_2, rL_n hy, rL_n hy]⟩, fun k hk => rI_k hk⟩
  try dsimp only at eo
  refine ⟨o, ?_, H1, H2, H3⟩
  rw [show ((0 : Nat) : Int) = 0 from rfl, ← jl_0] at eo
  rw [f_X10_letsOf, eo]
  rfl
theorem m_takeLets {h : gHp} {m p : Nat} {L : gQ} {f : Bool} (hp : p < 11) (H : mL h m L f) (gL : nG L) (b1 : L.1 < 9223372036854775808) : f_X10_takeLets m (jI p) h = some (tPut h m p (if f = true then (0, 1) else iInv L)) := by
  obtain ⟨H1, H2, H3⟩ := H
  rcases f with _ | _
  · have h3 : h.1 m 23 = jI 0 := H3
    rw [if_neg Bool.false_ne_true]
    have key : (if lI L.1 = 0 then some 1 else some (lI L.2) : Option Int64) = some (lI L.2) := by
      by_cases c : L.1 = 0
      · rw [if_pos ((lI_z b1).mpr c), nG_zero gL c]
        rfl
      · rw [if_neg (fun q => c ((lI_z b1).mp q))]
    simp (disch := omega) only [jl_0, jl_1, jl_2, jl_3, jl_4, jl_5, jl_6, jl_10, jl_11, jl_20, jl_26, jl_31, jl_32, jl_40, jl_41, jl_42, jl_43, jl_47, jl_48, jl_57, jl_81, jl_97, jl_99, jl_100, jl_102, jl_103, jl_124, jl_141, jl_564, jl_705, jl_999, jl_1000, jl_9999, jI_neg, cs1, jI_add, jI_sub, jI_mul, jI_neg, jI_lt, jI_le, jI_eq, gIf, gIe, gN_jI, tn_0, tn_1, tn_2, tn_3, tn_4, Int.toNat_natCast, Int.cast_ofNat_Int, if_pos, if_neg, Option.bind_some, eq_self, Bool.false_eq_true, reduceIte, f_X10_takeLets, h3, H1, H2, key, rL_1, rL_n]
    rfl
  · have h3 : h.1 m 23 = jI 1 := H3
    rw [if_pos rfl]
    simp (disch := omega) only [jl_0, jl_1, jl_2, jl_3, jl_4, jl_5, jl_6, jl_10, jl_11, jl_20, jl_26, jl_31, jl_32, jl_40, jl_41, jl_42, jl_43, jl_47, jl_48, jl_57, jl_81, jl_97, jl_99, jl_100, jl_102, jl_103, jl_124, jl_141, jl_564, jl_705, jl_999, jl_1000, jl_9999, jI_neg, cs1, jI_add, jI_sub, jI_mul, jI_neg, jI_lt, jI_le, jI_eq, gIf, gIe, gN_jI, tn_0, tn_1, tn_2, tn_3, tn_4, Int.toNat_natCast, Int.cast_ofNat_Int, if_pos, if_neg, Option.bind_some, eq_self, Bool.false_eq_true, reduceIte, f_X10_takeLets, h3, rL_1, rL_n]
    rfl
