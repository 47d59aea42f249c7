/-! the reference lays resistances -/
def mQ (h : gHp) (m p : Nat) (q : gQ) : Prop := h.2 (m + 9) p = lI q.1 ∧ h.2 (m + 10) p = lI q.2
def tPut (h : gHp) (m p : Nat) (q : gQ) : gHp := gsL (gsL h (m + 9) p (lI q.1)) (m + 10) p (lI q.2)
theorem tPut_1 (h : gHp) (m p : Nat) (q : gQ) : (tPut h m p q).1 = h.1 := rfl
theorem tPut_2 {h : gHp} {m p x : Nat} {q : gQ} (h1 : x ≠ m + 9) (h2 : x ≠ m + 10) : (tPut h m p q).2 x = h.2 x := by unfold tPut; rw [rL_n h2, rL_n h1]
theorem tPut_Q (h : gHp) (m p : Nat) (q : gQ) : mQ (tPut h m p q) m p q := by
  unfold tPut
  refine ⟨?_, rL_e _ _ _ _⟩
  rw [rL_n (by omega), rL_e]
theorem tPut_k {h : gHp} {m p k : Nat} {q r : gQ} (hk : k ≠ p) (H : mQ h m k r) : mQ (tPut h m p q) m k r := by
  unfold tPut
  refine ⟨?_, ?_⟩
  · rw [rL_n (by omega), rL_k hk]; exact H.1
  · rw [rL_k hk, rL_n (by omega)]; exact H.2
theorem mQ.mv {h h' : gHp} {m p : Nat} {q : gQ} (H : mQ h m p q) (e1 : h'.2 (m + 9) = h.2 (m + 9)) (e2 : h'.2 (m + 10) = h.2 (m + 10)) : mQ h' m p q := by
  unfold mQ
  rw [e1, e2]
  exact H
/-- what the reference's reckoning leaves as it was -/
def mFr (m : Nat) (h h' : gHp) : Prop := (∀ x : Nat, x ≠ m → x ≠ m + 9 → x ≠ m + 10 → x ≠ m + 11 → x ≠ m + 12 → h'.1 x = h.1 x ∧ h'.2 x = h.2 x) ∧ (∀ k : Nat, k ≠ 23 → h'.1 m k = h.1 m k)
theorem mFr.rf {m : Nat} {h : gHp} : mFr m h h := ⟨fun _ _ _ _ _ _ => ⟨rfl, rfl⟩, fun _ _ => rfl⟩
theorem mFr.tr {m : Nat} {h h1 h2 : gHp} (a : mFr m h h1) (b : mFr m h1 h2) : mFr m h h2 := ⟨fun x q1 q2 q3 q4 q5 => ⟨(b.1 x q1 q2 q3 q4 q5).1.trans (a.1 x q1 q2 q3 q4 q5).1, (b.1 x q1 q2 q3 q4 q5).2.trans (a.1 x q1 q2 q3 q4 q5).2⟩, fun k hk => (b.2 k hk).trans (a.2 k hk)⟩
theorem mFr.row {m : Nat} {h h' : gHp} (s : mFr m h h') : h'.2 (m + 1) = h.2 (m + 1) := (s.1 (m + 1) (by omega) (by omega) (by omega) (by omega) (by omega)).2
theorem mFr.T {m p : Nat} {h h1 : gHp} {q : gQ} (s : mFr m h h1) : mFr m h (tPut h1 m p q) := s.tr ⟨fun x q1 q2 q3 q4 q5 => ⟨rfl, tPut_2 q2 q3⟩, fun _ _ => rfl⟩
theorem mFr.S {m : Nat} {h h1 : gHp} {q : gQ} (s : mFr m h h1) : mFr m h (sPut h1 m q) := s.tr ⟨fun x q1 q2 q3 q4 q5 => ⟨rfl, sPut_2 q1⟩, fun _ _ => rfl⟩
theorem mFr.L {m k : Nat} {h h1 : gHp} {v : Int64} (s : mFr m h h1) : mFr m h (gsL h1 m k v) := s.tr ⟨fun x q1 q2 q3 q4 q5 => ⟨rfl, rL_n q1⟩, fun _ _ => rfl⟩
theorem mFr.I {m : Nat} {h h1 : gHp} {v : Int32} (s : mFr m h h1) : mFr m h (gsI h1 m 23 v) := s.tr ⟨fun x q1 q2 q3 q4 q5 => ⟨rI_n q1, rfl⟩, fun k hk => rI_k hk⟩
theorem m_layArm_eq {h : gHp} {m p l : Nat} {arm st s v : Int} (hp : p < 11) (hl : l < 6) (ha : -4 ≤ arm ∧ arm < 6) (e1 : f_X10_ofPart m (jI p) (jI 2) h = some (jI l)) (e2 : f_X10_ofArm m (jI l) (jI 1) h = some (jI s)) (e3 : f_X10_ofArm m (jI l) (jI 0) h = some (jI v)) (hv : 0 ≤ v ∧ v < 1000) (hs : 0 ≤ s ∧ s ≤ 2) (hst : 0 ≤ st ∧ st ≤ 2) : f_X10_layArm m (jI p) (jI arm) (jI st) h = some (tPut h m p (if (if (l : Int) = arm then st else s) = 0 then (v.toNat, 1) else if (if (l : Int) = arm then st else s) = 1 then (1, 0) else (0, 1))) := by
  have key : ∀ z : Int, 0 ≤ z → z ≤ 2 → ((if jI z = jI 0 then (f_X10_ofArm m (jI l) (jI 0) h).bind fun v13 => some v13.toInt64 else if jI z = jI 1 then some 1 else some 0 : Option Int64).bind fun v6 => if gIn (jI p) 11 then if jI z = jI 1 then if gIn (jI p) 11 then some (gsL (gsL h (m + 9) (gN (jI p)) v6) (m + 10) (gN (jI p)) 0) else none else if gIn (jI p) 11 then some (gsL (gsL h (m + 9) (gN (jI p)) v6) (m + 10) (gN (jI p)) 1) else none else none) = some (tPut h m p (if z = 0 then (v.toNat, 1) else if z = 1 then (1, 0) else (0, 1))) := by
    intro z z0 z2
    have e64 := jI_to64 (z := v) (by omega) (by omega)
    have ev : ((v.toNat : Nat) : Int) = v := by omega
    by_cases c0 : z = 0
    · subst c0
      rw [if_pos rfl]
      simp (disch := omega) only [jl_0, jl_1, jl_2, jl_3, jl_4, jl_5, jl_6, jl_10, jl_11, jl_20, jl_26, jl_31, jl_32, jl_40, jl_41, jl_42, jl_43, jl_47, jl_48, jl_57, jl_81, jl_97, jl_99, jl_100, jl_102, jl_103, jl_124, jl_141, jl_564, jl_705, jl_999, jl_1000, jl_9999, jI_neg, cs1, jI_add, jI_sub, jI_mul, jI_neg, jI_lt, jI_le, jI_eq, gIf, gIe, gN_jI, tn_0, tn_1, tn_2, tn_3, tn_4, Int.toNat_natCast, Int.cast_ofNat_Int, if_pos, if_neg, Option.bind_some, eq_self, Bool.false_eq_true, reduceIte, e3, e64]
      unfold tPut
      rw [ev]
      rfl
    · rw [if_neg c0]
      by_cases c1 : z = 1
      · subst c1
        rw [if_pos rfl]
        simp (disch := omega) only [jl_0, jl_1, jl_2, jl_3, jl_4, jl_5, jl_6, jl_10, jl_11, jl_20, jl_26, jl_31, jl_32, jl_40, jl_41, jl_42, jl_43, jl_47, jl_48, jl_57, jl_81, jl_97, jl_99, jl_100, jl_102, jl_103, jl_124, jl_141, jl_564, jl_705, jl_999, jl_1000, jl_9999, jI_neg, cs1, jI_add, jI_sub, jI_mul, jI_neg, jI_lt, jI_le, jI_eq, gIf, gIe, gN_jI, tn_0, tn_1, tn_2, tn_3, tn_4, Int.toNat_natCast, Int.cast_ofNat_Int, if_pos, if_neg, Option.bind_some, eq_self, Bool.false_eq_true, reduceIte, ]
        rfl
      · rw [if_neg c1]
        simp (disch := omega) only [jl_0, jl_1, jl_2, jl_3, jl_4, jl_5, jl_6, jl_10, jl_11, jl_20, jl_26, jl_31, jl_32, jl_40, jl_41, jl_42, jl_43, jl_47, jl_48, jl_57, jl_81, jl_97, jl_99, jl_100, jl_102, jl_103, jl_124, jl_141, jl_564, jl_705, jl_999, jl_1000, jl_9999, jI_neg, cs1, jI_add, jI_sub, jI_mul, jI_neg, jI_lt, jI_le, jI_eq, gIf, gIe, gN_jI, tn_0, tn_1, tn_2, tn_3, tn_4, Int.toNat_natCast, Int.cast_ofNat_Int, if_pos, if_neg, Option.bind_some, eq_self, Bool.false_eq_true, reduceIte, ]
        rfl
  have k0 := key s hs.1 hs.2
  have k1 := key st hst.1 hst.2
  by_cases c : (l : Int) = arm
  · rw [if_pos c]
    rw [f_X10_layArm, show (2 : Int32) = jI 2 from rfl, e1, Option.bind_some, if_pos (by rw [c]), Option.bind_some]
    exact k1
  · rw [if_neg c]
    rw [f_X10_layArm, show (2 : Int32) = jI 2 from rfl, e1, Option.bind_some, if_neg (by rw [jI_eq (by omega) (by omega) (by omega) (by omega)]; exact c), jl_1, e2, Option.bind_some, Option.bind_some]
    exact k0
/-- S' is S but for the state of one arm -/
def gAs (S S' : gTb) (arm st : Int) : Prop := (∀ f k, f ≠ 2 → S' f k = S f k) ∧ (∀ l : Nat, S' 2 l = if (l : Int) = arm then st else S 2 l)
theorem m_layArm {h : gHp} {m t n c : Nat} {S S' : gTb} {arm st : Int} (R : mRow (h.2 (m + 1)) n c S) (W : gWf t n c S) (A : gAs S S' arm st) (ha : -4 ≤ arm ∧ arm < 6) (hst : 0 ≤ st ∧ st ≤ 2) {p : Nat} (hp : p < n) (h4 : S 4 p = 0) : f_X10_layArm m (jI p) (jI arm) (jI st) h = some (tPut h m p (bArm S' p)) := by
  have hn := W.n
  obtain ⟨l, hl, h6, h3⟩ := W.am hp h4
  have b := W.lt hl (by omega)
  have e1 := m_letter R W hp
  rw [h6, r4_p (by omega)] at e1
  have e := m_layArm_eq (st := st) (arm := arm) (by omega) hl ha e1 (m_state R W hl (by omega)) (m_value R W hl (by omega)) (by omega) (by omega) hst
  rw [e]
  unfold bArm
  rw [A.1 6 p (by decide), h6, Int.toNat_natCast, A.1 1 l (by decide), A.2 l]
theorem m_laySeries {h : gHp} {m t n c : Nat} {S : gTb} (R : mRow (h.2 (m + 1)) n c S) (W : gWf t n c S) {S' : gTb} (W' : gWf t n c S') (hS : ∀ f k, f ≠ 2 → S' f k = S f k) {x : Int} {p : Nat} (hp : p < n) (h4 : S 4 p = 1) (Q : ∀ q, q < p → mQ h m q (rR S' x n q)) : ∃ h', f_X10_laySeries m (jI p) h = some (tPut h' m p (gSum (rR S' x n) (gSon S' p) p)) ∧ h'.1 = h.1 ∧ (∀ y, y ≠ m → h'.2 y = h.2 y) := by
  have hn := W.n
  obtain ⟨o, eo, h', ho, H1, H2⟩ := gUp (fun k i (s1 : Int64 × Int64 × gHp) => f_X10_laySeries_8 m (jI p) k s1.1 s1.2.1 (jI i) s1.2.2) p (fun i s1 => s1.1 = lI (gSum (rR S' x n) (gSon S' p) i).1 ∧ s1.2.1 = lI (gSum (rR S' x n) (gSon S' p) i).2 ∧ s1.2.2.1 = h.1 ∧ (∀ y, y ≠ m → s1.2.2.2 y = h.2 y)) (fun o => ∃ h' : gHp, o = (lI (gSum (rR S' x n) (gSon S' p) p).1, lI (gSum (rR S' x n) (gSon S' p) p).2, h') ∧ h'.1 = h.1 ∧ (∀ y, y ≠ m → h'.2 y = h.2 y)) (by
    rintro k ⟨u, l, s1⟩ ⟨rfl, rfl, I3, I4⟩
    refine ⟨_, ?_, s1, rfl, I3, I4⟩
    try dsimp only
    simp (disch := omega) only [jl_0, jl_1, jl_2, jl_3, jl_4, jl_5, jl_6, jl_10, jl_11, jl_20, jl_26, jl_31, jl_32, jl_40, jl_41, jl_42, jl_43, jl_47, jl_48, jl_57, jl_81, jl_97, jl_99, jl_100, jl_102, jl_103, jl_124, jl_141, jl_564, jl_705, jl_999, jl_1000, jl_9999, jI_neg, cs1, jI_add, jI_sub, jI_mul, jI_neg, jI_lt, jI_le, jI_eq, gIf, gIe, gN_jI, tn_0, tn_1, tn_2, tn_3, tn_4, Int.toNat_natCast, Int.cast_ofNat_Int, if_pos, if_neg, Option.bind_some, eq_self, Bool.false_eq_true, reduceIte, f_X10_laySeries_8]) (by
    rintro k i ⟨u, l, s1⟩ hi ⟨rfl, rfl, I3, I4⟩
    left
    try dsimp only at I3 I4
    try dsimp only
    have Rs : mRow (s1.2 (m + 1)) n c S := by rw [I4 _ (by omega)]; exact R
    have b := W.ar (p := i) (by omega)
    have e1 := m_around Rs W (p := i) (by omega)
    have b3 : -4 ≤ r4 (S 5 i) ∧ r4 (S 5 i) < n := by unfold r4; split <;> omega
    by_cases c1 : S 5 i = p
    · have c2 : r4 (S 5 i) = p := by rw [r4_p (by omega)]; exact c1
      have hs : gSon S' p i = true := decide_eq_true (by rw [hS 5 i (by decide)]; exact c1)
      have sm := sum_R W' (x := x) hp (by rw [hS 4 p (by decide)]; omega) (P := gSon S' p) (fun q hq hc => hc) false hi hs
      try simp only [Bool.false_eq_true, if_false] at sm
      have ri := rR_9 W' (x := x) (p := i) (by omega)
      have Qi := (Q i hi).mv (h' := s1) (I4 _ (by omega)) (I4 _ (by omega))
      have gs := gSum_G (f := rR S' x n) (P := gSon S' p) i
      rw [gSum_T hs]
      generalize gSum (rR S' x n) (gSon S' p) i = sg at sm gs
      by_cases c3 : sg.2 = 0
      · refine ⟨(lI (iAdd sg (rR S' x n i)).1, lI (iAdd sg (rR S' x n i)).2, s1), ?_, rfl, rfl, I3, I4⟩
        have e3 : iAdd sg (rR S' x n i) = sg := by rw [iAdd_inf (Or.inl c3), nG_inf gs c3]
        have z3 : (lI (sg.2 : Int) = 0) = True := eq_true ((lI_z (by omega)).mpr c3)
        rw [e3]
        simp (disch := omega) only [jl_0, jl_1, jl_2, jl_3, jl_4, jl_5, jl_6, jl_10, jl_11, jl_20, jl_26, jl_31, jl_32, jl_40, jl_41, jl_42, jl_43, jl_47, jl_48, jl_57, jl_81, jl_97, jl_99, jl_100, jl_102, jl_103, jl_124, jl_141, jl_564, jl_705, jl_999, jl_1000, jl_9999, jI_neg, cs1, jI_add, jI_sub, jI_mul, jI_neg, jI_lt, jI_le, jI_eq, gIf, gIe, gN_jI, tn_0, tn_1, tn_2, tn_3, tn_4, Int.toNat_natCast, Int.cast_ofNat_Int, if_pos, if_neg, Option.bind_some, eq_self, Bool.false_eq_true, reduceIte, f_X10_laySeries_8, e1, c2, z3, if_true]
      · have z3 : (lI (sg.2 : Int) = 0) = False := eq_false (fun e => c3 ((lI_z (by omega)).mp e))
        by_cases c4 : (rR S' x n i).2 = 0
        · refine ⟨(lI (iAdd sg (rR S' x n i)).1, lI (iAdd sg (rR S' x n i)).2, s1), ?_, rfl, rfl, I3, I4⟩
          have z4 : (lI ((rR S' x n i).2 : Int) = 0) = True := eq_true ((lI_z (by omega)).mpr c4)
          rw [iAdd_inf (Or.inr c4)]
          simp (disch := omega) only [jl_0, jl_1, jl_2, jl_3, jl_4, jl_5, jl_6, jl_10, jl_11, jl_20, jl_26, jl_31, jl_32, jl_40, jl_41, jl_42, jl_43, jl_47, jl_48, jl_57, jl_81, jl_97, jl_99, jl_100, jl_102, jl_103, jl_124, jl_141, jl_564, jl_705, jl_999, jl_1000, jl_9999, jI_neg, cs1, jI_add, jI_sub, jI_mul, jI_neg, jI_lt, jI_le, jI_eq, gIf, gIe, gN_jI, tn_0, tn_1, tn_2, tn_3, tn_4, Int.toNat_natCast, Int.cast_ofNat_Int, if_pos, if_neg, Option.bind_some, eq_self, Bool.false_eq_true, reduceIte, f_X10_laySeries_8, e1, c2, z3, Qi.2, z4, if_true, if_false]
          rfl
        · have z4 : (lI ((rR S' x n i).2 : Int) = 0) = False := eq_false (fun e => c4 ((lI_z (by omega)).mp e))
          have e5 := s_sum s1 m (q := sg) (r := rR S' x n i) (by omega) (by omega) (by omega) (by omega) (by omega)
          refine ⟨(lI (iAdd sg (rR S' x n i)).1, lI (iAdd sg (rR S' x n i)).2, sPut s1 m (iAdd sg (rR S' x n i))), ?_, rfl, rfl, I3, fun y hy => by rw [sPut_2 hy]; exact I4 y hy⟩
          simp (disch := omega) only [jl_0, jl_1, jl_2, jl_3, jl_4, jl_5, jl_6, jl_10, jl_11, jl_20, jl_26, jl_31, jl_32, jl_40, jl_41, jl_42, jl_43, jl_47, jl_48, jl_57, jl_81, jl_97, jl_99, jl_100, jl_102, jl_103, jl_124, jl_141, jl_564, jl_705, jl_999, jl_1000, jl_9999, jI_neg, cs1, jI_add, jI_sub, jI_mul, jI_neg, jI_lt, jI_le, jI_eq, gIf, gIe, gN_jI, tn_0, tn_1, tn_2, tn_3, tn_4, Int.toNat_natCast, Int.cast_ofNat_Int, if_pos, if_neg, Option.bind_some, eq_self, Bool.false_eq_true, reduceIte, f_X10_laySeries_8, e1, c2, z3, Qi.1, Qi.2, z4, e5, sPut_17, sPut_18, if_true, if_false]
    · have c2 : ¬ r4 (S 5 i) = p := fun q => c1 ((r4_eq (by omega)).mp q)
      have hs : ¬ gSon S' p i = true := by
        show ¬ decide _ = true
        rw [hS 5 i (by decide), decide_eq_true_eq]; exact c1
      refine ⟨(lI (gSum (rR S' x n) (gSon S' p) i).1, lI (gSum (rR S' x n) (gSon S' p) i).2, s1), ?_, by rw [gSum_F hs], by rw [gSum_F hs], I3, I4⟩
      simp (disch := omega) only [jl_0, jl_1, jl_2, jl_3, jl_4, jl_5, jl_6, jl_10, jl_11, jl_20, jl_26, jl_31, jl_32, jl_40, jl_41, jl_42, jl_43, jl_47, jl_48, jl_57, jl_81, jl_97, jl_99, jl_100, jl_102, jl_103, jl_124, jl_141, jl_564, jl_705, jl_999, jl_1000, jl_9999, jI_neg, cs1, jI_add, jI_sub, jI_mul, jI_neg, jI_lt, jI_le, jI_eq, gIf, gIe, gN_jI, tn_0, tn_1, tn_2, tn_3, tn_4, Int.toNat_natCast, Int.cast_ofNat_Int, if_pos, if_neg, Option.bind_some, eq_self, Bool.false_eq_true, reduceIte, f_X10_laySeries_8, e1, c2]) gFuel 0 (lI 0, lI 1, h) (by omega) (by unfold gFuel; omega) ⟨rfl, rfl, rfl, fun _ _ => rfl⟩
  try dsimp only at eo
  subst ho
  refine ⟨h', ?_, H1, H2⟩
  rw [show ((0 : Nat) : Int) = 0 from rfl, ← l0, ← l1, ← jl_0] at eo
  rw [f_X10_laySeries, eo, Option.bind_some, gIf (by omega) (by omega) (by omega), gIf (by omega) (by omega) (by omega), gN_jI (by omega) (by omega), Int.toNat_natCast]
  rfl
