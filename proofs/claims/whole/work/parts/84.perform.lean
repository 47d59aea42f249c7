/-! one command done, on both sides -/
/-- source or meter is set: the class -/
theorem cSt.f0 {h h' : gHp} {a n c : Nat} {S S' : gTb} (R : cSt h a n c S) (E : ∀ y, y ≠ a → h'.1 y = h.1 y ∧ h'.2 y = h.2 y) (e : ∀ f k, f ≠ 0 → S' f k = S f k) (e5 : h'.1 a 5 = jI (S' 0 1)) (e6 : h'.1 a 6 = jI (S' 0 2)) (e7 : h'.1 a 7 = jI (S' 0 3)) : cSt h' a n c S' := by
  obtain ⟨r1, r2, r3, r4, r5, r6, r7⟩ := R
  refine ⟨?_, ?_, ⟨?_, ?_⟩, ?_, e5, e6, e7⟩
  · obtain ⟨n1, n2, n3, n4, n5⟩ := r1.mv (h' := h') (fun y q1 q2 => E y (by omega))
    refine ⟨n1, ?_, ?_, ?_, ?_⟩
    · intro q hq; rw [e 4 q (by decide)]; exact n2 q hq
    · intro q hq; rw [e 5 q (by decide)]; exact n3 q hq
    · intro q hq; rw [e 6 q (by decide)]; exact n4 q hq
    · intro q hq; rw [e 3 q (by decide)]; exact n5 q hq
  · obtain ⟨n1, n2, n3, n4⟩ := r2.mv (h' := h') (fun y q1 q2 => E y (by omega))
    refine ⟨n1, ?_, ?_, ?_⟩
    · intro q hq; rw [e 9 q (by decide)]; exact n2 q hq
    · intro q hq; rw [e 10 q (by decide)]; exact n3 q hq
    · intro q hq; rw [e 11 q (by decide)]; exact n4 q hq
  · intro l hl h3; rw [e 3 l (by decide)] at h3; rw [(E _ (by omega)).1, e 1 l (by decide)]; exact r3.1 l hl h3
  · intro l hl h3; rw [e 3 l (by decide)] at h3; rw [(E _ (by omega)).1, e 2 l (by decide)]; exact r3.2 l hl h3
  · intro p hp; rw [(E _ (by omega)).1, e 8 p (by decide)]; exact r4 p hp
theorem mRow.f0 {r r' : Nat → Int64} {n c : Nat} {S S' : gTb} (R : mRow r n c S) (E : ∀ x, x ≠ 1 → x ≠ 2 → r' x = r x) (e : ∀ f k, f ≠ 0 → S' f k = S f k) (e1 : r' 1 = lI (S' 0 1)) (e2 : r' 2 = lI (S' 0 2)) (e3 : S' 0 3 = S 0 3) : mRow r' n c S' := by
  obtain ⟨⟨q0, q1, q2, q3, q4⟩, s1, s2, s3, s4⟩ := R
  refine ⟨⟨?_, e1, e2, ?_, ?_⟩, ?_, ?_, ?_, ?_⟩
  · rw [E 0 (by omega) (by omega)]; exact q0
  · rw [E 3 (by omega) (by omega), e3]; exact q3
  · rw [E 4 (by omega) (by omega)]; exact q4
  · intro l hl; rw [E _ (by omega) (by omega), e 3 l (by decide)]; exact s1 l hl
  · intro l hl h3
    rw [e 3 l (by decide)] at h3
    rw [E _ (by omega) (by omega), E _ (by omega) (by omega), e 1 l (by decide), e 2 l (by decide)]
    exact s2 l hl h3
  · intro q hq
    rw [E _ (by omega) (by omega), E _ (by omega) (by omega), E _ (by omega) (by omega), E _ (by omega) (by omega), E _ (by omega) (by omega), e 4 q (by decide), e 5 q (by decide), e 6 q (by decide), e 7 q (by decide), e 8 q (by decide)]
    exact s3 q hq
  · intro k hk
    rw [E _ (by omega) (by omega), E _ (by omega) (by omega), E _ (by omega) (by omega), e 9 k (by decide), e 10 k (by decide), e 11 k (by decide)]
    exact s4 k hk
theorem kOld_b {t n c : Nat} {S : gTb} (W : gWf t n c S) {A : Int} {l : Nat} (hA : 0 ≤ A ∧ A ≤ 5) (hl : A < 4 → l < 6 ∧ S 3 l ≠ 0) : 0 ≤ kOld S A l ∧ kOld S A l ≤ 999 := by
  have w1 := W.1
  unfold kOld
  by_cases c4 : A = 4
  · rw [if_pos c4]; omega
  by_cases c5 : A = 5
  · rw [if_neg c4, if_pos c5]; omega
  have q := hl (by omega)
  have lt := W.lt q.1 q.2
  rw [if_neg c4, if_neg c5]
  split <;> omega
theorem kDue_b {A v : Int} (hA : 0 ≤ A ∧ A ≤ 5) (hv : (A = 0 ∨ 4 ≤ A) → 1 ≤ v ∧ v ≤ (if A = 5 then 999 else 99)) : 0 ≤ kDue A v ∧ kDue A v ≤ 999 := by
  have : (A = 0 ∨ 4 ≤ A) → 1 ≤ v ∧ v ≤ 999 := fun w => by
    have q := hv w
    split at q <;> omega
  unfold kDue
  split
  · omega
  · split
    · omega
    · split
      · omega
      · exact ⟨by have := this (by omega); omega, (this (by omega)).2⟩
theorem u_isDoneIn {h : gHp} {a r t n c : Nat} {S : gTb} (R : cSt h a n c S) (W : gWf t n c S) {A v : Int} {l : Nat} (hA : 0 ≤ A ∧ A ≤ 5) (r0 : h.1 r 0 = jI A) (hl : A < 4 → l < 6 ∧ S 3 l ≠ 0) (r2 : A < 4 → h.1 r 2 = jI l) (hv : (A = 0 ∨ 4 ≤ A) → 1 ≤ v ∧ v ≤ (if A = 5 then 999 else 99)) (r1 : (A = 0 ∨ 4 ≤ A) → h.1 r 1 = jI v) : f_X1_isDoneIn r a h = some (decide (kOld S A l = kDue A v)) := by
  have B1 := kOld_b W hA hl
  have B2 := kDue_b hA hv
  have fin : ∀ u w : Int32, u = jI (kOld S A l) → w = jI (kDue A v) → (if u = w then some true else some false) = some (decide (kOld S A l = kDue A v)) := fun u w hu hw => by
    rw [hu, hw]
    by_cases e : kOld S A l = kDue A v
    · rw [decide_eq_true e, if_pos (by rw [e])]
    · rw [decide_eq_false e, if_neg (jne (by omega) (by omega) (by omega) (by omega) e)]
  have ne : ∀ j : Int, 0 ≤ j → j ≤ 5 → A ≠ j → ¬ h.1 r 0 = jI j := fun j j0 j5 w => by rw [r0]; exact jne (by omega) (by omega) (by omega) (by omega) w
  have eq : ∀ j : Int, A = j → h.1 r 0 = jI j := fun j w => by rw [r0, w]
  rw [f_X1_isDoneIn]
  have g6 : A < 4 → gIn (h.1 r 2) 6 ∧ gN (h.1 r 2) = l := fun w => by
    have := hl w
    rw [r2 w]
    exact ⟨jin (by omega) (by omega) (by omega), gNp (by omega)⟩
  have v10 : A < 4 → h.1 (a + 10) l = jI (S 1 l) ∧ h.1 (a + 11) l = jI (S 2 l) := fun w => ⟨R.2.2.1.1 l (hl w).1 (hl w).2, R.2.2.1.2 l (hl w).1 (hl w).2⟩
  by_cases c0 : A = 0
  · have g := g6 (by omega)
    refine gIT (eq 0 c0) (gIT g.1 ?_)
    rw [g.2]
    refine fin _ _ ?_ ?_
    · rw [(v10 (by omega)).1]; unfold kOld; rw [if_neg (by omega), if_neg (by omega), if_pos c0]
    · rw [r1 (Or.inl c0)]; unfold kDue; rw [if_neg (by omega), if_neg (by omega), if_neg (by omega)]
  refine gIF (ne 0 (by omega) (by omega) c0) ?_
  by_cases c1 : A = 1
  · have g := g6 (by omega)
    refine gIT (eq 1 c1) (gIT g.1 ?_)
    rw [g.2]
    refine fin _ _ ?_ ?_
    · rw [(v10 (by omega)).2]; unfold kOld; rw [if_neg (by omega), if_neg (by omega), if_neg (by omega)]
    · unfold kDue; rw [if_pos c1]; rfl
  refine gIF (ne 1 (by omega) (by omega) c1) ?_
  by_cases c2 : A = 2
  · have g := g6 (by omega)
    refine gIT (eq 2 c2) (gIT g.1 ?_)
    rw [g.2]
    refine fin _ _ ?_ ?_
    · rw [(v10 (by omega)).2]; unfold kOld; rw [if_neg (by omega), if_neg (by omega), if_neg (by omega)]
    · unfold kDue; rw [if_neg c1, if_pos c2]; rfl
  refine gIF (ne 2 (by omega) (by omega) c2) ?_
  by_cases c3 : A = 3
  · have g := g6 (by omega)
    refine gIT (eq 3 c3) (gIT g.1 ?_)
    rw [g.2]
    refine fin _ _ ?_ ?_
    · rw [(v10 (by omega)).2]; unfold kOld; rw [if_neg (by omega), if_neg (by omega), if_neg (by omega)]
    · unfold kDue; rw [if_neg c1, if_neg c2, if_pos c3]; rfl
  refine gIF (ne 3 (by omega) (by omega) c3) ?_
  by_cases c4 : A = 4
  · refine gIT (eq 4 c4) (fin _ _ ?_ ?_)
    · rw [R.2.2.2.2.1]; unfold kOld; rw [if_pos c4]
    · rw [r1 (Or.inr (by omega))]; unfold kDue; rw [if_neg c1, if_neg c2, if_neg c3]
  · refine gIF (ne 4 (by omega) (by omega) c4) (fin _ _ ?_ ?_)
    · rw [R.2.2.2.2.2.1]; unfold kOld; rw [if_neg c4, if_pos (by omega)]
    · rw [r1 (Or.inr (by omega))]; unfold kDue; rw [if_neg c1, if_neg c2, if_neg c3]
theorem u_changeIn {h : gHp} {a r t n c : Nat} {S : gTb} (R : cSt h a n c S) (W : gWf t n c S) {A v : Int} {l : Nat} (hA : 0 ≤ A ∧ A ≤ 5) (r0 : h.1 r 0 = jI A) (hl : A < 4 → l < 6 ∧ S 3 l ≠ 0) (r2 : A < 4 → h.1 r 2 = jI l) (r1 : (A = 0 ∨ 4 ≤ A) → h.1 r 1 = jI v) : ∃ h', f_X1_changeIn r a h = some h' ∧ cSt h' a n c (kNew S A l v) ∧ gFr a 13 h h' := by
  have ne : ∀ j : Int, 0 ≤ j → j ≤ 5 → A ≠ j → ¬ h.1 r 0 = jI j := fun j j0 j5 w => by rw [r0]; exact jne (by omega) (by omega) (by omega) (by omega) w
  have eq : ∀ j : Int, A = j → h.1 r 0 = jI j := fun j w => by rw [r0, w]
  rw [f_X1_changeIn]
  have g6 : A < 4 → gIn (h.1 r 2) 6 ∧ gN (h.1 r 2) = l := fun w => by
    have := hl w
    rw [r2 w]
    exact ⟨jin (by omega) (by omega) (by omega), gNp (by omega)⟩
  have v10 : A < 4 → h.1 (a + 10) l = jI (S 1 l) ∧ h.1 (a + 11) l = jI (S 2 l) := fun w => ⟨R.2.2.1.1 l (hl w).1 (hl w).2, R.2.2.1.2 l (hl w).1 (hl w).2⟩
  by_cases c4 : A < 4
  · have g := g6 c4
    have e := v10 c4
    by_cases c0 : A = 0
    · obtain ⟨h', q1, q2, q3⟩ := u_setArm R W (hl c4).1 v (S 2 l)
      refine ⟨h', ?_, ?_, q3⟩
      · refine gIT (eq 0 c0) (gIT g.1 (gBs ?_ rfl))
        rw [g.2, r2 c4, r1 (Or.inl c0), e.2]
        exact q1
      · rw [show kNew S A l v = gUl (gU (gU S 1 l v) 2 l (S 2 l)) by unfold kNew; rw [if_neg (by omega), if_neg (by omega), if_pos c0]]
        exact q2
    · obtain ⟨h', q1, q2, q3⟩ := u_setArm R W (hl c4).1 (S 1 l) (kDue A v)
      have en : kNew S A l v = gUl (gU (gU S 1 l (S 1 l)) 2 l (kDue A v)) := by unfold kNew; rw [if_neg (by omega), if_neg (by omega), if_neg c0]
      refine ⟨h', gIF (ne 0 (by omega) (by omega) c0) ?_, ?_, q3⟩
      · by_cases c1 : A = 1
        · refine gIT (eq 1 c1) (gIT g.1 (gBs ?_ rfl))
          rw [g.2, r2 c4, e.1]
          rw [show kDue A v = 1 by unfold kDue; rw [if_pos c1]] at q1
          exact q1
        refine gIF (ne 1 (by omega) (by omega) c1) ?_
        by_cases c2 : A = 2
        · refine gIT (eq 2 c2) (gIT g.1 (gBs ?_ rfl))
          rw [g.2, r2 c4, e.1]
          rw [show kDue A v = 2 by unfold kDue; rw [if_neg c1, if_pos c2]] at q1
          exact q1
        refine gIF (ne 2 (by omega) (by omega) c2) ?_
        have c3 : A = 3 := by omega
        refine gIT (eq 3 c3) (gIT g.1 (gBs ?_ rfl))
        rw [g.2, r2 c4, e.1]
        rw [show kDue A v = 0 by unfold kDue; rw [if_neg c1, if_neg c2, if_pos c3]] at q1
        exact q1
      · rw [en]; exact q2
  · refine (fun (w : ∃ h', (if h.1 r 0 = 4 then some (gsI h a 5 (h.1 r 1)) else some (gsI h a 6 (h.1 r 1))) = some h' ∧ cSt h' a n c (kNew S A l v) ∧ gFr a 13 h h') => ?_) ?_
    · obtain ⟨h', w1, w2⟩ := w
      exact ⟨h', gIF (ne 0 (by omega) (by omega) (by omega)) (gIF (ne 1 (by omega) (by omega) (by omega)) (gIF (ne 2 (by omega) (by omega) (by omega)) (gIF (ne 3 (by omega) (by omega) (by omega)) w1))), w2⟩
    · have rv := r1 (Or.inr (by omega))
      rw [rv]
      obtain ⟨r1', r2', r3', r4', r5, r6, r7⟩ := id R
      by_cases c5 : A = 4
      · refine ⟨_, gIT (eq 4 c5) rfl, ?_, fun y hy => ⟨rI_n (by omega), rfl⟩⟩
        rw [show kNew S A l v = gU S 0 1 v by unfold kNew; rw [if_pos c5]]
        refine R.f0 (fun y hy => ⟨rI_n hy, rfl⟩) (fun f k hf => gU_n hf) ?_ ?_ ?_
        · rw [rI_e, gU_eq]
        · rw [rI_k (by decide), gU_k (by decide)]; exact r6
        · rw [rI_k (by decide), gU_k (by decide)]; exact r7
      · refine ⟨_, gIF (ne 4 (by omega) (by omega) c5) rfl, ?_, fun y hy => ⟨rI_n (by omega), rfl⟩⟩
        rw [show kNew S A l v = gU S 0 2 v by unfold kNew; rw [if_neg c5, if_pos (by omega)]]
        refine R.f0 (fun y hy => ⟨rI_n hy, rfl⟩) (fun f k hf => gU_n hf) ?_ ?_ ?_
        · rw [rI_k (by decide), gU_k (by decide)]; exact r5
        · rw [rI_e, gU_eq]
        · rw [rI_k (by decide), gU_k (by decide)]; exact r7
def gCl (A : Int) (l : Nat) : Nat := if A = 4 then 1 else if A = 5 then 2 else if A = 0 then 8 + 3 * l else 8 + 3 * l + 1
theorem m_change {h : gHp} {m t n c : Nat} {S : gTb} (R : mRow (h.2 (m + 1)) n c S) (W : gWf t n c S) {A v : Int} {l : Nat} (hA : 0 ≤ A ∧ A ≤ 5) (r0 : h.1 m 14 = jI A) (hl : A < 4 → l < 6 ∧ S 3 l ≠ 0) : ∃ h', (if (4 : Int32) ≤ (gsL h (m + 1) (gCl A l) (lI (kDue A v))).1 m 14 then some ((1 : Int32), gsL h (m + 1) (gCl A l) (lI (kDue A v))) else (f_X10_unfoldAll m (gsL h (m + 1) (gCl A l) (lI (kDue A v)))).bind fun v14 => some (1, v14)) = some (1, h') ∧ h'.1 = h.1 ∧ (∀ y, y ≠ m + 1 → h'.2 y = h.2 y) ∧ mRow (h'.2 (m + 1)) n c (kNew S A l v) := by
  have e14 : (gsL h (m + 1) (gCl A l) (lI (kDue A v))).1 m 14 = jI A := r0
  by_cases c4 : A < 4
  · have hl' := hl c4
    have gc : gCl A l = if A = 0 then 8 + 3 * l else 8 + 3 * l + 1 := by unfold gCl; rw [if_neg (by omega), if_neg (by omega)]
    have gb : gCl A l = 8 + 3 * l ∨ gCl A l = 8 + 3 * l + 1 := by rw [gc]; split <;> omega
    have hn := W.n
    obtain ⟨h', q1, q2, q3, q4, q5⟩ := m_unfoldAll (h := gsL h (m + 1) (gCl A l) (lI (kDue A v))) (m := m) (n := n) (c := c) (S := S) hn (fun p hp => W.kd hp) (by rw [rL_k (by omega)]; exact R.1.1) (fun p hp => by rw [rL_k (by omega)]; exact (R.2.2.2.1 p hp).1)
    refine ⟨h', gIF (by rw [e14]; exact jnle (a := 4) (by omega) (by omega) (by omega) (by omega) (by omega)) (gBs q1 rfl), q2, fun y hy => (q3 y hy).trans (rL_n hy), ?_⟩
    have e8 : ∀ S' : gTb, (∀ p, S' 4 p = S 4 p) → ∀ p, p < n → h'.2 (m + 1) (26 + 5 * p + 4) = lI (gUl S' 8 p) := fun S' e4 p hp => by rw [q5 p hp, gUl_8, e4]
    by_cases c0 : A = 0
    · have ek : kNew S A l v = gUl (gU (gU S 1 l v) 2 l (S 2 l)) := by unfold kNew; rw [if_neg (by omega), if_neg (by omega), if_pos c0]
      have ed : kDue A v = v := by unfold kDue; rw [if_neg (by omega), if_neg (by omega), if_neg (by omega)]
      rw [if_pos c0] at gc
      rw [ek]
      refine R.af hn W.c (fun x x1 x2 => by rw [q4 x x1]; exact rL_k (by have := x2 l hl'.1; omega)) (fun f k f1 f2 f8 => by rw [gUl_f f8, gU_n f2, gU_n f1]) (fun j hj j3 => ?_) (e8 _ (fun p => by rw [gU_n (by decide), gU_n (by decide)]))
      rw [q4 _ (fun p _ => by omega), q4 _ (fun p _ => by omega), gUl_f (by decide), gUl_f (by decide), gU_n (by decide)]
      have s := R.2.2.1 j hj j3
      by_cases ej : j = l
      · subst ej
        rw [gc, rL_e, rL_k (by omega), gU_eq, gU_eq, ed]
        exact ⟨rfl, s.2⟩
      · rw [rL_k (by omega), rL_k (by omega), gU_k ej, gU_k ej, gU_n (by decide)]
        exact s
    · have ek : kNew S A l v = gUl (gU (gU S 1 l (S 1 l)) 2 l (kDue A v)) := by unfold kNew; rw [if_neg (by omega), if_neg (by omega), if_neg c0]
      rw [if_neg c0] at gc
      rw [ek]
      refine R.af hn W.c (fun x x1 x2 => by rw [q4 x x1]; exact rL_k (by have := x2 l hl'.1; omega)) (fun f k f1 f2 f8 => by rw [gUl_f f8, gU_n f2, gU_n f1]) (fun j hj j3 => ?_) (e8 _ (fun p => by rw [gU_n (by decide), gU_n (by decide)]))
      rw [q4 _ (fun p _ => by omega), q4 _ (fun p _ => by omega), gUl_f (by decide), gUl_f (by decide), gU_n (by decide)]
      have s := R.2.2.1 j hj j3
      by_cases ej : j = l
      · subst ej
        rw [gc, rL_k (by omega), rL_e, gU_eq, gU_eq]
        exact ⟨s.1, rfl⟩
      · rw [rL_k (by omega), rL_k (by omega), gU_k ej, gU_k ej, gU_n (by decide)]
        exact s
  · refine ⟨_, gIT (by rw [e14]; exact jle (a := 4) (by omega) (by omega) (by omega) (by omega) (by omega)) rfl, rfl, fun y hy => rL_n hy, ?_⟩
    have ed : kDue A v = v := by unfold kDue; rw [if_neg (by omega), if_neg (by omega), if_neg (by omega)]
    by_cases c5 : A = 4
    · have gc : gCl A l = 1 := by unfold gCl; rw [if_pos c5]
      rw [show kNew S A l v = gU S 0 1 v by unfold kNew; rw [if_pos c5], gc, ed]
      refine R.f0 (fun x x1 x2 => rL_k x1) (fun f k hf => gU_n hf) ?_ ?_ (gU_k (by decide))
      · rw [rL_e, gU_eq]
      · rw [rL_k (by decide), gU_k (by decide)]; exact R.1.2.2.1
    · have gc : gCl A l = 2 := by unfold gCl; rw [if_neg c5, if_pos (by omega)]
      rw [show kNew S A l v = gU S 0 2 v by unfold kNew; rw [if_neg c5, if_pos (by omega)], gc, ed]
      refine R.f0 (fun x x1 x2 => rL_k x2) (fun f k hf => gU_n hf) ?_ ?_ (gU_k (by decide))
      · rw [rL_k (by decide), gU_k (by decide)]; exact R.1.2.1
      · rw [rL_e, gU_eq]
