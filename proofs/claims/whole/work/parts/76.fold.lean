/-! folding -/
def gFd (S : gTb) (p : Nat) : gTb := gU (gU S 8 p 1) 0 3 (S 0 3 + 1)
theorem gFd_o {S : gTb} {p f k : Nat} (h1 : ¬ (f = 0 ∧ k = 3)) (h2 : ¬ (f = 8 ∧ k = p)) : gFd S p f k = S f k := by
  unfold gFd
  rw [gU_ne2 (by omega), gU_ne2 (by omega)]
theorem gFd_f {S : gTb} {p f k : Nat} (h0 : f ≠ 0) (h8 : f ≠ 8) : gFd S p f k = S f k := gFd_o (by omega) (by omega)
theorem gFd_3 (S : gTb) (p : Nat) : gFd S p 0 3 = S 0 3 + 1 := gU_eq _ _ _ _
theorem gFd_8 (S : gTb) (p : Nat) : gFd S p 8 p = 1 := by
  unfold gFd
  rw [gU_ne2 (by omega), gU_eq]
/-- what a state keeps when only what is folded, counts of folds, source and meter change -/
theorem gWf.ch {t n c : Nat} {S S' : gTb} (W : gWf t n c S) (h1 : 1 ≤ S' 0 1 ∧ S' 0 1 ≤ 99 ∧ 1 ≤ S' 0 2 ∧ S' 0 2 ≤ 999 ∧ 0 ≤ S' 0 3 ∧ S' 0 3 ≤ 11 * t) (h2 : ∀ f k, f ≠ 0 → f ≠ 8 → S' f k = S f k) (h8 : ∀ p : Nat, p < n → S' 8 p = 0 ∨ S' 8 p = 1) : gWf t n c S' := by
  obtain ⟨⟨a1, a2, _⟩, b1, b2, b3, b4, b5, b6, b7, b8, b9, b10, b11⟩ := W
  refine ⟨⟨a1, a2, h1⟩, ?_, ?_, ?_, ?_, ?_, ?_, ?_, ?_, ?_, h8, ?_⟩
  · intro p hp; rw [h2 4 p (by decide) (by decide)]; exact b1 p hp
  · intro p hp; rw [h2 5 p (by decide) (by decide)]; exact b2 p hp
  · intro p hp; rw [h2 5 p (by decide) (by decide)]; exact b3 p hp
  · intro p hp h4
    rw [h2 4 p (by decide) (by decide)] at h4
    obtain ⟨l, q1, q2, q3⟩ := b4 p hp h4
    exact ⟨l, q1, by rw [h2 6 p (by decide) (by decide)]; exact q2, by rw [h2 3 l (by decide) (by decide)]; exact q3⟩
  · intro p hp h4
    rw [h2 4 p (by decide) (by decide)] at h4
    obtain ⟨q1, q, q2, q3⟩ := b5 p hp h4
    exact ⟨by rw [h2 6 p (by decide) (by decide)]; exact q1, q, q2, by rw [h2 5 q (by decide) (by decide)]; exact q3⟩
  · intro p q hp hq h5
    rw [h2 5 q (by decide) (by decide)] at h5
    rw [h2 4 p (by decide) (by decide)]
    exact b6 p q hp hq h5
  · intro p hp
    rw [h2 7 p (by decide) (by decide), b7 p hp]
    congr 1
    exact gCnt_congr fun q hq => by rw [h2 5 q (by decide) (by decide)]
  · intro l hl; rw [h2 3 l (by decide) (by decide)]; exact b8 l hl
  · intro l hl h3
    rw [h2 3 l (by decide) (by decide)] at h3 ⊢
    rw [h2 4 _ (by decide) (by decide), h2 6 _ (by decide) (by decide), h2 1 l (by decide) (by decide), h2 2 l (by decide) (by decide)]
    exact b9 l hl h3
  · intro k hk; rw [h2 11 k (by decide) (by decide)]; exact b11 k hk
theorem gFd_w {t n c : Nat} {S : gTb} (W : gWf t n c S) (h : S 0 3 + 1 ≤ 11 * t) {p : Nat} (hp : p < n) : gWf t n c (gFd S p) := by
  have w1 := W.1
  refine W.ch ?_ (fun f k h0 h8 => gFd_f h0 h8) (fun q hq => ?_)
  · rw [gFd_o (f := 0) (k := 1) (by omega) (by omega), gFd_o (f := 0) (k := 2) (by omega) (by omega), gFd_3]
    omega
  · by_cases e : q = p
    · subst e; right; exact gFd_8 S q
    · rw [gFd_o (by omega) (by omega)]; exact W.fo hq
theorem u_foldOne {h : gHp} {a t n c : Nat} {S : gTb} (R : cSt h a n c S) (W : gWf t n c S) {p : Nat} (hp : p < n) : ∃ h', f_X8_foldOne a (jI p) h = some h' ∧ cSt h' a n c (gFd S p) ∧ gFr a 13 h h' := by
  have hn := W.n
  obtain ⟨r1, r2, r3, r4, r5, r6, r7⟩ := R
  have e7 : (gsI h (a + 12) p (vp_nar .boolean 1)).1 a 7 + 1 = jI (S 0 3 + 1) := by rw [rI_n (by omega), r7, jl_1, jI_add]
  have E : ∀ y, y ≠ a → y ≠ a + 12 → (gsI (gsI h (a + 12) p (vp_nar .boolean 1)) a 7 (jI (S 0 3 + 1))).1 y = h.1 y ∧ (gsI (gsI h (a + 12) p (vp_nar .boolean 1)) a 7 (jI (S 0 3 + 1))).2 y = h.2 y := fun y h1 h2 => ⟨by rw [rI_n h1, rI_n h2], rfl⟩
  have fs : ∀ f k, f ≠ 0 → f ≠ 8 → gFd S p f k = S f k := fun f k h0 h8 => gFd_f h0 h8
  refine ⟨gsI (gsI h (a + 12) p (vp_nar .boolean 1)) a 7 (jI (S 0 3 + 1)), ?_, ⟨?_, ?_, ?_, ?_, ?_, ?_, ?_⟩, (gFr.rf.I (by omega) (by omega)).I (by omega) (by omega)⟩
  · rw [f_X8_foldOne, gNp (by omega), e7]
    exact gIT (jin (by omega) (by omega) (by omega)) rfl
  · have := r1.mv (h' := gsI (gsI h (a + 12) p (vp_nar .boolean 1)) a 7 (jI (S 0 3 + 1))) (fun y q1 q2 => E y (by omega) (by omega))
    obtain ⟨n1, n2, n3, n4, n5⟩ := this
    refine ⟨n1, ?_, ?_, ?_, ?_⟩
    · intro q hq; rw [fs 4 q (by decide) (by decide)]; exact n2 q hq
    · intro q hq; rw [fs 5 q (by decide) (by decide)]; exact n3 q hq
    · intro q hq; rw [fs 6 q (by decide) (by decide)]; exact n4 q hq
    · intro q hq; rw [fs 3 q (by decide) (by decide)]; exact n5 q hq
  · have := r2.mv (h' := gsI (gsI h (a + 12) p (vp_nar .boolean 1)) a 7 (jI (S 0 3 + 1))) (fun y q1 q2 => E y (by omega) (by omega))
    obtain ⟨n1, n2, n3, n4⟩ := this
    refine ⟨n1, ?_, ?_, ?_⟩
    · intro q hq; rw [fs 9 q (by decide) (by decide)]; exact n2 q hq
    · intro q hq; rw [fs 10 q (by decide) (by decide)]; exact n3 q hq
    · intro q hq; rw [fs 11 q (by decide) (by decide)]; exact n4 q hq
  · have := r3.mv (h' := gsI (gsI h (a + 12) p (vp_nar .boolean 1)) a 7 (jI (S 0 3 + 1))) (fun y q1 q2 => E y (by omega) (by omega))
    refine ⟨?_, ?_⟩
    · intro l hl h3
      rw [fs 3 l (by decide) (by decide)] at h3
      rw [fs 1 l (by decide) (by decide)]; exact this.1 l hl h3
    · intro l hl h3
      rw [fs 3 l (by decide) (by decide)] at h3
      rw [fs 2 l (by decide) (by decide)]; exact this.2 l hl h3
  · intro q hq
    rw [rI_n (by omega)]
    by_cases e : q = p
    · subst e
      rw [rI_e, gFd_8]
      exact nar_b (z := 1) (Or.inr rfl)
    · rw [rI_k e, gFd_o (by omega) (by omega)]
      exact r4 q hq
  · rw [rI_k (by decide), rI_n (by omega), gFd_o (by omega) (by omega)]; exact r5
  · rw [rI_k (by decide), rI_n (by omega), gFd_o (by omega) (by omega)]; exact r6
  · rw [rI_e, gFd_3]
theorem m_folds {h : gHp} {m t n c : Nat} {S : gTb} (R : mRow (h.2 (m + 1)) n c S) (W : gWf t n c S) {p : Nat} (hp : p < n) : ∃ h', f_X10_folds m (jI p) h = some h' ∧ mRow (h'.2 (m + 1)) n c (gFd S p) ∧ h'.1 = h.1 ∧ ∀ y, y ≠ m + 1 → h'.2 y = h.2 y := by
  have hn := W.n
  have hc := W.c
  have ex : (26 : Int32) + 5 * jI p + 4 = jI ((26 + 5 * p + 4 : Nat) : Int) := by
    rw [jl_26, jl_5, jl_4, jI_mul, jI_add, jI_add]
    congr 1
  have e3 : (gsL h (m + 1) (26 + 5 * p + 4) 1).2 (m + 1) 3 + 1 = lI (S 0 3 + 1) := by
    rw [rL_k (by omega), R.1.2.2.2.1, l1, lI_add]
  refine ⟨gsL (gsL h (m + 1) (26 + 5 * p + 4) 1) (m + 1) 3 (lI (S 0 3 + 1)), ?_, ?_, rfl, fun y hy => by rw [rL_n hy, rL_n hy]⟩
  · rw [f_X10_folds, ex, gNp (by omega), show gN 3 = 3 from rfl, e3]
    exact gIT (jin (by omega) (by omega) (by omega)) (gIT (jin (z := 3) (by omega) (by omega) (by omega)) (gIT (jin (z := 3) (by omega) (by omega) (by omega)) rfl))
  · have F : ∀ x, x ≠ 3 → x ≠ 26 + 5 * p + 4 → (gsL (gsL h (m + 1) (26 + 5 * p + 4) 1) (m + 1) 3 (lI (S 0 3 + 1))).2 (m + 1) x = h.2 (m + 1) x := fun x h1 h2 => by rw [rL_k h1, rL_k h2]
    have fs : ∀ f k, f ≠ 0 → f ≠ 8 → gFd S p f k = S f k := fun f k h0 h8 => gFd_f h0 h8
    obtain ⟨⟨q0, q1, q2, q3, q4⟩, s1, s2, s3, s4⟩ := R
    refine ⟨⟨?_, ?_, ?_, ?_, ?_⟩, ?_, ?_, ?_, ?_⟩
    · rw [F 0 (by omega) (by omega)]; exact q0
    · rw [F 1 (by omega) (by omega), gFd_o (by omega) (by omega)]; exact q1
    · rw [F 2 (by omega) (by omega), gFd_o (by omega) (by omega)]; exact q2
    · rw [rL_e, gFd_3]
    · rw [F 4 (by omega) (by omega)]; exact q4
    · intro l hl; rw [F _ (by omega) (by omega), fs 3 l (by decide) (by decide)]; exact s1 l hl
    · intro l hl h3
      rw [fs 3 l (by decide) (by decide)] at h3
      rw [F _ (by omega) (by omega), F _ (by omega) (by omega), fs 1 l (by decide) (by decide), fs 2 l (by decide) (by decide)]
      exact s2 l hl h3
    · intro q hq
      have s := s3 q hq
      rw [F _ (by omega) (by omega), F _ (by omega) (by omega), F _ (by omega) (by omega), F _ (by omega) (by omega), fs 4 q (by decide) (by decide), fs 5 q (by decide) (by decide), fs 6 q (by decide) (by decide), fs 7 q (by decide) (by decide)]
      refine ⟨s.1, s.2.1, s.2.2.1, s.2.2.2.1, ?_⟩
      by_cases e : q = p
      · subst e
        rw [rL_k (by omega), rL_e, gFd_8]
        rfl
      · rw [F _ (by omega) (by omega), gFd_o (by omega) (by omega)]
        exact s.2.2.2.2
    · intro k hk
      rw [F _ (by omega) (by omega), F _ (by omega) (by omega), F _ (by omega) (by omega), fs 9 k (by decide) (by decide), fs 10 k (by decide) (by decide), fs 11 k (by decide) (by decide)]
      exact s4 k hk
/-- an act: the class's state is replaced, with one more in the history -/
theorem cI.act {b t : Nat} {h h1 h2 : gHp} {tx : Nat × (Nat → Int32)} {A B : gA3} {H : Nat × (Nat → gA3)} {X : Bool × gA3} (C : cI b h (tx, A, H, X)) (G1 : gFr (b + 42) 67 h h1) (H1 : cHi h1 (b + 42) (gRec H A)) (G2 : gFr (b + 3) 13 h1 h2) (R : cSt h2 (b + 3) B.1 B.2.1 B.2.2) : cI b h2 (tx, B, gRec H A, X) := by
  have E : ∀ y, (y < b + 3 ∨ b + 16 ≤ y) → (y < b + 42 ∨ b + 109 ≤ y) → h2.1 y = h.1 y ∧ h2.2 y = h.2 y := fun y q1 q2 => ⟨(G2 y (by omega)).1.trans (G1 y (by omega)).1, (G2 y (by omega)).2.trans (G1 y (by omega)).2⟩
  refine ⟨C.1.mv (fun y q1 q2 => E y (by omega) (by omega)), R, H1.mv (G2.sa (by omega)), ⟨?_, fun e => (C.2.2.2.2 e).mv (fun y q1 q2 => E y (by omega) (by omega))⟩⟩
  rw [(E b (by omega) (by omega)).1]; exact C.2.2.2.1
theorem mI.act {m : Nat} {h h1 h2 : gHp} {tx : Nat × (Nat → Int32)} {A B : gA3} {H : Nat × (Nat → gA3)} {X : Bool × gA3} (M : mI m h (tx, A, H, X)) (F1 : mFh m h h1) (H1 : mHi h1 m (gRec H A)) (E1 : h2.1 = h1.1) (E2 : ∀ y, y ≠ m + 1 → h2.2 y = h1.2 y) (R : mRow (h2.2 (m + 1)) B.1 B.2.1 B.2.2) : mI m h2 (tx, B, gRec H A, X) := by
  refine ⟨⟨?_, ?_⟩, R, ⟨?_, fun i hi => ?_⟩, ⟨?_, fun e => ?_⟩⟩
  · rw [E1, F1.2.2.2 5 (by omega)]; exact M.1.1
  · rw [E1, (F1.1 _ (by omega) (by omega)).1]; exact M.1.2
  · rw [E1]; exact H1.1
  · rw [E2 _ (by omega)]; exact H1.2 i hi
  · rw [E1, F1.2.2.2 4 (by omega)]; exact M.2.2.2.1
  · rw [E2 _ (by omega), (F1.1 _ (by omega) (by omega)).2]; exact M.2.2.2.2 e
theorem mI.actF {m : Nat} {h h1 h2 : gHp} (F1 : mFh m h h1) (E1 : h2.1 = h1.1) (E2 : ∀ y, y ≠ m + 1 → h2.2 y = h1.2 y) : gFr m 13 h h2 := fun y hy => ⟨(by rw [E1]; exact (F1.1 y (by omega) (by omega)).1), (E2 y (by omega)).trans (F1.1 y (by omega) (by omega)).2⟩
theorem wI.act {t : Nat} {tx : Nat × (Nat → Int32)} {A B : gA3} {H : Nat × (Nat → gA3)} {X : Bool × gA3} (W : wI t (tx, A, H, X)) (w : wA (t + 1) B) : wI (t + 1) (tx, B, gRec H A, X) := by
  have gw := gRec_w W.2.2.1 W.2.2.2.1 (X := A) W.2.1
  exact ⟨W.1, w, gw.1, fun i hi => (gw.2 i hi).mono (by omega), fun e => (W.2.2.2.2 e).mono (by omega)⟩
theorem s_fold (b m t : Nat) (x1 : Int32) : gOK b m t (f_X9_fold b x1) (f_X10_fold m x1) := by
  rintro ⟨tx, ⟨n, c, S⟩, H, X⟩ h C W
  have R : cSt h (b + 3) n c S := C.2.1
  have Wf : gWf t n c S := W.2.1
  have hn := Wf.n
  obtain ⟨z1, rfl, a1, a2⟩ := jI_ex x1
  have eh := u_hasPart R.1 hn a1 a2
  by_cases hz : 0 ≤ z1 ∧ z1 < n
  · rw [decide_eq_true hz] at eh
    obtain ⟨p, rfl⟩ : ∃ p : Nat, z1 = p := ⟨z1.toNat, by omega⟩
    have hp : p < n := by omega
    have fo := Wf.fo hp
    have gp : gIn (jI p) 11 := jin (by omega) (by omega) (by omega)
    have ef := u_hasFolded R Wf hp
    have R8 : h.1 (b + 3 + 12) p = jI (S 8 p) := R.2.2.2.1 p hp
    rcases hm : gMay S p with _ | _
    · rw [hm] at ef
      refine ⟨-3, h, _, gBs eh (gIT rfl (gBs ef (gIF Bool.false_ne_true rfl))), C, W.up (by omega), gFr.rf, fun h2 M => ⟨h2, ?_, M, gFr.rf⟩⟩
      have e1 := m_noPartT (h := h2) (m := m) M.2.1 hn hp
      have e2 := m_mayFold (h := h2) (m := m) M.2.1 Wf hp
      have e2' : f_X10_mayFold m (jI p) h2 = some false := by rw [e2]; exact congrArg some hm
      exact gBs e1 (gIF Bool.false_ne_true (gBs e2' (gIF Bool.false_ne_true rfl)))
    · rw [hm] at ef
      by_cases c8 : S 8 p = 0
      · obtain ⟨v2, q1, H1, G1⟩ := u_record (a := b + 42) (s := b + 3) C.2.2.1 W.2.2.1 R Wf (by omega)
        obtain ⟨v3, q2, R3, G2⟩ := u_foldOne (R.mv (G1.sa (by omega))) Wf hp
        have w3 : S 0 3 ≤ 11 * t := by have := Wf.1; omega
        have Wf2 := gFd_w (Wf.mono (t' := t + 1) (by omega)) (by omega) hp
        have q3 := u_countUnfolded R3 Wf2
        refine ⟨jI (gCnt (fun q => decide (gFd S p 8 q = 0)) n), v3, (tx, (n, c, gFd S p), gRec H (n, c, S), X), ?_, C.act (t := t) G1 H1 G2 R3, W.act Wf2, (G1.mono (by omega) (by omega)).tr (G2.mono (by omega) (by omega)), fun h2 M => ?_⟩
        · rw [f_X9_fold, gNp (by omega)]
          exact gBs eh (gIT rfl (gBs ef (gIT rfl (gIT gp (gIT (by rw [R8, c8]; rfl) (gBs q1 (gBs q2 (gBs q3 rfl))))))))
        · have M1 : mRow (h2.2 (m + 1)) n c S := M.2.1
          have e1 := m_noPartT M1 hn hp
          have e2 := m_mayFold M1 Wf hp
          rw [hm] at e2
          have e3 := m_isFolded M1 Wf hp
          rw [decide_eq_false (by omega)] at e3
          obtain ⟨u2, k1, H2, F2⟩ := m_record M.2.2.1 W.2.2.1 W.2.2.2.1 M1 Wf
          obtain ⟨u3, k2, R4, E1, E2⟩ := m_folds (h := u2) (by rw [(F2.1 (m + 1) (by omega) (by omega)).2]; exact M1) Wf hp
          have k3 := m_open R4 Wf2
          exact ⟨u3, gBs e1 (gIF Bool.false_ne_true (gBs e2 (gIT rfl (gBs e3 (gIF Bool.false_ne_true (gBs k1 (gBs k2 (gBs k3 rfl)))))))), M.act F2 H2 E1 E2 R4, mI.actF F2 E1 E2⟩
      · refine ⟨-4, h, _, ?_, C, W.up (by omega), gFr.rf, fun h2 M => ⟨h2, ?_, M, gFr.rf⟩⟩
        · rw [f_X9_fold, gNp (by omega)]
          exact gBs eh (gIT rfl (gBs ef (gIT rfl (gIT gp (gIF (by rw [R8]; exact jne (b := 0) (by omega) (by omega) (by omega) (by omega) c8) rfl)))))
        · have M1 : mRow (h2.2 (m + 1)) n c S := M.2.1
          have e1 := m_noPartT M1 hn hp
          have e2 := m_mayFold M1 Wf hp
          rw [hm] at e2
          have e3 := m_isFolded M1 Wf hp
          rw [decide_eq_true (by omega)] at e3
          exact gBs e1 (gIF Bool.false_ne_true (gBs e2 (gIT rfl (gBs e3 (gIT rfl rfl)))))
  · rw [decide_eq_false hz] at eh
    refine ⟨-1, h, _, gBs eh (gIF Bool.false_ne_true rfl), C, W.up (by omega), gFr.rf, fun h2 M => ⟨h2, ?_, M, gFr.rf⟩⟩
    have e2 := m_noPart (h := h2) (m := m) M.2.1 hn a1 a2
    rw [decide_eq_false hz] at e2
    exact gBs e2 (gIT rfl rfl)
