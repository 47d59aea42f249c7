/-! commands are done -/
def gUl (S : gTb) : gTb := fun f p => if f = 8 then (if S 4 p = 0 then 1 else 0) else S f p
theorem gUl_f {S : gTb} {f k : Nat} (h : f ≠ 8) : gUl S f k = S f k := if_neg h
theorem gUl_8 (S : gTb) (k : Nat) : gUl S 8 k = if S 4 k = 0 then 1 else 0 := if_pos rfl
theorem gUl_w {t n c : Nat} {S : gTb} (W : gWf t n c S) : gWf t n c (gUl S) := by
  have w1 := W.1
  refine W.ch ?_ (fun f k h0 h8 => gUl_f h8) (fun q hq => ?_)
  · rw [gUl_f (by decide), gUl_f (by decide), gUl_f (by decide)]; omega
  · rw [gUl_8]
    split
    · exact Or.inr rfl
    · exact Or.inl rfl
theorem gWf.ar2 {t n c : Nat} {S S' : gTb} (W : gWf t n c S) (e : ∀ f k, f ≠ 1 → f ≠ 2 → S' f k = S f k) (h9 : ∀ l : Nat, l < 6 → S 3 l ≠ 0 → 1 ≤ S' 1 l ∧ S' 1 l ≤ 99 ∧ 0 ≤ S' 2 l ∧ S' 2 l ≤ 2) : gWf t n c S' := by
  obtain ⟨a, b1, b2, b3, b4, b5, b6, b7, b8, b9, b10, b11⟩ := W
  refine ⟨?_, ?_, ?_, ?_, ?_, ?_, ?_, ?_, ?_, ?_, ?_, ?_⟩
  · rw [e 0 1 (by decide) (by decide), e 0 2 (by decide) (by decide), e 0 3 (by decide) (by decide)]; exact a
  · intro p hp; rw [e 4 p (by decide) (by decide)]; exact b1 p hp
  · intro p hp; rw [e 5 p (by decide) (by decide)]; exact b2 p hp
  · intro p hp; rw [e 5 p (by decide) (by decide)]; exact b3 p hp
  · intro p hp h4
    rw [e 4 p (by decide) (by decide)] at h4
    obtain ⟨l', q1, q2, q3⟩ := b4 p hp h4
    exact ⟨l', q1, by rw [e 6 p (by decide) (by decide)]; exact q2, by rw [e 3 l' (by decide) (by decide)]; exact q3⟩
  · intro p hp h4
    rw [e 4 p (by decide) (by decide)] at h4
    obtain ⟨q1, q, q2, q3⟩ := b5 p hp h4
    exact ⟨by rw [e 6 p (by decide) (by decide)]; exact q1, q, q2, by rw [e 5 q (by decide) (by decide)]; exact q3⟩
  · intro p q hp hq h5
    rw [e 5 q (by decide) (by decide)] at h5
    rw [e 4 p (by decide) (by decide)]
    exact b6 p q hp hq h5
  · intro p hp
    rw [e 7 p (by decide) (by decide), b7 p hp]
    have : gCnt (fun q => decide (S 5 q = (p : Int))) p = gCnt (fun q => decide (S' 5 q = (p : Int))) p := gCnt_congr fun q hq => by rw [e 5 q (by decide) (by decide)]
    rw [this]
  · intro l' hl; rw [e 3 l' (by decide) (by decide)]; exact b8 l' hl
  · intro l' hl h3
    rw [e 3 l' (by decide) (by decide)] at h3 ⊢
    rw [e 4 _ (by decide) (by decide), e 6 _ (by decide) (by decide)]
    have q := b9 l' hl h3
    exact ⟨q.1, q.2.1, h9 l' hl h3⟩
  · intro p hp; rw [e 8 p (by decide) (by decide)]; exact b10 p hp
  · intro k hk; rw [e 11 k (by decide) (by decide)]; exact b11 k hk
/-- the class's state: arms and what is folded differ -/
theorem cSt.af {h h' : gHp} {a n c : Nat} {S S' : gTb} (R : cSt h a n c S) (E : ∀ y, y < a + 10 ∨ a + 13 ≤ y → h'.1 y = h.1 y ∧ h'.2 y = h.2 y) (e : ∀ f k, f ≠ 1 → f ≠ 2 → f ≠ 8 → S' f k = S f k) (hv : ∀ l : Nat, l < 6 → S 3 l ≠ 0 → h'.1 (a + 10) l = jI (S' 1 l)) (hs : ∀ l : Nat, l < 6 → S 3 l ≠ 0 → h'.1 (a + 11) l = jI (S' 2 l)) (hf : ∀ p : Nat, p < n → h'.1 (a + 12) p = jI (S' 8 p)) : cSt h' a n c S' := by
  obtain ⟨r1, r2, r3, r4, r5, r6, r7⟩ := R
  have e' : ∀ f k, f ≠ 1 ∧ f ≠ 2 ∧ f ≠ 8 → S' f k = S f k := fun f k w => e f k w.1 w.2.1 w.2.2
  refine ⟨?_, ?_, ⟨?_, ?_⟩, hf, ?_, ?_, ?_⟩
  · obtain ⟨n1, n2, n3, n4, n5⟩ := r1.mv (h' := h') (fun y q1 q2 => E y (by omega))
    refine ⟨n1, ?_, ?_, ?_, ?_⟩
    · intro q hq; rw [e' 4 q (by decide)]; exact n2 q hq
    · intro q hq; rw [e' 5 q (by decide)]; exact n3 q hq
    · intro q hq; rw [e' 6 q (by decide)]; exact n4 q hq
    · intro q hq; rw [e' 3 q (by decide)]; exact n5 q hq
  · obtain ⟨n1, n2, n3, n4⟩ := r2.mv (h' := h') (fun y q1 q2 => E y (by omega))
    refine ⟨n1, ?_, ?_, ?_⟩
    · intro q hq; rw [e' 9 q (by decide)]; exact n2 q hq
    · intro q hq; rw [e' 10 q (by decide)]; exact n3 q hq
    · intro q hq; rw [e' 11 q (by decide)]; exact n4 q hq
  · intro l hl h3; rw [e' 3 l (by decide)] at h3; exact hv l hl h3
  · intro l hl h3; rw [e' 3 l (by decide)] at h3; exact hs l hl h3
  · rw [(E a (by omega)).1, e' 0 1 (by decide)]; exact r5
  · rw [(E a (by omega)).1, e' 0 2 (by decide)]; exact r6
  · rw [(E a (by omega)).1, e' 0 3 (by decide)]; exact r7
theorem mRow.af {r r' : Nat → Int64} {n c : Nat} {S S' : gTb} (hn : n ≤ 11) (hc : c ≤ 20) (R : mRow r n c S) (E : ∀ x, (∀ p, p < n → x ≠ 26 + 5 * p + 4) → (∀ l, l < 6 → x ≠ 8 + 3 * l ∧ x ≠ 8 + 3 * l + 1) → r' x = r x) (e : ∀ f k, f ≠ 1 → f ≠ 2 → f ≠ 8 → S' f k = S f k) (ha : ∀ l : Nat, l < 6 → S 3 l ≠ 0 → r' (8 + 3 * l) = lI (S' 1 l) ∧ r' (8 + 3 * l + 1) = lI (S' 2 l)) (E8 : ∀ p, p < n → r' (26 + 5 * p + 4) = lI (S' 8 p)) : mRow r' n c S' := by
  have e' : ∀ f k, f ≠ 1 ∧ f ≠ 2 ∧ f ≠ 8 → S' f k = S f k := fun f k w => e f k w.1 w.2.1 w.2.2
  obtain ⟨⟨q0, q1, q2, q3, q4⟩, s1, s2, s3, s4⟩ := R
  refine ⟨⟨?_, ?_, ?_, ?_, ?_⟩, ?_, ?_, ?_, ?_⟩
  · rw [E 0 (fun p _ => by omega) (fun l _ => by omega)]; exact q0
  · rw [E 1 (fun p _ => by omega) (fun l _ => by omega), e' 0 1 (by decide)]; exact q1
  · rw [E 2 (fun p _ => by omega) (fun l _ => by omega), e' 0 2 (by decide)]; exact q2
  · rw [E 3 (fun p _ => by omega) (fun l _ => by omega), e' 0 3 (by decide)]; exact q3
  · rw [E 4 (fun p _ => by omega) (fun l _ => by omega)]; exact q4
  · intro l hl; rw [E _ (fun p _ => by omega) (fun l' _ => by omega), e' 3 l (by decide)]; exact s1 l hl
  · intro l hl h3
    rw [e' 3 l (by decide)] at h3
    exact ha l hl h3
  · intro q hq
    have s := s3 q hq
    rw [E _ (fun p _ => by omega) (fun l _ => by omega), E _ (fun p _ => by omega) (fun l _ => by omega), E _ (fun p _ => by omega) (fun l _ => by omega), E _ (fun p _ => by omega) (fun l _ => by omega), e' 4 q (by decide), e' 5 q (by decide), e' 6 q (by decide), e' 7 q (by decide)]
    exact ⟨s.1, s.2.1, s.2.2.1, s.2.2.2.1, E8 q hq⟩
  · intro k hk
    rw [E _ (fun p _ => by omega) (fun l _ => by omega), E _ (fun p _ => by omega) (fun l _ => by omega), E _ (fun p _ => by omega) (fun l _ => by omega), e' 9 k (by decide), e' 10 k (by decide), e' 11 k (by decide)]
    exact s4 k hk
theorem u_unfoldEach {h : gHp} {a t n c : Nat} {S : gTb} (R : cNet h (a + 1) n S) (W : n ≤ 11 ∧ ∀ p : Nat, p < n → 0 ≤ S 4 p ∧ S 4 p ≤ 2) : ∃ h', f_X8_unfoldEach a h = some h' ∧ gFr (a + 12) 1 h h' ∧ ∀ p : Nat, p < n → h'.1 (a + 12) p = jI (if S 4 p = 0 then 1 else 0) := by
  have hn := W.1
  obtain ⟨o, eo, o1, o2⟩ := gUp (fun k i s1 => f_X8_unfoldEach_2 a k (jI i) s1) n (fun i s1 => gFr (a + 12) 1 h s1 ∧ ∀ p : Nat, p < i → s1.1 (a + 12) p = jI (if S 4 p = 0 then 1 else 0)) (fun s1 => gFr (a + 12) 1 h s1 ∧ ∀ p : Nat, p < n → s1.1 (a + 12) p = jI (if S 4 p = 0 then 1 else 0)) (by
    intro k s1 hI
    refine ⟨s1, ?_, hI⟩
    rw [f_X8_unfoldEach_2, hI.1.i1 (by omega), R.1]
    exact gIT (jle (by omega) (by omega) (by omega) (by omega) (by omega)) rfl) (by
    intro k i s1 hi hI
    left
    obtain ⟨G, I⟩ := hI
    have kd := W.2 i hi
    have g11 : gIn (jI (i : Int)) 11 := jin (by omega) (by omega) (by omega)
    have ei : jI (i : Int) + 1 = jI ((i + 1 : Nat) : Int) := by rw [jl_1, jI_add]; rfl
    have g1 : ¬ s1.1 (a + 1) 4 ≤ jI i := by
      rw [G.i1 (by omega), R.1]
      exact jnle (by omega) (by omega) (by omega) (by omega) (by omega)
    have k4 : s1.1 (a + 1 + 1) i = jI (S 4 i) := by rw [G.i1 (by omega)]; exact R.2.1 i hi
    by_cases c0 : S 4 i = 0
    · refine ⟨gsI s1 (a + 12) i (vp_nar .boolean 1), ?_, G.I (by omega) (by omega), fun p hp => ?_⟩
      · rw [f_X8_unfoldEach_2, gNp (by omega), ei]
        exact gIF g1 (gIT g11 (gIT (by rw [k4, c0]; rfl) (gIT g11 rfl)))
      · by_cases e : p = i
        · subst e
          rw [rI_e, if_pos c0]
          exact nar_b (z := 1) (Or.inr rfl)
        · rw [rI_k e]; exact I p (by omega)
    · refine ⟨gsI s1 (a + 12) i (vp_nar .boolean 0), ?_, G.I (by omega) (by omega), fun p hp => ?_⟩
      · rw [f_X8_unfoldEach_2, gNp (by omega), ei]
        exact gIF g1 (gIT g11 (gIF (by rw [k4]; exact jne (b := 0) (by omega) (by omega) (by omega) (by omega) c0) (gIT g11 rfl)))
      · by_cases e : p = i
        · subst e
          rw [rI_e, if_neg c0]
          exact nar_b (z := 0) (Or.inl rfl)
        · rw [rI_k e]; exact I p (by omega)) gFuel 0 h (by omega) (by unfold gFuel; omega) ⟨gFr.rf, fun p hp => absurd hp (Nat.not_lt_zero p)⟩
  rw [show ((0 : Nat) : Int) = 0 from rfl, ← jl_0] at eo
  refine ⟨o, ?_, o1, o2⟩
  rw [f_X8_unfoldEach]
  exact gBs eo rfl
theorem u_setArm {h : gHp} {a t n c : Nat} {S : gTb} (R : cSt h a n c S) (W : gWf t n c S) {l : Nat} (hl : l < 6) (v st : Int) : ∃ h', f_X8_setArm a (jI l) (jI v) (jI st) h = some h' ∧ cSt h' a n c (gUl (gU (gU S 1 l v) 2 l st)) ∧ gFr a 13 h h' := by
  have g6 : gIn (jI (l : Int)) 6 := jin (by omega) (by omega) (by omega)
  obtain ⟨h1, hh1⟩ : ∃ h1, h1 = gsI (gsI h (a + 10) l (jI v)) (a + 11) l (jI st) := ⟨_, rfl⟩
  have E1 : ∀ y, y ≠ a + 10 → y ≠ a + 11 → h1.1 y = h.1 y ∧ h1.2 y = h.2 y := fun y q1 q2 => by
    rw [hh1]
    exact ⟨by rw [rI_n q2, rI_n q1], rfl⟩
  obtain ⟨h', q1, q2, q3⟩ := u_unfoldEach (h := h1) (a := a) (t := t) (c := c) (R.1.mv (fun y q1 q2 => E1 y (by omega) (by omega))) ⟨W.n, fun p hp => W.kd hp⟩
  have e4 : ∀ p, gU (gU S 1 l v) 2 l st 4 p = S 4 p := fun p => by rw [gU_n (by decide), gU_n (by decide)]
  refine ⟨h', ?_, R.af (fun y hy => ⟨(q2 y (by omega)).1.trans (E1 y (by omega) (by omega)).1, (q2 y (by omega)).2.trans (E1 y (by omega) (by omega)).2⟩) (fun f k h1 h2 h8 => by rw [gUl_f h8, gU_n h2, gU_n h1]) (fun j hj h3 => ?_) (fun j hj h3 => ?_) (fun p hp => ?_), fun y hy => ⟨(q2 y (by omega)).1.trans (E1 y (by omega) (by omega)).1, (q2 y (by omega)).2.trans (E1 y (by omega) (by omega)).2⟩⟩
  · rw [f_X8_setArm, gNp (by omega), ← hh1]
    exact gIT g6 (gIT g6 (gBs q1 rfl))
  · rw [q2.i1 (by omega), gUl_f (by decide), gU_n (by decide), hh1, rI_n (by omega)]
    by_cases e : j = l
    · subst e; rw [rI_e, gU_eq]
    · rw [rI_k e, gU_k e]; exact R.2.2.1.1 j hj h3
  · rw [q2.i1 (by omega), gUl_f (by decide), hh1]
    by_cases e : j = l
    · subst e; rw [rI_e, gU_eq]
    · rw [rI_k e, rI_n (by omega), gU_k e, gU_n (by decide)]; exact R.2.2.1.2 j hj h3
  · rw [q3 p hp, gUl_8, e4]
theorem m_unfoldAll {h : gHp} {m n c : Nat} {S : gTb} (hn : n ≤ 11) (hk : ∀ p : Nat, p < n → 0 ≤ S 4 p ∧ S 4 p ≤ 2) (r0 : h.2 (m + 1) 0 = lI n) (rk : ∀ p : Nat, p < n → h.2 (m + 1) (26 + 5 * p) = lI (S 4 p)) : ∃ h', f_X10_unfoldAll m h = some h' ∧ h'.1 = h.1 ∧ (∀ y, y ≠ m + 1 → h'.2 y = h.2 y) ∧ (∀ x, (∀ p, p < n → x ≠ 26 + 5 * p + 4) → h'.2 (m + 1) x = h.2 (m + 1) x) ∧ ∀ p, p < n → h'.2 (m + 1) (26 + 5 * p + 4) = lI (if S 4 p = 0 then 1 else 0) := by
  obtain ⟨o, eo, o1, o2, o3, o4⟩ := gUp (fun k i s1 => f_X10_unfoldAll_2 m k (jI i) s1) n (fun i s1 => s1.1 = h.1 ∧ (∀ y, y ≠ m + 1 → s1.2 y = h.2 y) ∧ (∀ x, (∀ p, p < n → x ≠ 26 + 5 * p + 4) → s1.2 (m + 1) x = h.2 (m + 1) x) ∧ ∀ p, p < i → s1.2 (m + 1) (26 + 5 * p + 4) = lI (if S 4 p = 0 then 1 else 0)) (fun s1 => s1.1 = h.1 ∧ (∀ y, y ≠ m + 1 → s1.2 y = h.2 y) ∧ (∀ x, (∀ p, p < n → x ≠ 26 + 5 * p + 4) → s1.2 (m + 1) x = h.2 (m + 1) x) ∧ ∀ p, p < n → s1.2 (m + 1) (26 + 5 * p + 4) = lI (if S 4 p = 0 then 1 else 0)) (by
    intro k s1 hI
    refine ⟨s1, ?_, hI⟩
    have ep : f_X10_parts m s1 = some (jI n) := by
      rw [f_X10_parts, show gN 0 = 0 from rfl, hI.2.2.1 0 (fun p _ => by omega), r0, lI_to32 (by omega) (by omega)]
      exact gIT (jin (z := 0) (by omega) (by omega) (by omega)) rfl
    rw [f_X10_unfoldAll_2]
    exact gBs ep (gIT (jle (by omega) (by omega) (by omega) (by omega) (by omega)) rfl)) (by
    intro k i s1 hi hI
    left
    obtain ⟨i1, i2, i3, i4⟩ := hI
    have ep : f_X10_parts m s1 = some (jI n) := by
      rw [f_X10_parts, show gN 0 = 0 from rfl, i3 0 (fun p _ => by omega), r0, lI_to32 (by omega) (by omega)]
      exact gIT (jin (z := 0) (by omega) (by omega) (by omega)) rfl
    have kd := hk i hi
    have ek : f_X10_ofPart m (jI i) 0 s1 = some (jI (S 4 i)) := by
      have e := m_ofPart0 s1 m (p := i) (w := 0) (by omega) (by omega)
      rw [show 26 + 5 * i + 0 = 26 + 5 * i from rfl, i3 _ (fun p _ => by omega), rk i hi, lI_to32 (by omega) (by omega)] at e
      exact e
    have ei : jI (i : Int) + 1 = jI ((i + 1 : Nat) : Int) := by rw [jl_1, jI_add]; rfl
    have ex : (26 : Int32) + 5 * jI i + 4 = jI ((26 + 5 * i + 4 : Nat) : Int) := by
      rw [jl_26, jl_5, jl_4, jI_mul, jI_add, jI_add]
      congr 1
    have gx : gIn (jI ((26 + 5 * i + 4 : Nat) : Int)) 141 := jin (by omega) (by omega) (by omega)
    have common : ∀ u : Int64, (u = lI (if S 4 i = 0 then 1 else 0)) → (gsL s1 (m + 1) (26 + 5 * i + 4) u).1 = h.1 ∧ (∀ y, y ≠ m + 1 → (gsL s1 (m + 1) (26 + 5 * i + 4) u).2 y = h.2 y) ∧ (∀ x, (∀ p, p < n → x ≠ 26 + 5 * p + 4) → (gsL s1 (m + 1) (26 + 5 * i + 4) u).2 (m + 1) x = h.2 (m + 1) x) ∧ ∀ p, p < i + 1 → (gsL s1 (m + 1) (26 + 5 * i + 4) u).2 (m + 1) (26 + 5 * p + 4) = lI (if S 4 p = 0 then 1 else 0) := fun u hu => ⟨i1, fun y hy => (rL_n hy).trans (i2 y hy), fun x hx => (rL_k (hx i hi)).trans (i3 x hx), fun p hp => by
      by_cases e : p = i
      · subst e; rw [rL_e]; exact hu
      · rw [rL_k (by omega)]; exact i4 p (by omega)⟩
    by_cases c0 : S 4 i = 0
    · refine ⟨gsL s1 (m + 1) (26 + 5 * i + 4) 1, ?_, common 1 (by rw [if_pos c0]; rfl)⟩
      rw [f_X10_unfoldAll_2, ei, ex, gNp (by omega)]
      exact gBs ep (gIF (jnle (by omega) (by omega) (by omega) (by omega) (by omega)) (gBs ek (gIT (by rw [c0]; rfl) (gIT gx rfl))))
    · refine ⟨gsL s1 (m + 1) (26 + 5 * i + 4) 0, ?_, common 0 (by rw [if_neg c0]; rfl)⟩
      rw [f_X10_unfoldAll_2, ei, ex, gNp (by omega)]
      exact gBs ep (gIF (jnle (by omega) (by omega) (by omega) (by omega) (by omega)) (gBs ek (gIF (jne (b := 0) (by omega) (by omega) (by omega) (by omega) c0) (gIT gx rfl))))) gFuel 0 h (by omega) (by unfold gFuel; omega) ⟨rfl, fun _ _ => rfl, fun _ _ => rfl, fun p hp => absurd hp (Nat.not_lt_zero p)⟩
  rw [show ((0 : Nat) : Int) = 0 from rfl, ← jl_0] at eo
  refine ⟨o, ?_, o1, o2, o3, o4⟩
  rw [f_X10_unfoldAll]
  exact gBs eo rfl
theorem cR_ok {z : Nat × (Nat → Int32)} (h : (cR z).1 = true) : 0 ≤ (cR z).2.2.1 ∧ (cR z).2.2.1 ≤ 5 ∧ ((cR z).2.2.1 < 4 → 0 ≤ (cR z).2.2.2.1 ∧ (cR z).2.2.2.1 < 6) ∧ (((cR z).2.2.1 = 0 ∨ 4 ≤ (cR z).2.2.1) → 1 ≤ (cR z).2.2.2.2 ∧ (cR z).2.2.2.2 ≤ (if (cR z).2.2.1 = 5 then 999 else 99)) := by
  have ab := aW_b z.2 (eB z.1 z.2 0)
  unfold cR at h ⊢
  by_cases c1 : aW z.2 (eB z.1 z.2 0) = -1
  · rw [if_pos c1] at h; exact absurd h Bool.false_ne_true
  rw [if_neg c1] at h ⊢
  by_cases c4 : aW z.2 (eB z.1 z.2 0) < 4
  · rw [if_pos c4] at h ⊢
    by_cases d : cE1 z = cS1 z + 1 ∧ 0 ≤ (z.2 (cS1 z)).toInt - 97 ∧ (z.2 (cS1 z)).toInt - 97 < 6
    · rw [if_pos d] at h ⊢
      by_cases c0 : aW z.2 (eB z.1 z.2 0) = 0
      · rw [if_pos c0] at h ⊢
        have q := nP_ok h
        exact ⟨by show (0 : Int) ≤ 0; omega, by show (0 : Int) ≤ 5; omega, fun _ => ⟨d.2.1, d.2.2⟩, fun _ => q⟩
      · rw [if_neg c0] at h ⊢
        exact ⟨by show 0 ≤ aW z.2 (eB z.1 z.2 0); omega, by show aW z.2 (eB z.1 z.2 0) ≤ 5; omega, fun _ => ⟨d.2.1, d.2.2⟩, fun w => by
          have w' : aW z.2 (eB z.1 z.2 0) = 0 ∨ 4 ≤ aW z.2 (eB z.1 z.2 0) := w
          omega⟩
    · rw [if_neg d] at h; exact absurd h Bool.false_ne_true
  · rw [if_neg c4] at h ⊢
    have q := nP_ok h
    exact ⟨by show 0 ≤ aW z.2 (eB z.1 z.2 0); omega, by show aW z.2 (eB z.1 z.2 0) ≤ 5; omega, fun w => absurd w c4, fun _ => q⟩
/-- what the command wants to be so: the old value, the due one, the new state -/
def kOld (S : gTb) (A : Int) (l : Nat) : Int := if A = 4 then S 0 1 else if A = 5 then S 0 2 else if A = 0 then S 1 l else S 2 l
def kDue (A v : Int) : Int := if A = 1 then 1 else if A = 2 then 2 else if A = 3 then 0 else v
def kNew (S : gTb) (A : Int) (l : Nat) (v : Int) : gTb := if A = 4 then gU S 0 1 v else if A = 5 then gU S 0 2 v else if A = 0 then gUl (gU (gU S 1 l v) 2 l (S 2 l)) else gUl (gU (gU S 1 l (S 1 l)) 2 l (kDue A v))
theorem kNew_w {t n c : Nat} {S : gTb} (W : gWf t n c S) {A v : Int} {l : Nat} (hA : 0 ≤ A ∧ A ≤ 5) (hv : (A = 0 ∨ 4 ≤ A) → 1 ≤ v ∧ v ≤ (if A = 5 then 999 else 99)) (hl : A < 4 → l < 6 ∧ S 3 l ≠ 0) : gWf t n c (kNew S A l v) := by
  have w1 := W.1
  unfold kNew
  by_cases c4 : A = 4
  · rw [if_pos c4]
    have := hv (Or.inr (by omega))
    rw [if_neg (by omega)] at this
    refine W.ch ?_ (fun f k h0 h8 => gU_n h0) (fun q hq => by rw [gU_n (by decide)]; exact W.fo hq)
    rw [gU_eq, gU_k (by decide), gU_k (by decide)]
    omega
  rw [if_neg c4]
  by_cases c5 : A = 5
  · rw [if_pos c5]
    have := hv (Or.inr (by omega))
    rw [if_pos c5] at this
    refine W.ch ?_ (fun f k h0 h8 => gU_n h0) (fun q hq => by rw [gU_n (by decide)]; exact W.fo hq)
    rw [gU_eq, gU_k (by decide), gU_k (by decide)]
    omega
  rw [if_neg c5]
  have hl' := hl (by omega)
  have lt := W.lt hl'.1 hl'.2
  have gen : ∀ v' st : Int, 1 ≤ v' → v' ≤ 99 → 0 ≤ st → st ≤ 2 → gWf t n c (gUl (gU (gU S 1 l v') 2 l st)) := fun v' st h1 h2 h3 h4 => by
    refine gUl_w (W.ar2 (fun f k f1 f2 => by rw [gU_n f2, gU_n f1]) (fun j hj j3 => ?_))
    have q := W.lt hj j3
    by_cases e : j = l
    · subst e
      rw [gU_n (by decide), gU_eq, gU_eq]
      exact ⟨h1, h2, h3, h4⟩
    · rw [gU_k e, gU_k e, gU_k e, gU_k e]
      exact ⟨q.2.2.1, q.2.2.2.1, q.2.2.2.2.1, q.2.2.2.2.2⟩
  by_cases c0 : A = 0
  · rw [if_pos c0]
    have := hv (Or.inl c0)
    rw [if_neg c5] at this
    exact gen v (S 2 l) this.1 this.2 lt.2.2.2.2.1 lt.2.2.2.2.2
  · rw [if_neg c0]
    have kd : 0 ≤ kDue A v ∧ kDue A v ≤ 2 := by
      unfold kDue
      split
      · omega
      · split
        · omega
        · split
          · omega
          · omega
    exact gen (S 1 l) (kDue A v) lt.2.2.1 lt.2.2.2.1 kd.1 kd.2
