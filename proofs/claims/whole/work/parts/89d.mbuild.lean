/-! the reference builds a network -/
def mRd (h : gHp) (m n : Nat) (S : gTb) : Prop := ∀ p : Nat, p < n → h.1 (m + 5) (5 * p) = jI (S 4 p) ∧ h.1 (m + 5) (5 * p + 1) = jI (r4 (S 5 p)) ∧ h.1 (m + 5) (5 * p + 2) = jI (r4 (S 6 p)) ∧ h.1 (m + 5) (5 * p + 3) = jI (S 7 p) ∧ h.1 (m + 5) (5 * p + 4) = jI (S 8 p)
theorem mRd.mv {h h' : gHp} {m n : Nat} {S : gTb} (T : mRd h m n S) (E : h'.1 (m + 5) = h.1 (m + 5)) : mRd h' m n S := by
  unfold mRd
  rw [E]
  exact T
def mPl (h : gHp) (m : Nat) : List Nat → Prop
  | [] => True
  | x :: r => h.1 (m + 6) r.length = jI x ∧ mPl h m r
theorem mPl.mv {h h' : gHp} {m : Nat} : ∀ {A : List Nat}, mPl h m A → (∀ k, k < A.length → h'.1 (m + 6) k = h.1 (m + 6) k) → mPl h' m A := by
  intro A
  induction A with
  | nil => intro _ _; trivial
  | cons x r ih =>
    intro K E
    have l : (x :: r).length = r.length + 1 := List.length_cons
    exact ⟨(E r.length (by omega)).trans K.1, ih K.2 (fun k hk => E k (by omega))⟩
theorem mPl.r {h : gHp} {m : Nat} : ∀ {X A : List Nat}, mPl h m (X ++ A) → mPl h m A := by
  intro X
  induction X with
  | nil => intro A K; exact K
  | cons x r ih =>
    intro A K
    have K' : h.1 (m + 6) (r ++ A).length = jI x ∧ mPl h m (r ++ A) := K
    exact ih K'.2
def mSk (h : gHp) (m : Nat) : List (List Nat × List Nat) → Prop
  | [] => True
  | f :: r => h.1 (m + 7) r.length = jI (f.2.length : Nat) ∧ h.1 (m + 8) r.length = jI (f.1.length : Nat) ∧ mSk h m r
theorem mSk.mv {h h' : gHp} {m : Nat} : ∀ {F : List (List Nat × List Nat)}, mSk h m F → (∀ k, k < F.length → h'.1 (m + 7) k = h.1 (m + 7) k ∧ h'.1 (m + 8) k = h.1 (m + 8) k) → mSk h' m F := by
  intro F
  induction F with
  | nil => intro _ _; trivial
  | cons f r ih =>
    intro K E
    have l : (f :: r).length = r.length + 1 := List.length_cons
    exact ⟨(E r.length (by omega)).1.trans K.1, (E r.length (by omega)).2.trans K.2.1, ih K.2.2 (fun k hk => E k (by omega))⟩
/-- the parts that are read, and the pile -/
def mCo (h : gHp) (m n : Nat) (S : gTb) (A : List Nat) : Prop := h.1 m 8 = jI n ∧ h.1 m 11 = jI (A.length : Nat) ∧ mRd h m n S ∧ mPl h m A
/-- what laying parts writes -/
def mBq (m : Nat) (h h' : gHp) : Prop := (∀ y, y ≠ m → y ≠ m + 5 → y ≠ m + 6 → h'.1 y = h.1 y) ∧ h'.2 = h.2 ∧ ∀ k, k ≠ 8 → k ≠ 11 → h'.1 m k = h.1 m k
theorem mBq.rf {m : Nat} {h : gHp} : mBq m h h := ⟨fun _ _ _ _ => rfl, rfl, fun _ _ _ => rfl⟩
/-- what ending a link or a chain writes -/
def mBl (m : Nat) (h h' : gHp) : Prop := (∀ y, y ≠ m → y ≠ m + 5 → y ≠ m + 6 → y ≠ m + 7 → y ≠ m + 8 → h'.1 y = h.1 y) ∧ h'.2 = h.2 ∧ ∀ k, k ≠ 8 → k ≠ 11 → h'.1 m k = h.1 m k
theorem mBl.rf {m : Nat} {h : gHp} : mBl m h h := ⟨fun _ _ _ _ _ _ => rfl, rfl, fun _ _ _ => rfl⟩
theorem mBl.tr {m : Nat} {h h1 h2 : gHp} (F : mBl m h h1) (G : mBl m h1 h2) : mBl m h h2 := ⟨fun y a b c d e => (G.1 y a b c d e).trans (F.1 y a b c d e), G.2.1.trans F.2.1, fun k a b => (G.2.2 k a b).trans (F.2.2 k a b)⟩
theorem mBl.q {m : Nat} {h h1 h2 : gHp} (F : mBl m h h1) (G : mBq m h1 h2) : mBl m h h2 := F.tr ⟨fun y a b c _ _ => G.1 y a b c, G.2.1, fun k b c => G.2.2 k b c⟩
theorem mBl.I {m a k : Nat} {v : Int32} {h h1 : gHp} (F : mBl m h h1) (ha : a = m + 7 ∨ a = m + 8) : mBl m h (gsI h1 a k v) := F.tr ⟨fun y _ _ _ y7 y8 => rI_n (by omega), rfl, fun j _ _ => by rw [rI_n (by omega)]⟩
/-- what reading a network writes -/
def mB (m : Nat) (h h' : gHp) : Prop := (∀ y, y ≠ m → y ≠ m + 5 → y ≠ m + 6 → y ≠ m + 7 → y ≠ m + 8 → h'.1 y = h.1 y) ∧ h'.2 = h.2 ∧ ∀ k, k ≠ 7 → k ≠ 8 → k ≠ 11 → h'.1 m k = h.1 m k
theorem mBl.B {m : Nat} {h h' : gHp} (F : mBl m h h') : mB m h h' := ⟨F.1, F.2.1, fun k _ b c => F.2.2 k b c⟩
theorem mBl.k7 {m : Nat} {h h' : gHp} (F : mBl m h h') : h'.1 m 7 = h.1 m 7 := F.2.2 7 (by decide) (by decide)
theorem mB.rf {m : Nat} {h : gHp} : mB m h h := ⟨fun _ _ _ _ _ _ => rfl, rfl, fun _ _ _ _ => rfl⟩
theorem mB.tr {m : Nat} {h h1 h2 : gHp} (F : mB m h h1) (G : mB m h1 h2) : mB m h h2 := ⟨fun y a b c d e => (G.1 y a b c d e).trans (F.1 y a b c d e), G.2.1.trans F.2.1, fun k a b c => (G.2.2 k a b c).trans (F.2.2 k a b c)⟩
theorem mB.i7 {m : Nat} {v : Int32} {h h1 : gHp} (F : mB m h h1) : mB m h (gsI h1 m 7 v) := F.tr ⟨fun y ym _ _ _ _ => rI_n ym, rfl, fun j j7 _ _ => rI_k j7⟩
theorem m_pop {m n : Nat} {A : List Nat} : ∀ (X : List Nat) (h : gHp) (i N f : Nat), i + X.length = N → N ≤ 12 → X.length < f → (∀ q, q ∈ X → q < 12) → X.length + A.length ≤ 12 → h.1 m 11 = jI ((X ++ A).length : Nat) → mPl h m (X ++ A) → ∃ h', f_X10_laysPart_78 m (jI N) (jI n) f (jI i) h = some h' ∧ h'.1 m 11 = jI (A.length : Nat) ∧ (∀ j, h'.1 (m + 5) j = if j % 5 = 1 ∧ j / 5 ∈ X then jI n else h.1 (m + 5) j) ∧ (∀ k, k ≠ 11 → h'.1 m k = h.1 m k) ∧ (∀ y, y ≠ m → y ≠ m + 5 → h'.1 y = h.1 y) ∧ h'.2 = h.2 := by
  intro X
  induction X with
  | nil =>
    intro h i N f e1 e2 e3 e4 e5 e6 e7
    obtain ⟨f', rfl⟩ : ∃ f', f = f' + 1 := ⟨f - 1, by omega⟩
    have l0' : ([] : List Nat).length = 0 := rfl
    refine ⟨h, ?_, e6, fun j => by rw [if_neg (fun w => absurd w.2 List.not_mem_nil)], fun _ _ => rfl, fun _ _ _ => rfl, rfl⟩
    rw [f_X10_laysPart_78]
    exact gIT (jle (by omega) (by omega) (by omega) (by omega) (by omega)) rfl
  | cons x X ih =>
    intro h i N f e1 e2 e3 e4 e5 e6 e7
    obtain ⟨f', rfl⟩ : ∃ f', f = f' + 1 := ⟨f - 1, by omega⟩
    have l1' : (x :: X).length = X.length + 1 := List.length_cons
    have l2' : (X ++ A).length = X.length + A.length := List.length_append
    have l3' : (x :: X ++ A).length = (X ++ A).length + 1 := List.length_cons
    rw [l1'] at e1 e3 e5
    rw [l3'] at e6
    have hx := e4 x List.mem_cons_self
    have e7' : h.1 (m + 6) (X ++ A).length = jI x ∧ mPl h m (X ++ A) := e7
    have e8 : h.1 m 11 - 1 = jI ((X ++ A).length : Nat) := by
      rw [e6, jl_1, jI_sub]
      exact congrArg jI (by omega)
    have ei : jI (i : Int) + 1 = jI ((i + 1 : Nat) : Int) := by rw [jl_1, jI_add]; rfl
    have e9 : (5 : Int32) * jI (x : Int) + 1 = jI ((5 * x + 1 : Nat) : Int) := by rw [jl_5, jl_1, jI_mul, jI_add]; rfl
    obtain ⟨h1, d1⟩ : ∃ h1, h1 = gsI h m 11 (jI ((X ++ A).length : Nat)) := ⟨_, rfl⟩
    have a1 : h1.1 m 11 = jI ((X ++ A).length : Nat) := by rw [d1, rI_e]
    have a2 : h1.1 (m + 6) (X ++ A).length = jI x := by rw [d1, rI_n (by omega)]; exact e7'.1
    obtain ⟨h2, d2⟩ : ∃ h2, h2 = gsI h1 (m + 5) (5 * x + 1) (jI n) := ⟨_, rfl⟩
    obtain ⟨h', q1, q2, q3, q4, q5, q6⟩ := ih h2 (i + 1) N f' (by omega) e2 (by omega) (fun q hq => e4 q (List.mem_cons_of_mem x hq)) (by omega) (by rw [d2, rI_n (by omega)]; exact a1) (mPl.mv (h := h) e7'.2 (fun k _ => by rw [d2, rI_n (by omega), d1, rI_n (by omega)]))
    refine ⟨h', ?_, q2, fun j => ?_, fun k hk => ?_, fun y y1 y2 => ?_, ?_⟩
    · rw [f_X10_laysPart_78, e8, ← d1, a1, gNp (by omega), a2, e9, gNp (by omega), ← d2, ei]
      exact gIF (jnle (by omega) (by omega) (by omega) (by omega) (by omega)) (gIT (jin (by omega) (by omega) (by omega)) (gIT (jin (by omega) (by omega) (by omega)) q1))
    · rw [q3]
      by_cases c1 : j % 5 = 1 ∧ j / 5 ∈ X
      · rw [if_pos c1, if_pos ⟨c1.1, List.mem_cons_of_mem x c1.2⟩]
      · rw [if_neg c1, d2]
        by_cases c2 : j = 5 * x + 1
        · rw [c2, rI_e, if_pos ⟨by omega, by rw [show (5 * x + 1) / 5 = x by omega]; exact List.mem_cons_self⟩]
        · rw [rI_k c2, d1, rI_n (by omega), if_neg (fun w => ?_)]
          rcases List.mem_cons.mp w.2 with e | e
          · have := w.1
            omega
          · exact c1 ⟨w.1, e⟩
    · rw [q4 k hk, d2, rI_n (by omega), d1, rI_k hk]
    · rw [q5 y y1 y2, d2, rI_n y2, d1, rI_n y1]
    · rw [q6, d2, d1]; rfl
theorem r4_i (l : Nat) : r4 (l : Int) = l := r4_p (by omega)
theorem m_lays {h : gHp} {m n : Nat} {S : gTb} {X A : List Nat} {k l : Int} (C : mCo h m n S (X ++ A)) (hn : n < 12) (hX : ∀ q, q ∈ X → q < n) (hl : X.length + A.length ≤ 12) (hA : A.length < 12) (hk : 0 ≤ k ∧ k ≤ 2) : ∃ h', f_X10_laysPart m (jI k) (jI (r4 l)) (jI (X.length : Nat)) h = some h' ∧ mCo h' m (n + 1) (gPut S n k l X) (n :: A) ∧ mBq m h h' := by
  obtain ⟨p8, p11, T, P⟩ := C
  have e0 : (5 : Int32) * jI (n : Int) + 0 = jI ((5 * n : Nat) : Int) := by
    rw [jl_5, jl_0, jI_mul, jI_add]
    exact congrArg jI (by omega)
  have e1 : (5 : Int32) * jI (n : Int) + 1 = jI ((5 * n + 1 : Nat) : Int) := by rw [jl_5, jl_1, jI_mul, jI_add]; rfl
  have e2 : (5 : Int32) * jI (n : Int) + 2 = jI ((5 * n + 2 : Nat) : Int) := by rw [jl_5, jl_2, jI_mul, jI_add]; rfl
  have e3 : (5 : Int32) * jI (n : Int) + 3 = jI ((5 * n + 3 : Nat) : Int) := by rw [jl_5, jl_3, jI_mul, jI_add]; rfl
  have e4 : (5 : Int32) * jI (n : Int) + 4 = jI ((5 * n + 4 : Nat) : Int) := by rw [jl_5, jl_4, jI_mul, jI_add]; rfl
  have ev : (if jI k = 0 then some 1 else some 0 : Option (Int32)) = some (jI (if k = 0 then 1 else 0)) := by
    by_cases c : k = 0
    · rw [if_pos c]
      exact gIT (by rw [c]; rfl) rfl
    · rw [if_neg c]
      exact gIF (jne (b := 0) (by omega) (by omega) (by omega) (by omega) c) rfl
  obtain ⟨h5, d5⟩ : ∃ h5, h5 = gsI (gsI (gsI (gsI (gsI h (m + 5) (5 * n) (jI k)) (m + 5) (5 * n + 1) (-4)) (m + 5) (5 * n + 2) (jI (r4 l))) (m + 5) (5 * n + 3) (jI (X.length : Nat))) (m + 5) (5 * n + 4) (jI (if k = 0 then 1 else 0)) := ⟨_, rfl⟩
  have o5 : ∀ y, y ≠ m + 5 → h5.1 y = h.1 y := fun y hy => by rw [d5, rI_n hy, rI_n hy, rI_n hy, rI_n hy, rI_n hy]
  have c0 : h5.1 (m + 5) (5 * n) = jI k := by rw [d5, rI_k (by omega), rI_k (by omega), rI_k (by omega), rI_k (by omega), rI_e]
  have c1 : h5.1 (m + 5) (5 * n + 1) = jI (-4) := by rw [d5, rI_k (by omega), rI_k (by omega), rI_k (by omega), rI_e]; rfl
  have c2 : h5.1 (m + 5) (5 * n + 2) = jI (r4 l) := by rw [d5, rI_k (by omega), rI_k (by omega), rI_e]
  have c3 : h5.1 (m + 5) (5 * n + 3) = jI (X.length : Nat) := by rw [d5, rI_k (by omega), rI_e]
  have c4 : h5.1 (m + 5) (5 * n + 4) = jI (if k = 0 then 1 else 0) := by rw [d5, rI_e]
  have cx : ∀ j, j < 5 * n → h5.1 (m + 5) j = h.1 (m + 5) j := fun j hj => by rw [d5, rI_k (by omega), rI_k (by omega), rI_k (by omega), rI_k (by omega), rI_k (by omega)]
  obtain ⟨v, q1, q2, q3, q4, q5, q6⟩ := m_pop (m := m) (n := n) (A := A) X h5 0 X.length gFuel (by omega) (by omega) (by unfold gFuel; omega) (fun q hq => by have := hX q hq; omega) hl (by rw [o5 m (by omega)]; exact p11) (mPl.mv P (fun j _ => by rw [o5 (m + 6) (by omega)]))
  rw [show ((0 : Nat) : Int) = 0 from rfl, ← jl_0] at q1
  have v8 : v.1 m 8 = jI n := by rw [q4 8 (by decide), o5 m (by omega)]; exact p8
  obtain ⟨w1, f1⟩ : ∃ w1, w1 = gsI v (m + 6) A.length (jI n) := ⟨_, rfl⟩
  have g1 : w1.1 m 11 = jI (A.length : Nat) := by rw [f1, rI_n (by omega)]; exact q2
  have ea : jI (A.length : Int) + 1 = jI ((A.length + 1 : Nat) : Int) := by rw [jl_1, jI_add]; rfl
  obtain ⟨w2, f2⟩ : ∃ w2, w2 = gsI w1 m 11 (jI ((A.length + 1 : Nat) : Int)) := ⟨_, rfl⟩
  have g2 : w2.1 m 8 = jI n := by rw [f2, rI_k (by decide), f1, rI_n (by omega)]; exact v8
  have en : jI (n : Int) + 1 = jI ((n + 1 : Nat) : Int) := by rw [jl_1, jI_add]; rfl
  have E5 : (gsI w2 m 8 (jI ((n + 1 : Nat) : Int))).1 (m + 5) = v.1 (m + 5) := by rw [rI_n (by omega), f2, rI_n (by omega), f1, rI_n (by omega)]
  have E6 : (gsI w2 m 8 (jI ((n + 1 : Nat) : Int))).1 (m + 6) = w1.1 (m + 6) := by rw [rI_n (by omega), f2, rI_n (by omega)]
  refine ⟨gsI w2 m 8 (jI ((n + 1 : Nat) : Int)), ?_, ⟨rI_e _ _ _ _, ?_, fun p hp => ?_, ?_, ?_⟩, fun y y1 y2 y3 => ?_, ?_, fun j j8 j11 => ?_⟩
  · rw [f_X10_laysPart, p8, e0, e1, e2, e3, e4, gNp (by omega), gNp (by omega), gNp (by omega), gNp (by omega), gNp (by omega)]
    refine gIT (jin (by omega) (by omega) (by omega)) (gIT (jin (by omega) (by omega) (by omega)) (gIT (jin (by omega) (by omega) (by omega)) (gIT (jin (by omega) (by omega) (by omega)) (gBs ev (gIT (jin (by omega) (by omega) (by omega)) ?_)))))
    rw [← d5]
    refine gBs q1 ?_
    rw [q2, gNp (by omega), ← f1, g1, ea, ← f2, g2, en]
    exact gIT (jin (by omega) (by omega) (by omega)) rfl
  · rw [rI_k (by decide), f2, rI_e, List.length_cons]
  · rw [E5]
    by_cases e : p = n
    · rw [e, gPut_4, gPut_5, gPut_6, gPut_7, gPut_8, if_pos rfl, if_pos rfl, if_pos rfl, if_pos rfl, if_pos rfl, q3, q3, q3, q3, q3, if_neg (fun w => by omega), if_neg (fun w => ?_), if_neg (fun w => by omega), if_neg (fun w => by omega), if_neg (fun w => by omega)]
      · exact ⟨c0, c1, c2, c3, c4⟩
      · have := hX _ w.2
        omega
    · have t := T p (by omega)
      rw [gPut_4, gPut_5, gPut_6, gPut_7, gPut_8, if_neg e, if_neg e, if_neg e, if_neg e, if_neg e]
      refine ⟨?_, ?_, ?_, ?_, ?_⟩
      · rw [q3, if_neg (fun w => by omega), cx _ (by omega)]; exact t.1
      · rw [q3]
        by_cases c : p ∈ X
        · rw [if_pos ⟨by omega, by rw [show (5 * p + 1) / 5 = p by omega]; exact c⟩, if_pos c, r4_i]
        · rw [if_neg (fun w => c (by have w2 := w.2; rw [show (5 * p + 1) / 5 = p by omega] at w2; exact w2)), if_neg c, cx _ (by omega)]
          exact t.2.1
      · rw [q3, if_neg (fun w => by omega), cx _ (by omega)]; exact t.2.2.1
      · rw [q3, if_neg (fun w => by omega), cx _ (by omega)]; exact t.2.2.2.1
      · rw [q3, if_neg (fun w => by omega), cx _ (by omega)]; exact t.2.2.2.2
  · rw [E6, f1, rI_e]
  · refine mPl.mv P.r (fun j hj => ?_)
    rw [E6, f1, rI_k (by omega), q5 _ (by omega) (by omega), o5 _ (by omega)]
  · rw [rI_n y1, f2, rI_n y1, f1, rI_n y3, q5 y y1 y2, o5 y y2]
  · show w2.2 = h.2
    rw [f2, f1]
    show v.2 = h.2
    rw [q6, d5]
    rfl
  · rw [rI_k j8, f2, rI_k j11, f1, rI_n (by omega), q4 j j11, o5 m (by omega)]
/-- parts are joined -/
theorem m_jn {h : gHp} {m n : Nat} {S : gTb} {X A : List Nat} {k : Int} (C : mCo h m n S (X ++ A)) (B : gB0 n S (X ++ A)) (hk : 1 ≤ k ∧ k ≤ 2) : ∃ h', (X.length ≤ 1 → h' = h) ∧ (¬ X.length ≤ 1 → f_X10_laysPart m (jI k) (-4) (jI (X.length : Nat)) h = some h') ∧ mCo h' m (bdJ n S k X).1 (bdJ n S k X).2.1 ((bdJ n S k X).2.2 ++ A) ∧ mBq m h h' := by
  by_cases c : X.length ≤ 1
  · rw [bdJ_a c]
    exact ⟨h, fun _ => rfl, fun w => absurd c w, C, mBq.rf⟩
  · rw [bdJ_b c]
    have lim := bd_lim B
    rw [List.length_append] at lim
    obtain ⟨h', q1, C', F'⟩ := m_lays (k := k) (l := -1) C (by omega) (bd_sub B).2 (by omega) (by omega) (by omega)
    exact ⟨h', fun w => absurd w c, fun _ => q1, C', F'⟩
def mBd (h : gHp) (m n : Nat) (S : gTb) (F : List (List Nat × List Nat)) : Prop := mCo h m n S (bdA F) ∧ mSk h m F
theorem mCo.mv {h h' : gHp} {m n : Nat} {S : gTb} {A : List Nat} (C : mCo h m n S A) (e8 : h'.1 m 8 = h.1 m 8) (e11 : h'.1 m 11 = h.1 m 11) (e5 : h'.1 (m + 5) = h.1 (m + 5)) (e6 : h'.1 (m + 6) = h.1 (m + 6)) : mCo h' m n S A := ⟨e8.trans C.1, e11.trans C.2.1, C.2.2.1.mv e5, C.2.2.2.mv (fun k _ => by rw [e6])⟩
theorem m_endsLink {h : gHp} {m n : Nat} {S : gTb} {L P : List Nat} {r : List (List Nat × List Nat)} (C : mBd h m n S ((L, P) :: r)) (B : gB0 n S (bdA ((L, P) :: r))) (hP : P ≠ []) (hr : r.length < 42) : ∃ h', f_X10_endsLink m (jI (r.length : Nat)) h = some h' ∧ mBd h' m (bdJ n S 2 P).1 (bdJ n S 2 P).2.1 (((bdJ n S 2 P).2.2 ++ L, []) :: r) ∧ mBl m h h' := by
  obtain ⟨C, K1, K2, K3⟩ := C
  have lim := bd_lim B
  rw [bdA_c, List.length_append, List.length_append] at lim
  have lP : P.length ≤ 12 := by
    have : (L, P).2.length = P.length := rfl
    omega
  have lL : L.length ≤ 12 := by
    have : (L, P).1.length = L.length := rfl
    omega
  obtain ⟨v, j1, j2, C1, F1⟩ := m_jn (k := 2) (X := P) (A := L ++ bdA r) C B (by omega)
  have k1 : h.1 (m + 7) r.length = jI (P.length : Nat) := K1
  have k2 : h.1 (m + 8) r.length = jI (L.length : Nat) := K2
  have g42 : gIn (jI (r.length : Int)) 42 := jin (by omega) (by omega) (by omega)
  have lX := bdJ_l (n := n) (S := S) (k := 2) hP
  have e1 : jI (L.length : Int) + 1 = jI ((L.length + 1 : Nat) : Int) := by rw [jl_1, jI_add]; rfl
  obtain ⟨w1, f1⟩ : ∃ w1, w1 = gsI v (m + 7) r.length 0 := ⟨_, rfl⟩
  have g1 : w1.1 (m + 8) r.length = jI (L.length : Nat) := by rw [f1, rI_n (by omega), F1.1 _ (by omega) (by omega) (by omega)]; exact k2
  have C2 : mCo (gsI w1 (m + 8) r.length (jI ((L.length + 1 : Nat) : Int))) m (bdJ n S 2 P).1 (bdJ n S 2 P).2.1 ((bdJ n S 2 P).2.2 ++ (L ++ bdA r)) := C1.mv (by rw [rI_n (by omega), f1, rI_n (by omega)]) (by rw [rI_n (by omega), f1, rI_n (by omega)]) (by rw [rI_n (by omega), f1, rI_n (by omega)]) (by rw [rI_n (by omega), f1, rI_n (by omega)])
  refine ⟨gsI w1 (m + 8) r.length (jI ((L.length + 1 : Nat) : Int)), ?_, ⟨?_, ?_, ?_, ?_⟩, ?_⟩
  · have ea : (if h.1 (m + 7) r.length ≤ 1 then some h else if gIn (jI (r.length : Int)) 42 then (f_X10_laysPart m 2 (-4) (h.1 (m + 7) r.length) h).bind fun v10 => some v10 else none : Option (gHp)) = some v := by
      rw [k1]
      by_cases c : P.length ≤ 1
      · rw [j1 c]
        exact gIT (jle (b := 1) (by omega) (by omega) (by omega) (by omega) (by omega)) rfl
      · exact gIF (jnle (b := 1) (by omega) (by omega) (by omega) (by omega) (by omega)) (gIT g42 (gBs (j2 c) rfl))
    rw [f_X10_endsLink, gNp (by omega)]
    refine gIT g42 (gBs ea (gIT g42 (gIT g42 (gIT g42 ?_))))
    rw [← f1, g1, e1]
  · show mCo _ m _ _ ([] ++ (((bdJ n S 2 P).2.2 ++ L) ++ bdA r))
    rw [List.nil_append, List.append_assoc]
    exact C2
  · rw [rI_n (by omega), f1, rI_e]; rfl
  · show _ = jI (((bdJ n S 2 P).2.2 ++ L).length : Nat)
    rw [rI_e, List.length_append, lX]
    exact congrArg jI (by omega)
  · refine K3.mv (fun k hk => ⟨?_, ?_⟩)
    · rw [rI_n (by omega), f1, rI_k (by omega), F1.1 _ (by omega) (by omega) (by omega)]
    · rw [rI_k (by omega), f1, rI_n (by omega), F1.1 _ (by omega) (by omega) (by omega)]
  · rw [f1]
    exact ((mBl.rf.q F1).I (Or.inl rfl)).I (Or.inr rfl)
theorem m_endsChain {h : gHp} {m n : Nat} {S : gTb} {L P : List Nat} {r : List (List Nat × List Nat)} (C : mBd h m n S ((L, P) :: r)) (B : gB0 n S (bdA ((L, P) :: r))) (hP : P ≠ []) (hr : r.length < 42) : ∃ h', f_X10_endsChain m (jI (r.length : Nat)) h = some h' ∧ mCo h' m (bdC n S L P).1 (bdC n S L P).2.1 ((bdC n S L P).2.2 ++ bdA r) ∧ mSk h' m r ∧ mBl m h h' := by
  obtain ⟨h1, q1, ⟨C1, K1, K2, K3⟩, F1⟩ := m_endsLink C B hP hr
  have B1 := bdL_w B
  have lim := bd_lim B1
  rw [List.length_append] at lim
  have C1' : mCo h1 m (bdJ n S 2 P).1 (bdJ n S 2 P).2.1 (([] : List Nat) ++ (((bdJ n S 2 P).2.2 ++ L) ++ bdA r)) := C1
  rw [List.nil_append] at C1'
  obtain ⟨v, j1, j2, C2, F2⟩ := m_jn (k := 1) (X := (bdJ n S 2 P).2.2 ++ L) (A := bdA r) C1' B1 (by omega)
  have k2 : h1.1 (m + 8) r.length = jI (((bdJ n S 2 P).2.2 ++ L).length : Nat) := K2
  have g42 : gIn (jI (r.length : Int)) 42 := jin (by omega) (by omega) (by omega)
  refine ⟨gsI v (m + 8) r.length 0, ?_, C2.mv (by rw [rI_n (by omega)]) (by rw [rI_n (by omega)]) (by rw [rI_n (by omega)]) (by rw [rI_n (by omega)]), K3.mv (fun k hk => ⟨?_, ?_⟩), ?_⟩
  · rw [f_X10_endsChain]
    refine gBs q1 (gIT g42 ?_)
    rw [gNp (by omega), k2]
    by_cases c : ((bdJ n S 2 P).2.2 ++ L).length ≤ 1
    · rw [j1 c]
      exact gIT (jle (b := 1) (by omega) (by omega) (by omega) (by omega) (by omega)) (gIT g42 rfl)
    · exact gIF (jnle (b := 1) (by omega) (by omega) (by omega) (by omega) (by omega)) (gIT g42 (gBs (j2 c) (gIT g42 rfl)))
  · rw [rI_n (by omega), F2.1 _ (by omega) (by omega) (by omega)]
  · rw [rI_k (by omega), F2.1 _ (by omega) (by omega) (by omega)]
  · exact (F1.q F2).I (Or.inr rfl)
theorem m_isRead {h : gHp} {m n l : Nat} {S : gTb} {A : List Nat} (p8 : h.1 m 8 = jI n) (T : mRd h m n S) (B : gB0 n S A) (hl : l < 6) : f_X10_isRead m (jI l) h = some (decide (S 3 l ≠ 0)) := by
  have h11 := bd_11 B
  have L := gUpE (fun k i (_ : Unit) => f_X10_isRead_2 m (jI l) h k (jI i)) n (fun i _ => ∀ q, q < i → ¬ (S 4 q = 0 ∧ S 6 q = l)) (decide (S 3 l ≠ 0)) (by
    intro k s hI
    have e : S 3 l = 0 := by
      by_cases c : S 3 l = 0
      · exact c
      · exfalso
        have b := B.2.2.2.2.2.2.1 l hl
        have r := B.2.2.2.2.2.2.2.1 l hl c
        exact hI (S 3 l - 1).toNat (by omega) r
    rw [decide_eq_false (fun w => w e), f_X10_isRead_2, p8]
    exact gIT (jle (by omega) (by omega) (by omega) (by omega) (by omega)) rfl) (by
    intro k i s hi hI
    have t := T i hi
    have kd := B.2.1 i hi
    have ei : jI (i : Int) + 1 = jI ((i + 1 : Nat) : Int) := by rw [jl_1, jI_add]; rfl
    have e0 : (5 : Int32) * jI (i : Int) + 0 = jI ((5 * i : Nat) : Int) := by
      rw [jl_5, jl_0, jI_mul, jI_add]
      exact congrArg jI (by omega)
    have e2 : (5 : Int32) * jI (i : Int) + 2 = jI ((5 * i + 2 : Nat) : Int) := by rw [jl_5, jl_2, jI_mul, jI_add]; rfl
    have nle : ¬ jI (n : Int) ≤ jI i := jnle (by omega) (by omega) (by omega) (by omega) (by omega)
    by_cases c0 : S 4 i = 0
    · obtain ⟨j, a1, a2, a3⟩ := B.2.2.1 i hi c0
      by_cases c1 : S 6 i = l
      · right
        have ej : j = l := by omega
        rw [ej] at a3
        rw [decide_eq_true (by omega), f_X10_isRead_2, p8, e0, e2, gNp (by omega), gNp (by omega), t.1, t.2.2.1]
        exact gIF nle (gIT (jin (by omega) (by omega) (by omega)) (gIT (by rw [c0]; rfl) (gIT (jin (by omega) (by omega) (by omega)) (gIT (by rw [c1, r4_i]) rfl))))
      · left
        refine ⟨(), ?_, fun q hq w => ?_⟩
        · rw [f_X10_isRead_2, p8, e0, e2, gNp (by omega), gNp (by omega), t.1, t.2.2.1, ei]
          exact gIF nle (gIT (jin (by omega) (by omega) (by omega)) (gIT (by rw [c0]; rfl) (gIT (jin (by omega) (by omega) (by omega)) (gIF (by rw [a2, r4_i]; exact jne (by omega) (by omega) (by omega) (by omega) (by omega)) rfl))))
        · by_cases e : q = i
          · rw [e] at w; exact c1 w.2
          · exact hI q (by omega) w
    · left
      refine ⟨(), ?_, fun q hq w => ?_⟩
      · rw [f_X10_isRead_2, p8, e0, e2, gNp (by omega), t.1, ei]
        exact gIF nle (gIT (jin (by omega) (by omega) (by omega)) (gIF (jne (b := 0) (by omega) (by omega) (by omega) (by omega) c0) rfl))
      · by_cases e : q = i
        · rw [e] at w; exact c0 w.1
        · exact hI q (by omega) w) gFuel () (by unfold gFuel; omega) (fun q hq => absurd hq (Nat.not_lt_zero q))
  rw [f_X10_isRead]
  exact L
