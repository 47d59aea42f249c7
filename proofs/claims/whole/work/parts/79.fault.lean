/-! single faults -/
/-- the state of one arm is another one -/
theorem gWf.st {t n c : Nat} {S : gTb} (W : gWf t n c S) {l : Nat} {st : Int} (hs : 0 ≤ st ∧ st ≤ 2) : gWf t n c (gU S 2 l st) := by
  have e : ∀ f k, f ≠ 2 → gU S 2 l st f k = S f k := fun f k hf => gU_n hf
  obtain ⟨a, b1, b2, b3, b4, b5, b6, b7, b8, b9, b10, b11⟩ := W
  refine ⟨?_, ?_, ?_, ?_, ?_, ?_, ?_, ?_, ?_, ?_, ?_, ?_⟩
  · rw [e 0 1 (by decide), e 0 2 (by decide), e 0 3 (by decide)]; exact a
  · intro p hp; rw [e 4 p (by decide)]; exact b1 p hp
  · intro p hp; rw [e 5 p (by decide)]; exact b2 p hp
  · intro p hp; rw [e 5 p (by decide)]; exact b3 p hp
  · intro p hp h4
    rw [e 4 p (by decide)] at h4
    obtain ⟨l', q1, q2, q3⟩ := b4 p hp h4
    exact ⟨l', q1, by rw [e 6 p (by decide)]; exact q2, by rw [e 3 l' (by decide)]; exact q3⟩
  · intro p hp h4
    rw [e 4 p (by decide)] at h4
    obtain ⟨q1, q, q2, q3⟩ := b5 p hp h4
    exact ⟨by rw [e 6 p (by decide)]; exact q1, q, q2, by rw [e 5 q (by decide)]; exact q3⟩
  · intro p q hp hq h5
    rw [e 5 q (by decide)] at h5
    rw [e 4 p (by decide)]
    exact b6 p q hp hq h5
  · intro p hp
    rw [e 7 p (by decide), b7 p hp]
    have : gCnt (fun q => decide (S 5 q = (p : Int))) p = gCnt (fun q => decide (gU S 2 l st 5 q = (p : Int))) p := gCnt_congr fun q hq => by rw [e 5 q (by decide)]
    rw [this]
  · intro l' hl; rw [e 3 l' (by decide)]; exact b8 l' hl
  · intro l' hl h3
    rw [e 3 l' (by decide)] at h3 ⊢
    rw [e 4 _ (by decide), e 6 _ (by decide), e 1 l' (by decide)]
    have q := b9 l' hl h3
    refine ⟨q.1, q.2.1, q.2.2.1, q.2.2.2.1, ?_⟩
    by_cases el : l' = l
    · subst el; rw [gU_eq]; exact hs
    · rw [gU_k el]; exact q.2.2.2.2
  · intro p hp; rw [e 8 p (by decide)]; exact b10 p hp
  · intro k hk; rw [e 11 k (by decide)]; exact b11 k hk
def gHit (S : gTb) (n : Nat) (q : gQ) (l : Nat) (st : Int) : Bool := (decide (S 3 l ≠ 0) && decide (S 2 l = 0)) && decide (rR (gU S 2 l st) (-1) n (n - 1) = q)
/-- from the letter l on, j were passed by -/
def gFa (S : gTb) (n : Nat) (q : gQ) (num : Int) : Nat → Nat → Int → Int
  | 0, _, _ => -4
  | r + 1, l, j => if gHit S n q l 1 = true ∧ j = num then 10 * (l : Int) + 1 else if gHit S n q l 2 = true ∧ j + (if gHit S n q l 1 = true then 1 else 0) = num then 10 * (l : Int) + 2 else gFa S n q num r (l + 1) (j + (if gHit S n q l 1 = true then 1 else 0) + (if gHit S n q l 2 = true then 1 else 0))
def fSc (b : Nat) (h h' : gHp) : Prop := ∀ y, (y < b + 29 ∨ b + 42 ≤ y) → (y < b + 116 ∨ b + 141 ≤ y) → h'.1 y = h.1 y ∧ h'.2 y = h.2 y
theorem fSc.tr {b : Nat} {h h1 h2 : gHp} (a : fSc b h h1) (c : fSc b h1 h2) : fSc b h h2 := fun y q r => ⟨(c y q r).1.trans (a y q r).1, (c y q r).2.trans (a y q r).2⟩
theorem u_couldBe {h : gHp} {b t n c : Nat} {S : gTb} (R : cSt h (b + 3) n c S) (W : gWf t n c S) (hn0 : 0 < n) {q : gQ} (Q : hQ h (b + 141) q) (q1 : q.1 < 9223372036854775808) (q2 : q.2 < 9223372036854775808) {l : Nat} (hl : l < 6) {st : Int} (hs : 0 ≤ st ∧ st ≤ 2) : ∃ h', f_X9_couldBe b (jI l) (jI st) h = some (gHit S n q l st, h') ∧ fSc b h h' := by
  have hn := W.n
  have an := W.an hl
  have e1 := u_hasArm R.1 W (z := l) (by omega) (by omega)
  rw [Int.toNat_natCast] at e1
  have g6 : gIn (jI l) 6 := jin (by omega) (by omega) (by omega)
  unfold gHit
  rw [f_X9_couldBe, gNp (by omega)]
  by_cases c3 : S 3 l = 0
  · rw [decide_eq_false (by omega)] at e1
    rw [decide_eq_false (fun w => w c3), Bool.false_and, Bool.false_and]
    exact ⟨h, gBs e1 (gIF Bool.false_ne_true rfl), fun _ _ _ => ⟨rfl, rfl⟩⟩
  · rw [decide_eq_true (by omega)] at e1
    have lt := W.lt hl c3
    have e2 : h.1 (b + 3 + 11) l = jI (S 2 l) := R.2.2.1.2 l hl c3
    rw [decide_eq_true c3, Bool.true_and, e2]
    by_cases c2 : S 2 l = 0
    · rw [decide_eq_true c2, Bool.true_and]
      obtain ⟨v5, q5, R5, G5⟩ := u_copy (a0 := b + 29) R W (by omega)
      have E5 : ∀ y, y ≠ b + 29 + 11 → (gsI v5 (b + 29 + 11) l (jI st)).1 y = v5.1 y ∧ (gsI v5 (b + 29 + 11) l (jI st)).2 y = v5.2 y := fun y hy => ⟨rI_n hy, rfl⟩
      have eS : ∀ f k, f ≠ 2 → gU S 2 l st f k = S f k := fun f k hf => gU_n hf
      have R6 : cSt (gsI v5 (b + 29 + 11) l (jI st)) (b + 29) n c (gU S 2 l st) := by
        obtain ⟨r1, r2, r3, r4, r5, r6, r7⟩ := R5
        refine ⟨?_, ?_, ⟨?_, ?_⟩, ?_, ?_, ?_, ?_⟩
        · obtain ⟨n1, n2, n3, n4, n5⟩ := r1.mv (h' := gsI v5 (b + 29 + 11) l (jI st)) (fun y q1 q2 => E5 y (by omega))
          refine ⟨n1, ?_, ?_, ?_, ?_⟩
          · intro q hq; rw [eS 4 q (by decide)]; exact n2 q hq
          · intro q hq; rw [eS 5 q (by decide)]; exact n3 q hq
          · intro q hq; rw [eS 6 q (by decide)]; exact n4 q hq
          · intro q hq; rw [eS 3 q (by decide)]; exact n5 q hq
        · obtain ⟨n1, n2, n3, n4⟩ := r2.mv (h' := gsI v5 (b + 29 + 11) l (jI st)) (fun y q1 q2 => E5 y (by omega))
          refine ⟨n1, ?_, ?_, ?_⟩
          · intro q hq; rw [eS 9 q (by decide)]; exact n2 q hq
          · intro q hq; rw [eS 10 q (by decide)]; exact n3 q hq
          · intro q hq; rw [eS 11 q (by decide)]; exact n4 q hq
        · intro l' hl' h3
          rw [eS 3 l' (by decide)] at h3
          rw [(E5 _ (by omega)).1, eS 1 l' (by decide)]; exact r3.1 l' hl' h3
        · intro l' hl' h3
          rw [eS 3 l' (by decide)] at h3
          by_cases el : l' = l
          · subst el; rw [rI_e, gU_eq]
          · rw [rI_k el, gU_k el]; exact r3.2 l' hl' h3
        · intro q hq; rw [(E5 _ (by omega)).1, eS 8 q (by decide)]; exact r4 q hq
        · rw [(E5 _ (by omega)).1, eS 0 1 (by decide)]; exact r5
        · rw [(E5 _ (by omega)).1, eS 0 2 (by decide)]; exact r6
        · rw [(E5 _ (by omega)).1, eS 0 3 (by decide)]; exact r7
      have W6 := W.st (l := l) hs
      obtain ⟨v8, q8, Q8, G8, U8⟩ := u_findOhms (a := b + 113) R6 W6 (by omega) (x := -1) (by omega)
      have F8 : fSc b h v8 := fun y h1 h2 => ⟨(G8 y (by omega)).1.trans ((E5 y (by omega)).1.trans (G5 y (by omega)).1), (G8 y (by omega)).2.trans ((E5 y (by omega)).2.trans (G5 y (by omega)).2)⟩
      have r9 := rR_9 W6 (x := -1) (p := n - 1) (by omega)
      have e4 : v8.1 (b + 29 + 1) 4 = jI n := by rw [(G8 _ (by omega)).1]; exact R6.1.1
      have e5 : v8.1 (b + 29 + 1) 4 - 1 = jI ((n - 1 : Nat) : Int) := by
        rw [e4, jl_1, jI_sub]
        congr 1
        omega
      have same := k_isSame (Q8 (n - 1) (by omega)) (Q.mv (h' := v8) (F8 (b + 141) (by omega) (by omega)).2) (by omega) (by omega) q1 q2
      refine ⟨v8, gBs e1 (gIT rfl (gIT g6 (gIT (by rw [c2]; rfl) (gBs q5 (gIT g6 (gBs q8 ?_)))))), F8⟩
      rw [e5, gNp (by omega)]
      exact gIT (jin (by omega) (by omega) (by omega)) (gBs same rfl)
    · rw [decide_eq_false c2, Bool.false_and]
      exact ⟨h, gBs e1 (gIT rfl (gIT g6 (gIF (jne (b := 0) (by omega) (by omega) (by omega) (by omega) c2) rfl))), fun _ _ _ => ⟨rfl, rfl⟩⟩
theorem u_f82 {h : gHp} {b t n c : Nat} {S : gTb} (R : cSt h (b + 3) n c S) (W : gWf t n c S) (hn0 : 0 < n) {q : gQ} (Q : hQ h (b + 141) q) (q1 : q.1 < 9223372036854775808) (q2 : q.2 < 9223372036854775808) {l : Nat} (hl : l < 6) (k : Int32 → Int32 → gHp → Option (Int32 × gHp)) {a : Int} (ha : 0 ≤ a ∧ a < 2147483648) (f : Nat) : ∃ v1 v2, fSc b h v1 ∧ fSc b h v2 ∧ f_X9_fault_82 b (jI l) k (f + 3) (jI a) (jI 1) h = if gHit S n q l 1 = true ∧ a = 0 then some (jI (10 * (l : Int) + 1), v1) else if gHit S n q l 2 = true ∧ a - (if gHit S n q l 1 = true then 1 else 0) = 0 then some (jI (10 * (l : Int) + 2), v2) else k (jI (a - (if gHit S n q l 1 = true then 1 else 0) - (if gHit S n q l 2 = true then 1 else 0))) (jI ((l + 1 : Nat) : Int)) v2 := by
  obtain ⟨v1, k1, F1⟩ := u_couldBe R W hn0 Q q1 q2 hl (st := 1) (by omega)
  obtain ⟨v2, k2, F2⟩ := u_couldBe (h := v1) (R.mv (fun y q1 q2 => F1 y (by omega) (by omega))) W hn0 (Q.mv (F1 (b + 141) (by omega) (by omega)).2) q1 q2 hl (st := 2) (by omega)
  refine ⟨v1, v2, F1, F1.tr F2, ?_⟩
  have s1 : ¬ (2 : Int32) < jI 1 := jnlt (a := 2) (by omega) (by omega) (by omega) (by omega) (by omega)
  have s2 : ¬ (2 : Int32) < jI 2 := jnlt (a := 2) (by omega) (by omega) (by omega) (by omega) (by omega)
  have s3 : (2 : Int32) < jI 3 := jlt (a := 2) (by omega) (by omega) (by omega) (by omega) (by omega)
  have t1 : jI 1 + 1 = jI 2 := rfl
  have t2 : jI 2 + 1 = jI 3 := rfl
  have el : jI (l : Int) + 1 = jI ((l + 1 : Nat) : Int) := by rw [jl_1, jI_add]; rfl
  have x1 : (10 : Int32) * jI l + jI 1 = jI (10 * (l : Int) + 1) := by rw [jl_10, jI_mul, jI_add]
  have x2 : (10 : Int32) * jI l + jI 2 = jI (10 * (l : Int) + 2) := by rw [jl_10, jI_mul, jI_add]
  have last : ∀ (a' : Int), f_X9_fault_82 b (jI l) k (f + 1) (jI a') (jI 3) v2 = k (jI a') (jI ((l + 1 : Nat) : Int)) v2 := fun a' => by
    rw [f_X9_fault_82, el]
    exact gIT s3 rfl
  have mid : ∀ (a' : Int), 0 ≤ a' → a' < 2147483648 → f_X9_fault_82 b (jI l) k (f + 2) (jI a') (jI 2) v1 = if gHit S n q l 2 = true ∧ a' = 0 then some (jI (10 * (l : Int) + 2), v2) else k (jI (a' - (if gHit S n q l 2 = true then 1 else 0))) (jI ((l + 1 : Nat) : Int)) v2 := fun a' h0 h1 => by
    by_cases g : gHit S n q l 2 = true
    · by_cases c0 : a' = 0
      · rw [if_pos (And.intro g c0), f_X9_fault_82, t2, x2]
        exact gIF s2 (gBs k2 (gIT g (gIT (by rw [c0]; rfl) rfl)))
      · rw [if_neg (show ¬ (gHit S n q l 2 = true ∧ a' = 0) from fun w => c0 w.2), if_pos g, f_X9_fault_82, t2]
        refine gIF s2 (gBs k2 (gIT g (gIF (jne (b := 0) (by omega) (by omega) (by omega) (by omega) c0) ?_)))
        rw [jl_1, jI_neg, jI_add, Int.sub_eq_add_neg]
        exact last (a' + -1)
    · rw [if_neg (show ¬ (gHit S n q l 2 = true ∧ a' = 0) from fun w => g w.1), if_neg g, Int.sub_zero, f_X9_fault_82, t2]
      exact gIF s2 (gBs k2 (gIF g (last a')))
  by_cases g : gHit S n q l 1 = true
  · by_cases c0 : a = 0
    · rw [if_pos (And.intro g c0), f_X9_fault_82, t1, x1]
      exact gIF s1 (gBs k1 (gIT g (gIT (by rw [c0]; rfl) rfl)))
    · rw [if_neg (show ¬ (gHit S n q l 1 = true ∧ a = 0) from fun w => c0 w.2), if_pos g, f_X9_fault_82, t1]
      refine gIF s1 (gBs k1 (gIT g (gIF (jne (b := 0) (by omega) (by omega) (by omega) (by omega) c0) ?_)))
      rw [jl_1, jI_neg, jI_add, ← Int.sub_eq_add_neg]
      exact mid (a - 1) (by omega) (by omega)
  · rw [if_neg (show ¬ (gHit S n q l 1 = true ∧ a = 0) from fun w => g w.1), if_neg g, Int.sub_zero, f_X9_fault_82, t1]
    exact gIF s1 (gBs k1 (gIF g (mid a ha.1 ha.2)))
theorem u_f72 {b t n c : Nat} {S : gTb} (W : gWf t n c S) (hn0 : 0 < n) {q : gQ} (q1 : q.1 < 9223372036854775808) (q2 : q.2 < 9223372036854775808) {num : Int} (hnum : num < 2147483648) : ∀ (r l : Nat) (f : Nat) (a : Int) (h : gHp), l + r = 6 → r < f → 0 ≤ a → a ≤ num → cSt h (b + 3) n c S → hQ h (b + 141) q → ∃ h', f_X9_fault_72 b f (jI a) (jI l) h = some (jI (gFa S n q num r l (num - a)), h') ∧ fSc b h h' := by
  intro r
  induction r with
  | zero =>
    intro l f a h hl hf h0 h1 R Q
    obtain ⟨f', rfl⟩ : ∃ f', f = f' + 1 := ⟨f - 1, by omega⟩
    refine ⟨h, ?_, fun _ _ _ => ⟨rfl, rfl⟩⟩
    rw [f_X9_fault_72]
    exact gIT (jle (a := 6) (by omega) (by omega) (by omega) (by omega) (by omega)) rfl
  | succ r ih =>
    intro l f a h hl hf h0 h1 R Q
    obtain ⟨f', rfl⟩ : ∃ f', f = f' + 1 := ⟨f - 1, by omega⟩
    obtain ⟨v1, v2, F1, F2, e⟩ := u_f82 R W hn0 Q q1 q2 (l := l) (by omega) (fun y0 y1 y2 => f_X9_fault_72 b f' y0 y1 y2) (a := a) (by omega) 4093
    have e0 : ∀ r, f_X9_fault_82 b (jI l) (fun y0 y1 y2 => f_X9_fault_72 b f' y0 y1 y2) (4093 + 3) (jI a) (jI 1) h = r → f_X9_fault_72 b (f' + 1) (jI a) (jI l) h = r := fun r hr => by
      rw [f_X9_fault_72]
      exact gIF (jnle (a := 6) (by omega) (by omega) (by omega) (by omega) (by omega)) hr
    have e' := e0 _ e
    rw [gFa]
    by_cases c1 : gHit S n q l 1 = true ∧ a = 0
    · rw [if_pos c1] at e'
      rw [if_pos (show gHit S n q l 1 = true ∧ num - a = num from ⟨c1.1, by omega⟩)]
      exact ⟨v1, e', F1⟩
    · rw [if_neg c1] at e'
      rw [if_neg (show ¬ (gHit S n q l 1 = true ∧ num - a = num) from fun w => c1 ⟨w.1, by omega⟩)]
      by_cases c2 : gHit S n q l 2 = true ∧ a - (if gHit S n q l 1 = true then 1 else 0) = 0
      · rw [if_pos c2] at e'
        rw [if_pos (show gHit S n q l 2 = true ∧ num - a + (if gHit S n q l 1 = true then 1 else 0) = num from ⟨c2.1, by have := c2.2; omega⟩)]
        exact ⟨v2, e', F2⟩
      · rw [if_neg c2] at e'
        rw [if_neg (show ¬ (gHit S n q l 2 = true ∧ num - a + (if gHit S n q l 1 = true then 1 else 0) = num) from fun w => c2 ⟨w.1, by have := w.2; omega⟩)]
        have b1 : 0 ≤ a - (if gHit S n q l 1 = true then 1 else 0) - (if gHit S n q l 2 = true then 1 else 0) := by
          by_cases g1 : gHit S n q l 1 = true
          · have : a ≠ 0 := fun w => c1 ⟨g1, w⟩
            by_cases g2 : gHit S n q l 2 = true
            · have := c2
              rw [if_pos g1] at this
              have : a - 1 ≠ 0 := fun w => this ⟨g2, w⟩
              rw [if_pos g1, if_pos g2]; omega
            · rw [if_pos g1, if_neg g2]; omega
          · by_cases g2 : gHit S n q l 2 = true
            · have := c2
              rw [if_neg g1] at this
              have : a - 0 ≠ 0 := fun w => this ⟨g2, w⟩
              rw [if_neg g1, if_pos g2]; omega
            · rw [if_neg g1, if_neg g2]; omega
        have b2 : a - (if gHit S n q l 1 = true then 1 else 0) - (if gHit S n q l 2 = true then 1 else 0) ≤ a := by
          split <;> split <;> omega
        obtain ⟨h', e3, F3⟩ := ih (l + 1) f' _ v2 (by omega) (by omega) b1 (by omega) (R.mv (fun y q1 q2 => F2 y (by omega) (by omega))) (Q.mv (F2 (b + 141) (by omega) (by omega)).2)
        refine ⟨h', ?_, F2.tr F3⟩
        rw [e']
        refine e3.trans ?_
        congr 3
        congr 1
        omega
theorem m_f82 {h : gHp} {m t n c : Nat} {S : gTb} (R : mRow (h.2 (m + 1)) n c S) (W : gWf t n c S) (hn0 : 0 < n) {q : gQ} (q1 : q.1 < 9223372036854775808) (q2 : q.2 < 9223372036854775808) {l : Nat} (hl : l < 6) (k : Int32 → Int32 → gHp → Option (Int32 × gHp)) {j num : Int} (hj : 0 ≤ j ∧ j < 2147483640) (hnum : 0 ≤ num ∧ num < 2147483648) (f : Nat) : ∃ v1 v2, mFr m h v1 ∧ mFr m h v2 ∧ f_X10_fault_82 m (jI num) (lI q.1) (lI q.2) (jI l) k (f + 3) (jI j) (jI 1) h = if gHit S n q l 1 = true ∧ j = num then some (jI (10 * (l : Int) + 1), v1) else if gHit S n q l 2 = true ∧ j + (if gHit S n q l 1 = true then 1 else 0) = num then some (jI (10 * (l : Int) + 2), v2) else k (jI (j + (if gHit S n q l 1 = true then 1 else 0) + (if gHit S n q l 2 = true then 1 else 0))) (jI ((l + 1 : Nat) : Int)) v2 := by
  have hn := W.n
  have e1 := fun (h' : gHp) (R' : mRow (h'.2 (m + 1)) n c S) => m_hasArm R' W (z := l) (by omega) (by omega)
  have el : jI (l : Int) + 1 = jI ((l + 1 : Nat) : Int) := by rw [jl_1, jI_add]; rfl
  have s1 : ¬ (2 : Int32) < jI 1 := jnlt (a := 2) (by omega) (by omega) (by omega) (by omega) (by omega)
  have s2 : ¬ (2 : Int32) < jI 2 := jnlt (a := 2) (by omega) (by omega) (by omega) (by omega) (by omega)
  have s3 : (2 : Int32) < jI 3 := jlt (a := 2) (by omega) (by omega) (by omega) (by omega) (by omega)
  by_cases c3 : S 3 l = 0 ∨ S 2 l ≠ 0
  · have z : ∀ st, gHit S n q l st = false := fun st => by
      unfold gHit
      rcases c3 with c3 | c3
      · rw [decide_eq_false (fun w => w c3), Bool.false_and, Bool.false_and]
      · rw [decide_eq_false c3, Bool.and_false, Bool.false_and]
    refine ⟨h, h, mFr.rf, mFr.rf, ?_⟩
    rw [z 1, z 2, if_neg (show ¬ (false = true ∧ j = num) from fun w => Bool.false_ne_true w.1), if_neg Bool.false_ne_true, Int.add_zero, if_neg (show ¬ (false = true ∧ j = num) from fun w => Bool.false_ne_true w.1), Int.add_zero, f_X10_fault_82, el]
    have e := e1 h R
    rw [Int.toNat_natCast] at e
    by_cases d3 : S 3 l = 0
    · rw [decide_eq_false (by omega)] at e
      exact gIF s1 (gBs e (gIF Bool.false_ne_true rfl))
    · rw [decide_eq_true (by omega)] at e
      have st := m_state R W hl d3
      have lt := W.lt hl d3
      exact gIF s1 (gBs e (gIT rfl (gBs (by rw [jl_1]; exact st) (gIF (jne (b := 0) (by omega) (by omega) (by omega) (by omega) (by omega)) rfl))))
  · have c4 : S 3 l ≠ 0 := fun w => c3 (Or.inl w)
    have c5 : S 2 l = 0 := by
      by_cases w : S 2 l = 0
      · exact w
      · exact absurd (Or.inr w) c3
    have one : ∀ (h' : gHp) (R' : mRow (h'.2 (m + 1)) n c S) (st : Int), 1 ≤ st → st ≤ 2 → ∃ v, mFr m h' v ∧ f_X10_lay m (-4) (jI l) (jI st) h' = some v ∧ (gHit S n q l st = true ↔ v.2 (m + 9) (n - 1) = lI q.1 ∧ v.2 (m + 10) (n - 1) = lI q.2) := fun h' R' st h1 h2 => by
      have W' := W.st (l := l) (st := st) (by omega)
      obtain ⟨v, e, Qv, F⟩ := m_lay R' W W' (A := ⟨fun f k hf => gU_n hf, fun l' => by
        by_cases w : l' = l
        · subst w; rw [if_pos rfl, gU_eq]
        · rw [gU_k w, if_neg (by omega)]⟩) (arm := l) (st := st) (by omega) (by omega) (x := -1) (by omega)
      have r9 := rR_9 W' (x := -1) (p := n - 1) (by omega)
      refine ⟨v, F, e, ?_⟩
      rw [(Qv (n - 1) (by omega)).1, (Qv (n - 1) (by omega)).2]
      unfold gHit
      rw [decide_eq_true c4, decide_eq_true c5, Bool.true_and, Bool.true_and, decide_eq_true_eq]
      rw [lI_eq (by omega) (by omega) (by omega) (by omega), lI_eq (by omega) (by omega) (by omega) (by omega)]
      constructor
      · intro w; rw [w]; exact ⟨rfl, rfl⟩
      · intro w
        exact Prod.ext (by omega) (by omega)
    obtain ⟨v1, F1, k1, i1⟩ := one h R 1 (by omega) (by omega)
    have R1 : mRow (v1.2 (m + 1)) n c S := by rw [F1.row]; exact R
    obtain ⟨v2, F2, k2, i2⟩ := one v1 R1 2 (by omega) (by omega)
    have R2 : mRow (v2.2 (m + 1)) n c S := by rw [F2.row]; exact R1
    refine ⟨v1, v2, F1, F1.tr F2, ?_⟩
    have t1 : jI 1 + 1 = jI 2 := rfl
    have t2 : jI 2 + 1 = jI 3 := rfl
    have x1 : (10 : Int32) * jI l + jI 1 = jI (10 * (l : Int) + 1) := by rw [jl_10, jI_mul, jI_add]
    have x2 : (10 : Int32) * jI l + jI 2 = jI (10 * (l : Int) + 2) := by rw [jl_10, jI_mul, jI_add]
    have en : jI (n : Int) - 1 = jI ((n - 1 : Nat) : Int) := by
      rw [jl_1, jI_sub]
      congr 1
      omega
    have g11 : gIn (jI ((n - 1 : Nat) : Int)) 11 := jin (by omega) (by omega) (by omega)
    have ha : ∀ h', mRow (h'.2 (m + 1)) n c S → f_X10_hasArm m (jI l) h' = some true ∧ f_X10_ofArm m (jI l) 1 h' = some 0 := fun h' R' => by
      have e := e1 h' R'
      rw [Int.toNat_natCast, decide_eq_true (by omega)] at e
      have st := m_state R' W hl c4
      rw [c5] at st
      exact ⟨e, st⟩
    have last : ∀ (a' : Int), f_X10_fault_82 m (jI num) (lI q.1) (lI q.2) (jI l) k (f + 1) (jI a') (jI 3) v2 = k (jI a') (jI ((l + 1 : Nat) : Int)) v2 := fun a' => by
      rw [f_X10_fault_82, el]
      exact gIT s3 rfl
    have mid : ∀ (a' : Int), 0 ≤ a' → a' < 2147483645 → f_X10_fault_82 m (jI num) (lI q.1) (lI q.2) (jI l) k (f + 2) (jI a') (jI 2) v1 = if gHit S n q l 2 = true ∧ a' = num then some (jI (10 * (l : Int) + 2), v2) else k (jI (a' + (if gHit S n q l 2 = true then 1 else 0))) (jI ((l + 1 : Nat) : Int)) v2 := fun a' h0 h1 => by
      have h2 := ha v1 R1
      rw [f_X10_fault_82, t2, x2]
      refine gIF s2 (gBs h2.1 (gIT rfl (gBs h2.2 (gIT rfl (gBs k2 (gBs (m_parts R2 hn) ?_))))))
      rw [en, gNp (by omega)]
      refine gIT g11 ?_
      by_cases g : gHit S n q l 2 = true
      · have w := i2.mp g
        refine gIT w.1 (gBs (m_parts R2 hn) ?_)
        rw [en, gNp (by omega)]
        refine gIT g11 (gIT w.2 ?_)
        by_cases c0 : a' = num
        · rw [if_pos (And.intro g c0)]
          exact gIT (by rw [c0]) rfl
        · rw [if_neg (show ¬ (gHit S n q l 2 = true ∧ a' = num) from fun w => c0 w.2), if_pos g]
          refine gIF (jne (by omega) (by omega) (by omega) (by omega) c0) ?_
          rw [jl_1, jI_add, last]
      · rw [if_neg (show ¬ (gHit S n q l 2 = true ∧ a' = num) from fun w => g w.1), if_neg g, Int.add_zero]
        by_cases w1 : v2.2 (m + 9) (n - 1) = lI q.1
        · refine gIT w1 (gBs (m_parts R2 hn) ?_)
          rw [en, gNp (by omega)]
          refine gIT g11 (gIF (fun w2 => g (i2.mpr ⟨w1, w2⟩)) ?_)
          exact last a'
        · exact gIF w1 (last a')
    have h2 := ha h R
    rw [f_X10_fault_82, t1, x1]
    refine gIF s1 (gBs h2.1 (gIT rfl (gBs h2.2 (gIT rfl (gBs k1 (gBs (m_parts R1 hn) ?_))))))
    rw [en, gNp (by omega)]
    refine gIT g11 ?_
    by_cases g : gHit S n q l 1 = true
    · have w := i1.mp g
      refine gIT w.1 (gBs (m_parts R1 hn) ?_)
      rw [en, gNp (by omega)]
      refine gIT g11 (gIT w.2 ?_)
      by_cases c0 : j = num
      · rw [if_pos (And.intro g c0)]
        exact gIT (by rw [c0]) rfl
      · rw [if_neg (show ¬ (gHit S n q l 1 = true ∧ j = num) from fun w => c0 w.2), if_pos g]
        refine gIF (jne (by omega) (by omega) (by omega) (by omega) c0) ?_
        rw [jl_1, jI_add, mid (j + 1) (by omega) (by omega)]
    · rw [if_neg (show ¬ (gHit S n q l 1 = true ∧ j = num) from fun w => g w.1), if_neg g, Int.add_zero]
      by_cases w1 : v1.2 (m + 9) (n - 1) = lI q.1
      · refine gIT w1 (gBs (m_parts R1 hn) ?_)
        rw [en, gNp (by omega)]
        refine gIT g11 (gIF (fun w2 => g (i1.mpr ⟨w1, w2⟩)) ?_)
        exact mid j (by omega) (by omega)
      · exact gIF w1 (mid j (by omega) (by omega))
theorem m_f72 {m t n c : Nat} {S : gTb} (W : gWf t n c S) (hn0 : 0 < n) {q : gQ} (q1 : q.1 < 9223372036854775808) (q2 : q.2 < 9223372036854775808) {num : Int} (hnum : 0 ≤ num ∧ num < 2147483648) : ∀ (r l : Nat) (f : Nat) (j : Int) (h : gHp), l + r = 6 → r < f → 0 ≤ j → j ≤ 2 * l → mRow (h.2 (m + 1)) n c S → ∃ h', f_X10_fault_72 m (jI num) (lI q.1) (lI q.2) f (jI j) (jI l) h = some (jI (gFa S n q num r l j), h') ∧ mFr m h h' := by
  intro r
  induction r with
  | zero =>
    intro l f j h hl hf h0 h1 R
    obtain ⟨f', rfl⟩ : ∃ f', f = f' + 1 := ⟨f - 1, by omega⟩
    refine ⟨h, ?_, mFr.rf⟩
    rw [f_X10_fault_72]
    exact gIT (jle (a := 6) (by omega) (by omega) (by omega) (by omega) (by omega)) rfl
  | succ r ih =>
    intro l f j h hl hf h0 h1 R
    obtain ⟨f', rfl⟩ : ∃ f', f = f' + 1 := ⟨f - 1, by omega⟩
    obtain ⟨v1, v2, F1, F2, e⟩ := m_f82 R W hn0 q1 q2 (l := l) (by omega) (fun y0 y1 y2 => f_X10_fault_72 m (jI num) (lI q.1) (lI q.2) f' y0 y1 y2) (j := j) (num := num) (by omega) hnum 4093
    have e0 : ∀ r, f_X10_fault_82 m (jI num) (lI q.1) (lI q.2) (jI l) (fun y0 y1 y2 => f_X10_fault_72 m (jI num) (lI q.1) (lI q.2) f' y0 y1 y2) (4093 + 3) (jI j) (jI 1) h = r → f_X10_fault_72 m (jI num) (lI q.1) (lI q.2) (f' + 1) (jI j) (jI l) h = r := fun r hr => by
      rw [f_X10_fault_72]
      exact gIF (jnle (a := 6) (by omega) (by omega) (by omega) (by omega) (by omega)) hr
    have e' := e0 _ e
    rw [gFa]
    by_cases c1 : gHit S n q l 1 = true ∧ j = num
    · rw [if_pos c1] at e' ⊢
      exact ⟨v1, e', F1⟩
    · rw [if_neg c1] at e' ⊢
      by_cases c2 : gHit S n q l 2 = true ∧ j + (if gHit S n q l 1 = true then 1 else 0) = num
      · rw [if_pos c2] at e' ⊢
        exact ⟨v2, e', F2⟩
      · rw [if_neg c2] at e' ⊢
        have b1 : 0 ≤ j + (if gHit S n q l 1 = true then 1 else 0) + (if gHit S n q l 2 = true then 1 else 0) ∧ j + (if gHit S n q l 1 = true then 1 else 0) + (if gHit S n q l 2 = true then 1 else 0) ≤ j + 2 := by
          split <;> split <;> omega
        obtain ⟨h', e3, F3⟩ := ih (l + 1) f' _ v2 (by omega) (by omega) b1.1 (by omega) (by rw [F2.row]; exact R)
        exact ⟨h', e'.trans e3, F2.tr F3⟩
theorem s_fault (b m t : Nat) (x1 x2 x3 : Int32) : gOK b m t (f_X9_fault b x1 x2 x3) (f_X10_fault m x1 x2 x3) := by
  rintro ⟨tx, ⟨n, c, S⟩, H, X⟩ h C W
  have R : cSt h (b + 3) n c S := C.2.1
  have Wf : gWf t n c S := W.2.1
  have hn := Wf.n
  obtain ⟨z1, rfl, a1, a2⟩ := jI_ex x1
  obtain ⟨z2, rfl, b1, b2⟩ := jI_ex x2
  obtain ⟨z3, rfl, d1, d2⟩ := jI_ex x3
  have i1 : ∀ h2 : gHp, f_X10_in (jI z1) 0 9999 h2 = some (decide (0 ≤ z1 ∧ z1 ≤ 9999)) := fun h2 => m_in h2 (x := z1) (y := 0) (z := 9999) a1 a2 (by omega) (by omega) (by omega) (by omega)
  have i2 : ∀ h2 : gHp, f_X10_in (jI z2) 0 99 h2 = some (decide (0 ≤ z2 ∧ z2 ≤ 99)) := fun h2 => m_in h2 (x := z2) (y := 0) (z := 99) b1 b2 (by omega) (by omega) (by omega) (by omega)
  by_cases c1 : 0 ≤ z1 ∧ z1 ≤ 9999
  · have p1 : ¬ jI z1 < 0 := jnlt (b := 0) a1 a2 (by omega) (by omega) (by omega)
    have p2 : ¬ (9999 : Int32) < jI z1 := jnlt (a := 9999) (by omega) (by omega) a1 a2 (by omega)
    have I1 : ∀ h2 : gHp, f_X10_in (jI z1) 0 9999 h2 = some true := fun h2 => by rw [i1, decide_eq_true c1]
    by_cases c2 : 0 ≤ z2 ∧ z2 ≤ 99
    · have p3 : ¬ jI z2 < 0 := jnlt (b := 0) b1 b2 (by omega) (by omega) (by omega)
      have p4 : jI z2 ≤ 99 := jle (b := 99) b1 b2 (by omega) (by omega) (by omega)
      have I2 : ∀ h2 : gHp, f_X10_in (jI z2) 0 99 h2 = some true := fun h2 => by rw [i2, decide_eq_true c2]
      by_cases c3 : z1 = 0 ∧ z2 = 0
      · have k1 : jI z1 = 0 := by rw [c3.1]; rfl
        have k2 : jI z2 = 0 := by rw [c3.2]; rfl
        exact ⟨-2, h, _, gIF p1 (gIF p2 (gIF p3 (gIT p4 (gIT k1 (gIT k2 rfl))))), C, W.up (by omega), gFr.rf, fun h2 M => ⟨h2, gBs (I1 h2) (gIT rfl (gBs (I2 h2) (gIT rfl (gIT k1 (gIT k2 rfl))))), M, gFr.rf⟩⟩
      · have headC : ∀ r, f_X9_fault_32 b (jI z1) (jI z2) (jI z3) h = r → f_X9_fault b (jI z1) (jI z2) (jI z3) h = r := fun r hr => by
          rw [f_X9_fault]
          refine gIF p1 (gIF p2 (gIF p3 (gIT p4 ?_)))
          by_cases w : z1 = 0
          · exact gIT (by rw [w]; rfl) (gIF (jne (b := 0) b1 b2 (by omega) (by omega) (fun w2 => c3 ⟨w, w2⟩)) hr)
          · exact gIF (jne (b := 0) a1 a2 (by omega) (by omega) w) hr
        have headM : ∀ h2 r, f_X10_fault_29 m (jI z1) (jI z2) (jI z3) h2 = r → f_X10_fault m (jI z1) (jI z2) (jI z3) h2 = r := fun h2 r hr => by
          rw [f_X10_fault]
          refine gBs (I1 h2) (gIT rfl (gBs (I2 h2) (gIT rfl ?_)))
          by_cases w : z1 = 0
          · exact gIT (by rw [w]; rfl) (gIF (jne (b := 0) b1 b2 (by omega) (by omega) (fun w2 => c3 ⟨w, w2⟩)) hr)
          · exact gIF (jne (b := 0) a1 a2 (by omega) (by omega) w) hr
        by_cases c4 : 0 ≤ z3
        · have p5 : (0 : Int32) ≤ jI z3 := jle (a := 0) (by omega) (by omega) d1 d2 (by omega)
          by_cases c5 : n = 0
          · refine ⟨-3, h, _, headC _ ?_, C, W.up (by omega), gFr.rf, fun h2 M => ⟨h2, headM h2 _ ?_, M, gFr.rf⟩⟩
            · rw [f_X9_fault_32, show h.1 (b + 3 + 1) 4 = jI n from R.1.1]
              exact gIT p5 (gIT (by rw [c5]; rfl) rfl)
            · rw [f_X10_fault_29]
              exact gIT p5 (gBs (m_parts (h := h2) (m := m) M.2.1 hn) (gIT (by rw [show (tx, (n, c, S), H, X).2.1.1 = 0 from c5]; rfl) rfl))
          · have hn0 : 0 < n := by omega
            have u1 : ((z1.toNat : Nat) : Int) = z1 := by omega
            have u2 : ((z2.toNat : Nat) : Int) = z2 := by omega
            have e641 := jI_to64 (z := z1) a1 a2
            have e642 := jI_to64 (z := z2) b1 b2
            have hne : ¬ (z1.toNat = 0 ∧ z2.toNat = 0) := fun w => c3 ⟨by omega, by omega⟩
            have kp := k_put h (b + 141) (u := z1.toNat) (l := z2.toNat) (by omega) (by omega) hne
            rw [u1, u2, ← e641, ← e642] at kp
            have rl := nV_le (nRed_V hne)
            have Qw := nPut_Q h (b + 141) (nRed z1.toNat z2.toNat)
            have Rw : cSt (nPut h (b + 141) (nRed z1.toNat z2.toNat)) (b + 3) n c S := R.mv (fun y q1 q2 => ⟨rfl, nPut_2 (by omega)⟩)
            obtain ⟨h', e3, F3⟩ := u_f72 (b := b) Wf hn0 (q := nRed z1.toNat z2.toNat) (by omega) (by omega) (num := z3) d2 6 0 gFuel z3 _ (by omega) (by unfold gFuel; omega) c4 (Int.le_refl _) Rw Qw
            have Fa : ∀ y, (y < b + 29 ∨ b + 42 ≤ y) → (y < b + 116 ∨ b + 142 ≤ y) → h'.1 y = h.1 y ∧ h'.2 y = h.2 y := fun y q r => ⟨(F3 y q (by omega)).1, (F3 y q (by omega)).2.trans (nPut_2 (by omega))⟩
            rw [Int.sub_self] at e3
            refine ⟨jI (gFa S n (nRed z1.toNat z2.toNat) z3 6 0 0), h', _, headC _ ?_, C.mv (fun y q1 q2 => Fa y (by omega) (by omega)) (fun y q1 q2 => Fa y (by omega) (by omega)), W.up (by omega), fun y hy => Fa y (by omega) (by omega), fun h2 M => ?_⟩
            · rw [f_X9_fault_32, show h.1 (b + 3 + 1) 4 = jI n from R.1.1]
              exact gIT p5 (gIF (jne (b := 0) (by omega) (by omega) (by omega) (by omega) (by omega)) (gBs kp e3))
            · have M1 : mRow (h2.2 (m + 1)) n c S := M.2.1
              have kb := s_becomes h2 m (u := z1.toNat) (l := z2.toNat) (by omega) (by omega) hne
              rw [u1, u2, ← e641, ← e642] at kb
              obtain ⟨h'', e4, F4⟩ := m_f72 (m := m) Wf hn0 (q := nRed z1.toNat z2.toNat) (by omega) (by omega) (num := z3) ⟨c4, d2⟩ 6 0 gFuel 0 (sPut h2 m (nRed z1.toNat z2.toNat)) (by omega) (by unfold gFuel; omega) (by omega) (by omega) (by rw [sPut_2 (by omega)]; exact M1)
              have F5 : mFr m h2 h'' := (mFr.rf.S).tr F4
              refine ⟨h'', headM h2 _ ?_, M.fr F5, F5.fr⟩
              rw [f_X10_fault_29]
              refine gIT p5 (gBs (m_parts M1 hn) (gIF (jne (b := 0) (by omega) (by omega) (by omega) (by omega) (by omega)) (gBs kb ?_)))
              rw [sPut_17, sPut_18]
              exact e4
        · have p5 : ¬ (0 : Int32) ≤ jI z3 := jnle (a := 0) (by omega) (by omega) d1 d2 (by omega)
          exact ⟨-2, h, _, headC _ (gIF p5 rfl), C, W.up (by omega), gFr.rf, fun h2 M => ⟨h2, headM h2 _ (gIF p5 rfl), M, gFr.rf⟩⟩
    · refine ⟨-2, h, _, ?_, C, W.up (by omega), gFr.rf, fun h2 M => ⟨h2, ?_, M, gFr.rf⟩⟩
      · refine gIF p1 (gIF p2 ?_)
        by_cases w : z2 < 0
        · exact gIT (jlt (b := 0) b1 b2 (by omega) (by omega) w) rfl
        · exact gIF (jnlt (b := 0) b1 b2 (by omega) (by omega) (by omega)) (gIF (jnle (b := 99) b1 b2 (by omega) (by omega) (by omega)) rfl)
      · exact gBs (I1 h2) (gIT rfl (gBs (by rw [i2, decide_eq_false c2]) (gIF Bool.false_ne_true rfl)))
  · refine ⟨-2, h, _, ?_, C, W.up (by omega), gFr.rf, fun h2 M => ⟨h2, ?_, M, gFr.rf⟩⟩
    · by_cases w : z1 < 0
      · exact gIT (jlt (b := 0) a1 a2 (by omega) (by omega) w) rfl
      · exact gIF (jnlt (b := 0) a1 a2 (by omega) (by omega) (by omega)) (gIT (jlt (a := 9999) (by omega) (by omega) a1 a2 (by omega)) rfl)
    · exact gBs (by rw [i1, decide_eq_false c1]) (gIF Bool.false_ne_true rfl)
