/-! what the cells hold -/
def gFr (lo n : Nat) (h h' : gHp) : Prop := ∀ x : Nat, (x < lo ∨ lo + n ≤ x) → h'.1 x = h.1 x ∧ h'.2 x = h.2 x
def gSa (lo n : Nat) (h h' : gHp) : Prop := ∀ x : Nat, lo ≤ x → x < lo + n → h'.1 x = h.1 x ∧ h'.2 x = h.2 x
theorem gFr.rf {lo n : Nat} {h : gHp} : gFr lo n h h := fun _ _ => ⟨rfl, rfl⟩
theorem gFr.tr {lo n : Nat} {h h1 h2 : gHp} (a : gFr lo n h h1) (b : gFr lo n h1 h2) : gFr lo n h h2 := fun x q => ⟨(b x q).1.trans (a x q).1, (b x q).2.trans (a x q).2⟩
theorem gFr.mono {lo n lo' n' : Nat} {h h1 : gHp} (s : gFr lo n h h1) (q1 : lo' ≤ lo) (q2 : lo + n ≤ lo' + n') : gFr lo' n' h h1 := fun x q => s x (by omega)
theorem gFr.I {lo n : Nat} {h h1 : gHp} (s : gFr lo n h h1) {a k : Nat} {v : Int32} (q1 : lo ≤ a) (q2 : a < lo + n) : gFr lo n h (gsI h1 a k v) := fun x q => ⟨(gU_ne (by omega)).trans (s x q).1, (s x q).2⟩
theorem gFr.L {lo n : Nat} {h h1 : gHp} (s : gFr lo n h h1) {a k : Nat} {v : Int64} (q1 : lo ≤ a) (q2 : a < lo + n) : gFr lo n h (gsL h1 a k v) := fun x q => ⟨(s x q).1, (gU_ne (by omega)).trans (s x q).2⟩
theorem gFr.i1 {lo n : Nat} {h h1 : gHp} (s : gFr lo n h h1) {x : Nat} (q : x < lo ∨ lo + n ≤ x) : h1.1 x = h.1 x := (s x q).1
theorem gFr.i2 {lo n : Nat} {h h1 : gHp} (s : gFr lo n h h1) {x : Nat} (q : x < lo ∨ lo + n ≤ x) : h1.2 x = h.2 x := (s x q).2
theorem gFr.sa {lo n lo' n' : Nat} {h h1 : gHp} (s : gFr lo n h h1) (q : lo' + n' ≤ lo ∨ lo + n ≤ lo') : gSa lo' n' h h1 := fun x q1 q2 => s x (by omega)
theorem gSa.tr {lo n : Nat} {h h1 h2 : gHp} (a : gSa lo n h h1) (b : gSa lo n h1 h2) : gSa lo n h h2 := fun x q r => ⟨(b x q r).1.trans (a x q r).1, (b x q r).2.trans (a x q r).2⟩
theorem gSa.mono {lo n lo' n' : Nat} {h h1 : gHp} (s : gSa lo n h h1) (q1 : lo ≤ lo') (q2 : lo' + n' ≤ lo + n) : gSa lo' n' h h1 := fun x q r => s x (by omega) (by omega)
theorem gSa.i1 {lo n : Nat} {h h1 : gHp} (s : gSa lo n h h1) {x : Nat} (q : lo ≤ x ∧ x < lo + n) : h1.1 x = h.1 x := (s x q.1 q.2).1
theorem gSa.i2 {lo n : Nat} {h h1 : gHp} (s : gSa lo n h h1) {x : Nat} (q : lo ≤ x ∧ x < lo + n) : h1.2 x = h.2 x := (s x q.1 q.2).2
theorem rI_2 (h : gHp) (a k : Nat) (v : Int32) : (gsI h a k v).2 = h.2 := rfl
theorem rL_1 (h : gHp) (a k : Nat) (v : Int64) : (gsL h a k v).1 = h.1 := rfl
theorem rI_e (h : gHp) (a k : Nat) (v : Int32) : (gsI h a k v).1 a k = v := gU_eq _ _ _ _
theorem rL_e (h : gHp) (a k : Nat) (v : Int64) : (gsL h a k v).2 a k = v := gU_eq _ _ _ _
theorem rI_n {h : gHp} {a k x : Nat} {v : Int32} (q : x ≠ a) : (gsI h a k v).1 x = h.1 x := gU_ne q
theorem rL_n {h : gHp} {a k x : Nat} {v : Int64} (q : x ≠ a) : (gsL h a k v).2 x = h.2 x := gU_ne q
theorem rI_k {h : gHp} {a k x j : Nat} {v : Int32} (q : j ≠ k) : (gsI h a k v).1 x j = h.1 x j := gU_ne2 (Or.inr q)
theorem rL_k {h : gHp} {a k x j : Nat} {v : Int64} (q : j ≠ k) : (gsL h a k v).2 x j = h.2 x j := gU_ne2 (Or.inr q)
theorem gU_k {α : Type} {f : Nat → Nat → α} {a k x j : Nat} {v : α} (q : j ≠ k) : gU f a k v x j = f x j := gU_ne2 (Or.inr q)
theorem gU_n {α : Type} {f : Nat → Nat → α} {a k x j : Nat} {v : α} (q : x ≠ a) : gU f a k v x j = f x j := gU_ne2 (Or.inl q)
/-! a state in numbers: S 0: 1 source, 2 meter, 3 folds; of an arm S 1 value, S 2 state, S 3 its part and 1 (0: none); of a part S 4 kind, S 5 around (-1: none), S 6 letter (-1: none), S 7 parts, S 8 folded; S 9, S 10, S 11 noted readings; n parts, c readings -/
abbrev gTb : Type := Nat → Nat → Int
def cNet (h : gHp) (a n : Nat) (S : gTb) : Prop := h.1 a 4 = jI n ∧ (∀ p : Nat, p < n → h.1 (a + 1) p = jI (S 4 p)) ∧ (∀ p : Nat, p < n → h.1 (a + 2) p = jI (S 5 p)) ∧ (∀ p : Nat, p < n → h.1 (a + 3) p = jI (S 6 p)) ∧ (∀ l : Nat, l < 6 → h.1 (a + 4) l = jI (S 3 l - 1))
def cNot (h : gHp) (a c : Nat) (S : gTb) : Prop := h.1 a 3 = jI c ∧ (∀ k : Nat, k < c → h.2 (a + 1) k = lI (S 9 k)) ∧ (∀ k : Nat, k < c → h.2 (a + 2) k = lI (S 10 k)) ∧ (∀ k : Nat, k < c → h.1 (a + 3) k = jI (S 11 k))
def cArm (h : gHp) (a : Nat) (S : gTb) : Prop := (∀ l : Nat, l < 6 → S 3 l ≠ 0 → h.1 (a + 10) l = jI (S 1 l)) ∧ (∀ l : Nat, l < 6 → S 3 l ≠ 0 → h.1 (a + 11) l = jI (S 2 l))
def cSt (h : gHp) (a n c : Nat) (S : gTb) : Prop := cNet h (a + 1) n S ∧ cNot h (a + 6) c S ∧ cArm h a S ∧ (∀ p : Nat, p < n → h.1 (a + 12) p = jI (S 8 p)) ∧ h.1 a 5 = jI (S 0 1) ∧ h.1 a 6 = jI (S 0 2) ∧ h.1 a 7 = jI (S 0 3)
theorem cNet.mv {h h' : gHp} {a n : Nat} {S : gTb} (R : cNet h a n S) (E : gSa a 5 h h') : cNet h' a n S := by
  unfold cNet at *
  rw [E.i1 (x := a) (by omega), E.i1 (x := a + 1) (by omega), E.i1 (x := a + 2) (by omega), E.i1 (x := a + 3) (by omega), E.i1 (x := a + 4) (by omega)]
  exact R
theorem cNot.mv {h h' : gHp} {a c : Nat} {S : gTb} (R : cNot h a c S) (E : gSa a 4 h h') : cNot h' a c S := by
  unfold cNot at *
  rw [E.i1 (x := a) (by omega), E.i2 (x := a + 1) (by omega), E.i2 (x := a + 2) (by omega), E.i1 (x := a + 3) (by omega)]
  exact R
theorem cArm.mv {h h' : gHp} {a : Nat} {S : gTb} (R : cArm h a S) (E : gSa (a + 10) 2 h h') : cArm h' a S := by
  unfold cArm at *
  rw [E.i1 (x := a + 10) (by omega), E.i1 (x := a + 11) (by omega)]
  exact R
theorem cSt.mv {h h' : gHp} {a n c : Nat} {S : gTb} (R : cSt h a n c S) (E : gSa a 13 h h') : cSt h' a n c S := by
  obtain ⟨r1, r2, r3, r4, r5⟩ := R
  refine ⟨r1.mv (E.mono (by omega) (by omega)), r2.mv (E.mono (by omega) (by omega)), r3.mv (E.mono (by omega) (by omega)), ?_, ?_⟩
  · rw [E.i1 (x := a + 12) (by omega)]; exact r4
  · rw [E.i1 (x := a) (by omega)]; exact r5
def r4 (z : Int) : Int := if z = -1 then -4 else z
theorem r4_eq {z : Int} {p : Nat} (h : -1 ≤ z) : r4 z = p ↔ z = p := by unfold r4; split <;> omega
theorem r4_p {z : Int} (h : 0 ≤ z) : r4 z = z := if_neg (by omega)
theorem r4_m : r4 (-1) = -4 := rfl
/-- the reference's row -/
def mRow (r : Nat → Int64) (n c : Nat) (S : gTb) : Prop := (r 0 = lI n ∧ r 1 = lI (S 0 1) ∧ r 2 = lI (S 0 2) ∧ r 3 = lI (S 0 3) ∧ r 4 = lI c) ∧ (∀ l : Nat, l < 6 → r (8 + 3 * l + 2) = lI (S 3 l)) ∧ (∀ l : Nat, l < 6 → S 3 l ≠ 0 → r (8 + 3 * l) = lI (S 1 l) ∧ r (8 + 3 * l + 1) = lI (S 2 l)) ∧ (∀ p : Nat, p < n → r (26 + 5 * p) = lI (S 4 p) ∧ r (26 + 5 * p + 1) = lI (r4 (S 5 p)) ∧ r (26 + 5 * p + 2) = lI (r4 (S 6 p)) ∧ r (26 + 5 * p + 3) = lI (S 7 p) ∧ r (26 + 5 * p + 4) = lI (S 8 p)) ∧ (∀ k : Nat, k < c → r (81 + 3 * k) = lI (S 9 k) ∧ r (81 + 3 * k + 1) = lI (S 10 k) ∧ r (81 + 3 * k + 2) = lI (S 11 k))
/-- only the first 141 numbers matter -/
theorem mRow.mv {r r' : Nat → Int64} {n c : Nat} {S : gTb} (hn : n ≤ 11) (hc : c ≤ 20) (R : mRow r n c S) (E : ∀ x : Nat, x < 141 → r' x = r x) : mRow r' n c S := by
  obtain ⟨⟨a0, a1, a2, a3, a4⟩, b, d, e, f⟩ := R
  refine ⟨⟨?_, ?_, ?_, ?_, ?_⟩, ?_, ?_, ?_, ?_⟩
  · rw [E 0 (by omega)]; exact a0
  · rw [E 1 (by omega)]; exact a1
  · rw [E 2 (by omega)]; exact a2
  · rw [E 3 (by omega)]; exact a3
  · rw [E 4 (by omega)]; exact a4
  · intro l hl
    rw [E _ (by omega)]; exact b l hl
  · intro l hl h0
    rw [E _ (by omega), E _ (by omega)]; exact d l hl h0
  · intro p hp
    rw [E _ (by omega), E _ (by omega), E _ (by omega), E _ (by omega), E _ (by omega)]; exact e p hp
  · intro k hk
    rw [E _ (by omega), E _ (by omega), E _ (by omega)]; exact f k hk
/-- what holds of a state that is reached by t calls -/
def gWf (t n c : Nat) (S : gTb) : Prop := (n ≤ 11 ∧ c ≤ 20 ∧ 1 ≤ S 0 1 ∧ S 0 1 ≤ 99 ∧ 1 ≤ S 0 2 ∧ S 0 2 ≤ 999 ∧ 0 ≤ S 0 3 ∧ S 0 3 ≤ 11 * t) ∧ (∀ p : Nat, p < n → 0 ≤ S 4 p ∧ S 4 p ≤ 2) ∧ (∀ p : Nat, p + 1 < n → (p : Int) < S 5 p ∧ S 5 p < n) ∧ (∀ p : Nat, p + 1 = n → S 5 p = -1) ∧ (∀ p : Nat, p < n → S 4 p = 0 → ∃ l : Nat, l < 6 ∧ S 6 p = l ∧ S 3 l = p + 1) ∧ (∀ p : Nat, p < n → S 4 p ≠ 0 → S 6 p = -1 ∧ ∃ q : Nat, q < p ∧ S 5 q = p) ∧ (∀ p q : Nat, p < n → q < n → S 5 q = p → S 4 p ≠ 0) ∧ (∀ p : Nat, p < n → S 7 p = gCnt (fun q => decide (S 5 q = p)) p) ∧ (∀ l : Nat, l < 6 → 0 ≤ S 3 l ∧ S 3 l ≤ n) ∧ (∀ l : Nat, l < 6 → S 3 l ≠ 0 → S 4 (S 3 l - 1).toNat = 0 ∧ S 6 (S 3 l - 1).toNat = l ∧ 1 ≤ S 1 l ∧ S 1 l ≤ 99 ∧ 0 ≤ S 2 l ∧ S 2 l ≤ 2) ∧ (∀ p : Nat, p < n → S 8 p = 0 ∨ S 8 p = 1) ∧ (∀ k : Nat, k < c → 0 ≤ S 11 k ∧ S 11 k ≤ t)
theorem gWf.mono {t t' n c : Nat} {S : gTb} (W : gWf t n c S) (h : t ≤ t') : gWf t' n c S := by
  obtain ⟨⟨a1, a2, a3, a4, a5, a6, a7, a8⟩, b1, b2, b3, b4, b5, b6, b7, b8, b9, b10, b11⟩ := W
  refine ⟨⟨a1, a2, a3, a4, a5, a6, a7, by omega⟩, b1, b2, b3, b4, b5, b6, b7, b8, b9, b10, ?_⟩
  intro k hk
  have := b11 k hk
  omega
theorem gWf.n {t n c : Nat} {S : gTb} (W : gWf t n c S) : n ≤ 11 := W.1.1
theorem gWf.c {t n c : Nat} {S : gTb} (W : gWf t n c S) : c ≤ 20 := W.1.2.1
theorem gWf.kd {t n c : Nat} {S : gTb} (W : gWf t n c S) {p : Nat} (h : p < n) : 0 ≤ S 4 p ∧ S 4 p ≤ 2 := W.2.1 p h
theorem gWf.ar {t n c : Nat} {S : gTb} (W : gWf t n c S) {p : Nat} (h : p < n) : (p + 1 < n ∧ (p : Int) < S 5 p ∧ S 5 p < n) ∨ (p + 1 = n ∧ S 5 p = -1) := by
  by_cases c : p + 1 = n
  · exact Or.inr ⟨c, W.2.2.2.1 p c⟩
  · exact Or.inl ⟨by omega, W.2.2.1 p (by omega)⟩
theorem gWf.am {t n c : Nat} {S : gTb} (W : gWf t n c S) {p : Nat} (h : p < n) (k : S 4 p = 0) : ∃ l : Nat, l < 6 ∧ S 6 p = l ∧ S 3 l = p + 1 := W.2.2.2.2.1 p h k
theorem gWf.com {t n c : Nat} {S : gTb} (W : gWf t n c S) {p : Nat} (h : p < n) (k : S 4 p ≠ 0) : S 6 p = -1 ∧ ∃ q : Nat, q < p ∧ S 5 q = p := W.2.2.2.2.2.1 p h k
theorem gWf.so {t n c : Nat} {S : gTb} (W : gWf t n c S) {p q : Nat} (h : p < n) (hq : q < n) (k : S 5 q = p) : S 4 p ≠ 0 := W.2.2.2.2.2.2.1 p q h hq k
theorem gWf.sn {t n c : Nat} {S : gTb} (W : gWf t n c S) {p : Nat} (h : p < n) : S 7 p = gCnt (fun q => decide (S 5 q = p)) p := W.2.2.2.2.2.2.2.1 p h
theorem gWf.an {t n c : Nat} {S : gTb} (W : gWf t n c S) {l : Nat} (h : l < 6) : 0 ≤ S 3 l ∧ S 3 l ≤ n := W.2.2.2.2.2.2.2.2.1 l h
theorem gWf.lt {t n c : Nat} {S : gTb} (W : gWf t n c S) {l : Nat} (h : l < 6) (k : S 3 l ≠ 0) : S 4 (S 3 l - 1).toNat = 0 ∧ S 6 (S 3 l - 1).toNat = l ∧ 1 ≤ S 1 l ∧ S 1 l ≤ 99 ∧ 0 ≤ S 2 l ∧ S 2 l ≤ 2 := W.2.2.2.2.2.2.2.2.2.1 l h k
theorem gWf.fo {t n c : Nat} {S : gTb} (W : gWf t n c S) {p : Nat} (h : p < n) : S 8 p = 0 ∨ S 8 p = 1 := W.2.2.2.2.2.2.2.2.2.2.1 p h
theorem gWf.ti {t n c : Nat} {S : gTb} (W : gWf t n c S) {k : Nat} (h : k < c) : 0 ≤ S 11 k ∧ S 11 k ≤ t := W.2.2.2.2.2.2.2.2.2.2.2 k h
theorem gWf.letp {t n c : Nat} {S : gTb} (W : gWf t n c S) {p : Nat} (h : p < n) : -1 ≤ S 6 p ∧ S 6 p < 6 := by
  by_cases k : S 4 p = 0
  · obtain ⟨l, h1, h2, h3⟩ := W.am h k; omega
  · have := (W.com h k).1; omega
