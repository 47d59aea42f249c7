/-! what holds between two calls -/
abbrev gA3 : Type := Nat × Nat × gTb
/-- the text, the state now, the history, the snapshot -/
abbrev gZT : Type := (Nat × (Nat → Int32)) × gA3 × (Nat × (Nat → gA3)) × (Bool × gA3)
def cTx (h : gHp) (a : Nat) (z : Nat × (Nat → Int32)) : Prop := h.1 a 1 = jI z.1 ∧ ∀ i : Nat, i < z.1 → h.1 (a + 1) i = z.2 i
def cHi (h : gHp) (a : Nat) (H : Nat × (Nat → gA3)) : Prop := ∃ o : Nat, o < 5 ∧ h.1 a 1 = jI o ∧ h.1 a 2 = jI H.1 ∧ ∀ i : Nat, i < H.1 → cSt h (a + 2 + 13 * ((o + i) % 5)) (H.2 i).1 (H.2 i).2.1 (H.2 i).2.2
def cSn (h : gHp) (b : Nat) (X : Bool × gA3) : Prop := h.1 b 9 = gZ X.1 ∧ (X.1 = true → cSt h (b + 16) X.2.1 X.2.2.1 X.2.2.2)
def cI (b : Nat) (h : gHp) (Z : gZT) : Prop := cTx h (b + 1) Z.1 ∧ cSt h (b + 3) Z.2.1.1 Z.2.1.2.1 Z.2.1.2.2 ∧ cHi h (b + 42) Z.2.2.1 ∧ cSn h b Z.2.2.2
def mTx (h : gHp) (m : Nat) (z : Nat × (Nat → Int32)) : Prop := h.1 m 5 = jI z.1 ∧ ∀ i : Nat, i < z.1 → h.1 (m + 4) i = z.2 i
def mHi (h : gHp) (m : Nat) (H : Nat × (Nat → gA3)) : Prop := h.1 m 2 = jI H.1 ∧ ∀ i : Nat, i < H.1 → mRow (fun x => h.2 (m + 2) (141 * i + x)) (H.2 i).1 (H.2 i).2.1 (H.2 i).2.2
def mSn (h : gHp) (m : Nat) (X : Bool × gA3) : Prop := h.1 m 4 = gZ X.1 ∧ (X.1 = true → mRow (h.2 (m + 3)) X.2.1 X.2.2.1 X.2.2.2)
def mI (m : Nat) (h : gHp) (Z : gZT) : Prop := mTx h m Z.1 ∧ mRow (h.2 (m + 1)) Z.2.1.1 Z.2.1.2.1 Z.2.1.2.2 ∧ mHi h m Z.2.2.1 ∧ mSn h m Z.2.2.2
def wA (t : Nat) (X : gA3) : Prop := gWf t X.1 X.2.1 X.2.2
def wI (t : Nat) (Z : gZT) : Prop := Z.1.1 ≤ 40 ∧ wA t Z.2.1 ∧ Z.2.2.1.1 ≤ 5 ∧ (∀ i : Nat, i < Z.2.2.1.1 → wA t (Z.2.2.1.2 i)) ∧ (Z.2.2.2.1 = true → wA t Z.2.2.2.2)
theorem wI.up {t t' : Nat} {Z : gZT} (W : wI t Z) (h : t ≤ t') : wI t' Z := ⟨W.1, W.2.1.mono h, W.2.2.1, fun i hi => (W.2.2.2.1 i hi).mono h, fun e => (W.2.2.2.2 e).mono h⟩
theorem cTx.mv {h h' : gHp} {a : Nat} {z : Nat × (Nat → Int32)} (R : cTx h a z) (E : gSa a 2 h h') : cTx h' a z := by
  unfold cTx at *
  rw [E.i1 (x := a) (by omega), E.i1 (x := a + 1) (by omega)]
  exact R
theorem cHi.mv {h h' : gHp} {a : Nat} {H : Nat × (Nat → gA3)} (R : cHi h a H) (E : gSa a 67 h h') : cHi h' a H := by
  obtain ⟨o, h1, h2, h3, h4⟩ := R
  refine ⟨o, h1, by rw [E.i1 (x := a) (by omega)]; exact h2, by rw [E.i1 (x := a) (by omega)]; exact h3, fun i hi => (h4 i hi).mv (E.mono (by omega) ?_)⟩
  have := Nat.mod_lt (o + i) (show 0 < 5 by omega)
  omega
theorem cSn.mv {h h' : gHp} {b : Nat} {X : Bool × gA3} (R : cSn h b X) (E : gSa b 29 h h') : cSn h' b X := by
  unfold cSn at *
  rw [E.i1 (x := b) (by omega)]
  exact ⟨R.1, fun e => (R.2 e).mv (E.mono (by omega) (by omega))⟩
/-- what lies behind the history doesn't matter -/
theorem cI.mv {b : Nat} {h h' : gHp} {Z : gZT} (C : cI b h Z) (E1 : gSa b 29 h h') (E2 : gSa (b + 42) 67 h h') : cI b h' Z := ⟨C.1.mv (E1.mono (by omega) (by omega)), C.2.1.mv (E1.mono (by omega) (by omega)), C.2.2.1.mv E2, C.2.2.2.mv E1⟩
theorem cI.fr {b lo n : Nat} {h h' : gHp} {Z : gZT} (C : cI b h Z) (G : gFr lo n h h') (q : b + 109 ≤ lo) : cI b h' Z := C.mv (G.sa (by omega)) (G.sa (by omega))
/-- the reference's -/
theorem mI.mv {m : Nat} {h h' : gHp} {Z : gZT} (M : mI m h Z) (e2 : h'.1 m 2 = h.1 m 2) (e4 : h'.1 m 4 = h.1 m 4) (e5 : h'.1 m 5 = h.1 m 5) (c4 : h'.1 (m + 4) = h.1 (m + 4)) (c1 : h'.2 (m + 1) = h.2 (m + 1)) (c2 : h'.2 (m + 2) = h.2 (m + 2)) (c3 : h'.2 (m + 3) = h.2 (m + 3)) : mI m h' Z := by
  unfold mI mTx mHi mSn at *
  rw [e2, e4, e5, c4, c1, c2, c3]
  exact M
theorem mI.fr {m : Nat} {h h' : gHp} {Z : gZT} (M : mI m h Z) (F : mFr m h h') : mI m h' Z := M.mv (F.2 2 (by omega)) (F.2 4 (by omega)) (F.2 5 (by omega)) (F.1 _ (by omega) (by omega) (by omega) (by omega) (by omega)).1 (F.1 _ (by omega) (by omega) (by omega) (by omega) (by omega)).2 (F.1 _ (by omega) (by omega) (by omega) (by omega) (by omega)).2 (F.1 _ (by omega) (by omega) (by omega) (by omega) (by omega)).2
theorem mFr.fr {m : Nat} {h h' : gHp} (F : mFr m h h') : gFr m 13 h h' := fun x q => F.1 x (by omega) (by omega) (by omega) (by omega) (by omega)
/-- class and reference answer alike, and what holds goes on to hold -/
def gOK {α : Type} (b m t : Nat) (f g : gHp → Option (α × gHp)) : Prop := ∀ (Z : gZT) (h : gHp), cI b h Z → wI t Z → ∃ (v : α) (h' : gHp) (Z' : gZT), f h = some (v, h') ∧ cI b h' Z' ∧ wI (t + 1) Z' ∧ gFr b 142 h h' ∧ ∀ h2, mI m h2 Z → ∃ h2', g h2 = some (v, h2') ∧ mI m h2' Z' ∧ gFr m 13 h2 h2'
def gOKr {α : Type} (b m t : Nat) (f g : gHp → Option α) : Prop := ∀ (Z : gZT) (h : gHp), cI b h Z → wI t Z → ∃ v : α, f h = some v ∧ ∀ h2, mI m h2 Z → g h2 = some v
theorem m_armsUp {h : gHp} {m t n c : Nat} {S : gTb} (R : mRow (h.2 (m + 1)) n c S) (W : gWf t n c S) {p : Nat} (hp : p < n) (x2 x3 : Int32) : ∀ (k z : Nat), z < n → n < k + z → ∃ r : Nat, f_X10_armsIn_26 m (jI p) x2 x3 h k (jI z) = some (jI r) ∧ r < n ∧ (r = p ↔ gOn S z p = true) := by
  have hn := W.n
  intro k
  induction k with
  | zero => intro z h1 h2; omega
  | succ k ih =>
    intro z hz hk
    by_cases c1 : p ≤ z
    · refine ⟨z, ?_, hz, ?_⟩
      · rw [f_X10_armsIn_26, show (-4 : Int32) = jI (-4) from rfl]
        exact gIF (jne (by omega) (by omega) (by omega) (by omega) (by omega)) (gIT (jle (by omega) (by omega) (by omega) (by omega) (by omega)) rfl)
      · constructor
        · intro e
          rw [e]; exact gOn_self W hp
        · intro e
          have := gOn_lt W hz e
          omega
    · rcases W.ar hz with ⟨a1, a2, a3⟩ | ⟨a1, a2⟩
      · obtain ⟨u, hu⟩ : ∃ u : Nat, S 5 z = u := ⟨(S 5 z).toNat, by omega⟩
        obtain ⟨r, e1, e2, e3⟩ := ih u (by omega) (by omega)
        have e4 := m_around R W hz
        rw [hu, r4_p (by omega)] at e4
        refine ⟨r, ?_, e2, ?_⟩
        · rw [f_X10_armsIn_26, show (-4 : Int32) = jI (-4) from rfl]
          exact gIF (jne (by omega) (by omega) (by omega) (by omega) (by omega)) (gIF (jnle (by omega) (by omega) (by omega) (by omega) (by omega)) (gBs (by rw [jl_1]; exact e4) e1))
        · rw [e3, gOn_nx W hz hu, decide_eq_false (by omega), Bool.false_or]
      · omega
theorem m_armsIn {h : gHp} {m t n c : Nat} {S : gTb} (R : mRow (h.2 (m + 1)) n c S) (W : gWf t n c S) {p : Nat} (hp : p < n) : f_X10_armsIn m (jI p) h = some (jI (gCnt (fun l => decide (S 3 l ≠ 0) && gOn S (S 3 l - 1).toNat p) 6)) := by
  have hn := W.n
  have eB : gCnt (fun l => decide (S 3 l ≠ 0) && gOn S (S 3 l - 1).toNat p) 6 = gCnt (fun q => decide (S 4 q = 0) && gOn S q p) (p + 1) := by
    rw [bij6 W (fun q => gOn S q p)]
    have : ∀ i, p + 1 ≤ i → i ≤ n → gCnt (fun q => decide (S 4 q = 0) && gOn S q p) i = gCnt (fun q => decide (S 4 q = 0) && gOn S q p) (p + 1) := by
      intro i
      induction i with
      | zero => intro h1; omega
      | succ i ih =>
        intro h1 h2
        by_cases e : i = p
        · rw [e]
        · rw [gCnt_F, ih (by omega) (by omega)]
          intro hc
          simp only [Bool.and_eq_true] at hc
          have := gOn_lt W (p := i) (by omega) hc.2
          omega
    exact this n (by omega) (Nat.le_refl _)
  rw [eB]
  have L := gUpE (fun k i (v : Int32) => f_X10_armsIn_4 m (jI p) h k v (jI i)) (p + 1) (fun i v => v = jI (gCnt (fun q => decide (S 4 q = 0) && gOn S q p) i)) (jI (gCnt (fun q => decide (S 4 q = 0) && gOn S q p) (p + 1))) (by
    rintro k _ rfl
    rw [f_X10_armsIn_4]
    exact gIT (jlt (by omega) (by omega) (by omega) (by omega) (by omega)) rfl) (by
    rintro k i _ hi rfl
    left
    have e1 := m_kind R W (p := i) (by omega)
    have kd := W.kd (p := i) (by omega)
    rw [← jl_0] at e1
    refine ⟨_, ?_, rfl⟩
    rw [f_X10_armsIn_4]
    refine gIF (jnlt (by omega) (by omega) (by omega) (by omega) (by omega)) (gBs e1 ?_)
    by_cases c0 : S 4 i = 0
    · obtain ⟨r, e2, e3, e4⟩ := m_armsUp R W hp (jI (gCnt (fun q => decide (S 4 q = 0) && gOn S q p) i)) (jI i) gFuel i (by omega) (by unfold gFuel; omega)
      refine gBs (v := jI i) (by rw [c0]; rfl) (gBs e2 ?_)
      rcases hg : gOn S i p with _ | _
      · have e := gCnt_F (P := fun q => decide (S 4 q = 0) && gOn S q p) (n := i) (by rw [hg, Bool.and_false]; exact Bool.false_ne_true)
        have hne : r ≠ p := fun q => by rw [e4.mp q] at hg; cases hg
        refine gIF (jne (by omega) (by omega) (by omega) (by omega) (by omega)) ?_
        rw [e]
        simp (disch := omega) only [jl_0, jl_1, jl_2, jl_3, jl_4, jl_5, jl_6, jl_10, jl_11, jl_20, jl_26, jl_31, jl_32, jl_40, jl_41, jl_42, jl_43, jl_47, jl_48, jl_57, jl_81, jl_97, jl_99, jl_100, jl_102, jl_103, jl_124, jl_141, jl_564, jl_705, jl_999, jl_1000, jl_9999, jI_neg, jI_add, Int.add_zero, cs1]
      · have e := gCnt_T (P := fun q => decide (S 4 q = 0) && gOn S q p) (n := i) (by rw [hg, decide_eq_true c0]; rfl)
        rw [e4.mpr hg]
        refine gIT rfl ?_
        rw [e]
        simp (disch := omega) only [jl_0, jl_1, jl_2, jl_3, jl_4, jl_5, jl_6, jl_10, jl_11, jl_20, jl_26, jl_31, jl_32, jl_40, jl_41, jl_42, jl_43, jl_47, jl_48, jl_57, jl_81, jl_97, jl_99, jl_100, jl_102, jl_103, jl_124, jl_141, jl_564, jl_705, jl_999, jl_1000, jl_9999, jI_neg, jI_add, cs1]
    · have e := gCnt_F (P := fun q => decide (S 4 q = 0) && gOn S q p) (n := i) (by rw [decide_eq_false c0, Bool.false_and]; exact Bool.false_ne_true)
      refine gBs (v := jI (-4)) (gIF (by rw [show (0 : Int32) = jI 0 from rfl]; exact jne (by omega) (by omega) (by omega) (by omega) c0) rfl) (gBs (v := jI (-4)) ?_ ?_)
      · exact gIT rfl rfl
      · refine gIF (jne (by omega) (by omega) (by omega) (by omega) (by omega)) ?_
        rw [e]
        simp (disch := omega) only [jl_0, jl_1, jl_2, jl_3, jl_4, jl_5, jl_6, jl_10, jl_11, jl_20, jl_26, jl_31, jl_32, jl_40, jl_41, jl_42, jl_43, jl_47, jl_48, jl_57, jl_81, jl_97, jl_99, jl_100, jl_102, jl_103, jl_124, jl_141, jl_564, jl_705, jl_999, jl_1000, jl_9999, jI_neg, jI_add, Int.add_zero, cs1]) gFuel (jI 0) (by unfold gFuel; omega) rfl
  try dsimp only at L
  rw [f_X10_armsIn]
  rw [show ((0 : Nat) : Int) = 0 from rfl, ← jl_0] at L
  rw [L]
  rfl
