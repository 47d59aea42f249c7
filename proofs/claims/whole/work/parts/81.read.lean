/-! commands are read -/
def vL (ch : Nat → Int32) (s : Nat) : Nat → Int
  | 0 => 0
  | k + 1 => if vL ch s k < 0 then -1 else if 48 ≤ (ch (s + k)).toInt ∧ (ch (s + k)).toInt ≤ 57 then 10 * vL ch s k + ((ch (s + k)).toInt - 48) else -1
theorem vL_b (ch : Nat → Int32) (s : Nat) : ∀ k, -1 ≤ vL ch s k ∧ vL ch s k < 10 ^ k := by
  intro k
  induction k with
  | zero => exact ⟨by show (-1 : Int) ≤ 0; omega, by show (0 : Int) < 1; omega⟩
  | succ k ih =>
    have hp : (0 : Int) < 10 ^ k := Int.pow_pos (by decide)
    rw [vL, Int.pow_succ]
    split
    · omega
    · split <;> omega
theorem vL_neg {ch : Nat → Int32} {s i : Nat} (h : vL ch s i < 0) : ∀ k, i ≤ k → vL ch s k = -1 := by
  intro k
  induction k with
  | zero => intro h2; have : i = 0 := by omega
            subst this
            exact absurd h (by show ¬ (0 : Int) < 0; omega)
  | succ k ih =>
    intro h2
    by_cases e : i = k + 1
    · subst e
      have := (vL_b ch s (k + 1)).1
      omega
    · rw [vL, ih (by omega), if_pos (by omega)]
theorem vL_pos {ch : Nat → Int32} {s : Nat} (h : ch s ≠ 48) : ∀ k, 0 ≤ vL ch s (k + 1) → 1 ≤ vL ch s (k + 1) := by
  have h48 : (ch s).toInt ≠ 48 := fun e => h (by rw [← jI_of (ch s), e]; rfl)
  intro k
  induction k with
  | zero =>
    rw [vL]
    have : vL ch s 0 = 0 := rfl
    rw [this, Nat.add_zero]
    split
    · omega
    · split <;> omega
  | succ k ih =>
    rw [vL]
    split
    · omega
    · rename_i hk
      have := ih (by omega)
      split <;> omega
def nW (ch : Nat → Int32) (s e : Nat) : Int := if e ≤ s ∨ s + 3 < e ∨ ch s = 48 then -1 else vL ch s (e - s)
theorem nW_b (ch : Nat → Int32) (s e : Nat) : -1 ≤ nW ch s e ∧ nW ch s e < 1000 ∧ nW ch s e ≠ 0 := by
  unfold nW
  split
  · omega
  · rename_i h
    have b := vL_b ch s (e - s)
    obtain ⟨k, hk⟩ : ∃ k, e - s = k + 1 := ⟨e - s - 1, by omega⟩
    have p := vL_pos (ch := ch) (s := s) (fun w => h (Or.inr (Or.inr w))) k
    rw [← hk] at p
    have k3 : e - s = 1 ∨ e - s = 2 ∨ e - s = 3 := by omega
    have b2 : vL ch s (e - s) < 1000 := by
      rcases k3 with q | q | q <;> rw [q] at b ⊢ <;> omega
    omega
theorem u_readNumber {h : gHp} {a : Nat} {z : Nat × (Nat → Int32)} (T : cTx h a z) (hl : z.1 ≤ 40) {s e : Nat} (hs : s ≤ e) (he : e ≤ z.1) : f_X1_readNumber a (jI s) (jI e) h = some (jI (nW z.2 s e)) := by
  have es : jI (e : Int) - jI s = jI ((e - s : Nat) : Int) := by
    rw [jI_sub]
    congr 1
    omega
  unfold nW
  rw [f_X1_readNumber, es]
  by_cases c1 : e ≤ s
  · rw [if_pos (Or.inl c1)]
    exact gIT (jlt (b := 1) (by omega) (by omega) (by omega) (by omega) (by omega)) rfl
  have g1 : ¬ jI ((e - s : Nat) : Int) < 1 := jnlt (b := 1) (by omega) (by omega) (by omega) (by omega) (by omega)
  by_cases c2 : s + 3 < e
  · rw [if_pos (Or.inr (Or.inl c2))]
    exact gIF g1 (gIT (jlt (a := 3) (by omega) (by omega) (by omega) (by omega) (by omega)) rfl)
  have g2 : ¬ (3 : Int32) < jI ((e - s : Nat) : Int) := jnlt (a := 3) (by omega) (by omega) (by omega) (by omega) (by omega)
  have g3 : gIn (jI (s : Int)) 40 := jin (by omega) (by omega) (by omega)
  have t0 : h.1 (a + 1) (gN (jI s)) = z.2 s := by rw [gNp (by omega)]; exact T.2 s (by omega)
  by_cases c3 : z.2 s = 48
  · rw [if_pos (Or.inr (Or.inr c3))]
    exact gIF g1 (gIF g2 (gIT g3 (gIT (by rw [t0]; exact c3) rfl)))
  rw [if_neg (show ¬ (e ≤ s ∨ s + 3 < e ∨ z.2 s = 48) from fun w => by rcases w with w | w | w; exact c1 w; exact c2 w; exact c3 w)]
  refine gIF g1 (gIF g2 (gIT g3 (gIF (by rw [t0]; exact c3) ?_)))
  have L := gUpE (fun k i (v : Int32) => f_X1_readNumber_32 a (jI e) h k v (jI ((s + i : Nat) : Int))) (e - s) (fun i v => v = jI (vL z.2 s i) ∧ 0 ≤ vL z.2 s i) (jI (vL z.2 s (e - s))) (by
    rintro k _ ⟨rfl, hv⟩
    rw [f_X1_readNumber_32]
    exact gIT (jle (by omega) (by omega) (by omega) (by omega) (by omega)) rfl) (by
    rintro k i _ hi ⟨rfl, hv⟩
    have k1 : ¬ jI (e : Int) ≤ jI ((s + i : Nat) : Int) := jnle (by omega) (by omega) (by omega) (by omega) (by omega)
    have k2 : gIn (jI ((s + i : Nat) : Int)) 40 := jin (by omega) (by omega) (by omega)
    have t1 : h.1 (a + 1) (gN (jI ((s + i : Nat) : Int))) = jI (z.2 (s + i)).toInt := by rw [gNp (by omega), T.2 (s + i) (by omega), jI_of]
    have r1 := Int32.le_toInt (z.2 (s + i))
    have r2 := Int32.toInt_lt (z.2 (s + i))
    have bb := vL_b z.2 s (i + 1)
    have ei : jI ((s + i : Nat) : Int) + 1 = jI ((s + (i + 1) : Nat) : Int) := by rw [jl_1, jI_add]; rfl
    by_cases d1 : (z.2 (s + i)).toInt < 48
    · right
      rw [vL_neg (i := i + 1) (by rw [vL, if_neg (by omega), if_neg (by omega)]; omega) (e - s) (by omega), f_X1_readNumber_32, t1]
      exact gIF k1 (gIT k2 (gIT (jlt (b := 48) (by omega) (by omega) (by omega) (by omega) d1) rfl))
    · have q1 : ¬ jI (z.2 (s + i)).toInt < 48 := jnlt (b := 48) (by omega) (by omega) (by omega) (by omega) (by omega)
      by_cases d2 : (z.2 (s + i)).toInt ≤ 57
      · left
        have ev : vL z.2 s (i + 1) = 10 * vL z.2 s i + ((z.2 (s + i)).toInt - 48) := by
          rw [vL, if_neg (by omega), if_pos (by omega)]
        refine ⟨jI (vL z.2 s (i + 1)), ?_, rfl, by rw [ev]; omega⟩
        rw [f_X1_readNumber_32, t1, ei]
        refine gIF k1 (gIT k2 (gIF q1 (gIT (jle (b := 57) (by omega) (by omega) (by omega) (by omega) d2) ?_)))
        rw [jl_10, jl_48, jI_mul, jI_sub, jI_add, ← ev]
      · right
        rw [vL_neg (i := i + 1) (by rw [vL, if_neg (by omega), if_neg (by omega)]; omega) (e - s) (by omega), f_X1_readNumber_32, t1]
        exact gIF k1 (gIT k2 (gIF q1 (gIF (jnle (b := 57) (by omega) (by omega) (by omega) (by omega) (by omega)) rfl)))) gFuel (jI 0) (by unfold gFuel; omega) ⟨rfl, by show (0 : Int) ≤ 0; omega⟩
  exact L
theorem m_number {h : gHp} {m : Nat} {z : Nat × (Nat → Int32)} (T : mTx h m z) (hl : z.1 ≤ 40) {s e : Nat} (hs : s ≤ e) (he : e ≤ z.1) (ha : h.1 m 7 = jI s) {mo : Int} (hm : 0 ≤ mo ∧ mo ≤ 999) : f_X10_number m (jI e) (jI mo) h = some (if nW z.2 s e < 1 ∨ mo < nW z.2 s e then jI (-4) else jI (nW z.2 s e)) := by
  have nb := nW_b z.2 s e
  have es : jI (e : Int) - jI s = jI ((e - s : Nat) : Int) := by
    rw [jI_sub]
    congr 1
    omega
  have d := m_in h (x := ((e - s : Nat) : Int)) (y := 1) (z := 3) (by omega) (by omega) (by omega) (by omega) (by omega) (by omega)
  rw [f_X10_number, ha, es]
  by_cases c1 : e ≤ s ∨ s + 3 < e
  · have en : nW z.2 s e = -1 := by
      unfold nW
      exact if_pos (by omega)
    rw [if_pos (show nW z.2 s e < 1 ∨ mo < nW z.2 s e by omega)]
    rw [decide_eq_false (by omega)] at d
    exact gBs d (gIF Bool.false_ne_true rfl)
  rw [decide_eq_true (by omega)] at d
  have g3 : gIn (jI (s : Int)) 40 := jin (by omega) (by omega) (by omega)
  have t0 : h.1 (m + 4) (gN (jI s)) = z.2 s := by rw [gNp (by omega)]; exact T.2 s (by omega)
  by_cases c3 : z.2 s = 48
  · have en : nW z.2 s e = -1 := by
      unfold nW
      rw [if_pos (Or.inr (Or.inr c3))]
    rw [if_pos (show nW z.2 s e < 1 ∨ mo < nW z.2 s e by omega)]
    exact gBs d (gIT rfl (gIT g3 (gIT (by rw [t0]; exact c3) rfl)))
  have en : nW z.2 s e = vL z.2 s (e - s) := by
    unfold nW
    rw [if_neg (show ¬ (e ≤ s ∨ s + 3 < e ∨ z.2 s = 48) from fun w => by rcases w with w | w | w; exact c1 (Or.inl w); exact c1 (Or.inr w); exact c3 w)]
  refine gBs d (gIT rfl (gIT g3 (gIF (by rw [t0]; exact c3) ?_)))
  have L := gUpE (fun k i (v : Int32) => f_X10_number_39 m (jI e) (jI mo) h k v (jI ((s + i : Nat) : Int))) (e - s) (fun i v => v = jI (vL z.2 s i) ∧ 0 ≤ vL z.2 s i) (if nW z.2 s e < 1 ∨ mo < nW z.2 s e then jI (-4) else jI (nW z.2 s e)) (by
    rintro k _ ⟨rfl, hv⟩
    rw [← en] at hv
    rw [f_X10_number_39, ← en]
    refine gIT (jle (by omega) (by omega) (by omega) (by omega) (by omega)) ?_
    by_cases w : mo < nW z.2 s e
    · rw [if_pos (show nW z.2 s e < 1 ∨ mo < nW z.2 s e from Or.inr w)]
      exact gIT (jlt (by omega) (by omega) (by omega) (by omega) w) rfl
    · rw [if_neg (show ¬ (nW z.2 s e < 1 ∨ mo < nW z.2 s e) by omega)]
      exact gIF (jnlt (by omega) (by omega) (by omega) (by omega) (by omega)) rfl) (by
    rintro k i _ hi ⟨rfl, hv⟩
    have k1 : ¬ jI (e : Int) ≤ jI ((s + i : Nat) : Int) := jnle (by omega) (by omega) (by omega) (by omega) (by omega)
    have k2 : gIn (jI ((s + i : Nat) : Int)) 40 := jin (by omega) (by omega) (by omega)
    have t1 : h.1 (m + 4) (gN (jI ((s + i : Nat) : Int))) = jI (z.2 (s + i)).toInt := by rw [gNp (by omega), T.2 (s + i) (by omega), jI_of]
    have r1 := Int32.le_toInt (z.2 (s + i))
    have r2 := Int32.toInt_lt (z.2 (s + i))
    have ei : jI ((s + i : Nat) : Int) + 1 = jI ((s + (i + 1) : Nat) : Int) := by rw [jl_1, jI_add]; rfl
    have dd := m_in h (x := (z.2 (s + i)).toInt) (y := 48) (z := 57) (by omega) (by omega) (by omega) (by omega) (by omega) (by omega)
    by_cases d1 : 48 ≤ (z.2 (s + i)).toInt ∧ (z.2 (s + i)).toInt ≤ 57
    · left
      have ev : vL z.2 s (i + 1) = 10 * vL z.2 s i + ((z.2 (s + i)).toInt - 48) := by
        rw [vL, if_neg (by omega), if_pos (by omega)]
      rw [decide_eq_true d1] at dd
      refine ⟨jI (vL z.2 s (i + 1)), ?_, rfl, by rw [ev]; omega⟩
      rw [f_X10_number_39, t1, ei]
      refine gIF k1 (gIT k2 (gBs dd (gIT rfl (gIT k2 ?_))))
      rw [jl_10, jl_48, jI_mul, jI_add, jI_sub, ev, Int.add_sub_assoc]
    · right
      rw [decide_eq_false d1] at dd
      have ev : nW z.2 s e = -1 := by
        rw [en]
        exact vL_neg (i := i + 1) (by rw [vL, if_neg (by omega), if_neg (by omega)]; omega) (e - s) (by omega)
      rw [if_pos (show nW z.2 s e < 1 ∨ mo < nW z.2 s e by omega), f_X10_number_39, t1]
      exact gIF k1 (gIT k2 (gBs dd (gIF Bool.false_ne_true rfl)))) gFuel (jI 0) (by unfold gFuel; omega) ⟨rfl, by show (0 : Int) ≤ 0; omega⟩
  exact L
/-- the number from s on: right?, where, which -/
def nP (z : Nat × (Nat → Int32)) (A : Int) (s : Nat) : Bool × Nat × Int := if nW z.2 s (eB z.1 z.2 s) < 1 ∨ (if A = 5 then 999 else 99) < nW z.2 s (eB z.1 z.2 s) then (false, s, nW z.2 s (eB z.1 z.2 s)) else (decide (eB z.1 z.2 s = z.1), eB z.1 z.2 s, nW z.2 s (eB z.1 z.2 s))
theorem nP_v (z : Nat × (Nat → Int32)) (A : Int) (s : Nat) : (nP z A s).2.2 = nW z.2 s (eB z.1 z.2 s) := by
  unfold nP
  by_cases c : nW z.2 s (eB z.1 z.2 s) < 1 ∨ (if A = 5 then 999 else 99) < nW z.2 s (eB z.1 z.2 s)
  · rw [if_pos c]
  · rw [if_neg c]
theorem nP_ok {z : Nat × (Nat → Int32)} {A : Int} {s : Nat} (h : (nP z A s).1 = true) : 1 ≤ (nP z A s).2.2 ∧ (nP z A s).2.2 ≤ (if A = 5 then 999 else 99) := by
  rw [nP_v]
  unfold nP at h
  by_cases c : nW z.2 s (eB z.1 z.2 s) < 1 ∨ (if A = 5 then 999 else 99) < nW z.2 s (eB z.1 z.2 s)
  · rw [if_pos c] at h; exact absurd h Bool.false_ne_true
  · omega
def cS1 (z : Nat × (Nat → Int32)) : Nat := min (eB z.1 z.2 0 + 1) z.1
def cE1 (z : Nat × (Nat → Int32)) : Nat := eB z.1 z.2 (cS1 z)
/-- the command: right?, where the fault is, action, letter, number -/
def cR (z : Nat × (Nat → Int32)) : Bool × Nat × Int × Int × Int :=
  if aW z.2 (eB z.1 z.2 0) = -1 then (false, 0, 0, 0, 0)
  else if aW z.2 (eB z.1 z.2 0) < 4 then
    if cE1 z = cS1 z + 1 ∧ 0 ≤ (z.2 (cS1 z)).toInt - 97 ∧ (z.2 (cS1 z)).toInt - 97 < 6 then
      if aW z.2 (eB z.1 z.2 0) = 0 then ((nP z 0 (min (cE1 z + 1) z.1)).1, (nP z 0 (min (cE1 z + 1) z.1)).2.1, 0, (z.2 (cS1 z)).toInt - 97, (nP z 0 (min (cE1 z + 1) z.1)).2.2)
      else (decide (cE1 z = z.1), cE1 z, aW z.2 (eB z.1 z.2 0), (z.2 (cS1 z)).toInt - 97, 0)
    else (false, cS1 z, aW z.2 (eB z.1 z.2 0), 0, 0)
  else ((nP z (aW z.2 (eB z.1 z.2 0)) (cS1 z)).1, (nP z (aW z.2 (eB z.1 z.2 0)) (cS1 z)).2.1, aW z.2 (eB z.1 z.2 0), 0, (nP z (aW z.2 (eB z.1 z.2 0)) (cS1 z)).2.2)
theorem u_takesLetter {h : gHp} {a : Nat} {A : Int} (hA : h.1 a 0 = jI A) (h1 : -1 ≤ A ∧ A ≤ 5) : f_X1_takesLetter a h = some (decide (0 ≤ A ∧ A < 4)) := by
  rw [f_X1_takesLetter, hA]
  by_cases c0 : A = 0
  · rw [decide_eq_true (by omega)]; exact gIT (by rw [c0]; rfl) rfl
  refine gIF (jne (b := 0) (by omega) (by omega) (by omega) (by omega) c0) ?_
  by_cases c1 : A = 1
  · rw [decide_eq_true (by omega)]; exact gIT (by rw [c1]; rfl) rfl
  refine gIF (jne (b := 1) (by omega) (by omega) (by omega) (by omega) c1) ?_
  by_cases c2 : A = 2
  · rw [decide_eq_true (by omega)]; exact gIT (by rw [c2]; rfl) rfl
  refine gIF (jne (b := 2) (by omega) (by omega) (by omega) (by omega) c2) ?_
  by_cases c3 : A = 3
  · rw [decide_eq_true (by omega)]; exact gIT (by rw [c3]; rfl) rfl
  rw [decide_eq_false (by omega)]
  exact gIF (jne (b := 3) (by omega) (by omega) (by omega) (by omega) c3) rfl
theorem u_takesNumber {h : gHp} {a : Nat} {A : Int} (hA : h.1 a 0 = jI A) (h1 : -1 ≤ A ∧ A ≤ 5) : f_X1_takesNumber a h = some (decide (A = 0 ∨ 4 ≤ A)) := by
  rw [f_X1_takesNumber, hA]
  by_cases c0 : A = 0
  · rw [decide_eq_true (by omega)]; exact gIT (by rw [c0]; rfl) rfl
  refine gIF (jne (b := 0) (by omega) (by omega) (by omega) (by omega) c0) ?_
  by_cases c1 : A = 4
  · rw [decide_eq_true (by omega)]; exact gIT (by rw [c1]; rfl) rfl
  refine gIF (jne (b := 4) (by omega) (by omega) (by omega) (by omega) c1) ?_
  by_cases c2 : A = 5
  · rw [decide_eq_true (by omega)]; exact gIT (by rw [c2]; rfl) rfl
  rw [decide_eq_false (by omega)]
  exact gIF (jne (b := 5) (by omega) (by omega) (by omega) (by omega) c2) rfl
theorem u_min {len e : Nat} (h1 : len < 1000) (h2 : e < 1000) : (if jI (len : Int) < jI (e : Int) + 1 then jI (len : Int) else jI (e : Int) + 1) = jI ((min (e + 1) len : Nat) : Int) := by
  have ee : jI (e : Int) + 1 = jI ((e + 1 : Nat) : Int) := by rw [jl_1, jI_add]; rfl
  rw [ee]
  by_cases c : len < e + 1
  · rw [if_pos (jlt (by omega) (by omega) (by omega) (by omega) (by omega)), show min (e + 1) len = len by omega]
  · rw [if_neg (jnlt (by omega) (by omega) (by omega) (by omega) (by omega)), show min (e + 1) len = e + 1 by omega]
theorem u_read150 {h : gHp} {a : Nat} {z : Nat × (Nat → Int32)} (T : cTx h a z) (hl : z.1 ≤ 40) {e : Nat} (he : e ≤ z.1) : f_X1_read_150 a (jI e) h = some (if decide (e = z.1) = true then jI (-1) else jI e, h) := by
  rw [f_X1_read_150, T.1]
  by_cases c : e = z.1
  · rw [if_pos (decide_eq_true c)]
    exact gIT (jle (by omega) (by omega) (by omega) (by omega) (by omega)) rfl
  · rw [if_neg (show ¬ decide (e = z.1) = true by rw [decide_eq_false c]; exact Bool.false_ne_true)]
    exact gIF (jnle (by omega) (by omega) (by omega) (by omega) (by omega)) rfl
theorem u_read83N {h : gHp} {a : Nat} {z : Nat × (Nat → Int32)} (T : cTx h (a - 111) z) (ha : 111 ≤ a) (hl : z.1 ≤ 40) {A : Int} (hA : h.1 a 0 = jI A) (h1 : A = 0 ∨ A = 4 ∨ A = 5) {e : Nat} (he : e ≤ z.1) : ∃ h', f_X1_read_83 a (a - 111) (jI e) h = some (if (nP z A (min (e + 1) z.1)).1 = true then jI (-1) else jI ((nP z A (min (e + 1) z.1)).2.1 : Nat), h') ∧ gFr a 1 h h' ∧ h'.1 a 0 = jI A ∧ h'.1 a 2 = h.1 a 2 ∧ h'.1 a 1 = jI (nP z A (min (e + 1) z.1)).2.2 := by
  have tn := u_takesNumber hA (by omega)
  rw [decide_eq_true (by omega)] at tn
  have es := eB_le (len := z.1) (ch := z.2) (s := min (e + 1) z.1) (by omega)
  have e1 := u_findBlank T hl (s := min (e + 1) z.1) (by omega)
  have e2 := u_readNumber T hl es.1 es.2
  have nb := nW_b z.2 (min (e + 1) z.1) (eB z.1 z.2 (min (e + 1) z.1))
  have um := u_min (len := z.1) (e := e) (by omega) (by omega)
  have w0 : (gsI h a 1 (jI (nW z.2 (min (e + 1) z.1) (eB z.1 z.2 (min (e + 1) z.1))))).1 a 1 = jI (nW z.2 (min (e + 1) z.1) (eB z.1 z.2 (min (e + 1) z.1))) := rI_e _ _ _ _
  have w1 : (gsI h a 1 (jI (nW z.2 (min (e + 1) z.1) (eB z.1 z.2 (min (e + 1) z.1))))).1 a 0 = jI A := by rw [rI_k (by decide)]; exact hA
  have w2 : (gsI h a 1 (jI (nW z.2 (min (e + 1) z.1) (eB z.1 z.2 (min (e + 1) z.1))))).1 a 2 = h.1 a 2 := rI_k (by decide)
  have wT : cTx (gsI h a 1 (jI (nW z.2 (min (e + 1) z.1) (eB z.1 z.2 (min (e + 1) z.1))))) (a - 111) z := T.mv (fun y q1 q2 => ⟨rI_n (by omega), rfl⟩)
  have wF : gFr a 1 h (gsI h a 1 (jI (nW z.2 (min (e + 1) z.1) (eB z.1 z.2 (min (e + 1) z.1))))) := gFr.rf.I (by omega) (by omega)
  have mo : (if (gsI h a 1 (jI (nW z.2 (min (e + 1) z.1) (eB z.1 z.2 (min (e + 1) z.1))))).1 a 0 = 5 then some 999 else some 99 : Option Int32) = some (jI (if A = 5 then 999 else 99)) := by
    rw [w1]
    by_cases c : A = 5
    · rw [if_pos c]; exact gIT (by rw [c]; rfl) rfl
    · rw [if_neg c]; exact gIF (jne (b := 5) (by omega) (by omega) (by omega) (by omega) c) rfl
  have mb : (99 : Int) ≤ (if A = 5 then 999 else 99) ∧ (if A = 5 then 999 else 99 : Int) ≤ 999 := by split <;> omega
  rw [f_X1_read_83, T.1, um]
  refine ⟨gsI h a 1 (jI (nW z.2 (min (e + 1) z.1) (eB z.1 z.2 (min (e + 1) z.1)))), gBs tn (gIT rfl (gBs e1 (gBs e2 ?_))), wF, w1, w2, ?_⟩
  · rw [w0]
    unfold nP
    generalize nW z.2 (min (e + 1) z.1) (eB z.1 z.2 (min (e + 1) z.1)) = v at *
    by_cases c1 : v < 1
    · rw [if_pos (show v < 1 ∨ (if A = 5 then 999 else 99) < v from Or.inl c1)]
      exact gIT (jlt (b := 1) (by omega) (by omega) (by omega) (by omega) c1) rfl
    · refine gIF (jnlt (b := 1) (by omega) (by omega) (by omega) (by omega) (by omega)) (gBs mo ?_)
      by_cases c2 : (if A = 5 then 999 else 99) < v
      · rw [if_pos (show v < 1 ∨ (if A = 5 then 999 else 99) < v from Or.inr c2)]
        exact gIF (jnle (by omega) (by omega) (by omega) (by omega) (by omega)) rfl
      · rw [if_neg (show ¬ (v < 1 ∨ (if A = 5 then 999 else 99) < v) by omega)]
        refine gIT (jle (by omega) (by omega) (by omega) (by omega) (by omega)) ?_
        exact u_read150 wT hl es.2
  · rw [w0, nP_v]
theorem u_read {h : gHp} {a : Nat} {z : Nat × (Nat → Int32)} (T : cTx h (a - 111) z) (ha : 111 ≤ a) (hl : z.1 ≤ 40) : ∃ h', f_X1_read a (a - 111) h = some (if (cR z).1 = true then jI (-1) else jI ((cR z).2.1 : Nat), h') ∧ gFr a 1 h h' ∧ ((cR z).1 = true → h'.1 a 0 = jI (cR z).2.2.1 ∧ ((cR z).2.2.1 < 4 → h'.1 a 2 = jI (cR z).2.2.2.1) ∧ (((cR z).2.2.1 = 0 ∨ 4 ≤ (cR z).2.2.1) → h'.1 a 1 = jI (cR z).2.2.2.2)) := by
  have b0 := eB_le (len := z.1) (ch := z.2) (s := 0) (by omega)
  have e0 := u_findBlank T hl (s := 0) (by omega)
  have ea := u_findAction T hl (e := eB z.1 z.2 0) b0.2
  have ab := aW_b z.2 (eB z.1 z.2 0)
  have b1 : cS1 z ≤ z.1 := by unfold cS1; omega
  have b2 := eB_le (len := z.1) (ch := z.2) (s := cS1 z) b1
  have um : (if jI (z.1 : Int) < jI ((eB z.1 z.2 0 : Nat) : Int) + 1 then jI (z.1 : Int) else jI ((eB z.1 z.2 0 : Nat) : Int) + 1) = jI ((cS1 z : Nat) : Int) := u_min (len := z.1) (e := eB z.1 z.2 0) (by omega) (by omega)
  have w1 : (gsI h a 0 (jI (aW z.2 (eB z.1 z.2 0)))).1 a 0 = jI (aW z.2 (eB z.1 z.2 0)) := rI_e _ _ _ _
  have wT : cTx (gsI h a 0 (jI (aW z.2 (eB z.1 z.2 0)))) (a - 111) z := T.mv (fun y q1 q2 => ⟨rI_n (by omega), rfl⟩)
  have wF : gFr a 1 h (gsI h a 0 (jI (aW z.2 (eB z.1 z.2 0)))) := gFr.rf.I (by omega) (by omega)
  rw [f_X1_read]
  unfold cR
  rw [show ((0 : Nat) : Int) = 0 from rfl, ← jl_0] at e0
  by_cases c1 : aW z.2 (eB z.1 z.2 0) = -1
  · rw [if_pos c1]
    refine ⟨_, gBs e0 (gBs ea (gIT (by rw [w1, c1]; rfl) rfl)), wF, fun w => absurd w Bool.false_ne_true⟩
  rw [if_neg c1]
  generalize hA : aW z.2 (eB z.1 z.2 0) = A at *
  have n1 : ¬ (gsI h a 0 (jI A)).1 a 0 = -1 := by rw [w1]; exact jne (a := A) (b := -1) (by omega) (by omega) (by omega) (by omega) c1
  have tl := u_takesLetter w1 ab
  obtain ⟨h1, hh1⟩ : ∃ h1, h1 = gsI h a 0 (jI A) := ⟨_, rfl⟩
  rw [← hh1] at w1 wT wF n1 tl
  by_cases c4 : A < 4
  · rw [if_pos c4]
    rw [decide_eq_true (by omega)] at tl
    have e1 := u_findBlank wT hl b1
    have e1' : f_X4_findBlank (a - 111) (jI ((cS1 z : Nat) : Int)) h1 = some (jI ((cE1 z : Nat) : Int)) := e1
    have b3 : cS1 z ≤ cE1 z ∧ cE1 z ≤ z.1 := b2
    have ed : jI ((cE1 z : Nat) : Int) - jI ((cS1 z : Nat) : Int) = jI ((cE1 z - cS1 z : Nat) : Int) := by
      rw [jI_sub]
      congr 1
      omega
    have r1 := Int32.le_toInt (z.2 (cS1 z))
    have r2 := Int32.toInt_lt (z.2 (cS1 z))
    have lt : (if jI ((cE1 z - cS1 z : Nat) : Int) = 1 then if gIn (jI ((cS1 z : Nat) : Int)) 40 then (f_X9_indexOfLetter (h1.1 (a - 111 + 1) (gN (jI ((cS1 z : Nat) : Int)))) h1).bind fun v23 => some v23 else none else some (-1) : Option Int32) = some (if cE1 z = cS1 z + 1 ∧ 0 ≤ (z.2 (cS1 z)).toInt - 97 ∧ (z.2 (cS1 z)).toInt - 97 < 6 then jI ((z.2 (cS1 z)).toInt - 97) else jI (-1)) := by
      by_cases d1 : cE1 z = cS1 z + 1
      · have t0 : h1.1 (a - 111 + 1) (gN (jI ((cS1 z : Nat) : Int))) = jI (z.2 (cS1 z)).toInt := by rw [gNp (by omega), wT.2 (cS1 z) (by omega), jI_of]
        have ui := u_index h1 (z := (z.2 (cS1 z)).toInt) (by omega) (by omega)
        rw [t0]
        refine gIT (by rw [d1, Nat.add_sub_cancel_left]; rfl) (gIT (jin (by omega) (by omega) (by omega)) (gBs ui ?_))
        by_cases d2 : 97 ≤ (z.2 (cS1 z)).toInt ∧ (z.2 (cS1 z)).toInt < 103
        · rw [if_pos d2, if_pos ⟨d1, by omega, by omega⟩]
        · rw [if_neg d2, if_neg (fun w => d2 (by omega))]
      · rw [if_neg (show ¬ (cE1 z = cS1 z + 1 ∧ 0 ≤ (z.2 (cS1 z)).toInt - 97 ∧ (z.2 (cS1 z)).toInt - 97 < 6) from fun w => d1 w.1)]
        exact gIF (jne (b := 1) (by omega) (by omega) (by omega) (by omega) (by omega)) rfl
    by_cases d : cE1 z = cS1 z + 1 ∧ 0 ≤ (z.2 (cS1 z)).toInt - 97 ∧ (z.2 (cS1 z)).toInt - 97 < 6
    · rw [if_pos d] at lt
      rw [if_pos d]
      have x1 : (gsI h1 a 2 (jI ((z.2 (cS1 z)).toInt - 97))).1 a 2 = jI ((z.2 (cS1 z)).toInt - 97) := rI_e _ _ _ _
      have x0 : (gsI h1 a 2 (jI ((z.2 (cS1 z)).toInt - 97))).1 a 0 = jI A := by rw [rI_k (by decide)]; exact w1
      have xT : cTx (gsI h1 a 2 (jI ((z.2 (cS1 z)).toInt - 97))) (a - 111) z := wT.mv (fun y q1 q2 => ⟨rI_n (by omega), rfl⟩)
      have xF : gFr a 1 h (gsI h1 a 2 (jI ((z.2 (cS1 z)).toInt - 97))) := wF.I (by omega) (by omega)
      have x2 : ¬ (gsI h1 a 2 (jI ((z.2 (cS1 z)).toInt - 97))).1 a 2 = -1 := by rw [x1]; exact jne (a := (z.2 (cS1 z)).toInt - 97) (b := -1) (by omega) (by omega) (by omega) (by omega) (by omega)
      by_cases c0 : A = 0
      · rw [if_pos c0]
        obtain ⟨h', q1, q2, q3, q4, q5⟩ := u_read83N xT ha hl x0 (Or.inl c0) b3.2
        rw [c0] at q1 q3 q5
        refine ⟨h', gBs e0 (gBs ea ?_), xF.tr q2, fun _ => ⟨q3, fun _ => q4.trans x1, fun _ => q5⟩⟩
        rw [← hh1]
        refine gIF n1 (gBs tl (gIT rfl ?_))
        rw [wT.1, um]
        refine gBs e1' ?_
        rw [ed]
        exact gBs lt (gIF x2 q1)
      · rw [if_neg c0]
        have tn := u_takesNumber x0 ab
        rw [decide_eq_false (by omega)] at tn
        refine ⟨gsI h1 a 2 (jI ((z.2 (cS1 z)).toInt - 97)), gBs e0 (gBs ea ?_), xF, fun _ => ⟨x0, fun _ => x1, fun w => by
          have w' : A = 0 ∨ 4 ≤ A := w
          omega⟩⟩
        rw [← hh1]
        refine gIF n1 (gBs tl (gIT rfl ?_))
        rw [wT.1, um]
        refine gBs e1' ?_
        rw [ed]
        refine gBs lt (gIF x2 ?_)
        rw [f_X1_read_83]
        exact gBs tn (gIF Bool.false_ne_true (u_read150 xT hl b3.2))
    · rw [if_neg d] at lt
      rw [if_neg d]
      refine ⟨gsI h1 a 2 (jI (-1)), gBs e0 (gBs ea ?_), wF.I (by omega) (by omega), fun w => absurd w Bool.false_ne_true⟩
      rw [← hh1]
      refine gIF n1 (gBs tl (gIT rfl ?_))
      rw [wT.1, um]
      refine gBs e1' ?_
      rw [ed]
      exact gBs lt (gIT (rI_e _ _ _ _) rfl)
  · rw [if_neg c4]
    rw [decide_eq_false (by omega)] at tl
    obtain ⟨h', q1, q2, q3, q4, q5⟩ := u_read83N wT ha hl w1 (Or.inr (by omega)) b0.2
    refine ⟨h', gBs e0 (gBs ea ?_), wF.tr q2, fun _ => ⟨q3, fun w => absurd w c4, fun _ => q5⟩⟩
    rw [← hh1]
    exact gIF n1 (gBs tl (gIF Bool.false_ne_true q1))
