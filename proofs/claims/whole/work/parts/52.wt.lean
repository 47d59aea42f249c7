/-! counting twice: the letters and the arms -/
theorem gCnt_add {A B C : Nat → Bool} {n : Nat} (h : ∀ q, q < n → A q = (B q || C q)) (d : ∀ q, q < n → ¬ (B q = true ∧ C q = true)) : gCnt A n = gCnt B n + gCnt C n := by
  induction n with
  | zero => rfl
  | succ n ih =>
    have h1 := h n (by omega)
    have d1 := d n (by omega)
    rw [gCnt, gCnt, gCnt, ih (fun q hq => h q (by omega)) (fun q hq => d q (by omega)), h1]
    rcases hb : B n with _ | _
    · rcases hc : C n with _ | _
      · simp
      · simp; omega
    · rcases hc : C n with _ | _
      · simp; omega
      · exact absurd ⟨hb, hc⟩ d1
theorem gCnt_no {B : Nat → Bool} {n : Nat} (h : ∀ q, q < n → ¬ B q = true) : gCnt B n = 0 := by
  induction n with
  | zero => rfl
  | succ n ih => rw [gCnt_F (h n (by omega)), ih (fun q hq => h q (by omega))]
theorem gCnt_one {B : Nat → Bool} {n r : Nat} (hr : r < n) (hB : B r = true) (h : ∀ q, q < n → q ≠ r → ¬ B q = true) : gCnt B n = 1 := by
  induction n with
  | zero => omega
  | succ n ih =>
    by_cases c : r = n
    · subst c
      rw [gCnt_T hB, gCnt_no (fun q hq => h q (by omega) (by omega))]
    · rw [gCnt_F (h n (by omega) (by omega)), ih (by omega) (fun q hq => h q (by omega))]
theorem bij {t n c : Nat} {S : gTb} (W : gWf t n c S) (Q : Nat → Bool) : ∀ i, i ≤ 6 → gCnt (fun l => decide (S 3 l ≠ 0) && Q (S 3 l - 1).toNat) i = gCnt (fun p => decide (S 4 p = 0) && (decide (S 6 p < i) && Q p)) n := by
  intro i
  induction i with
  | zero =>
    intro _
    rw [gCnt, gCnt_no]
    intro q hq hc
    simp only [Bool.and_eq_true, decide_eq_true_eq] at hc
    obtain ⟨l, h1, h2, h3⟩ := W.am hq hc.1
    omega
  | succ i ih =>
    intro hi
    have hA := gCnt_add (A := fun p => decide (S 4 p = 0) && (decide (S 6 p < (i + 1 : Nat)) && Q p)) (B := fun p => decide (S 4 p = 0) && (decide (S 6 p < i) && Q p)) (C := fun p => decide (S 4 p = 0) && (decide (S 6 p = i) && Q p)) (n := n) (by
      intro q hq
      try dsimp only
      rcases decide (S 4 q = 0) with _ | _
      · rfl
      · rcases Q q with _ | _
        · simp
        · simp only [Bool.true_and, Bool.and_true]
          by_cases c1 : S 6 q < i
          · rw [decide_eq_true c1, decide_eq_true (by omega), Bool.true_or]
          · by_cases c2 : S 6 q = i
            · rw [decide_eq_true c2, decide_eq_true (by omega), Bool.or_true]
            · rw [decide_eq_false c1, decide_eq_false c2, decide_eq_false (by omega), Bool.or_false]) (by
      intro q hq hc
      simp only [Bool.and_eq_true, decide_eq_true_eq] at hc
      omega)
    rw [hA, ← ih (by omega)]
    have b := W.an (l := i) (by omega)
    by_cases c : S 3 i = 0
    · rw [gCnt_F (by simp [c]), gCnt_no (B := fun p => decide (S 4 p = 0) && (decide (S 6 p = i) && Q p)), Nat.add_zero]
      intro q hq hc
      simp only [Bool.and_eq_true, decide_eq_true_eq] at hc
      obtain ⟨l, h1, h2, h3⟩ := W.am hq hc.1
      have : l = i := by omega
      subst this
      omega
    · obtain ⟨d1, d2, d3⟩ := W.lt (l := i) (by omega) c
      have huq : ∀ q, q < n → S 4 q = 0 → S 6 q = i → q = (S 3 i - 1).toNat := by
        intro q hq h4 h6
        obtain ⟨l, h1, h2, h3⟩ := W.am hq h4
        have : l = i := by omega
        subst this
        omega
      rcases hq : Q (S 3 i - 1).toNat with _ | _
      · rw [gCnt_F (by intro e; rw [hq, Bool.and_false] at e; exact Bool.false_ne_true e), gCnt_no (B := fun p => decide (S 4 p = 0) && (decide (S 6 p = i) && Q p)), Nat.add_zero]
        intro q hq2 hc
        simp only [Bool.and_eq_true, decide_eq_true_eq] at hc
        rw [huq q hq2 hc.1 hc.2.1, hq] at hc
        exact Bool.false_ne_true hc.2.2
      · rw [gCnt_T (by rw [hq, decide_eq_true c]; rfl), gCnt_one (B := fun p => decide (S 4 p = 0) && (decide (S 6 p = i) && Q p)) (r := (S 3 i - 1).toNat) (by omega) (by rw [decide_eq_true d1, decide_eq_true d2, hq]; rfl)]
        intro q hq2 hne hc
        simp only [Bool.and_eq_true, decide_eq_true_eq] at hc
        exact hne (huq q hq2 hc.1 hc.2.1)
theorem bij6 {t n c : Nat} {S : gTb} (W : gWf t n c S) (Q : Nat → Bool) : gCnt (fun l => decide (S 3 l ≠ 0) && Q (S 3 l - 1).toNat) 6 = gCnt (fun p => decide (S 4 p = 0) && Q p) n := by
  rw [bij W Q 6 (by omega)]
  refine gCnt_congr fun q hq => ?_
  by_cases h : S 4 q = 0
  · obtain ⟨l, h1, h2, h3⟩ := W.am hq h
    have e : S 6 q < (6 : Nat) := by omega
    rw [decide_eq_true e, Bool.true_and]
  · rw [decide_eq_false h, Bool.false_and, Bool.false_and]
theorem arms_eq {t n c : Nat} {S : gTb} (W : gWf t n c S) : gCnt (fun p => decide (S 4 p = 0)) n = gCnt (fun l => decide (S 3 l ≠ 0)) 6 := by
  have h := bij6 W (fun _ => true)
  simp only [Bool.and_true] at h
  exact h.symm
theorem arms_le {t n c : Nat} {S : gTb} (W : gWf t n c S) : gCnt (fun p => decide (S 4 p = 0)) n ≤ 6 := by
  rw [arms_eq W]
  exact gCnt_le _ 6
/-! weights -/
theorem gPro_add {f : Nat → Nat} {A B C : Nat → Bool} {n : Nat} (h : ∀ q, q < n → A q = (B q || C q)) (d : ∀ q, q < n → ¬ (B q = true ∧ C q = true)) : gPro f A n = gPro f B n * gPro f C n := by
  induction n with
  | zero => rfl
  | succ n ih =>
    have h1 := h n (by omega)
    have d1 := d n (by omega)
    have ih := ih (fun q hq => h q (by omega)) (fun q hq => d q (by omega))
    rcases hb : B n with _ | _
    · rcases hc : C n with _ | _
      · rw [gPro_F (by rw [h1, hb, hc]; decide), gPro_F (by rw [hb]; decide), gPro_F (by rw [hc]; decide), ih]
      · rw [gPro_T (by rw [h1, hb, hc]; rfl), gPro_F (by rw [hb]; decide), gPro_T hc, ih, Nat.mul_assoc]
    · rcases hc : C n with _ | _
      · rw [gPro_T (by rw [h1, hb, hc]; rfl), gPro_T hb, gPro_F (by rw [hc]; decide), ih, Nat.mul_right_comm]
      · exact absurd ⟨hb, hc⟩ d1
theorem gPro_one {f : Nat → Nat} {P : Nat → Bool} {n : Nat} (h : ∀ q, q < n → P q = true → 1 ≤ f q) : 1 ≤ gPro f P n := by
  induction n with
  | zero => exact Nat.le_refl _
  | succ n ih =>
    have ih := ih (fun q hq => h q (by omega))
    by_cases c : P n = true
    · rw [gPro_T c]; exact Nat.mul_pos ih (h n (by omega) c)
    · rw [gPro_F c]; exact ih
theorem gPro_no {f : Nat → Nat} {P : Nat → Bool} {n : Nat} (h : ∀ q, q < n → ¬ P q = true) : gPro f P n = 1 := by
  induction n with
  | zero => rfl
  | succ n ih => rw [gPro_F (h n (by omega)), ih (fun q hq => h q (by omega))]
theorem rW_pos {S : gTb} {b y : Nat} {x : Int} {n : Nat} (hb : 1 ≤ b) (hy : 1 ≤ y) : ∀ k p, p < k → p < n → 1 ≤ rW S b y x n p := by
  intro k
  induction k with
  | zero => intro p h; omega
  | succ k ih =>
    intro p hk hp
    rw [rW_e hp]
    unfold wPart
    refine Nat.mul_pos ?_ ?_
    · split
      · exact hb
      · exact gPro_one (fun q hq _ => ih q (by omega) (by omega))
    · split <;> omega
/-- what stands at the top so far -/
theorem rW_fr {t n c : Nat} {S : gTb} (W : gWf t n c S) {b y : Nat} {x : Int} : ∀ i, i ≤ n → gPro (rW S b y x n) (fun q => !decide (0 ≤ S 5 q ∧ S 5 q < i)) i = b ^ gCnt (fun p => decide (S 4 p = 0)) i * (if 0 ≤ x ∧ x < i then y else 1) := by
  intro i
  induction i with
  | zero => intro _; rw [if_neg (by omega)]; rfl
  | succ i ih =>
    intro hi
    have ih := ih (by omega)
    have ar := W.ar (p := i) (by omega)
    rw [gPro_T (by rw [decide_eq_false (by omega)]; rfl)]
    have e1 := gPro_add (f := rW S b y x n) (A := fun q => !decide (0 ≤ S 5 q ∧ S 5 q < i)) (B := fun q => !decide (0 ≤ S 5 q ∧ S 5 q < (i + 1 : Nat))) (C := gSon S i) (n := i) (by
      intro q hq
      dsimp only [gSon]
      by_cases c1 : S 5 q = i
      · rw [decide_eq_true c1, decide_eq_false (by omega), Bool.or_true]; rfl
      · rw [decide_eq_false c1, Bool.or_false]
        by_cases c2 : 0 ≤ S 5 q ∧ S 5 q < i
        · rw [decide_eq_true c2, decide_eq_true (by omega)]
        · rw [decide_eq_false c2, decide_eq_false (by omega)]) (by
      intro q hq hc
      dsimp only [gSon] at hc
      simp only [Bool.not_eq_true', decide_eq_false_iff_not, decide_eq_true_eq] at hc
      omega)
    rw [e1] at ih
    rw [rW_e (p := i) (by omega)]
    unfold wPart
    by_cases c0 : S 4 i = 0
    · rw [if_pos c0, gCnt_T (decide_eq_true c0), Nat.pow_succ]
      rw [gPro_no (P := gSon S i) (by
        intro q hq hc
        exact W.so (p := i) (q := q) (by omega) (by omega) (of_decide_eq_true hc) c0), Nat.mul_one] at ih
      rw [ih]
      by_cases cx : (i : Int) = x
      · rw [if_pos cx, if_neg (by omega), if_pos (by omega), Nat.mul_one, Nat.mul_assoc]
      · rw [if_neg cx, Nat.mul_one, Nat.mul_right_comm]
        congr 1
        by_cases cy : 0 ≤ x ∧ x < i
        · rw [if_pos cy, if_pos (by omega)]
        · rw [if_neg cy, if_neg (by omega)]
    · rw [if_neg c0, gCnt_F (by simp [c0]), ← Nat.mul_assoc, ih]
      by_cases cx : (i : Int) = x
      · rw [if_pos cx, if_neg (by omega), if_pos (by omega), Nat.mul_one]
      · rw [if_neg cx, Nat.mul_one]
        congr 1
        by_cases cy : 0 ≤ x ∧ x < i
        · rw [if_pos cy, if_pos (by omega)]
        · rw [if_neg cy, if_neg (by omega)]
theorem rW_le {t n c : Nat} {S : gTb} (W : gWf t n c S) {b y : Nat} {x : Int} (hb : 1 ≤ b) (hy : 1 ≤ y) {p : Nat} (hp : p < n) : rW S b y x n p ≤ b ^ 6 * y := by
  have h := rW_fr W (b := b) (y := y) (x := x) (p + 1) (by omega)
  have ar := W.ar hp
  rw [gPro_T (by rw [decide_eq_false (by omega)]; rfl)] at h
  have h1 := gPro_one (f := rW S b y x n) (P := fun q => !decide (0 ≤ S 5 q ∧ S 5 q < (p + 1 : Nat))) (n := p) (fun q hq _ => rW_pos hb hy n q (by omega) (by omega))
  have h2 : rW S b y x n p ≤ gPro (rW S b y x n) (fun q => !decide (0 ≤ S 5 q ∧ S 5 q < (p + 1 : Nat))) p * rW S b y x n p := Nat.le_mul_of_pos_left _ h1
  refine Nat.le_trans h2 ?_
  rw [h]
  refine Nat.mul_le_mul ?_ ?_
  · refine Nat.pow_le_pow_right hb ?_
    exact Nat.le_trans (gCnt_mono _ (by omega)) (arms_le W)
  · split <;> omega
/-- the weight of the part around -/
theorem rW_up {S : gTb} {b y : Nat} {x : Int} {n u p : Nat} (hu : u < n) (hp : p < u) (h : S 5 p = u) (h4 : S 4 u ≠ 0) (hx : (u : Int) ≠ x) : rW S b y x n u = gPro (rW S b y x n) (gBut (gSon S u) p) u * rW S b y x n p := by
  rw [rW_e hu]
  unfold wPart
  rw [if_neg h4, if_neg hx, Nat.mul_one, gPro_but (decide_eq_true h) u hp]
theorem rU_9 {t n c : Nat} {S : gTb} (W : gWf t n c S) {x : Int} {p : Nat} (hp : p < n) : (rU S x n p).1 + (rU S x n p).2 ≤ 1000000000000000 := by
  have h := rU_le W n p (by omega) hp (x := x)
  have h2 := rW_le W (b := 100) (y := 1000) (x := x) (by decide) (by decide) hp
  exact Nat.le_trans h h2
theorem rR_9 {t n c : Nat} {S : gTb} (W : gWf t n c S) {x : Int} {p : Nat} (hp : p < n) : (rR S x n p).1 ≤ 1000000000000000 ∧ (rR S x n p).2 ≤ 1000000000000000 := by
  have h := rU_9 W (x := x) hp
  have h2 := nV_le (rR_V W n p (by omega) hp (x := x))
  omega
