/-! fractions of naturals in the tables -/
theorem nS64 {a : Nat} (h : a < 9223372036854775808) : gS64 (a : Int) := by constructor <;> omega
theorem nNe {a : Nat} (h : 0 < a) : (a : Int) ≠ 0 := by omega
def fI (x : gQ) : Int × Int := ((x.1 : Int), (x.2 : Int))
def hQ (h : gHp) (x : Nat) (q : gQ) : Prop := hF h x (fI q)
def nPut (h : gHp) (x : Nat) (q : gQ) : gHp := qPut h x (fI q)
theorem hQ.mv {h h' : gHp} {x : Nat} {q : gQ} (H : hQ h x q) (e : h'.2 x = h.2 x) : hQ h' x q := by
  unfold hQ hF at *
  rw [e]; exact H
theorem hQ.fr {h h' : gHp} {x lo k : Nat} {q : gQ} (H : hQ h x q) (G : gFr lo k h h') (e : x < lo ∨ lo + k ≤ x) : hQ h' x q := H.mv (G.i2 e)
theorem nPut_Q (h : gHp) (x : Nat) (q : gQ) : hQ (nPut h x q) x q := qPut_fr h x (fI q)
theorem nPut_1 (h : gHp) (x : Nat) (q : gQ) : (nPut h x q).1 = h.1 := rfl
theorem nPut_2 {h : gHp} {x y : Nat} {q : gQ} (n : y ≠ x) : (nPut h x q).2 y = h.2 y := qPut_2 n
theorem nPut_ne {h : gHp} {x y : Nat} {q r : gQ} (n : y ≠ x) (hr : hQ h y r) : hQ (nPut h x q) y r := hr.mv (nPut_2 n)
theorem gFr.P {lo n : Nat} {h h1 : gHp} (s : gFr lo n h h1) {a : Nat} {q : gQ} (q1 : lo ≤ a) (q2 : a < lo + n) : gFr lo n h (nPut h1 a q) := (s.L q1 q2).L q1 q2
theorem fRed_N (a b : Nat) : fRed (a : Int) (b : Int) = fI (nRed a b) := rfl
theorem fNum_N (x y : gQ) : fNum (fI x) (fI y) = ((x.1 * (y.2 / Nat.gcd x.2 y.2) + y.1 * (x.2 / Nat.gcd x.2 y.2) : Nat) : Int) := by
  unfold fNum fI
  rw [Int.natCast_add, Int.natCast_mul, Int.natCast_mul]
  rfl
theorem fDen_N (x y : gQ) : fDen (fI x) (fI y) = ((x.2 * (y.2 / Nat.gcd x.2 y.2) : Nat) : Int) := by
  unfold fDen fI
  rw [Int.natCast_mul]
  rfl
theorem fAdd_N (x y : gQ) : fAdd (fI x) (fI y) = fI (nAdd x y) := by
  unfold fAdd nAdd
  rw [fNum_N, fDen_N, fRed_N]
theorem fMul_N (x y : gQ) : fMul (fI x) (fI y) = fI (nMul x y) := by
  unfold fMul nMul fI
  rw [Int.natCast_mul, Int.natCast_mul]
  rfl
theorem nAdd_le {x y : gQ} (h1 : 0 < x.2) (h2 : 0 < y.2) : x.1 * (y.2 / Nat.gcd x.2 y.2) + y.1 * (x.2 / Nat.gcd x.2 y.2) ≤ x.1 * y.2 + y.1 * x.2 ∧ x.2 * (y.2 / Nat.gcd x.2 y.2) ≤ x.2 * y.2 ∧ 0 < x.2 * (y.2 / Nat.gcd x.2 y.2) := by
  have hg : 0 < Nat.gcd x.2 y.2 := Nat.gcd_pos_of_pos_left _ h1
  refine ⟨Nat.add_le_add (Nat.mul_le_mul_left _ (Nat.div_le_self _ _)) (Nat.mul_le_mul_left _ (Nat.div_le_self _ _)), Nat.mul_le_mul_left _ (Nat.div_le_self _ _), Nat.mul_pos h1 (Nat.div_pos (Nat.le_of_dvd h2 (Nat.gcd_dvd_right _ _)) hg)⟩
abbrev gB : Nat := 9223372036854775808
theorem k_put (h : gHp) (x : Nat) {u l : Nat} (hu : u < 9223372036854775808) (hl : l < 9223372036854775808) (h0 : ¬ (u = 0 ∧ l = 0)) : f_X2_put x (lI u) (lI l) h = some (nPut h x (nRed u l)) := q_put h x (by omega) (by omega) (by omega)
theorem k_copy {h : gHp} {x y : Nat} {q : gQ} (hq : hQ h y q) : f_X2_copy x y h = some (nPut h x q) := q_copy hq
theorem k_invert {h : gHp} {x : Nat} {q : gQ} (hq : hQ h x q) : f_X2_invert x h = some (nPut h x (iInv q)) := q_invert hq
theorem k_isInf {h : gHp} {x : Nat} {q : gQ} (hq : hQ h x q) (hb : q.2 < 9223372036854775808) : f_X2_isInfinite x h = some (decide (q.2 = 0)) := by
  rw [q_isInf hq (nS64 (a := q.2) (by omega))]
  show some (decide (((q.2 : Nat) : Int) = 0)) = _
  by_cases c : q.2 = 0
  · rw [decide_eq_true c, decide_eq_true (by omega)]
  · rw [decide_eq_false c, decide_eq_false (by omega)]
theorem k_isZero {h : gHp} {x : Nat} {q : gQ} (hq : hQ h x q) (hb : q.1 < 9223372036854775808) : f_X2_isZero x h = some (decide (q.1 = 0)) := by
  rw [q_isZero hq (nS64 (a := q.1) (by omega))]
  show some (decide (((q.1 : Nat) : Int) = 0)) = _
  by_cases c : q.1 = 0
  · rw [decide_eq_true c, decide_eq_true (by omega)]
  · rw [decide_eq_false c, decide_eq_false (by omega)]
theorem k_half {h : gHp} {x : Nat} {q : gQ} (hq : hQ h x q) (w : Int32) : f_X2_half x w h = some (if w = 0 then lI q.1 else lI q.2) := q_half hq w
theorem k_isSame {h : gHp} {x y : Nat} {q r : gQ} (hq : hQ h x q) (hr : hQ h y r) (b1 : q.1 < 9223372036854775808) (b2 : q.2 < 9223372036854775808) (b3 : r.1 < 9223372036854775808) (b4 : r.2 < 9223372036854775808) : f_X2_isSame x y h = some (decide (q = r)) := by
  rw [f_X2_isSame, hq.1, hq.2, hr.1, hr.2]
  show (if lI (q.1 : Int) = lI (r.1 : Int) then if lI (q.2 : Int) = lI (r.2 : Int) then some true else some false else some false) = _
  simp (disch := omega) only [lI_eq]
  by_cases c1 : q.1 = r.1
  · rw [if_pos (by omega)]
    by_cases c2 : q.2 = r.2
    · rw [if_pos (by omega), decide_eq_true (Prod.ext c1 c2)]
    · rw [if_neg (by omega), decide_eq_false (fun e => c2 (by rw [e]))]
  · rw [if_neg (by omega), decide_eq_false (fun e => c1 (by rw [e]))]
theorem k_add {h : gHp} {x y : Nat} {q r : gQ} (hq : hQ h x q) (hr : hQ h y r) (hb : (q.1 + q.2) * (r.1 + r.2) < 9223372036854775808) (b1 : q.2 < 9223372036854775808) (b2 : r.2 < 9223372036854775808) : f_X2_add x y (jI 1) h = some (nPut h x (iAdd q r)) := by
  by_cases c : q.2 = 0 ∨ r.2 = 0
  · rw [iAdd_inf c]
    exact q_addInf hq hr (jI 1) (by
      show ((q.2 : Nat) : Int) = 0 ∨ ((r.2 : Nat) : Int) = 0
      omega)
  · have c1 : 0 < q.2 := by omega
    have c2 : 0 < r.2 := by omega
    obtain ⟨l1, l2, l3⟩ := nAdd_le c1 c2
    have e : q.1 * r.2 + r.1 * q.2 + q.2 * r.2 ≤ (q.1 + q.2) * (r.1 + r.2) := by
      rw [Nat.add_mul, Nat.mul_add, Nat.mul_add, Nat.mul_comm r.1 q.2]
      omega
    have e1 : (fI r).1 = 1 * (fI r).1 := (Int.one_mul _).symm
    rw [iAdd_fin c1 c2]
    have hN : fNum (fI q) (1 * (fI r).1, (fI r).2) = ((q.1 * (r.2 / Nat.gcd q.2 r.2) + r.1 * (q.2 / Nat.gcd q.2 r.2) : Nat) : Int) := by
      rw [← e1]; exact fNum_N q r
    have hD := fDen_N q r
    have := q_add (s := 1) (Or.inl rfl) hq hr (nS64 (a := q.2) (by omega)) (nS64 (a := r.2) (by omega)) (nNe (a := q.2) (by omega)) (nNe (a := r.2) (by omega)) (by rw [hN]; omega) (by rw [hD]; omega) (by rw [hD]; omega)
    rw [← e1, show ((fI r).1, (fI r).2) = fI r from rfl, fAdd_N] at this
    exact this
theorem k_mul {h : gHp} {x y : Nat} {q r : gQ} (hq : hQ h x q) (hr : hQ h y r) (b1 : q.1 < 9223372036854775808) (b2 : q.2 < 9223372036854775808) (b3 : r.1 < 9223372036854775808) (b4 : r.2 < 9223372036854775808) (n1 : 0 < q.2) (n2 : 0 < r.2) : f_X2_multiply x y h = some (nPut h x (nMul q r)) := by
  have := q_mul hq hr (nS64 (a := q.1) (by omega)) (nS64 (a := q.2) (by omega)) (nS64 (a := r.1) (by omega)) (nS64 (a := r.2) (by omega)) (nNe (a := q.2) (by omega)) (nNe (a := r.2) (by omega))
  rw [fMul_N] at this
  exact this
/-! the reference's two numbers -/
def sPut (h : gHp) (m : Nat) (q : gQ) : gHp := mPut h m (fI q)
theorem sPut_1 (h : gHp) (m : Nat) (q : gQ) : (sPut h m q).1 = h.1 := rfl
theorem sPut_2 {h : gHp} {m y : Nat} {q : gQ} (n : y ≠ m) : (sPut h m q).2 y = h.2 y := by unfold sPut mPut; rw [gsL_ne n, gsL_ne n]
theorem sPut_k {h : gHp} {m k : Nat} {q : gQ} (n : k ≠ 17) (n2 : k ≠ 18) : (sPut h m q).2 m k = h.2 m k := by unfold sPut mPut; rw [gsL_nk n2, gsL_nk n]
theorem sPut_17 (h : gHp) (m : Nat) (q : gQ) : (sPut h m q).2 m 17 = lI q.1 := by
  unfold sPut mPut
  rw [gsL_nk (by decide), gsL_eq]
  rfl
theorem sPut_18 (h : gHp) (m : Nat) (q : gQ) : (sPut h m q).2 m 18 = lI q.2 := by
  unfold sPut mPut
  rw [gsL_eq]
  rfl
theorem gFr.S {lo n : Nat} {h h1 : gHp} (s : gFr lo n h h1) {a : Nat} {q : gQ} (q1 : lo ≤ a) (q2 : a < lo + n) : gFr lo n h (sPut h1 a q) := (s.L q1 q2).L q1 q2
theorem s_becomes (h : gHp) (m : Nat) {u l : Nat} (hu : u < 9223372036854775808) (hl : l < 9223372036854775808) (h0 : ¬ (u = 0 ∧ l = 0)) : f_X10_becomes m (lI u) (lI l) h = some (sPut h m (nRed u l)) := q_becomes h m (by omega) (by omega) (by omega)
theorem s_sum (h : gHp) (m : Nat) {q r : gQ} (hb : (q.1 + q.2) * (r.1 + r.2) < 9223372036854775808) (b1 : q.2 < 9223372036854775808) (b2 : r.2 < 9223372036854775808) (c1 : 0 < q.2) (c2 : 0 < r.2) : f_X10_sum m (lI q.1) (lI q.2) (lI r.1) (lI r.2) h = some (sPut h m (iAdd q r)) := by
  obtain ⟨l1, l2, l3⟩ := nAdd_le c1 c2
  have e : q.1 * r.2 + r.1 * q.2 + q.2 * r.2 ≤ (q.1 + q.2) * (r.1 + r.2) := by
    rw [Nat.add_mul, Nat.mul_add, Nat.mul_add, Nat.mul_comm r.1 q.2]
    omega
  have hN := fNum_N q r
  have hD := fDen_N q r
  have := q_sum h m (q := fI q) (r := fI r) (nS64 (a := q.2) (by omega)) (nS64 (a := r.2) (by omega)) (nNe (a := q.2) (by omega)) (by rw [hN]; omega) (by rw [hD]; omega) (by rw [hD]; omega)
  rw [fAdd_N] at this
  rw [iAdd_fin c1 c2]
  exact this
theorem s_product (h : gHp) (m : Nat) {q r : gQ} (gq : nG q) (gr : nG r) (b1 : q.1 < 9223372036854775808) (b2 : q.2 < 9223372036854775808) (b3 : r.1 < 9223372036854775808) (b4 : r.2 < 9223372036854775808) (n1 : 0 < q.2) (n2 : 0 < r.2) (b5 : (nMul q r).1 < 9223372036854775808) (b6 : (nMul q r).2 < 9223372036854775808) : f_X10_product m (lI q.1) (lI q.2) (lI r.1) (lI r.2) h = some (sPut h m (nMul q r)) := by
  obtain ⟨m1, m2, m3⟩ := nMul_V gq gr n1 n2
  have e := fMul_N q r
  have e1 : (fMul (fI q) (fI r)).1 = ((nMul q r).1 : Int) := by rw [e]; rfl
  have e2 : (fMul (fI q) (fI r)).2 = ((nMul q r).2 : Int) := by rw [e]; rfl
  have := q_product h m (q := fI q) (r := fI r) (nS64 (a := q.1) (by omega)) (nS64 (a := q.2) (by omega)) (nS64 (a := r.1) (by omega)) (nS64 (a := r.2) (by omega)) (nNe (a := q.2) (by omega)) (nNe (a := r.2) (by omega)) (by rw [e1]; omega) (by rw [e2]; omega) (by rw [e2]; omega)
  rw [e1, e2, fRed_N, nRed_self m2] at this
  exact this
/-! sums stay small -/
theorem gPro_sub {f : Nat → Nat} {P Q : Nat → Bool} {n : Nat} (h : ∀ q, q < n → Q q = true → P q = true) (hf : ∀ q, q < n → P q = true → 1 ≤ f q) : gPro f Q n ≤ gPro f P n := by
  induction n with
  | zero => exact Nat.le_refl _
  | succ n ih =>
    have ih := ih (fun q hq => h q (by omega)) (fun q hq => hf q (by omega))
    by_cases c : P n = true
    · rw [gPro_T c]
      by_cases d : Q n = true
      · rw [gPro_T d]
        exact Nat.mul_le_mul_right _ ih
      · rw [gPro_F d]
        exact Nat.le_trans ih (Nat.le_mul_of_pos_right _ (hf n (by omega) c))
    · have d : ¬ Q n = true := fun e => c (h n (by omega) e)
      rw [gPro_F c, gPro_F d]
      exact ih
theorem gPro_mono {f : Nat → Nat} {P : Nat → Bool} {i n : Nat} (hi : i ≤ n) (hf : ∀ q, q < n → P q = true → 1 ≤ f q) : gPro f P i ≤ gPro f P n := by
  induction n with
  | zero => rw [Nat.le_zero.mp hi]; exact Nat.le_refl _
  | succ n ih =>
    by_cases e : i = n + 1
    · rw [e]; exact Nat.le_refl _
    · have ih := ih (by omega) (fun q hq => hf q (by omega))
      by_cases c : P n = true
      · rw [gPro_T c]
        exact Nat.le_trans ih (Nat.le_mul_of_pos_right _ (hf n (by omega) c))
      · rw [gPro_F c]; exact ih
theorem sum_9 {f g : Nat → gQ} {w : Nat → Nat} {P : Nat → Bool} {N B : Nat} (hV : ∀ q, q < N → P q = true → nV (f q) (g q).1 (g q).2) (hb : ∀ q, q < N → P q = true → (g q).1 + (g q).2 ≤ w q) (hw : ∀ q, q < N → P q = true → 1 ≤ w q) (hB : gPro w P N ≤ B) {i : Nat} (hi : i < N) (hP : P i = true) : (gSum f P i).1 + (gSum f P i).2 ≤ B ∧ (f i).1 + (f i).2 ≤ B ∧ ((gSum f P i).1 + (gSum f P i).2) * ((f i).1 + (f i).2) ≤ B := by
  have h1 := gPro_mono (f := w) (P := P) (i := i + 1) hi hw
  have h1' := gPro_mono (f := w) (P := P) (i := i) (n := N) (by omega) hw
  rw [gPro_T hP] at h1
  have h2 := nV_le (hV i hi hP)
  have h3 := hb i hi hP
  have h4 := gPro_one (f := w) (P := P) (n := i) (fun q hq c => hw q (by omega) c)
  have h5 : w i ≤ gPro w P i * w i := Nat.le_mul_of_pos_left _ h4
  have h6 : (gSum f P i).1 + (gSum f P i).2 ≤ gPro w P i := by
    rcases gSum_V (f := f) (g := g) (P := P) i (fun q hq c => hV q (by omega) c) with ⟨a, b⟩ | ⟨a, b⟩
    · rw [b]; exact h4
    · have h7 := gAcc_le (g := g) (w := w) (P := P) i (fun q hq c => hb q (by omega) c)
      have h8 := nV_le b
      omega
  refine ⟨by omega, by omega, Nat.le_trans (Nat.mul_le_mul h6 (Nat.le_trans (Nat.add_le_add h2.1 h2.2) h3)) (Nat.le_trans h1 hB)⟩
/-- of the parts of a part, or of some of them -/
theorem sum_R {t n c : Nat} {S : gTb} (W : gWf t n c S) {x : Int} {p : Nat} (hp : p < n) (h4 : S 4 p ≠ 0) {P : Nat → Bool} (hs : ∀ q, q < p → P q = true → gSon S p q = true) (v : Bool) {i : Nat} (hi : i < p) (hP : P i = true) : (gSum (fun q => if v = true then iInv (rR S x n q) else rR S x n q) P i).1 + (gSum (fun q => if v = true then iInv (rR S x n q) else rR S x n q) P i).2 ≤ 1000000000000000 ∧ ((gSum (fun q => if v = true then iInv (rR S x n q) else rR S x n q) P i).1 + (gSum (fun q => if v = true then iInv (rR S x n q) else rR S x n q) P i).2) * ((rR S x n i).1 + (rR S x n i).2) ≤ 1000000000000000 := by
  have hw : ∀ q, q < p → gSon S p q = true → 1 ≤ rW S 100 1000 x n q := fun q hq _ => rW_pos (by omega) (by omega) n q (by omega) (by omega)
  have hB : gPro (rW S 100 1000 x n) P p ≤ 1000000000000000 := by
    refine Nat.le_trans (gPro_sub hs hw) ?_
    have h1 := rW_le W (b := 100) (y := 1000) (x := x) (by omega) (by omega) hp
    rw [rW_e hp] at h1
    unfold wPart at h1
    rw [if_neg h4] at h1
    refine Nat.le_trans ?_ h1
    exact Nat.le_mul_of_pos_right _ (by split <;> omega)
  have h := sum_9 (f := fun q => if v = true then iInv (rR S x n q) else rR S x n q) (g := fun q => if v = true then iInv (rU S x n q) else rU S x n q) (w := rW S 100 1000 x n) (P := P) (N := p) (fun q hq _ => by
    have := rR_V W n q (by omega) (by omega) (x := x)
    cases v
    · exact this
    · exact nV_inv this) (fun q hq _ => by
    have := rU_le W n q (by omega) (by omega) (x := x)
    cases v
    · exact this
    · show (rU S x n q).2 + (rU S x n q).1 ≤ _
      omega) (fun q hq hc => hw q hq (hs q hq hc)) hB hi hP
  refine ⟨h.1, ?_⟩
  have h2 := h.2.2
  cases v
  · exact h2
  · rw [Nat.add_comm (rR S x n i).1]
    exact h2
