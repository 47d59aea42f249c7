/-! something taken off -/
def sX (q r : gQ) : Nat := q.1 * (r.2 / Nat.gcd q.2 r.2)
def sY (q r : gQ) : Nat := r.1 * (q.2 / Nat.gcd q.2 r.2)
def sD (q r : gQ) : Nat := q.2 * (r.2 / Nat.gcd q.2 r.2)
theorem sub_num (q r : gQ) : fNum (fI q) (-1 * (fI r).1, (fI r).2) = (sX q r : Int) - (sY q r : Int) := by
  unfold fNum fI sX sY
  rw [Int.natCast_mul, Int.natCast_mul, Int.sub_eq_add_neg, Int.neg_mul, Int.neg_mul, Int.one_mul]
  rfl
theorem sub_num2 (q r : gQ) : fNum (fI q) (-(r.1 : Int), (r.2 : Int)) = (sX q r : Int) - (sY q r : Int) := by
  rw [← sub_num]
  show fNum (fI q) (-(r.1 : Int), (r.2 : Int)) = fNum (fI q) (-1 * (r.1 : Int), (r.2 : Int))
  rw [Int.neg_mul, Int.one_mul]
theorem sub_g {q r : gQ} (h1 : 0 < q.2) (h2 : 0 < r.2) : 0 < Nat.gcd q.2 r.2 ∧ q.1 * r.2 = Nat.gcd q.2 r.2 * sX q r ∧ r.1 * q.2 = Nat.gcd q.2 r.2 * sY q r ∧ q.2 * r.2 = Nat.gcd q.2 r.2 * sD q r ∧ 0 < sD q r := by
  have hg : 0 < Nat.gcd q.2 r.2 := Nat.gcd_pos_of_pos_left _ h1
  have ea := Nat.mul_div_cancel' (Nat.gcd_dvd_left q.2 r.2)
  have eb := Nat.mul_div_cancel' (Nat.gcd_dvd_right q.2 r.2)
  refine ⟨hg, ?_, ?_, ?_, ?_⟩
  · unfold sX
    rw [Nat.mul_left_comm, eb]
  · unfold sY
    rw [Nat.mul_left_comm, ea]
  · unfold sD
    rw [Nat.mul_left_comm, eb]
  · unfold sD
    exact Nat.mul_pos h1 (Nat.div_pos (Nat.le_of_dvd h2 (Nat.gcd_dvd_right _ _)) hg)
theorem sub_le (q r : gQ) : sX q r ≤ q.1 * r.2 ∧ sY q r ≤ r.1 * q.2 ∧ sD q r ≤ q.2 * r.2 := ⟨Nat.mul_le_mul_left _ (Nat.div_le_self _ _), Nat.mul_le_mul_left _ (Nat.div_le_self _ _), Nat.mul_le_mul_left _ (Nat.div_le_self _ _)⟩
theorem sub_lt {q r : gQ} (h1 : 0 < q.2) (h2 : 0 < r.2) : sX q r < sY q r ↔ q.1 * r.2 < r.1 * q.2 := by
  obtain ⟨hg, e1, e2, e3, e4⟩ := sub_g h1 h2
  rw [e1, e2]
  exact (Nat.mul_lt_mul_left hg).symm
theorem sub_red {q r : gQ} (h1 : 0 < q.2) (h2 : 0 < r.2) : nRed (sX q r - sY q r) (sD q r) = nRed (q.1 * r.2 - r.1 * q.2) (q.2 * r.2) := by
  obtain ⟨hg, e1, e2, e3, e4⟩ := sub_g h1 h2
  rw [e1, e2, e3, ← Nat.mul_sub]
  have n1 : ¬ (sX q r - sY q r = 0 ∧ sD q r = 0) := fun w => by omega
  have n2 : ¬ (Nat.gcd q.2 r.2 * (sX q r - sY q r) = 0 ∧ Nat.gcd q.2 r.2 * sD q r = 0) := fun w => by
    have := Nat.mul_pos hg e4
    omega
  exact nV_uniq (nRed_G n1) (nRed_G n2) (nV_scale hg (nRed_V n1)) (nRed_V n2)
/-- as dS has it -/
theorem sub_dS {q r : gQ} (h1 : 0 < q.2) (h2 : 0 < r.2) : dS q r = if sX q r < sY q r then none else some (nRed (sX q r - sY q r) (sD q r)) := by
  unfold dS
  rw [if_neg (by omega), sub_red h1 h2]
  by_cases c : q.1 * r.2 < r.1 * q.2
  · rw [if_pos c, if_pos ((sub_lt h1 h2).mpr c)]
  · rw [if_neg c, if_neg (fun w => c ((sub_lt h1 h2).mp w))]
theorem sub_fRed {q r : gQ} (h : ¬ sX q r < sY q r) : fRed ((sX q r : Int) - (sY q r : Int)) (sD q r : Int) = fI (nRed (sX q r - sY q r) (sD q r)) := by
  rw [← fRed_N]
  congr 1
  omega
theorem sub_neg {q r : gQ} (h1 : 0 < q.2) (h2 : 0 < r.2) (h : sX q r < sY q r) (b : sY q r < 4611686018427387904) : -9223372036854775808 < (fRed ((sX q r : Int) - (sY q r : Int)) (sD q r : Int)).1 ∧ (fRed ((sX q r : Int) - (sY q r : Int)) (sD q r : Int)).1 < 0 := by
  obtain ⟨hg, e1, e2, e3, e4⟩ := sub_g h1 h2
  have gp := gcd_pos' (a := (sX q r : Int) - (sY q r : Int)) (b := (sD q r : Int)) (fun w => by omega)
  have hs : gS64 ((sX q r : Int) - (sY q r : Int)) := by constructor <;> omega
  refine ⟨(div_s64 hs gp).1, ?_⟩
  exact Int.ediv_neg_of_neg_of_pos (by omega) (by omega)
/-- the class takes off -/
theorem k_sub {h : gHp} {x y : Nat} {q r : gQ} (hq : hQ h x q) (hr : hQ h y r) (h1 : 0 < q.2) (h2 : 0 < r.2) (b1 : q.1 * r.2 < 4611686018427387904) (b2 : r.1 * q.2 < 4611686018427387904) (b3 : q.2 * r.2 < 4611686018427387904) : (dS q r = none → ∃ z : Int × Int, f_X2_add x y (-1) h = some (qPut h x z) ∧ -9223372036854775808 < z.1 ∧ z.1 < 0) ∧ (∀ u, dS q r = some u → f_X2_add x y (-1) h = some (nPut h x u)) := by
  obtain ⟨hg, e1, e2, e3, e4⟩ := sub_g h1 h2
  obtain ⟨l1, l2, l3⟩ := sub_le q r
  have q2 : q.2 ≤ q.2 * r.2 := Nat.le_mul_of_pos_right _ h2
  have r2 : r.2 ≤ q.2 * r.2 := Nat.le_mul_of_pos_left _ h1
  have hD : fDen (fI q) (fI r) = (sD q r : Int) := fDen_N q r
  have hA := q_add (s := -1) (Or.inr rfl) hq hr (nS64 (a := q.2) (by omega)) (nS64 (a := r.2) (by omega)) (nNe (a := q.2) h1) (nNe (a := r.2) h2) (by rw [sub_num]; constructor <;> omega) (by rw [hD]; constructor <;> omega) (by rw [hD]; omega)
  have eA : fAdd (fI q) (-1 * (fI r).1, (fI r).2) = fRed ((sX q r : Int) - (sY q r : Int)) (sD q r : Int) := by
    unfold fAdd
    rw [sub_num]
    congr 1
  rw [eA] at hA
  rw [sub_dS h1 h2]
  by_cases c : sX q r < sY q r
  · rw [if_pos c]
    exact ⟨fun _ => ⟨_, hA, sub_neg h1 h2 c (by omega)⟩, fun u w => (by cases w)⟩
  · rw [if_neg c]
    refine ⟨fun w => (by cases w), fun u w => ?_⟩
    rw [sub_fRed c] at hA
    rw [← Option.some.inj w]
    exact hA
/-- the reference takes off -/
theorem s_sub (h : gHp) (m : Nat) {q r : gQ} (h1 : 0 < q.2) (h2 : 0 < r.2) (b1 : q.1 * r.2 < 4611686018427387904) (b2 : r.1 * q.2 < 4611686018427387904) (b3 : q.2 * r.2 < 4611686018427387904) : (dS q r = none → ∃ z : Int × Int, f_X10_sum m (lI q.1) (lI q.2) (-lI r.1) (lI r.2) h = some (mPut h m z) ∧ -9223372036854775808 < z.1 ∧ z.1 < 0) ∧ (∀ u, dS q r = some u → f_X10_sum m (lI q.1) (lI q.2) (-lI r.1) (lI r.2) h = some (sPut h m u)) := by
  obtain ⟨hg, e1, e2, e3, e4⟩ := sub_g h1 h2
  obtain ⟨l1, l2, l3⟩ := sub_le q r
  have q2 : q.2 ≤ q.2 * r.2 := Nat.le_mul_of_pos_right _ h2
  have r2 : r.2 ≤ q.2 * r.2 := Nat.le_mul_of_pos_left _ h1
  have hD : fDen (fI q) (-(r.1 : Int), (r.2 : Int)) = (sD q r : Int) := fDen_N q r
  have hA := q_sum h m (q := fI q) (r := (-(r.1 : Int), (r.2 : Int))) (nS64 (a := q.2) (by omega)) (nS64 (a := r.2) (by omega)) (nNe (a := q.2) h1) (by rw [sub_num2]; constructor <;> omega) (by rw [hD]; constructor <;> omega) (by rw [hD]; omega)
  have eA : fAdd (fI q) (-(r.1 : Int), (r.2 : Int)) = fRed ((sX q r : Int) - (sY q r : Int)) (sD q r : Int) := by
    unfold fAdd
    rw [sub_num2, hD]
  rw [eA] at hA
  have hA' : f_X10_sum m (lI q.1) (lI q.2) (-lI r.1) (lI r.2) h = some (mPut h m (fRed ((sX q r : Int) - (sY q r : Int)) (sD q r : Int))) := by
    rw [lI_neg]
    exact hA
  rw [sub_dS h1 h2]
  by_cases c : sX q r < sY q r
  · rw [if_pos c]
    exact ⟨fun _ => ⟨_, hA', sub_neg h1 h2 c (by omega)⟩, fun u w => (by cases w)⟩
  · rw [if_neg c]
    refine ⟨fun w => (by cases w), fun u w => ?_⟩
    rw [sub_fRed c] at hA'
    rw [← Option.some.inj w]
    exact hA'
/-- the weights when there is no meter -/
theorem rW_y {S : gTb} {b y y' n : Nat} : rW S b y (-1) n = rW S b y' (-1) n := by
  have e : wPart S b y (-1) = wPart S b y' (-1) := by
    funext T p
    unfold wPart
    rw [if_neg (show ¬ ((p : Int) = -1) by omega), if_neg (show ¬ ((p : Int) = -1) by omega)]
  unfold rW
  rw [e]
theorem rW_12 {t n c : Nat} {S : gTb} (W : gWf t n c S) {p : Nat} (hp : p < n) : rW S 100 1000 (-1) n p ≤ 1000000000000 := by
  rw [rW_y (y' := 1)]
  have h := rW_le W (b := 100) (y := 1) (x := -1) (by decide) (by decide) hp
  exact Nat.le_trans h (by decide)
/-- how large the others are -/
theorem sO_le {t n c : Nat} {S : gTb} (W : gWf t n c S) {v j : Nat} (hv : v < n) : (sO S n v j).1 + (sO S n v j).2 ≤ gPro (rW S 100 1000 (-1) n) (gBut (gSon S v) j) v := by
  have h4 : 1 ≤ gPro (rW S 100 1000 (-1) n) (gBut (gSon S v) j) v := gPro_one fun q hq _ => rW_pos (by omega) (by omega) n q (by omega) (by omega)
  unfold sO
  rcases gSum_V (f := fun q => gVw S v (rR S (-1) n q)) (g := fun q => gVw S v (rU S (-1) n q)) (P := gBut (gSon S v) j) v (fun q hq _ => by
    have := rR_V W n q (by omega) (by omega) (x := -1)
    by_cases c2 : S 4 v = 2
    · show nV (gVw S v (rR S (-1) n q)) (gVw S v (rU S (-1) n q)).1 (gVw S v (rU S (-1) n q)).2
      rw [gVw_2 c2, gVw_2 c2]; exact nV_inv this
    · show nV (gVw S v (rR S (-1) n q)) (gVw S v (rU S (-1) n q)).1 (gVw S v (rU S (-1) n q)).2
      rw [gVw_1 c2, gVw_1 c2]; exact this) with ⟨a, e⟩ | ⟨a, e⟩
  · rw [e]; exact h4
  · have l := nV_le e
    have l2 := gAcc_le (g := fun q => gVw S v (rU S (-1) n q)) (w := rW S 100 1000 (-1) n) (P := gBut (gSon S v) j) v (fun q hq _ => by
      have := rU_le W n q (by omega) (by omega) (x := -1)
      show (gVw S v (rU S (-1) n q)).1 + (gVw S v (rU S (-1) n q)).2 ≤ _
      by_cases c2 : S 4 v = 2
      · rw [gVw_2 c2]
        show (rU S (-1) n q).2 + (rU S (-1) n q).1 ≤ _
        omega
      · rw [gVw_1 c2]; exact this)
    omega
