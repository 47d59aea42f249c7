/-! fractions as pairs of naturals, 1 / 0 infinite -/
abbrev gQ : Type := Nat × Nat
def nG (x : gQ) : Prop := Nat.Coprime x.1 x.2
/-- x is N / D, cancelled -/
def nV (x : gQ) (N D : Nat) : Prop := ∃ k : Nat, 0 < k ∧ N = k * x.1 ∧ D = k * x.2
def nRed (N D : Nat) : gQ := (N / Nat.gcd N D, D / Nat.gcd N D)
theorem gcd_pos2 {a b : Nat} (h : ¬ (a = 0 ∧ b = 0)) : 0 < Nat.gcd a b := by
  rcases Nat.eq_zero_or_pos (Nat.gcd a b) with q | q
  · rw [Nat.gcd_eq_zero_iff] at q; exact absurd q h
  · exact q
theorem nRed_G {N D : Nat} (h : ¬ (N = 0 ∧ D = 0)) : nG (nRed N D) := Nat.coprime_div_gcd_div_gcd (gcd_pos2 h)
theorem nRed_V {N D : Nat} (h : ¬ (N = 0 ∧ D = 0)) : nV (nRed N D) N D := ⟨Nat.gcd N D, gcd_pos2 h, (Nat.mul_div_cancel' (Nat.gcd_dvd_left N D)).symm, (Nat.mul_div_cancel' (Nat.gcd_dvd_right N D)).symm⟩
theorem nV_scale {x : gQ} {N D c : Nat} (hc : 0 < c) (h : nV x N D) : nV x (c * N) (c * D) := by
  obtain ⟨k, hk, rfl, rfl⟩ := h
  exact ⟨c * k, Nat.mul_pos hc hk, by rw [Nat.mul_assoc], by rw [Nat.mul_assoc]⟩
theorem nV_self (x : gQ) : nV x x.1 x.2 := ⟨1, by decide, (Nat.one_mul _).symm, (Nat.one_mul _).symm⟩
theorem nV_le {x : gQ} {N D : Nat} (h : nV x N D) : x.1 ≤ N ∧ x.2 ≤ D := by
  obtain ⟨k, hk, rfl, rfl⟩ := h
  exact ⟨Nat.le_mul_of_pos_left _ hk, Nat.le_mul_of_pos_left _ hk⟩
theorem nV_z {x : gQ} {N D : Nat} (h : nV x N D) : (x.1 = 0 ↔ N = 0) ∧ (x.2 = 0 ↔ D = 0) := by
  obtain ⟨k, hk, rfl, rfl⟩ := h
  refine ⟨⟨fun q => by rw [q]; rfl, fun q => ?_⟩, ⟨fun q => by rw [q]; rfl, fun q => ?_⟩⟩
  · rcases Nat.mul_eq_zero.mp q with q | q
    · omega
    · exact q
  · rcases Nat.mul_eq_zero.mp q with q | q
    · omega
    · exact q
theorem nV_cross {x : gQ} {N D : Nat} (h : nV x N D) : N * x.2 = D * x.1 := by
  obtain ⟨k, hk, rfl, rfl⟩ := h
  rw [Nat.mul_assoc, Nat.mul_assoc, Nat.mul_comm x.1 x.2]
theorem nG_eq {x y : gQ} (hx : nG x) (hy : nG y) (h : x.1 * y.2 = y.1 * x.2) : x = y := by
  have h1 : x.1 ∣ y.1 := Nat.Coprime.dvd_of_dvd_mul_right hx ⟨y.2, h.symm⟩
  have h2 : y.1 ∣ x.1 := Nat.Coprime.dvd_of_dvd_mul_right hy ⟨x.2, h⟩
  have h3 : x.2 ∣ y.2 := Nat.Coprime.dvd_of_dvd_mul_left (Nat.Coprime.symm hx) ⟨y.1, by rw [h, Nat.mul_comm]⟩
  have h4 : y.2 ∣ x.2 := Nat.Coprime.dvd_of_dvd_mul_left (Nat.Coprime.symm hy) ⟨x.1, by rw [← h, Nat.mul_comm]⟩
  exact Prod.ext (Nat.dvd_antisymm h1 h2) (Nat.dvd_antisymm h3 h4)
theorem nV_uniq {x y : gQ} {N D : Nat} (hx : nG x) (hy : nG y) (h1 : nV x N D) (h2 : nV y N D) : x = y := by
  obtain ⟨k, hk, rfl, rfl⟩ := h1
  obtain ⟨j, hj, e1, e2⟩ := h2
  refine nG_eq hx hy ?_
  have h3 : (k * j) * (x.1 * y.2) = (k * j) * (y.1 * x.2) := by
    have a1 : (k * x.1) * (j * y.2) = (j * y.1) * (k * x.2) := by rw [e1, ← e2]
    have a2 : (k * x.1) * (j * y.2) = (k * j) * (x.1 * y.2) := by ac_rfl
    have a3 : (j * y.1) * (k * x.2) = (k * j) * (y.1 * x.2) := by ac_rfl
    rw [← a2, a1, a3]
  exact Nat.eq_of_mul_eq_mul_left (Nat.mul_pos hk hj) h3
/-- a sum -/
def nAdd (x y : gQ) : gQ := nRed (x.1 * (y.2 / Nat.gcd x.2 y.2) + y.1 * (x.2 / Nat.gcd x.2 y.2)) (x.2 * (y.2 / Nat.gcd x.2 y.2))
theorem nAdd_V {x y : gQ} (h1 : 0 < x.2) (h2 : 0 < y.2) : nV (nAdd x y) (x.1 * y.2 + y.1 * x.2) (x.2 * y.2) ∧ nG (nAdd x y) := by
  have hg : 0 < Nat.gcd x.2 y.2 := Nat.gcd_pos_of_pos_left _ h1
  obtain ⟨a, ha⟩ := Nat.gcd_dvd_left x.2 y.2
  obtain ⟨b, hb⟩ := Nat.gcd_dvd_right x.2 y.2
  unfold nAdd
  generalize hgg : Nat.gcd x.2 y.2 = g at ha hb hg
  have ea : x.2 / g = a := by rw [ha, Nat.mul_div_cancel_left _ hg]
  have eb : y.2 / g = b := by rw [hb, Nat.mul_div_cancel_left _ hg]
  rw [ea, eb]
  have hb0 : 0 < b := by
    rcases Nat.eq_zero_or_pos b with q | q
    · rw [q] at hb; omega
    · exact q
  have hd : ¬ (x.1 * b + y.1 * a = 0 ∧ x.2 * b = 0) := fun q => by
    have := Nat.mul_pos h1 hb0
    omega
  refine ⟨?_, nRed_G hd⟩
  have h3 := nV_scale hg (nRed_V hd)
  have e1 : g * (x.1 * b + y.1 * a) = x.1 * y.2 + y.1 * x.2 := by
    rw [ha, hb, Nat.mul_add]
    congr 1 <;> ac_rfl
  have e2 : g * (x.2 * b) = x.2 * y.2 := by
    conv => rhs; rw [hb]
    ac_rfl
  rw [e1, e2] at h3
  exact h3
def iAdd (x y : gQ) : gQ := if x.2 = 0 ∨ y.2 = 0 then (1, 0) else nAdd x y
def iInv (x : gQ) : gQ := (x.2, x.1)
theorem iInv_G {x : gQ} (h : nG x) : nG (iInv x) := Nat.Coprime.symm h
theorem iInv_iInv (x : gQ) : iInv (iInv x) = x := rfl
theorem iAdd_inf {x y : gQ} (h : x.2 = 0 ∨ y.2 = 0) : iAdd x y = (1, 0) := if_pos h
theorem iAdd_fin {x y : gQ} (h1 : 0 < x.2) (h2 : 0 < y.2) : iAdd x y = nAdd x y := if_neg (by omega)
theorem iAdd_G {x y : gQ} : nG (iAdd x y) := by
  by_cases h : x.2 = 0 ∨ y.2 = 0
  · rw [iAdd_inf h]; exact Nat.coprime_zero_right 1 |>.mpr rfl
  · rw [iAdd_fin (by omega) (by omega)]; exact (nAdd_V (by omega) (by omega)).2
theorem iAdd_V {x y : gQ} (h1 : 0 < x.2) (h2 : 0 < y.2) : nV (iAdd x y) (x.1 * y.2 + y.1 * x.2) (x.2 * y.2) := by
  rw [iAdd_fin h1 h2]; exact (nAdd_V h1 h2).1
theorem iAdd_pos {x y : gQ} (h1 : 0 < x.2) (h2 : 0 < y.2) : 0 < (iAdd x y).2 := by
  have h := (nV_z (iAdd_V h1 h2)).2
  have h3 := Nat.mul_pos h1 h2
  omega
theorem iAdd_z {x y : gQ} : (iAdd x y).2 = 0 ↔ x.2 = 0 ∨ y.2 = 0 := by
  constructor
  · intro h
    by_cases c : x.2 = 0 ∨ y.2 = 0
    · exact c
    · have := iAdd_pos (x := x) (y := y) (by omega) (by omega)
      omega
  · intro h; rw [iAdd_inf h]
theorem iAdd_comm (x y : gQ) : iAdd x y = iAdd y x := by
  by_cases h : x.2 = 0 ∨ y.2 = 0
  · rw [iAdd_inf h, iAdd_inf h.symm]
  · have h1 : 0 < x.2 := by omega
    have h2 : 0 < y.2 := by omega
    refine nV_uniq iAdd_G iAdd_G (iAdd_V h1 h2) ?_
    have := iAdd_V h2 h1
    rw [Nat.add_comm, Nat.mul_comm y.2 x.2] at this
    exact this
theorem nV_add {x y : gQ} {N D M E : Nat} (hx : nV x N D) (hy : nV y M E) (h1 : 0 < D) (h2 : 0 < E) : nV (iAdd x y) (N * E + M * D) (D * E) := by
  have hx2 : 0 < x.2 := by have := (nV_z hx).2; omega
  have hy2 : 0 < y.2 := by have := (nV_z hy).2; omega
  obtain ⟨k, hk, rfl, rfl⟩ := hx
  obtain ⟨j, hj, rfl, rfl⟩ := hy
  have h := nV_scale (Nat.mul_pos hk hj) (iAdd_V hx2 hy2)
  have e1 : k * j * (x.1 * y.2 + y.1 * x.2) = k * x.1 * (j * y.2) + j * y.1 * (k * x.2) := by
    rw [Nat.mul_add]
    congr 1 <;> ac_rfl
  have e2 : k * j * (x.2 * y.2) = k * x.2 * (j * y.2) := by ac_rfl
  rw [e1, e2] at h
  exact h
theorem iAdd_assoc (x y z : gQ) : iAdd (iAdd x y) z = iAdd x (iAdd y z) := by
  by_cases c : x.2 = 0 ∨ y.2 = 0 ∨ z.2 = 0
  · rw [iAdd_inf (x := iAdd x y) (y := z) (by rw [iAdd_z]; omega), iAdd_inf (x := x) (y := iAdd y z) (by rw [iAdd_z]; omega)]
  · have h1 : 0 < x.2 := by omega
    have h2 : 0 < y.2 := by omega
    have h3 : 0 < z.2 := by omega
    refine nV_uniq iAdd_G iAdd_G (nV_add (iAdd_V h1 h2) (nV_self z) (Nat.mul_pos h1 h2) h3) ?_
    have h := nV_add (nV_self x) (iAdd_V h2 h3) h1 (Nat.mul_pos h2 h3)
    have e1 : x.1 * (y.2 * z.2) + (y.1 * z.2 + z.1 * y.2) * x.2 = (x.1 * y.2 + y.1 * x.2) * z.2 + z.1 * (x.2 * y.2) := by
      rw [Nat.add_mul, Nat.add_mul, Nat.add_assoc]
      congr 1
      · ac_rfl
      · congr 1 <;> ac_rfl
    rw [e1, show x.2 * (y.2 * z.2) = x.2 * y.2 * z.2 from (Nat.mul_assoc _ _ _).symm] at h
    exact h
theorem iAdd_zero {x : gQ} (h : nG x) : iAdd (0, 1) x = x := by
  by_cases c : x.2 = 0
  · rw [iAdd_inf (Or.inr c)]
    have h1 : x.1 = 1 := by
      have : Nat.gcd x.1 x.2 = 1 := h
      rw [c, Nat.gcd_zero_right] at this
      exact this
    exact Prod.ext h1.symm c.symm
  · have h2 : 0 < x.2 := by omega
    have hv := iAdd_V (x := (0, 1)) (y := x) (by decide) h2
    refine nV_uniq iAdd_G h hv ?_
    have e : nV x x.1 x.2 := nV_self x
    show nV x (0 * x.2 + x.1 * 1) (1 * x.2)
    rw [Nat.zero_mul, Nat.zero_add, Nat.mul_one, Nat.one_mul]
    exact e
/-- a product -/
def nMul (x y : gQ) : gQ := ((x.1 / Nat.gcd x.1 y.2) * (y.1 / Nat.gcd y.1 x.2), (x.2 / Nat.gcd y.1 x.2) * (y.2 / Nat.gcd x.1 y.2))
theorem nMul_V {x y : gQ} (hx : nG x) (hy : nG y) (h1 : 0 < x.2) (h2 : 0 < y.2) : nV (nMul x y) (x.1 * y.1) (x.2 * y.2) ∧ nG (nMul x y) ∧ 0 < (nMul x y).2 := by
  have hd : 0 < Nat.gcd x.1 y.2 := Nat.gcd_pos_of_pos_right _ h2
  have he : 0 < Nat.gcd y.1 x.2 := Nat.gcd_pos_of_pos_right _ h1
  have c1 : Nat.Coprime (x.1 / Nat.gcd x.1 y.2) (y.2 / Nat.gcd x.1 y.2) := Nat.coprime_div_gcd_div_gcd hd
  have c2 : Nat.Coprime (y.1 / Nat.gcd y.1 x.2) (x.2 / Nat.gcd y.1 x.2) := Nat.coprime_div_gcd_div_gcd he
  have dv : ∀ {a g : Nat}, g ∣ a → a / g ∣ a := fun {a g} h => Nat.div_dvd_of_dvd h
  have c3 : Nat.Coprime (x.1 / Nat.gcd x.1 y.2) (x.2 / Nat.gcd y.1 x.2) := Nat.Coprime.coprime_dvd_left (dv (Nat.gcd_dvd_left _ _)) (Nat.Coprime.coprime_dvd_right (dv (Nat.gcd_dvd_right _ _)) hx)
  have c4 : Nat.Coprime (y.1 / Nat.gcd y.1 x.2) (y.2 / Nat.gcd x.1 y.2) := Nat.Coprime.coprime_dvd_left (dv (Nat.gcd_dvd_left _ _)) (Nat.Coprime.coprime_dvd_right (dv (Nat.gcd_dvd_right _ _)) hy)
  obtain ⟨a, ha⟩ := Nat.gcd_dvd_left x.1 y.2
  obtain ⟨b, hb⟩ := Nat.gcd_dvd_right x.1 y.2
  obtain ⟨c, hc⟩ := Nat.gcd_dvd_left y.1 x.2
  obtain ⟨d, hdd⟩ := Nat.gcd_dvd_right y.1 x.2
  refine ⟨⟨Nat.gcd x.1 y.2 * Nat.gcd y.1 x.2, Nat.mul_pos hd he, ?_, ?_⟩, Nat.Coprime.mul_left (Nat.Coprime.mul_right c3 c1) (Nat.Coprime.mul_right c2 c4), ?_⟩
  · show x.1 * y.1 = _ * ((x.1 / Nat.gcd x.1 y.2) * (y.1 / Nat.gcd y.1 x.2))
    rw [show Nat.gcd x.1 y.2 * Nat.gcd y.1 x.2 * ((x.1 / Nat.gcd x.1 y.2) * (y.1 / Nat.gcd y.1 x.2)) = (Nat.gcd x.1 y.2 * (x.1 / Nat.gcd x.1 y.2)) * (Nat.gcd y.1 x.2 * (y.1 / Nat.gcd y.1 x.2)) by ac_rfl, Nat.mul_div_cancel' (Nat.gcd_dvd_left _ _), Nat.mul_div_cancel' (Nat.gcd_dvd_left _ _)]
  · show x.2 * y.2 = _ * ((x.2 / Nat.gcd y.1 x.2) * (y.2 / Nat.gcd x.1 y.2))
    rw [show Nat.gcd x.1 y.2 * Nat.gcd y.1 x.2 * ((x.2 / Nat.gcd y.1 x.2) * (y.2 / Nat.gcd x.1 y.2)) = (Nat.gcd y.1 x.2 * (x.2 / Nat.gcd y.1 x.2)) * (Nat.gcd x.1 y.2 * (y.2 / Nat.gcd x.1 y.2)) by ac_rfl, Nat.mul_div_cancel' (Nat.gcd_dvd_right _ _), Nat.mul_div_cancel' (Nat.gcd_dvd_right _ _)]
  · exact Nat.mul_pos (Nat.div_pos (Nat.le_of_dvd h1 (Nat.gcd_dvd_right _ _)) he) (Nat.div_pos (Nat.le_of_dvd h2 (Nat.gcd_dvd_right _ _)) hd)
theorem nRed_self {x : gQ} (h : nG x) : nRed x.1 x.2 = x := by
  unfold nRed
  have e : Nat.gcd x.1 x.2 = 1 := h
  rw [e, Nat.div_one, Nat.div_one]
theorem nMul_comm (x y : gQ) : nMul x y = nMul y x := by
  unfold nMul
  rw [Nat.mul_comm (x.1 / _), Nat.mul_comm (x.2 / _)]
/-- by multiplying crosswise -/
theorem nV_mk {x : gQ} {N D : Nat} (hx : nG x) (h0 : ¬ (N = 0 ∧ D = 0)) (h : N * x.2 = D * x.1) : nV x N D := by
  obtain ⟨k, hk, e1, e2⟩ := nRed_V h0
  have e : x = nRed N D := by
    refine nG_eq hx (nRed_G h0) ?_
    refine Nat.eq_of_mul_eq_mul_left hk ?_
    have h2 : (k * (nRed N D).1) * x.2 = (k * (nRed N D).2) * x.1 := by rw [← e1, ← e2]; exact h
    calc k * (x.1 * (nRed N D).2) = (k * (nRed N D).2) * x.1 := by ac_rfl
      _ = (k * (nRed N D).1) * x.2 := h2.symm
      _ = k * ((nRed N D).1 * x.2) := by ac_rfl
  rw [e]
  exact ⟨k, hk, e1, e2⟩
theorem nV_ne {x : gQ} {N D : Nat} (hx : nG x) (h : nV x N D) : ¬ (N = 0 ∧ D = 0) := by
  intro q
  have h1 := nV_z h
  have a := h1.1.mpr q.1
  have b := h1.2.mpr q.2
  have c : Nat.gcd x.1 x.2 = 1 := hx
  rw [a, b] at c
  exact absurd c (by decide)
/-- what is in lowest terms and infinite, or 0 -/
theorem nG_inf {x : gQ} (hx : nG x) (h : x.2 = 0) : x = (1, 0) := by
  have c : Nat.gcd x.1 x.2 = 1 := hx
  rw [h, Nat.gcd_zero_right] at c
  exact Prod.ext c h
theorem nG_zero {x : gQ} (hx : nG x) (h : x.1 = 0) : x = (0, 1) := by
  have c : Nat.gcd x.1 x.2 = 1 := hx
  rw [h, Nat.gcd_zero_left] at c
  exact Prod.ext h c
theorem nG_one (k : Nat) : nG (1, k) := Nat.coprime_one_left k
theorem nG_one' (k : Nat) : nG (k, 1) := Nat.coprime_one_right k
theorem nMul_zero {x y : gQ} (hx : nG x) (hy : nG y) (h1 : 0 < x.2) (h2 : 0 < y.2) (h : x.1 = 0 ∨ y.1 = 0) : nMul x y = (0, 1) := by
  obtain ⟨a, b, c⟩ := nMul_V hx hy h1 h2
  refine nG_zero b ?_
  have := (nV_z a).1
  rw [this]
  rcases h with h | h
  · rw [h, Nat.zero_mul]
  · rw [h, Nat.mul_zero]
theorem nMul_one {x : gQ} (hx : nG x) (h1 : 0 < x.2) : nMul x (1, 1) = x := by
  obtain ⟨a, b, c⟩ := nMul_V hx (nG_one 1) h1 (by decide)
  refine nV_uniq b hx a ?_
  try dsimp only
  rw [Nat.mul_one, Nat.mul_one]
  exact nV_self x
