/-! voltages -/
def vStep (S : gTb) (R : Nat → gQ) (V : gQ) (u p : Nat) : gQ := if S 4 u = 2 then V else if (R u).2 = 0 then (if (R p).2 = 0 then nMul V (1, gCnt (fun q => gSon S u q && decide ((R q).2 = 0)) u) else (0, 1)) else if (R u).1 = 0 then (0, 1) else nMul V (nMul (iInv (R u)) (R p))
def vF (S : gTb) (R : Nat → gQ) : Nat → Nat → gQ
  | 0, _ => (0, 1)
  | k + 1, p => if S 5 p = -1 then ((S 0 1).toNat, 1) else vStep S R (vF S R k (S 5 p).toNat) (S 5 p).toNat p
theorem vF_s (S : gTb) (R : Nat → gQ) (k p : Nat) : vF S R (k + 1) p = if S 5 p = -1 then ((S 0 1).toNat, 1) else vStep S R (vF S R k (S 5 p).toNat) (S 5 p).toNat p := rfl
def vV (S : gTb) (R : Nat → gQ) (p : Nat) : gQ := vF S R 11 p
theorem vF_fu {t n c : Nat} {S : gTb} {R : Nat → gQ} (W : gWf t n c S) : ∀ (k p : Nat), p < n → n ≤ k + p → vF S R (k + 1) p = vF S R k p := by
  intro k
  induction k with
  | zero => intro p h1 h2; omega
  | succ k ih =>
    intro p h1 h2
    rw [vF_s S R (k + 1) p, vF_s S R k p]
    rcases W.ar h1 with ⟨_, b, d⟩ | ⟨_, b⟩
    · rw [if_neg (by omega), if_neg (by omega), ih _ (by omega) (by omega)]
    · rw [if_pos b, if_pos b]
theorem vV_rt {S : gTb} {R : Nat → gQ} {p : Nat} (h : S 5 p = -1) : vV S R p = ((S 0 1).toNat, 1) := if_pos h
theorem vV_e {t n c : Nat} {S : gTb} {R : Nat → gQ} (W : gWf t n c S) {u p : Nat} (hp : p < n) (h : S 5 p = u) : vV S R p = vStep S R (vV S R u) u p := by
  have hn := W.n
  have b := W.ar hp
  unfold vV
  rw [← vF_fu W 11 p hp (by omega), vF_s, if_neg (by omega), h, Int.toNat_natCast]
/-- what is infinite is 1 / 0 also when it is not cancelled -/
theorem rU_inf {t n c : Nat} {S : gTb} (W : gWf t n c S) {x : Int} : ∀ (k p : Nat), p < k → p < n → (rU S x n p).2 = 0 → (rU S x n p).1 = 1 := by
  intro k
  induction k with
  | zero => intro p h; omega
  | succ k ih =>
    intro p hk hp h0
    have hne := nV_ne (rR_G hp) (rR_V W n p (by omega) hp (x := x))
    rw [rU_e hp] at h0 hne ⊢
    unfold uPart at h0 hne ⊢
    by_cases cx : (p : Int) = x
    · rw [if_pos cx] at h0 hne ⊢
      generalize uRaw S (rU S x n) p = u at h0 hne ⊢
      have hm : 0 < (S 0 2).toNat := by have := W.1; omega
      exfalso
      have h1 : u.2 * (S 0 2).toNat + u.1 = 0 := h0
      have h2 : u.1 = 0 := by omega
      exact hne ⟨by show u.1 * _ = 0; rw [h2, Nat.zero_mul], h0⟩
    · rw [if_neg cx] at h0 hne ⊢
      unfold uRaw at h0 hne ⊢
      by_cases c0 : S 4 p = 0
      · rw [if_pos c0] at h0 ⊢
        unfold bArm at h0 ⊢
        split at h0
        · exact absurd h0 Nat.one_ne_zero
        · split at h0
          · rename_i h1 h2
            rw [if_neg h1, if_pos h2]
          · exact absurd h0 (by decide)
      · rw [if_neg c0] at h0 hne ⊢
        by_cases c1 : S 4 p = 1
        · rw [if_pos c1] at h0 hne ⊢
          by_cases c2 : (gAcc (rU S x n) (gSon S p) p).2 = 0
          · rw [if_pos c2]
          · rw [if_neg c2] at h0
            exact absurd h0 c2
        · rw [if_neg c1] at h0 hne ⊢
          by_cases c2 : (gAcc (fun q => iInv (rU S x n q)) (gSon S p) p).2 = 0
          · rw [if_pos c2] at h0
            exact absurd h0 (by decide)
          · rw [if_neg c2] at h0 hne ⊢
            have key : ∀ i, i ≤ p → (gAcc (fun q => iInv (rU S x n q)) (gSon S p) i).2 ≠ 0 → (gAcc (fun q => iInv (rU S x n q)) (gSon S p) i).1 = 0 → (gAcc (fun q => iInv (rU S x n q)) (gSon S p) i).2 = 1 := by
              intro i
              induction i with
              | zero => intro _ _ _; rfl
              | succ i ih2 =>
                intro hi
                by_cases cs : gSon S p i = true
                · rw [gAcc_T cs]
                  intro q1 q2
                  have q3 : (gAcc (fun q => iInv (rU S x n q)) (gSon S p) i).2 * (rU S x n i).1 ≠ 0 := q1
                  have q4 : (gAcc (fun q => iInv (rU S x n q)) (gSon S p) i).1 * (rU S x n i).1 + (rU S x n i).2 * (gAcc (fun q => iInv (rU S x n q)) (gSon S p) i).2 = 0 := q2
                  have n1 : (gAcc (fun q => iInv (rU S x n q)) (gSon S p) i).2 ≠ 0 := fun e => q3 (by rw [e, Nat.zero_mul])
                  have n2 : (rU S x n i).1 ≠ 0 := fun e => q3 (by rw [e, Nat.mul_zero])
                  have z1 : (gAcc (fun q => iInv (rU S x n q)) (gSon S p) i).1 = 0 := by
                    rcases Nat.mul_eq_zero.mp (show (gAcc (fun q => iInv (rU S x n q)) (gSon S p) i).1 * (rU S x n i).1 = 0 by omega) with e | e
                    · exact e
                    · exact absurd e n2
                  have z2 : (rU S x n i).2 = 0 := by
                    rcases Nat.mul_eq_zero.mp (show (rU S x n i).2 * (gAcc (fun q => iInv (rU S x n q)) (gSon S p) i).2 = 0 by omega) with e | e
                    · exact e
                    · exact absurd e n1
                  show (gAcc (fun q => iInv (rU S x n q)) (gSon S p) i).2 * (rU S x n i).1 = 1
                  rw [ih2 (by omega) n1 z1, ih i (by omega) (by omega) z2]
                · rw [gAcc_F cs]
                  exact ih2 (by omega)
            exact key p (Nat.le_refl _) c2 h0
/-- products of weights of at least 2 -/
theorem gPro_two {f : Nat → Nat} {P Q : Nat → Bool} {n : Nat} (h : ∀ q, q < n → Q q = true → P q = true) (hf : ∀ q, q < n → P q = true → 2 ≤ f q) : 2 ^ gCnt Q n ≤ gPro f P n := by
  induction n with
  | zero => exact Nat.le_refl _
  | succ n ih =>
    have ih := ih (fun q hq => h q (by omega)) (fun q hq => hf q (by omega))
    by_cases c : P n = true
    · rw [gPro_T c]
      have h2 := hf n (by omega) c
      by_cases d : Q n = true
      · rw [gCnt_T d, Nat.pow_succ]
        exact Nat.mul_le_mul ih h2
      · rw [gCnt_F d]
        exact Nat.le_trans ih (Nat.le_mul_of_pos_right _ (by omega))
    · have d : ¬ Q n = true := fun e => c (h n (by omega) e)
      rw [gPro_F c, gCnt_F d]
      exact ih
theorem v2_ge {t n c : Nat} {S : gTb} (W : gWf t n c S) : ∀ (k p : Nat), p < k → p < n → 2 ≤ rW S 2 1 (-1) n p := by
  intro k
  induction k with
  | zero => intro p h; omega
  | succ k ih =>
    intro p hk hp
    by_cases c0 : S 4 p = 0
    · rw [rW_e hp]
      unfold wPart
      rw [if_pos c0, if_neg (by omega)]
      omega
    · obtain ⟨_, q, hq, h5⟩ := W.com hp c0
      rw [rW_up hp hq h5 c0 (by omega)]
      have h1 := gPro_one (f := rW S 2 1 (-1) n) (P := gBut (gSon S p) q) (n := p) (fun r hr _ => rW_pos (by omega) (by omega) n r (by omega) (by omega))
      have h2 := ih q (by omega) (by omega)
      exact Nat.le_trans h2 (Nat.le_mul_of_pos_left _ h1)
theorem nV_mul {x y z : gQ} {N D M E : Nat} (hx : nV x N D) (hy : nV y M E) (hz : nV z (x.1 * y.1) (x.2 * y.2)) : nV z (N * M) (D * E) := by
  obtain ⟨k, hk, rfl, rfl⟩ := hx
  obtain ⟨j, hj, rfl, rfl⟩ := hy
  have h := nV_scale (Nat.mul_pos hk hj) hz
  rw [show k * j * (x.1 * y.1) = k * x.1 * (j * y.1) by ac_rfl, show k * j * (x.2 * y.2) = k * x.2 * (j * y.2) by ac_rfl] at h
  exact h
theorem nV_can {z : gQ} {N D c : Nat} (hz : nG z) (hc : 0 < c) (h : nV z (c * N) (c * D)) : nV z N D := by
  have h1 := nV_cross h
  have h2 := nV_ne hz h
  refine nV_mk hz (fun e => h2 ⟨by rw [e.1, Nat.mul_zero], by rw [e.2, Nat.mul_zero]⟩) ?_
  refine Nat.eq_of_mul_eq_mul_left hc ?_
  rw [← Nat.mul_assoc, ← Nat.mul_assoc]
  exact h1
/-- the share of a part of a series part -/
theorem share_V {ru rp : gQ} {Pu Qu Pp Qp M : Nat} (gu : nG ru) (gp : nG rp) (hu : nV ru Pu Qu) (hp : nV rp Pp Qp) (e : Qu = M * Qp) (h1 : 0 < Pu) (h2 : 0 < Qp) : nV (nMul (iInv ru) rp) (Pp * M) Pu ∧ nG (nMul (iInv ru) rp) ∧ 0 < (nMul (iInv ru) rp).2 := by
  have u1 : 0 < ru.1 := by have := (nV_z hu).1; omega
  have p2 : 0 < rp.2 := by have := (nV_z hp).2; omega
  obtain ⟨a, b, d⟩ := nMul_V (iInv_G gu) gp u1 p2
  refine ⟨?_, b, d⟩
  have h3 := nV_mul (nV_inv hu) hp a
  refine nV_can b h2 ?_
  rw [show Qp * (Pp * M) = Qu * Pp by rw [e]; ac_rfl, Nat.mul_comm Qp Pu]
  exact h3
/-- what is known of a voltage: s the source, P the part's resistance not cancelled, v its weight -/
def vZ (s P v : Nat) (V : gQ) : Prop := nG V ∧ 0 < V.2 ∧ V.1 ≤ s * V.2 ∧ (V = (s, 1) ∨ V = (0, 1) ∨ ∃ N D, 0 < D ∧ nV V (N * P) D ∧ D * v ≤ 64000000000000000)
theorem vZ_zero (s P v : Nat) : vZ s P v (0, 1) := ⟨nG_one' 0, Nat.zero_lt_one, Nat.zero_le _, Or.inr (Or.inl rfl)⟩
theorem mul_le1 {s : Nat} {x y z : gQ} (hz : nV z (x.1 * y.1) (x.2 * y.2)) (hx : x.1 ≤ s * x.2) (hy : y.1 ≤ y.2) : z.1 ≤ s * z.2 := by
  obtain ⟨k, hk, e1, e2⟩ := hz
  refine Nat.le_of_mul_le_mul_left ?_ hk
  rw [← e1, show k * (s * z.2) = s * (k * z.2) by ac_rfl, ← e2, ← Nat.mul_assoc]
  exact Nat.mul_le_mul hx hy
theorem nV_le1 {x : gQ} {N D : Nat} (h : nV x N D) (hl : N ≤ D) : x.1 ≤ x.2 := by
  obtain ⟨k, hk, rfl, rfl⟩ := h
  exact Nat.le_of_mul_le_mul_left hl hk
/-- one step down -/
theorem vZ_step {t n c : Nat} {S : gTb} (W : gWf t n c S) {x : Int} {u p : Nat} (hp : p < n) (h : S 5 p = u) (hx : (u : Int) ≠ x) {s : Nat} {V : gQ} (Z : vZ s (rU S x n u).1 (rW S 2 1 (-1) n u) V) : vZ s (rU S x n p).1 (rW S 2 1 (-1) n p) (vStep S (rR S x n) V u p) := by
  have ar := W.ar hp
  have hu : u < n := by omega
  have hpu : p < u := by omega
  have h4 := W.so hu hp h
  have kd := W.kd hu
  have gu := rR_G hu (S := S) (x := x)
  have gp := rR_G hp (S := S) (x := x)
  have Vu := rR_V W n u (by omega) hu (x := x)
  have Vp := rR_V W n p (by omega) hp (x := x)
  have hson : gSon S u p = true := decide_eq_true h
  have v2p := v2_ge W n p (by omega) hp
  have wup := rW_up (b := 2) (y := 1) (x := -1) hu hpu h h4 (by omega)
  have v2u := rW_le W (b := 2) (y := 1) (x := -1) (by omega) (by omega) hp
  have pone := gPro_one (f := rW S 2 1 (-1) n) (P := gBut (gSon S u) p) (n := u) (fun r hr _ => rW_pos (by omega) (by omega) n r (by omega) (by omega))
  have vle : rW S 2 1 (-1) n p ≤ rW S 2 1 (-1) n u := by rw [wup]; exact Nat.le_mul_of_pos_left _ pone
  have Uu : rU S x n u = uRaw S (rU S x n) u := by rw [rU_e hu]; unfold uPart; rw [if_neg hx]
  obtain ⟨z1, z2, z3, z4⟩ := Z
  unfold vStep
  by_cases c2 : S 4 u = 2
  · rw [if_pos c2]
    refine ⟨z1, z2, z3, ?_⟩
    rcases z4 with z4 | z4 | ⟨N, D, d0, d1, d2⟩
    · exact Or.inl z4
    · exact Or.inr (Or.inl z4)
    · rw [Uu] at d1
      unfold uRaw at d1
      rw [if_neg h4, if_neg (by omega)] at d1
      by_cases c3 : (gAcc (fun q => iInv (rU S x n q)) (gSon S u) u).2 = 0
      · rw [if_pos c3] at d1
        right; left
        exact nG_zero z1 ((nV_z d1).1.mpr (Nat.mul_zero N))
      · rw [if_neg c3] at d1
        right; right
        refine ⟨N * (gAcc (fun q => iInv (rU S x n q)) (gBut (gSon S u) p) u).2, D, d0, ?_, Nat.le_trans (Nat.mul_le_mul_left D vle) d2⟩
        have e : (iInv (gAcc (fun q => iInv (rU S x n q)) (gSon S u) u)).1 = (gAcc (fun q => iInv (rU S x n q)) (gBut (gSon S u) p) u).2 * (rU S x n p).1 := by
          rw [gAcc_but hson u hpu]; rfl
        rw [e, ← Nat.mul_assoc] at d1
        exact d1
  · rw [if_neg c2]
    have c1 : S 4 u = 1 := by omega
    by_cases i2 : (rR S x n u).2 = 0
    · rw [if_pos i2]
      by_cases i3 : (rR S x n p).2 = 0
      · rw [if_pos i3]
        have hk : gCnt (fun q => gSon S u q && decide ((rR S x n q).2 = 0)) u = gCnt (fun q => gBut (gSon S u) p q && decide ((rR S x n q).2 = 0)) u + 1 := by
          rw [gCnt_add (A := fun q => gSon S u q && decide ((rR S x n q).2 = 0)) (B := fun q => gBut (gSon S u) p q && decide ((rR S x n q).2 = 0)) (C := fun q => decide (q = p)) (n := u) (by
            intro q hq
            by_cases cq : q = p
            · subst cq
              simp [gBut, hson, i3]
            · simp [gBut, cq]) (by
            intro q hq hc
            simp [gBut] at hc
            exact hc.1.1.2 hc.2)]
          congr 1
          exact gCnt_one hpu (decide_eq_true rfl) (fun q hq hne hc => hne (of_decide_eq_true hc))
        have hk2 : (gCnt (fun q => gBut (gSon S u) p q && decide ((rR S x n q).2 = 0)) u + 1) * rW S 2 1 (-1) n p ≤ rW S 2 1 (-1) n u := by
          rw [wup]
          refine Nat.mul_le_mul_right _ ?_
          refine Nat.le_trans (Nat.succ_le_of_lt Nat.lt_two_pow_self) (gPro_two (fun q hq hc => ?_) (fun q hq hc => v2_ge W n q (by omega) (by omega)))
          simp only [Bool.and_eq_true] at hc
          exact hc.1
        rw [hk]
        generalize gCnt (fun q => gBut (gSon S u) p q && decide ((rR S x n q).2 = 0)) u = j at hk2
        obtain ⟨m1, m2, m3⟩ := nMul_V z1 (nG_one (j + 1)) z2 (Nat.succ_pos j)
        have P1 : (rU S x n p).1 = 1 := rU_inf W n p (by omega) hp ((nV_z Vp).2.mp i3)
        have P1u : (rU S x n u).1 = 1 := rU_inf W n u (by omega) hu ((nV_z Vu).2.mp i2)
        refine ⟨m2, m3, mul_le1 m1 z3 (Nat.succ_pos j), Or.inr ?_⟩
        rcases z4 with z4 | z4 | ⟨N, D, d0, d1, d2⟩
        · right
          refine ⟨s, j + 1, Nat.succ_pos j, ?_, ?_⟩
          · rw [P1, Nat.mul_one]
            have := nV_mul (z4 ▸ nV_self V : nV V s 1) (nV_self (1, j + 1)) m1
            dsimp only at this
            rw [Nat.mul_one, Nat.one_mul] at this
            exact this
          · have := rW_le W (b := 2) (y := 1) (x := -1) (by omega) (by omega) hu
            omega
        · left
          exact nMul_zero z1 (nG_one (j + 1)) z2 (Nat.succ_pos j) (Or.inl (by rw [z4]))
        · right
          refine ⟨N, D * (j + 1), Nat.mul_pos d0 (Nat.succ_pos j), ?_, ?_⟩
          · rw [P1u, Nat.mul_one] at d1
            have := nV_mul d1 (nV_self (1, j + 1)) m1
            dsimp only at this
            rw [Nat.mul_one] at this
            rw [P1, Nat.mul_one]
            exact this
          · rw [Nat.mul_assoc]
            exact Nat.le_trans (Nat.mul_le_mul_left D hk2) d2
      · rw [if_neg i3]
        exact vZ_zero _ _ _
    · rw [if_neg i2]
      by_cases i3 : (rR S x n u).1 = 0
      · rw [if_pos i3]
        exact vZ_zero _ _ _
      · rw [if_neg i3]
        have Pu0 : 0 < (rU S x n u).1 := by have := (nV_z Vu).1; omega
        have Qu0 : 0 < (rU S x n u).2 := by have := (nV_z Vu).2; omega
        have eU : rU S x n u = gCb (gAcc (rU S x n) (gBut (gSon S u) p) u) (rU S x n p) := by
          have e1 : rU S x n u = if (gAcc (rU S x n) (gSon S u) u).2 = 0 then (1, 0) else gAcc (rU S x n) (gSon S u) u := by
            rw [Uu]; unfold uRaw; rw [if_neg h4, if_pos c1]
          by_cases c3 : (gAcc (rU S x n) (gSon S u) u).2 = 0
          · rw [if_pos c3] at e1
            rw [e1] at Qu0
            exact absurd Qu0 (by decide)
          · rw [if_neg c3, gAcc_but hson u hpu] at e1
            exact e1
        generalize gAcc (rU S x n) (gBut (gSon S u) p) u = o at eU
        have eP : (rU S x n u).1 = o.1 * (rU S x n p).2 + (rU S x n p).1 * o.2 := by rw [eU]; rfl
        have eQ : (rU S x n u).2 = o.2 * (rU S x n p).2 := by rw [eU]; rfl
        have Qp0 : 0 < (rU S x n p).2 := by
          rcases Nat.eq_zero_or_pos (rU S x n p).2 with e | e
          · rw [e, Nat.mul_zero] at eQ; omega
          · exact e
        obtain ⟨s1, s2, s3⟩ := share_V gu gp Vu Vp eQ Pu0 Qp0
        generalize nMul (iInv (rR S x n u)) (rR S x n p) = sh at s1 s2 s3
        obtain ⟨m1, m2, m3⟩ := nMul_V z1 s2 z2 s3
        refine ⟨m2, m3, mul_le1 m1 z3 (nV_le1 s1 (by rw [eP]; omega)), Or.inr ?_⟩
        rcases z4 with z4 | z4 | ⟨N, D, d0, d1, d2⟩
        · right
          refine ⟨s * o.2, (rU S x n u).1, Pu0, ?_, ?_⟩
          · have := nV_mul (z4 ▸ nV_self V : nV V s 1) s1 m1
            rw [Nat.one_mul] at this
            rw [show s * o.2 * (rU S x n p).1 = s * ((rU S x n p).1 * o.2) by ac_rfl]
            exact this
          · have b1 := rU_9 W (x := x) hu
            have b2 : (rU S x n u).1 * rW S 2 1 (-1) n p ≤ 1000000000000000 * 64 := Nat.mul_le_mul (by omega) v2u
            omega
        · left
          exact nMul_zero z1 s2 z2 s3 (Or.inl (by rw [z4]))
        · right
          refine ⟨N * o.2, D, d0, ?_, Nat.le_trans (Nat.mul_le_mul_left D vle) d2⟩
          refine nV_can m2 Pu0 ?_
          have := nV_mul d1 s1 m1
          rw [show (rU S x n u).1 * (N * o.2 * (rU S x n p).1) = N * (rU S x n u).1 * ((rU S x n p).1 * o.2) by ac_rfl, Nat.mul_comm (rU S x n u).1 D]
          exact this
/-- all voltages down to the part with the meter -/
theorem vZ_all {t n c : Nat} {S : gTb} (W : gWf t n c S) {x : Int} : ∀ (k p : Nat), p < n → n ≤ k + p → x ≤ p → vZ (S 0 1).toNat (rU S x n p).1 (rW S 2 1 (-1) n p) (vV S (rR S x n) p) := by
  intro k
  induction k with
  | zero => intro p h1 h2; omega
  | succ k ih =>
    intro p hp h2 hx
    rcases W.ar hp with ⟨_, b, d⟩ | ⟨_, b⟩
    · obtain ⟨u, hu⟩ : ∃ u : Nat, S 5 p = u := ⟨(S 5 p).toNat, by omega⟩
      rw [vV_e W hp hu]
      exact vZ_step W hp hu (by omega) (ih u (by omega) (by omega) (by omega))
    · rw [vV_rt b]
      exact ⟨nG_one' _, Nat.zero_lt_one, by show _ ≤ _ * 1; omega, Or.inl rfl⟩
theorem vV_9 {t n c : Nat} {S : gTb} (W : gWf t n c S) {x : Int} {p : Nat} (hp : p < n) (hx : x ≤ p) : nG (vV S (rR S x n) p) ∧ 0 < (vV S (rR S x n) p).2 ∧ (vV S (rR S x n) p).1 < 7000000000000000000 ∧ (vV S (rR S x n) p).2 < 7000000000000000000 := by
  obtain ⟨z1, z2, z3, z4⟩ := vZ_all W (x := x) n p hp (by omega) hx
  have hs : (S 0 1).toNat ≤ 99 := by have := W.1; omega
  have v2p := v2_ge W n p (by omega) hp
  have h2 : (vV S (rR S x n) p).2 ≤ 64000000000000000 := by
    rcases z4 with e | e | ⟨N, D, d0, d1, d2⟩
    · rw [e]; show 1 ≤ _; omega
    · rw [e]; show 1 ≤ _; omega
    · have h1 := (nV_le d1).2
      have h3 : D * 1 ≤ D * rW S 2 1 (-1) n p := Nat.mul_le_mul_left D (by omega)
      omega
  have h1 : (S 0 1).toNat * (vV S (rR S x n) p).2 ≤ 99 * 64000000000000000 := Nat.mul_le_mul hs h2
  exact ⟨z1, z2, by omega, by omega⟩
