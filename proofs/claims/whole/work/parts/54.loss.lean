/-! the way from a part up, once more -/
theorem gOn_lt {t n c : Nat} {S : gTb} (W : gWf t n c S) {p q : Nat} (hp : p < n) (h : gOn S p q = true) : p ≤ q ∧ q < n := gOn_le W n p hp (by omega) h
theorem gOn_up {t n c : Nat} {S : gTb} (W : gWf t n c S) {r q : Nat} (hr : S 5 r = q) : ∀ (k p : Nat), p < n → n ≤ k + p → gOn S p r = true → gOn S p q = true := by
  intro k
  induction k with
  | zero => intro p h1 h2; omega
  | succ k ih =>
    intro p hp h2 h
    by_cases e : p = r
    · subst e
      have b := W.ar hp
      rw [gOn_nx W hp hr, gOn_self W (p := q) (by omega), Bool.or_true]
    · rcases W.ar hp with ⟨_, b, d⟩ | ⟨_, b⟩
      · obtain ⟨u, hu⟩ : ∃ u : Nat, S 5 p = u := ⟨(S 5 p).toNat, by omega⟩
        rw [gOn_nx W hp hu, decide_eq_false e, Bool.false_or] at h
        rw [gOn_nx W hp hu, ih u (by omega) (by omega) h, Bool.or_true]
      · rw [gOn_rt W hp b, decide_eq_false e] at h
        exact absurd h Bool.false_ne_true
theorem gOn_pr {t n c : Nat} {S : gTb} (W : gWf t n c S) {w : Nat} : ∀ (k p : Nat), p < n → n ≤ k + p → gOn S p w = true → p ≠ w → ∃ r : Nat, gOn S p r = true ∧ S 5 r = w ∧ r < w ∧ r < n := by
  intro k
  induction k with
  | zero => intro p h1 h2; omega
  | succ k ih =>
    intro p hp h2 h hne
    rcases W.ar hp with ⟨_, b, d⟩ | ⟨_, b⟩
    · obtain ⟨u, hu⟩ : ∃ u : Nat, S 5 p = u := ⟨(S 5 p).toNat, by omega⟩
      rw [gOn_nx W hp hu, decide_eq_false hne, Bool.false_or] at h
      by_cases e : u = w
      · exact ⟨p, gOn_self W hp, by rw [hu, e], by omega, hp⟩
      · obtain ⟨r, h3, h4, h5, h6⟩ := ih u (by omega) (by omega) h e
        exact ⟨r, by rw [gOn_nx W hp hu, h3, Bool.or_true], h4, h5, h6⟩
    · rw [gOn_rt W hp b, decide_eq_false hne] at h
      exact absurd h Bool.false_ne_true
theorem gOn_un {t n c : Nat} {S : gTb} (W : gWf t n c S) {w q u : Nat} (hw : S 5 w = u) (hq : S 5 q = u) : ∀ (k p : Nat), p < n → n ≤ k + p → gOn S p w = true → gOn S p q = true → w = q := by
  intro k
  induction k with
  | zero => intro p h1 h2; omega
  | succ k ih =>
    intro p hp h2 h3 h4
    have lw := gOn_lt W hp h3
    have lq := gOn_lt W hp h4
    have bw := W.ar lw.2
    have bq := W.ar lq.2
    by_cases e1 : p = w
    · by_cases e2 : p = q
      · omega
      · subst e1
        rw [gOn_nx W hp hw, decide_eq_false e2, Bool.false_or] at h4
        have := gOn_lt W (p := u) (by omega) h4
        omega
    · by_cases e2 : p = q
      · subst e2
        rw [gOn_nx W hp hq, decide_eq_false e1, Bool.false_or] at h3
        have := gOn_lt W (p := u) (by omega) h3
        omega
      · rcases W.ar hp with ⟨_, b, d⟩ | ⟨_, b⟩
        · obtain ⟨v, hv⟩ : ∃ v : Nat, S 5 p = v := ⟨(S 5 p).toNat, by omega⟩
          rw [gOn_nx W hp hv, decide_eq_false e1, Bool.false_or] at h3
          rw [gOn_nx W hp hv, decide_eq_false e2, Bool.false_or] at h4
          exact ih v (by omega) (by omega) h3 h4
        · rw [gOn_rt W hp b, decide_eq_false e1] at h3
          exact absurd h3 Bool.false_ne_true
theorem rR_off {t n c : Nat} {S : gTb} (W : gWf t n c S) {x : Nat} (hx : x < n) : ∀ (k q : Nat), q < k → q < n → gOn S x q = false → rR S x n q = rR S (-1) n q := by
  intro k
  induction k with
  | zero => intro q h; omega
  | succ k ih =>
    intro q hk hq h
    rw [rR_e hq, rR_e hq]
    unfold bPart
    have hne : ¬ (q : Int) = x := fun e => by
      have e2 : x = q := by omega
      rw [← e2, gOn_self W hx] at h
      exact Bool.false_ne_true h.symm
    rw [if_neg hne, if_neg (by omega)]
    refine bRaw_congr fun r hr hs => ih r (by omega) (by omega) ?_
    rcases hg : gOn S x r with _ | _
    · rfl
    · rw [gOn_up W (of_decide_eq_true hs) n x hx (by omega) hg] at h
      exact absurd h.symm Bool.false_ne_true
/-- a sum of which the second may be infinite -/
theorem nV_addI {x y : gQ} {N D M E : Nat} (hx : nV x N D) (hy : nV y M E) (gy : nG y) (h1 : 0 < D) : nV (iAdd x y) (N * E + M * D) (D * E) := by
  by_cases h2 : 0 < E
  · exact nV_add hx hy h1 h2
  · have e : E = 0 := by omega
    subst e
    have h3 : y.2 = 0 := (nV_z hy).2.mpr rfl
    have h4 := nV_ne gy hy
    rw [iAdd_inf (Or.inr h3), Nat.mul_zero, Nat.mul_zero, Nat.zero_add]
    have : 0 < M * D := Nat.mul_pos (by omega) h1
    exact ⟨M * D, this, by simp, by simp⟩
def lE (a b a' b' : gQ) (α β : Nat) : Prop := b'.1 * a.1 * β * (b.2 * a'.2) = b.1 * a'.1 * α * (b'.2 * a.2)
/-- the last step of the equation: a, a' over the part around, c, c' over the part on the way -/
theorem lE_up {a a' b b' c c' : gQ} {m p pu p' pu' M : Nat} (h1 : c.1 * a.2 * pu = a.1 * c.2 * (p * M)) (h2 : c'.1 * a'.2 * pu' = a'.1 * c'.2 * (p' * M)) (E : lE c b c' b' (m * p) p') (hc' : 0 < c'.1) (hc2 : 0 < c.2) (hpM : 0 < p * M) : lE a b a' b' (m * pu) pu' := by
  unfold lE at *
  refine Nat.eq_of_mul_eq_mul_left (Nat.mul_pos (Nat.mul_pos hc2 hpM) hc') ?_
  calc c.2 * (p * M) * c'.1 * (b'.1 * a.1 * pu' * (b.2 * a'.2))
      = (a.1 * c.2 * (p * M)) * (c'.1 * a'.2 * pu') * (b'.1 * b.2) := by ac_rfl
    _ = (c.1 * a.2 * pu) * (a'.1 * c'.2 * (p' * M)) * (b'.1 * b.2) := by rw [h1, h2]
    _ = (b'.1 * c.1 * p' * (b.2 * c'.2)) * (a.2 * pu * a'.1 * M) := by ac_rfl
    _ = (b.1 * c'.1 * (m * p) * (b'.2 * c.2)) * (a.2 * pu * a'.1 * M) := by rw [E]
    _ = c.2 * (p * M) * c'.1 * (b.1 * a'.1 * (m * pu) * (b'.2 * a.2)) := by ac_rfl
/-- what is known at a part on the way up from the part x with the meter -/
def lT (S : gTb) (n x w : Nat) : Prop := (vV S (rR S (-1) n) x).1 = 0 ∨ (vV S (rR S x n) x).1 = 0 ∨ ∃ α β p q p' q' : Nat, lE (vV S (rR S (-1) n) w) (vV S (rR S (-1) n) x) (vV S (rR S x n) w) (vV S (rR S x n) x) α β ∧ 0 < (vV S (rR S (-1) n) w).1 ∧ 0 < (vV S (rR S x n) w).1 ∧ nV (rR S (-1) n w) p q ∧ nV (rR S x n w) p' q' ∧ 0 < q' ∧ (S 0 2).toNat * p ≤ p' ∧ (S 0 2).toNat * q ≤ q' ∧ p' + q' ≤ rW S 100 1000 x n w ∧ 0 < β ∧ α ≤ β ∧ β ≤ 1000000000000000 ∧ ((α = (S 0 2).toNat * p ∧ β = p') ∨ p' = 0)
theorem lT_base {t n c : Nat} {S : gTb} (W : gWf t n c S) {x : Nat} (hx : x < n) : lT S n x x := by
  by_cases c1 : (vV S (rR S (-1) n) x).1 = 0
  · exact Or.inl c1
  · by_cases c2 : (vV S (rR S x n) x).1 = 0
    · exact Or.inr (Or.inl c2)
    · right; right
      have hm : 0 < (S 0 2).toNat := by have := W.1; omega
      have hV := rR_V W n x (by omega) hx (x := -1)
      have hG := rR_G hx (S := S) (x := -1)
      have hne := nV_ne hG hV
      have eR : rR S x n x = bMet S (rR S (-1) n x) := by
        rw [rR_e hx, rR_e hx]
        unfold bPart
        rw [if_pos rfl, if_neg (by omega)]
        congr 1
        refine bRaw_congr fun q hq hs => rR_off W hx n q (by omega) (by omega) ?_
        rcases hg : gOn S x q with _ | _
        · rfl
        · have := gOn_lt W hx hg
          omega
      have eU : rU S x n x = uMet S (rU S (-1) n x) := by
        have off : ∀ k q, q < k → q < x → rU S x n q = rU S (-1) n q := by
          intro k
          induction k with
          | zero => intro q h; omega
          | succ k ih =>
            intro q hk hq
            rw [rU_e (by omega), rU_e (by omega)]
            unfold uPart
            rw [if_neg (by omega), if_neg (by omega)]
            exact uRaw_congr fun r hr _ => ih r (by omega) (by omega)
        rw [rU_e hx, rU_e hx]
        unfold uPart
        rw [if_pos rfl, if_neg (by omega)]
        congr 1
        exact uRaw_congr fun q hq _ => off n q (by omega) hq
      have hb := rU_le W n x (by omega) hx (x := x)
      have hb9 := rU_9 W (x := x) hx
      have hV' := rR_V W n x (by omega) hx (x := x)
      rw [eU] at hb hb9 hV'
      unfold uMet at hb hb9 hV'
      try dsimp only at hb hb9 hV'
      generalize rU S (-1) n x = u at hV hne hb hb9 hV'
      have q0 : 0 < u.2 * (S 0 2).toNat + u.1 := by
        rcases Nat.eq_zero_or_pos u.1 with e | e
        · have : 0 < u.2 * (S 0 2).toNat := Nat.mul_pos (by omega) hm
          omega
        · omega
      by_cases cp : u.1 = 0
      · refine ⟨1, 1, u.1, u.2, u.1 * (S 0 2).toNat, u.2 * (S 0 2).toNat + u.1, ?_, by omega, by omega, hV, hV', q0, ?_, ?_, hb, by omega, by omega, by omega, Or.inr ?_⟩
        · unfold lE; ac_rfl
        · rw [Nat.mul_comm]; exact Nat.le_refl _
        · rw [Nat.mul_comm]; omega
        · rw [cp, Nat.zero_mul]
      · refine ⟨(S 0 2).toNat * u.1, u.1 * (S 0 2).toNat, u.1, u.2, u.1 * (S 0 2).toNat, u.2 * (S 0 2).toNat + u.1, ?_, by omega, by omega, hV, hV', q0, ?_, ?_, hb, Nat.mul_pos (by omega) hm, ?_, by omega, Or.inl ⟨rfl, rfl⟩⟩
        · unfold lE; ac_rfl
        · rw [Nat.mul_comm]; exact Nat.le_refl _
        · rw [Nat.mul_comm]; omega
        · rw [Nat.mul_comm]; exact Nat.le_refl _
theorem lT_step {t n c : Nat} {S : gTb} (W : gWf t n c S) {x w u : Nat} (hx : x < n) (hon : gOn S x w = true) (h5 : S 5 w = u) (T : lT S n x w) : lT S n x u := by
  rcases T with T | T | ⟨α, β, p, q, p', q', E, v0, v0', hV, hV', hq', hmp, hmq, hb, hβ, hαβ, hβ9, hαβ'⟩
  · exact Or.inl T
  · exact Or.inr (Or.inl T)
  · right; right
    have lw := gOn_lt W hx hon
    have hw := lw.2
    have ar := W.ar hw
    have hu : u < n := by omega
    have hwu : w < u := by omega
    have hxu : ¬ (u : Int) = x := by omega
    have h4 := W.so hu hw h5
    have kd := W.kd hu
    have hm : 0 < (S 0 2).toNat := by have := W.1; omega
    have hm9 : (S 0 2).toNat ≤ 999 := by have := W.1; omega
    have hson : gSon S u w = true := decide_eq_true h5
    have gw := rR_G hw (S := S) (x := -1)
    have gw' := rR_G hw (S := S) (x := x)
    have hne := nV_ne gw hV
    -- the others
    have off : ∀ r, r < u → gBut (gSon S u) w r = true → rR S x n r = rR S (-1) n r := by
      intro r hr hc
      simp only [gBut, Bool.and_eq_true, Bool.not_eq_true', decide_eq_false_iff_not] at hc
      refine rR_off W hx n r (by omega) (by omega) ?_
      rcases hg : gOn S x r with _ | _
      · rfl
      · exact absurd (gOn_un W (of_decide_eq_true hc.1) h5 n x hx (by omega) hg hon) hc.2
    have hO : ∀ r, r < u → gBut (gSon S u) w r = true → nV (rR S (-1) n r) (rU S x n r).1 (rU S x n r).2 := fun r hr hc => by
      rw [← off r hr hc]
      exact rR_V W n r (by omega) (by omega)
    have wup := rW_up (b := 100) (y := 1000) (x := x) hu hwu h5 h4 hxu
    have eVw : vV S (rR S (-1) n) w = vStep S (rR S (-1) n) (vV S (rR S (-1) n) u) u w := vV_e W hw h5
    have eVw' : vV S (rR S x n) w = vStep S (rR S x n) (vV S (rR S x n) u) u w := vV_e W hw h5
    have eRu : rR S (-1) n u = bRaw S (rR S (-1) n) u := by rw [rR_e hu]; unfold bPart; rw [if_neg (by omega)]
    have eRu' : rR S x n u = bRaw S (rR S x n) u := by rw [rR_e hu]; unfold bPart; rw [if_neg hxu]
    have zu := vZ_all W (x := -1) n u hu (by omega) (by omega)
    have zu' := vZ_all W (x := x) n u hu (by omega) (by omega)
    have zw := vZ_all W (x := -1) n w hw (by omega) (by omega)
    have zw' := vZ_all W (x := x) n w hw (by omega) (by omega)
    unfold bRaw at eRu eRu'
    rw [if_neg h4] at eRu eRu'
    unfold vStep at eVw eVw'
    by_cases c2 : S 4 u = 2
    · -- parallel
      rw [if_pos c2] at eVw eVw'
      rw [if_neg (by omega)] at eRu eRu'
      rw [gSum_but (f := fun r => iInv (rR S (-1) n r)) hson u hwu] at eRu
      rw [gSum_but (f := fun r => iInv (rR S x n r)) hson u hwu, gSum_congr (f := fun r => iInv (rR S x n r)) (g := fun r => iInv (rR S (-1) n r)) (P := gBut (gSon S u) w) (Q := gBut (gSon S u) w) (fun r hr => ⟨rfl, fun hc => by rw [off r hr hc]⟩)] at eRu'
      have hble := gAcc_le (g := fun r => iInv (rU S x n r)) (w := rW S 100 1000 x n) (P := gBut (gSon S u) w) u (fun r hr _ => by
        have := rU_le W n r (by omega) (by omega) (x := x)
        show (rU S x n r).2 + (rU S x n r).1 ≤ _
        omega)
      rcases gSum_V (f := fun r => iInv (rR S (-1) n r)) (g := fun r => iInv (rU S x n r)) (P := gBut (gSon S u) w) u (fun r hr hc => nV_inv (hO r hr hc)) with ⟨a, b⟩ | ⟨a, b⟩
      · rw [b, iAdd_inf (Or.inl rfl)] at eRu eRu'
        refine ⟨α, β, 0, 1, 0, (S 0 2).toNat, ?_, ?_, ?_, ?_, ?_, hm, ?_, ?_, ?_, hβ, hαβ, hβ9, Or.inr rfl⟩
        · rw [← eVw, ← eVw']; exact E
        · rw [← eVw]; exact v0
        · rw [← eVw']; exact v0'
        · rw [eRu]; exact nV_self (0, 1)
        · rw [eRu']; exact ⟨(S 0 2).toNat, hm, (Nat.mul_zero _).symm, (Nat.mul_one _).symm⟩
        · omega
        · omega
        · have h1 : (S 0 2).toNat ≤ p' + q' := by
            rcases Nat.eq_zero_or_pos p with e | e
            · have : (S 0 2).toNat * 1 ≤ (S 0 2).toNat * q := Nat.mul_le_mul_left _ (by omega)
              omega
            · have : (S 0 2).toNat * 1 ≤ (S 0 2).toNat * p := Nat.mul_le_mul_left _ e
              omega
          have h2 := gPro_one (f := rW S 100 1000 x n) (P := gBut (gSon S u) w) (n := u) (fun r hr _ => rW_pos (by omega) (by omega) n r (by omega) (by omega))
          have h3 : rW S 100 1000 x n w ≤ rW S 100 1000 x n u := by rw [wup]; exact Nat.le_mul_of_pos_left _ h2
          omega
      · generalize gSum (fun r => iInv (rR S (-1) n r)) (gBut (gSon S u) w) u = so at eRu eRu' b
        generalize gAcc (fun r => iInv (rU S x n r)) (gBut (gSon S u) w) u = o at a b hble
        have n1 := nV_inv (nV_addI b (nV_inv hV) (iInv_G gw) a)
        have n2 := nV_inv (nV_addI b (nV_inv hV') (iInv_G gw') a)
        rw [← eRu] at n1
        rw [← eRu'] at n2
        have hbd : o.2 * p' + (o.1 * p' + q' * o.2) ≤ rW S 100 1000 x n u := by
          rw [wup]
          refine Nat.le_trans ?_ (Nat.mul_le_mul hble hb)
          rw [Nat.add_mul, Nat.mul_add, Nat.mul_add, Nat.mul_comm q' o.2]
          omega
        have hu9 := rW_le W (b := 100) (y := 1000) (x := x) (by omega) (by omega) hu
        have k1 : (S 0 2).toNat * (o.2 * p) ≤ o.2 * p' := by
          rw [Nat.mul_left_comm]; exact Nat.mul_le_mul_left _ hmp
        have k2 : (S 0 2).toNat * (o.1 * p + q * o.2) ≤ o.1 * p' + q' * o.2 := by
          rw [Nat.mul_add, Nat.mul_left_comm]
          exact Nat.add_le_add (Nat.mul_le_mul_left _ hmp) (by rw [← Nat.mul_assoc]; exact Nat.mul_le_mul_right _ hmq)
        have k3 : 0 < o.1 * p' + q' * o.2 := by
          have := Nat.mul_pos hq' a
          omega
        rcases hαβ' with ⟨e1, e2⟩ | e1
        · refine ⟨(S 0 2).toNat * (o.2 * p), o.2 * p', o.2 * p, o.1 * p + q * o.2, o.2 * p', o.1 * p' + q' * o.2, ?_, ?_, ?_, n1, n2, k3, k1, k2, hbd, ?_, k1, ?_, Or.inl ⟨rfl, rfl⟩⟩
          · rw [← eVw, ← eVw']
            unfold lE at E ⊢
            rw [e1, e2] at E
            rw [show (vV S (rR S x n) x).1 * (vV S (rR S (-1) n) w).1 * (o.2 * p') * ((vV S (rR S (-1) n) x).2 * (vV S (rR S x n) w).2) = o.2 * ((vV S (rR S x n) x).1 * (vV S (rR S (-1) n) w).1 * p' * ((vV S (rR S (-1) n) x).2 * (vV S (rR S x n) w).2)) by ac_rfl, E]
            ac_rfl
          · rw [← eVw]; exact v0
          · rw [← eVw']; exact v0'
          · rw [e2] at hβ; exact Nat.mul_pos a hβ
          · have : (100 : Nat) ^ 6 * 1000 = 1000000000000000 := by decide
            omega
        · refine ⟨α, β, o.2 * p, o.1 * p + q * o.2, o.2 * p', o.1 * p' + q' * o.2, ?_, ?_, ?_, n1, n2, k3, k1, k2, hbd, hβ, hαβ, hβ9, Or.inr (by rw [e1, Nat.mul_zero])⟩
          · rw [← eVw, ← eVw']; exact E
          · rw [← eVw]; exact v0
          · rw [← eVw']; exact v0'
    · -- series
      rw [if_neg c2] at eVw eVw'
      have c1 : S 4 u = 1 := by omega
      rw [if_pos c1] at eRu eRu'
      rw [gSum_but (f := rR S (-1) n) hson u hwu] at eRu
      rw [gSum_but (f := rR S x n) hson u hwu, gSum_congr (f := rR S x n) (g := rR S (-1) n) (P := gBut (gSon S u) w) (Q := gBut (gSon S u) w) (fun r hr => ⟨rfl, fun hc => off r hr hc⟩)] at eRu'
      have hble := gAcc_le (g := rU S x n) (w := rW S 100 1000 x n) (P := gBut (gSon S u) w) u (fun r hr _ => rU_le W n r (by omega) (by omega) (x := x))
      have rw2 : ¬ (rR S x n w).2 = 0 := fun e => by
        have := (nV_z hV').2.mp e
        omega
      have ru2 : ¬ (rR S x n u).2 = 0 := fun e => by
        rw [if_pos e, if_neg rw2] at eVw'
        rw [eVw'] at v0'
        exact absurd v0' (Nat.lt_irrefl 0)
      rw [if_neg ru2] at eVw'
      have ru1 : ¬ (rR S x n u).1 = 0 := fun e => by
        rw [if_pos e] at eVw'
        rw [eVw'] at v0'
        exact absurd v0' (Nat.lt_irrefl 0)
      rw [if_neg ru1] at eVw'
      rcases gSum_V (f := rR S (-1) n) (g := rU S x n) (P := gBut (gSon S u) w) u hO with ⟨a, b⟩ | ⟨a, b⟩
      · rw [b, iAdd_inf (Or.inl rfl)] at eRu'
        rw [eRu'] at ru2
        exact absurd rfl ru2
      · have nofin : ∀ r, r < u → gBut (gSon S u) w r = true → (rR S (-1) n r).2 ≠ 0 := by
          intro r hr hc e
          have e1 : (rU S x n r).2 = 0 := (nV_z (hO r hr hc)).2.mp e
          rw [gAcc_but hc u hr] at a
          have a2 : 0 < (gAcc (rU S x n) (gBut (gBut (gSon S u) w) r) u).2 * (rU S x n r).2 := a
          rw [e1, Nat.mul_zero] at a2
          omega
        generalize gSum (rR S (-1) n) (gBut (gSon S u) w) u = so at eRu eRu' b
        generalize gAcc (rU S x n) (gBut (gSon S u) w) u = o at a b hble
        have n1 := nV_addI b hV gw a
        have n2 := nV_addI b hV' gw' a
        rw [← eRu] at n1
        rw [← eRu'] at n2
        have pu' : 0 < o.1 * q' + p' * o.2 := by have := (nV_z n2).1; omega
        have hbd : o.1 * q' + p' * o.2 + o.2 * q' ≤ rW S 100 1000 x n u := by
          rw [wup]
          refine Nat.le_trans ?_ (Nat.mul_le_mul hble hb)
          rw [Nat.add_mul, Nat.mul_add, Nat.mul_add, Nat.mul_comm p' o.2]
          omega
        have hu9 := rW_le W (b := 100) (y := 1000) (x := x) (by omega) (by omega) hu
        have k1 : (S 0 2).toNat * (o.1 * q + p * o.2) ≤ o.1 * q' + p' * o.2 := by
          rw [Nat.mul_add, Nat.mul_left_comm]
          exact Nat.add_le_add (Nat.mul_le_mul_left _ hmq) (by rw [← Nat.mul_assoc]; exact Nat.mul_le_mul_right _ hmp)
        have k2 : (S 0 2).toNat * (o.2 * q) ≤ o.2 * q' := by
          rw [Nat.mul_left_comm]; exact Nat.mul_le_mul_left _ hmq
        have k3 : 0 < o.2 * q' := Nat.mul_pos a hq'
        -- over w, with the meter
        obtain ⟨s1', s2', s3'⟩ := share_V (rR_G hu (S := S) (x := x)) gw' n2 hV' rfl pu' hq'
        obtain ⟨m1', m2', m3'⟩ := nMul_V zu'.1 s2' zu'.2.1 s3'
        have A' : (vV S (rR S x n) w).1 * (vV S (rR S x n) u).2 * (o.1 * q' + p' * o.2) = (vV S (rR S x n) u).1 * (vV S (rR S x n) w).2 * (p' * o.2) := by
          have h1 := nV_cross (nV_mul (nV_self (vV S (rR S x n) u)) s1' m1')
          rw [← eVw'] at h1
          rw [show (vV S (rR S x n) w).1 * (vV S (rR S x n) u).2 * (o.1 * q' + p' * o.2) = (vV S (rR S x n) u).2 * (o.1 * q' + p' * o.2) * (vV S (rR S x n) w).1 by ac_rfl, ← h1]
          ac_rfl
        have vu0' : 0 < (vV S (rR S x n) u).1 := by
          rcases Nat.eq_zero_or_pos (vV S (rR S x n) u).1 with e | e
          · rw [nMul_zero zu'.1 s2' zu'.2.1 s3' (Or.inl e)] at eVw'
            rw [eVw'] at v0'
            exact absurd v0' (Nat.lt_irrefl 0)
          · exact e
        have pp' : 0 < p' := by
          rcases Nat.eq_zero_or_pos p' with e | e
          · rw [e, Nat.zero_mul, Nat.mul_zero] at A'
            have := Nat.mul_pos (Nat.mul_pos v0' zu'.2.1) pu'
            rw [e, Nat.zero_mul] at this
            omega
          · exact e
        rcases hαβ' with ⟨e1, e2⟩ | e1
        · -- over w, without it
          have key : (vV S (rR S (-1) n) w).1 * (vV S (rR S (-1) n) u).2 * (o.1 * q + p * o.2) = (vV S (rR S (-1) n) u).1 * (vV S (rR S (-1) n) w).2 * (p * o.2) ∧ 0 < (vV S (rR S (-1) n) u).1 ∧ 0 < p := by
            by_cases i2 : (rR S (-1) n u).2 = 0
            · rw [if_pos i2] at eVw
              by_cases i3 : (rR S (-1) n w).2 = 0
              · rw [if_pos i3] at eVw
                have hk : gCnt (fun r => gSon S u r && decide ((rR S (-1) n r).2 = 0)) u = 1 := by
                  refine gCnt_one hwu (by rw [hson, decide_eq_true i3]; rfl) fun r hr hne2 hc => ?_
                  simp only [Bool.and_eq_true, decide_eq_true_eq] at hc
                  exact nofin r hr (by rw [gBut, hc.1, decide_eq_false hne2]; rfl) hc.2
                rw [hk, nMul_one zu.1 zu.2.1] at eVw
                have q0 : q = 0 := (nV_z hV).2.mp i3
                rw [eVw, q0, Nat.mul_zero, Nat.zero_add]
                refine ⟨rfl, by rw [← eVw]; exact v0, by omega⟩
              · rw [if_neg i3] at eVw
                rw [eVw] at v0
                exact absurd v0 (Nat.lt_irrefl 0)
            · rw [if_neg i2] at eVw
              by_cases i3 : (rR S (-1) n u).1 = 0
              · rw [if_pos i3] at eVw
                rw [eVw] at v0
                exact absurd v0 (Nat.lt_irrefl 0)
              · rw [if_neg i3] at eVw
                have pu : 0 < o.1 * q + p * o.2 := by have := (nV_z n1).1; omega
                have q0 : 0 < q := by
                  rcases Nat.eq_zero_or_pos q with e | e
                  · exact absurd ((nV_z n1).2.mpr (by rw [e, Nat.mul_zero])) i2
                  · exact e
                obtain ⟨s1, s2, s3⟩ := share_V (rR_G hu (S := S) (x := -1)) gw n1 hV rfl pu q0
                obtain ⟨m1, m2, m3⟩ := nMul_V zu.1 s2 zu.2.1 s3
                have A : (vV S (rR S (-1) n) w).1 * (vV S (rR S (-1) n) u).2 * (o.1 * q + p * o.2) = (vV S (rR S (-1) n) u).1 * (vV S (rR S (-1) n) w).2 * (p * o.2) := by
                  have h1 := nV_cross (nV_mul (nV_self (vV S (rR S (-1) n) u)) s1 m1)
                  rw [← eVw] at h1
                  rw [show (vV S (rR S (-1) n) w).1 * (vV S (rR S (-1) n) u).2 * (o.1 * q + p * o.2) = (vV S (rR S (-1) n) u).2 * (o.1 * q + p * o.2) * (vV S (rR S (-1) n) w).1 by ac_rfl, ← h1]
                  ac_rfl
                refine ⟨A, ?_, ?_⟩
                · rcases Nat.eq_zero_or_pos (vV S (rR S (-1) n) u).1 with e | e
                  · rw [nMul_zero zu.1 s2 zu.2.1 s3 (Or.inl e)] at eVw
                    rw [eVw] at v0
                    exact absurd v0 (Nat.lt_irrefl 0)
                  · exact e
                · rcases Nat.eq_zero_or_pos p with e | e
                  · rw [e, Nat.zero_mul, Nat.mul_zero] at A
                    have := Nat.mul_pos (Nat.mul_pos v0 zu.2.1) pu
                    rw [e, Nat.zero_mul] at this
                    omega
                  · exact e
          obtain ⟨A, vu0, pp⟩ := key
          rw [e1, e2] at E
          refine ⟨(S 0 2).toNat * (o.1 * q + p * o.2), o.1 * q' + p' * o.2, o.1 * q + p * o.2, o.2 * q, o.1 * q' + p' * o.2, o.2 * q', lE_up A A' E v0' zw.2.1 (Nat.mul_pos pp a), vu0, vu0', n1, n2, k3, k1, k2, hbd, pu', k1, ?_, Or.inl ⟨rfl, rfl⟩⟩
          have : (100 : Nat) ^ 6 * 1000 = 1000000000000000 := by decide
          omega
        · omega
theorem lT_all {t n c : Nat} {S : gTb} (W : gWf t n c S) {x : Nat} (hx : x < n) : ∀ (k w : Nat), w < k → gOn S x w = true → lT S n x w := by
  intro k
  induction k with
  | zero => intro w h; omega
  | succ k ih =>
    intro w hk hon
    by_cases e : x = w
    · subst e; exact lT_base W hx
    · obtain ⟨r, h1, h2, h3, h4⟩ := gOn_pr W n x hx (by omega) hon e
      exact lT_step W hx h1 h2 (ih r (by omega) h1)
theorem gOn_root {t n c : Nat} {S : gTb} (W : gWf t n c S) : ∀ (k p : Nat), p < n → n ≤ k + p → gOn S p (n - 1) = true := by
  intro k
  induction k with
  | zero => intro p h1 h2; omega
  | succ k ih =>
    intro p hp h2
    rcases W.ar hp with ⟨_, b, d⟩ | ⟨e, b⟩
    · obtain ⟨u, hu⟩ : ∃ u : Nat, S 5 p = u := ⟨(S 5 p).toNat, by omega⟩
      rw [gOn_nx W hp hu, ih u (by omega) (by omega), Bool.or_true]
    · rw [gOn_rt W hp b, decide_eq_true (by omega)]
/-- reading by voltage -/
theorem loss_9 {t n c : Nat} {S : gTb} (W : gWf t n c S) {x : Nat} (hx : x < n) (h0 : (vV S (rR S (-1) n) x).1 ≠ 0) : nG (nMul (vV S (rR S x n) x) (iInv (vV S (rR S (-1) n) x))) ∧ 0 < (nMul (vV S (rR S x n) x) (iInv (vV S (rR S (-1) n) x))).2 ∧ (nMul (vV S (rR S x n) x) (iInv (vV S (rR S (-1) n) x))).1 ≤ (nMul (vV S (rR S x n) x) (iInv (vV S (rR S (-1) n) x))).2 ∧ (nMul (vV S (rR S x n) x) (iInv (vV S (rR S (-1) n) x))).2 ≤ 1000000000000000 := by
  have z := vV_9 W (x := -1) hx (by omega)
  have z' := vV_9 W (x := x) hx (by omega)
  obtain ⟨m1, m2, m3⟩ := nMul_V z'.1 (iInv_G z.1) z'.2.1 (show 0 < (iInv (vV S (rR S (-1) n) x)).2 from by show 0 < (vV S (rR S (-1) n) x).1; omega)
  refine ⟨m2, m3, ?_⟩
  have T := lT_all W hx n (n - 1) (by omega) (gOn_root W n x hx (by omega))
  rcases T with T | T | ⟨α, β, p, q, p', q', E, v0, v0', hV, hV', hq', hmp, hmq, hb, hβ, hαβ, hβ9, hαβ'⟩
  · exact absurd T h0
  · rw [nMul_zero z'.1 (iInv_G z.1) z'.2.1 (show 0 < (iInv (vV S (rR S (-1) n) x)).2 from by show 0 < (vV S (rR S (-1) n) x).1; omega) (Or.inl T)]
    exact ⟨by decide, by decide⟩
  · have hs : 0 < (S 0 1).toNat := by have := W.1; omega
    have b := W.ar (p := n - 1) (by omega)
    rw [vV_rt (p := n - 1) (by omega), vV_rt (p := n - 1) (by omega)] at E
    unfold lE at E
    try dsimp only at E
    rw [Nat.mul_one, Nat.mul_one] at E
    generalize vV S (rR S (-1) n) x = b0 at *
    generalize vV S (rR S x n) x = b1 at *
    have E2 : b1.1 * b0.2 * β = b0.1 * b1.2 * α := by
      refine Nat.eq_of_mul_eq_mul_left hs ?_
      calc (S 0 1).toNat * (b1.1 * b0.2 * β) = b1.1 * (S 0 1).toNat * β * b0.2 := by ac_rfl
        _ = b0.1 * (S 0 1).toNat * α * b1.2 := E
        _ = (S 0 1).toNat * (b0.1 * b1.2 * α) := by ac_rfl
    have h1 : nV (nMul b1 (iInv b0)) (b1.1 * b0.2) (b1.2 * b0.1) := m1
    have h2 := nV_cross h1
    have h3 : nV (nMul b1 (iInv b0)) α β := by
      refine nV_mk m2 (fun e => by omega) ?_
      refine Nat.eq_of_mul_eq_mul_left (Nat.mul_pos (show 0 < b0.1 by omega) z'.2.1) ?_
      calc b0.1 * b1.2 * (α * (nMul b1 (iInv b0)).2) = (b0.1 * b1.2 * α) * (nMul b1 (iInv b0)).2 := by ac_rfl
        _ = (b1.1 * b0.2) * (nMul b1 (iInv b0)).2 * β := by rw [← E2]; ac_rfl
        _ = (b1.2 * b0.1) * (nMul b1 (iInv b0)).1 * β := by rw [h2]
        _ = b0.1 * b1.2 * (β * (nMul b1 (iInv b0)).1) := by ac_rfl
    have h4 := nV_le h3
    exact ⟨nV_le1 h3 hαβ, by omega⟩
