/-! the class: one level down the way -/
theorem dS_pos {q r u : gQ} (h1 : 0 < q.2) (h2 : 0 < r.2) (h : dS q r = some u) : 0 < u.2 ∧ u.1 ≤ q.1 * r.2 ∧ u.2 ≤ q.2 * r.2 := by
  unfold dS at h
  have yp := Nat.mul_pos h1 h2
  rw [if_neg (by omega)] at h
  by_cases c : q.1 * r.2 < r.1 * q.2
  · rw [if_pos c] at h; cases h
  · rw [if_neg c] at h
    have e := Option.some.inj h
    have v := nRed_V (N := q.1 * r.2 - r.1 * q.2) (D := q.2 * r.2) (fun w => by omega)
    rw [e] at v
    have l := nV_le v
    refine ⟨Nat.pos_of_ne_zero (fun w => ?_), by omega, l.2⟩
    have := (nV_z v).2.mp w
    omega
/-- the numbers stay small -/
theorem st_b {w s : gQ} {M P : Nat} (b1 : w.1 ≤ 9999 * M) (b2 : w.2 ≤ 9999 * M) (hs : s.1 + s.2 ≤ P) : w.1 * s.2 ≤ 9999 * (M * P) ∧ s.1 * w.2 ≤ 9999 * (M * P) ∧ w.2 * s.2 ≤ 9999 * (M * P) ∧ s.1 * w.1 ≤ 9999 * (M * P) := by
  have m : ∀ a b : Nat, a ≤ 9999 * M → b ≤ P → a * b ≤ 9999 * (M * P) := fun a b x y => by
    rw [← Nat.mul_assoc]
    exact Nat.mul_le_mul x y
  refine ⟨m _ _ b1 (by omega), ?_, m _ _ b2 (by omega), ?_⟩
  · rw [Nat.mul_comm]; exact m _ _ b2 (by omega)
  · rw [Nat.mul_comm]; exact m _ _ b1 (by omega)
theorem st_m {t n c : Nat} {S : gTb} (W : gWf t n c S) {v j M : Nat} (hv : v < n) (hj : j < v) (h5 : S 5 j = v) (h4 : S 4 v ≠ 0) (hM : M * rW S 100 1000 (-1) n v ≤ 1000000000000) : (M * gPro (rW S 100 1000 (-1) n) (gBut (gSon S v) j) v) * rW S 100 1000 (-1) n j ≤ 1000000000000 ∧ M * gPro (rW S 100 1000 (-1) n) (gBut (gSon S v) j) v ≤ 1000000000000 := by
  have up := rW_up (S := S) (b := 100) (y := 1000) (x := -1) (n := n) hv hj h5 h4 (by omega)
  rw [up, ← Nat.mul_assoc] at hM
  refine ⟨hM, Nat.le_trans (Nat.le_mul_of_pos_right _ ?_) hM⟩
  exact rW_pos (by omega) (by omega) n j (by omega) (by omega)
/-- what stands beside, as the class sums it up -/
theorem u_beside {h : gHp} {a s t n c : Nat} {S : gTb} (R : cNet h (s + 1) n S) (W : gWf t n c S) (hd : s + 13 ≤ a) {v j : Nat} (hv : v < n) (hj : j < v) (h4 : S 4 v ≠ 0) (T : ∀ q, q < n → hQ h (a + 6 + 2 * q) (rR S (-1) n q)) : ∃ h', f_X0_addUp a (s + 1) (jI v) (jI j) h = some h' ∧ hQ h' (a + 3) (sO S n v j) ∧ gFr (a + 3) 2 h h' := by
  have hn := W.n
  obtain ⟨h', e, Q, G⟩ := u_addUp R W hd (x := -1) hv h4 (wo := (j : Int)) (by omega) (fun q hq => T q (by omega))
  refine ⟨h', e, ?_, G⟩
  have es : gSum (fun q => if decide (S 4 v = 2) = true then iInv (rR S (-1) n q) else rR S (-1) n q) (fun q => gSon S v q && !decide ((q : Int) = (j : Int))) v = sO S n v j := by
    unfold sO
    refine gSum_congr fun q hq => ⟨?_, fun _ => rfl⟩
    show (gSon S v q && !decide ((q : Int) = (j : Int))) = (gSon S v q && !decide (q = j))
    by_cases e : q = j
    · rw [decide_eq_true e, decide_eq_true (by omega)]
    · rw [decide_eq_false e, decide_eq_false (by omega)]
  rw [← es]
  exact Q
theorem u_takeOff {h : gHp} {a s t n c : Nat} {S : gTb} (R : cNet h (s + 1) n S) (W : gWf t n c S) (hd : s + 13 ≤ a) {v j : Nat} (hv : v < n) (hj : j < v) (h5 : S 5 j = v) (h4 : S 4 v ≠ 0) (T : ∀ q, q < n → hQ h (a + 6 + 2 * q) (rR S (-1) n q)) {d : Nat} (hb : a + 28 ≤ d) {w : gQ} (Q : hQ h d w) (gw : nG w) (w2 : 0 < w.2) {M : Nat} (b1 : w.1 ≤ 9999 * M) (b2 : w.2 ≤ 9999 * M) (hM : M * rW S 100 1000 (-1) n v ≤ 1000000000000) (z : (sO S n v j).2 ≠ 0) : ∃ (ok : Bool) (h' : gHp), f_X0_takeOthersOff a (s + 1) (jI j) d h = some (ok, h') ∧ (ok = true → ∃ u, dS (gVw S v w) (sO S n v j) = some u ∧ 0 < (gVw S v u).2 ∧ hQ h' d (gVw S v u)) ∧ (ok = false → dS (gVw S v w) (sO S n v j) = none ∨ ∃ u, dS (gVw S v w) (sO S n v j) = some u ∧ gVw S v u = (1, 0)) ∧ (∀ y, (y < a + 3 ∨ a + 5 ≤ y) → y ≠ d → h'.1 y = h.1 y ∧ h'.2 y = h.2 y) ∧ h'.1 d = h.1 d := by
  have hn := W.n
  have z0 := Nat.pos_of_ne_zero z
  obtain ⟨v3, e3, Q3, G3⟩ := u_beside R W hd hv hj h4 T
  have sl := sO_le W (j := j) hv
  have mm := st_m W hv hj h5 h4 hM
  obtain ⟨sb1, sb2, sb3, sb4⟩ := st_b b1 b2 sl
  have g11 : gIn (jI j) 11 := jin (by omega) (by omega) (by omega)
  have r5 : h.1 (s + 1 + 2) j = jI v := by rw [← h5]; exact R.2.2.1 j (by omega)
  have R3 : cNet v3 (s + 1) n S := R.mv (G3.sa (by omega))
  have k1 := u_isKind R3 W hv (z := 1) (by omega) (by omega)
  have r5' : v3.1 (s + 1 + 2) j = jI v := by rw [G3.i1 (by omega)]; exact r5
  have Qd : hQ v3 d w := Q.fr G3 (by omega)
  have kd := W.kd hv
  have F3 : ∀ y, (y < a + 3 ∨ a + 5 ≤ y) → v3.1 y = h.1 y ∧ v3.2 y = h.2 y := fun y hy => G3 y (by omega)
  have head : ∀ r, (if decide (S 4 v = 1) = true then (f_X2_add d (a + 3) (-1) v3).bind fun v15 => if (v15.2 d 0) < 0 then some (false, v15) else some (true, v15) else (f_X2_invert d v3).bind fun v7 => (f_X2_add d (a + 3) (-1) v7).bind fun v9 => if (v9.2 d 0) ≤ 0 then (f_X2_invert d v9).bind fun v11 => some (false, v11) else (f_X2_invert d v9).bind fun v13 => some (true, v13)) = r → f_X0_takeOthersOff a (s + 1) (jI j) d h = r := fun r hr => by
    rw [f_X0_takeOthersOff, gNp (by omega), r5]
    exact gIT g11 (gBs e3 (gBs k1 hr))
  have fq : ∀ (x : gHp) (q : Int × Int), x.1 = v3.1 → (∀ y, y ≠ d → x.2 y = v3.2 y) → ∀ y, (y < a + 3 ∨ a + 5 ≤ y) → y ≠ d → (qPut x d q).1 y = h.1 y ∧ (qPut x d q).2 y = h.2 y := fun x q x1 x2 y hy hyd => ⟨by rw [qPut_1, x1]; exact (F3 y hy).1, by rw [qPut_2 hyd, x2 y hyd]; exact (F3 y hy).2⟩
  by_cases c1 : S 4 v = 1
  · rw [decide_eq_true c1] at head
    rw [gVw_1 (by omega)]
    obtain ⟨s1, s2⟩ := k_sub Qd Q3 w2 z0 (by omega) (by omega) (by omega)
    cases hd' : dS w (sO S n v j) with
    | none =>
      obtain ⟨zz, e4, b3, b4⟩ := s1 hd'
      refine ⟨false, qPut v3 d zz, head _ (gIT rfl (gBs e4 (gIT ?_ rfl))), fun x => absurd x Bool.false_ne_true, fun _ => Or.inl rfl, fq v3 zz rfl (fun _ _ => rfl), ?_⟩
      · rw [(qPut_fr v3 d zz).1, l0, lI_lt (by omega) (by omega) (by omega) (by omega)]
        exact b4
      · rw [qPut_1]; exact (F3 d (by omega)).1
    | some u =>
      have e4 := s2 u hd'
      have up := dS_pos w2 z0 hd'
      refine ⟨true, nPut v3 d u, head _ (gIT rfl (gBs e4 (gIF ?_ rfl))), fun _ => ⟨u, rfl, by rw [gVw_1 (by omega)]; exact up.1, by rw [gVw_1 (by omega)]; exact nPut_Q v3 d u⟩, fun x => absurd x.symm Bool.false_ne_true, fq v3 (fI u) rfl (fun _ _ => rfl), ?_⟩
      · have f1 : (nPut v3 d u).2 d 0 = lI u.1 := (nPut_Q v3 d u).1
        rw [f1, l0, lI_lt (by omega) (by omega) (by omega) (by omega)]
        omega
      · rw [nPut_1]; exact (F3 d (by omega)).1
  · rw [decide_eq_false c1] at head
    have c2 : S 4 v = 2 := by omega
    rw [gVw_2 c2]
    have e7 := k_invert Qd
    have Q7 : hQ (nPut v3 d (iInv w)) d (iInv w) := nPut_Q v3 d (iInv w)
    have S7 : hQ (nPut v3 d (iInv w)) (a + 3) (sO S n v j) := nPut_ne (by omega) Q3
    have fr2 : ∀ (q r : Int × Int), ∀ y, (y < a + 3 ∨ a + 5 ≤ y) → y ≠ d → (qPut (qPut (nPut v3 d (iInv w)) d q) d r).1 y = h.1 y ∧ (qPut (qPut (nPut v3 d (iInv w)) d q) d r).2 y = h.2 y := fun q r => fq _ r rfl (fun y hy => by rw [qPut_2 hy]; exact nPut_2 hy)
    by_cases w1 : w.1 = 0
    · have wz := nG_zero gw w1
      have e9 := q_addInf (x := d) (y := a + 3) Q7 S7 (-1) (Or.inl (by rw [wz]; rfl))
      have ds : dS (iInv w) (sO S n v j) = some (1, 0) := if_pos (by rw [wz]; rfl)
      have e13 := q_invert (qPut_fr (nPut v3 d (iInv w)) d (1, 0))
      refine ⟨true, qPut (qPut (nPut v3 d (iInv w)) d (1, 0)) d (0, 1), head _ (gIF Bool.false_ne_true (gBs e7 (gBs e9 (gIF ?_ (gBs e13 rfl))))), fun _ => ⟨(1, 0), ds, by rw [gVw_2 c2]; decide, by rw [gVw_2 c2]; exact qPut_fr _ d (0, 1)⟩, fun x => absurd x.symm Bool.false_ne_true, fr2 _ _, ?_⟩
      · rw [(qPut_fr (nPut v3 d (iInv w)) d (1, 0)).1, l0, lI_le (by omega) (by omega) (by omega) (by omega)]
        decide
      · show v3.1 d = h.1 d
        exact (F3 d (by omega)).1
    · have w1' : 0 < (iInv w).2 := Nat.pos_of_ne_zero w1
      obtain ⟨s1, s2⟩ := k_sub Q7 S7 w1' z0 (by show w.2 * (sO S n v j).2 < _; omega) (by show (sO S n v j).1 * w.1 < _; omega) (by show w.1 * (sO S n v j).2 < _; omega)
      cases hd' : dS (iInv w) (sO S n v j) with
      | none =>
        obtain ⟨zz, e9, b3, b4⟩ := s1 hd'
        have e11 := q_invert (qPut_fr (nPut v3 d (iInv w)) d zz)
        refine ⟨false, qPut (qPut (nPut v3 d (iInv w)) d zz) d (zz.2, zz.1), head _ (gIF Bool.false_ne_true (gBs e7 (gBs e9 (gIT ?_ (gBs e11 rfl))))), fun x => absurd x Bool.false_ne_true, fun _ => Or.inl rfl, fr2 _ _, ?_⟩
        · rw [(qPut_fr (nPut v3 d (iInv w)) d zz).1, l0, lI_le (by omega) (by omega) (by omega) (by omega)]
          omega
        · show v3.1 d = h.1 d
          exact (F3 d (by omega)).1
      | some u =>
        have e9 := s2 u hd'
        have up := dS_pos w1' z0 hd'
        have gu := dS_G z0 hd'
        have e13 := k_invert (nPut_Q (nPut v3 d (iInv w)) d u)
        have ub : u.1 ≤ w.2 * (sO S n v j).2 := up.2.1
        have f1 : (nPut (nPut v3 d (iInv w)) d u).2 d 0 = lI u.1 := (nPut_Q (nPut v3 d (iInv w)) d u).1
        by_cases u1 : u.1 = 0
        · refine ⟨false, nPut (nPut (nPut v3 d (iInv w)) d u) d (iInv u), head _ (gIF Bool.false_ne_true (gBs e7 (gBs e9 (gIT ?_ (gBs e13 rfl))))), fun x => absurd x Bool.false_ne_true, fun _ => Or.inr ⟨u, rfl, by rw [gVw_2 c2, nG_zero gu u1]; rfl⟩, fr2 _ _, ?_⟩
          · rw [f1, l0, lI_le (by omega) (by omega) (by omega) (by omega)]
            omega
          · show v3.1 d = h.1 d
            exact (F3 d (by omega)).1
        · refine ⟨true, nPut (nPut (nPut v3 d (iInv w)) d u) d (iInv u), head _ (gIF Bool.false_ne_true (gBs e7 (gBs e9 (gIF ?_ (gBs e13 rfl))))), fun _ => ⟨u, rfl, by rw [gVw_2 c2]; exact Nat.pos_of_ne_zero u1, by rw [gVw_2 c2]; exact nPut_Q _ d (iInv u)⟩, fun x => absurd x.symm Bool.false_ne_true, fr2 _ _, ?_⟩
          · rw [f1, l0, lI_le (by omega) (by omega) (by omega) (by omega)]
            omega
          · show v3.1 d = h.1 d
            exact (F3 d (by omega)).1
