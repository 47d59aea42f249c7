theorem m_goesIn {h : gHp} {m t n c : Nat} {S : gTb} (R : mRow (h.2 (m + 1)) n c S) (W : gWf t n c S) {v j : Nat} (hv : v < n) (hj : j < v) (h5 : S 5 j = v) (h4 : S 4 v ≠ 0) (Q : ∀ q, q < n → mQ h m q (rR S (-1) n q)) {w : gQ} (e17 : h.2 m 17 = lI w.1) (e18 : h.2 m 18 = lI w.2) (gw : nG w) {M : Nat} (b1 : w.1 ≤ 9999 * M) (b2 : w.2 ≤ 9999 * M) (hM : M * rW S 100 1000 (-1) n v ≤ 1000000000000) : ∃ (x : Int) (h' : gHp), f_X10_goesIn m (jI v) (jI j) h = some (jI x, h') ∧ nFr m h h' ∧ gLv S v m w (sO S n v j) x h' := by
  have hn := W.n
  have kd := W.kd hv
  have ek := m_kind R W hv
  rw [← jl_0] at ek
  have Mb : M ≤ 1000000000000 := Nat.le_trans (Nat.le_mul_of_pos_right M (rW_pos (by omega) (by omega) n v (by omega) hv)) hM
  have sl := sO_le W (j := j) hv
  have mm := st_m W hv hj h5 h4 hM
  obtain ⟨sb1, sb2, sb3, sb4⟩ := st_b b1 b2 sl
  by_cases c1 : S 4 v = 1
  · obtain ⟨x, h', q1, q2, q3⟩ := m_g30 (m := m) W hv hj h5 c1 gw b1 b2 hM v 0 gFuel h (by omega) (by unfold gFuel; omega) R Q (fun q hq => absurd hq (Nat.not_lt_zero q))
    refine ⟨x, h', ?_, q2, q3⟩
    rw [f_X10_goesIn, e17, e18]
    exact gBs ek (gIT (by rw [c1]; rfl) q1)
  · have c2 : S 4 v = 2 := by omega
    obtain ⟨h1, e1, L1, F1, F1'⟩ := m_letsOf R W W (fun _ _ _ => rfl) (x := -1) hv h4 (fun q hq => Q q (by omega)) (but := (j : Int)) (by omega)
    have N1 : nFr m h h1 := ⟨F1, F1'⟩
    have ep : ∀ q, (gSon S v q && !decide ((q : Int) = (j : Int))) = gBut (gSon S v) j q := fun q => by
      show (gSon S v q && !decide ((q : Int) = (j : Int))) = (gSon S v q && !decide (q = j))
      by_cases e : q = j
      · rw [decide_eq_true e, decide_eq_true (by omega)]
      · rw [decide_eq_false e, decide_eq_false (by omega)]
    have ep' : (fun q => gSon S v q && !decide ((q : Int) = (j : Int))) = gBut (gSon S v) j := funext ep
    rw [ep'] at L1
    have es : sO S n v j = if gZr (rR S (-1) n) (gBut (gSon S v) j) v = true then (1, 0) else gLs (rR S (-1) n) (gBut (gSon S v) j) v := by
      rw [← gZr_sum]
      unfold sO
      exact gSum_congr fun q hq => ⟨rfl, fun _ => gVw_2 c2 _⟩
    have nk : ¬ jI (S 4 v) = 1 := jne (b := 1) (by omega) (by omega) (by omega) (by omega) c1
    have iw : (iInv w).2 = w.1 := rfl
    have vw : gVw S v w = iInv w := gVw_2 c2 w
    cases hz : gZr (rR S (-1) n) (gBut (gSon S v) j) v with
    | true =>
      rw [hz, if_pos rfl] at es
      rw [hz] at L1
      have n23 : ¬ h1.1 m 23 = 0 := by rw [L1.2.2]; decide
      refine ⟨if w.1 = 0 then 2 else 0, h1, ?_, N1, gLv_z (by rw [es]) (by rw [vw, iw])⟩
      rw [f_X10_goesIn, e17, e18]
      refine gBs ek (gIF nk (gBs e1 (gIF n23 ?_)))
      by_cases w1 : w.1 = 0
      · rw [if_pos w1]
        exact gIT (by rw [w1]; rfl) rfl
      · rw [if_neg w1]
        refine gIF ?_ rfl
        rw [l0, lI_eq (by omega) (by omega) (by omega) (by omega)]
        omega
    | false =>
      rw [hz, if_neg Bool.false_ne_true] at es
      rw [hz, ← es] at L1
      have z0 : 0 < (sO S n v j).2 := by rw [es]; exact gLs_pos v
      have p23 : h1.1 m 23 = 0 := L1.2.2
      have N2 : nFr m h (sPut h1 m w) := N1.S
      have wz : gsL (gsL h1 m 17 (lI w.1)) m 18 (lI w.2) = sPut h1 m w := rfl
      have c21 : (sPut h1 m w).2 m 21 = lI (sO S n v j).1 := (sPut_k (by decide) (by decide)).trans L1.1
      have c22 : (sPut h1 m w).2 m 22 = lI (sO S n v j).2 := (sPut_k (by decide) (by decide)).trans L1.2.1
      by_cases w1 : w.1 = 0
      · have wz0 := nG_zero gw w1
        refine ⟨1, sPut h1 m w, ?_, N2, gLv_n (by omega) (Or.inr ⟨(1, 0), by rw [vw]; exact if_pos w1, rfl, ?_, ?_⟩)⟩
        · rw [f_X10_goesIn, e17, e18]
          exact gBs ek (gIF nk (gBs e1 (gIT p23 (gIT (by rw [w1]; rfl) rfl))))
        · rw [sPut_17, gVw_2 c2, wz0]; rfl
        · rw [sPut_18, gVw_2 c2, wz0]; rfl
      · have nw1 : ¬ lI (w.1 : Int) = 0 := by
          rw [l0, lI_eq (by omega) (by omega) (by omega) (by omega)]; omega
        have w1' : 0 < (iInv w).2 := Nat.pos_of_ne_zero w1
        obtain ⟨s1, s2⟩ := s_sub (sPut h1 m w) m (q := iInv w) (r := sO S n v j) w1' z0 (by show w.2 * (sO S n v j).2 < _; omega) (by show (sO S n v j).1 * w.1 < _; omega) (by show w.1 * (sO S n v j).2 < _; omega)
        by_cases w2 : w.2 = 0
        · have wi := nG_inf gw w2
          have iw0 : iInv w = (0, 1) := by rw [wi]; rfl
          by_cases s0 : (sO S n v j).1 = 0
          · have ds : dS (iInv w) (sO S n v j) = some (0, 1) := by
              rw [iw0]
              refine (dS_eq (nG_one' 0 : nG (0, 1)) (nG_one' 0 : nG (0, 1)) z0).mp ?_
              rw [nG_zero (sO_G S n v j) s0]
              exact (iAdd_zero (nG_one' 0 : nG (0, 1))).symm
            refine ⟨1, sPut h1 m w, ?_, N2, gLv_n (by omega) (Or.inr ⟨(0, 1), by rw [vw]; exact ds, rfl, ?_, ?_⟩)⟩
            · rw [f_X10_goesIn, e17, e18]
              exact gBs ek (gIF nk (gBs e1 (gIT p23 (gIF nw1 (gIT (by rw [w2]; rfl) (gIT (show (sPut h1 m w).2 m 21 = 0 from by rw [c21, s0]; rfl) rfl))))))
            · rw [sPut_17, gVw_2 c2, wi]; rfl
            · rw [sPut_18, gVw_2 c2, wi]; rfl
          · have ds : dS (iInv w) (sO S n v j) = none := by
              rw [iw0]
              unfold dS
              rw [if_neg (show ¬ ((0, 1) : gQ).2 = 0 from fun x => absurd x (by decide)), if_pos (show 0 * (sO S n v j).2 < (sO S n v j).1 * 1 by omega)]
            refine ⟨0, sPut h1 m w, ?_, N2, gLv_n (by omega) (Or.inl ⟨by rw [vw]; exact ds, rfl⟩)⟩
            rw [f_X10_goesIn, e17, e18]
            refine gBs ek (gIF nk (gBs e1 (gIT p23 (gIF nw1 (gIT (by rw [w2]; rfl) (gIF ?_ rfl))))))
            show ¬ (sPut h1 m w).2 m 21 = 0
            have M1 : 0 < M := by
              have w11 : w.1 = 1 := by rw [wi]
              omega
            have gl := Nat.le_mul_of_pos_left (gPro (rW S 100 1000 (-1) n) (gBut (gSon S v) j) v) M1
            rw [c21, l0, lI_eq (by omega) (by omega) (by omega) (by omega)]
            omega
        · have nw2 : ¬ lI (w.2 : Int) = 0 := by
            rw [l0, lI_eq (by omega) (by omega) (by omega) (by omega)]; omega
          cases hd : dS (iInv w) (sO S n v j) with
          | none =>
            obtain ⟨zz, e4, z3, z4⟩ := s1 hd
            have e4' : f_X10_sum m (lI w.2) (lI w.1) (-(sPut h1 m w).2 m 21) ((sPut h1 m w).2 m 22) (sPut h1 m w) = some (mPut (sPut h1 m w) m zz) := by rw [c21, c22]; exact e4
            refine ⟨0, mPut (sPut h1 m w) m zz, ?_, N2.P, gLv_n (by omega) (Or.inl ⟨by rw [vw]; exact hd, rfl⟩)⟩
            rw [f_X10_goesIn, e17, e18]
            refine gBs ek (gIF nk (gBs e1 (gIT p23 (gIF nw1 (gIF nw2 (gBs e4' (gIF ?_ rfl)))))))
            rw [mPut_17, l0, lI_le (by omega) (by omega) (by omega) (by omega)]
            omega
          | some u =>
            have e4 := s2 u hd
            have up := dS_pos w1' z0 hd
            have gu := dS_G z0 hd
            have ub : u.1 ≤ w.2 * (sO S n v j).2 := up.2.1
            have e4' : f_X10_sum m (lI w.2) (lI w.1) (-(sPut h1 m w).2 m 21) ((sPut h1 m w).2 m 22) (sPut h1 m w) = some (sPut (sPut h1 m w) m u) := by rw [c21, c22]; exact e4
            have v17 : (sPut (sPut h1 m w) m u).2 m 17 = lI u.1 := sPut_17 _ _ _
            have v18 : (sPut (sPut h1 m w) m u).2 m 18 = lI u.2 := sPut_18 _ _ _
            have ge : (0 : Int64) ≤ (sPut (sPut h1 m w) m u).2 m 17 := by
              rw [v17, l0, lI_le (by omega) (by omega) (by omega) (by omega)]; omega
            by_cases u1 : u.1 = 0
            · refine ⟨1, gsL (gsL (sPut (sPut h1 m w) m u) m 17 1) m 18 ((sPut (sPut h1 m w) m u).2 m 17), ?_, ((N2.S).L).L, gLv_n (by omega) (Or.inr ⟨u, by rw [vw]; exact hd, rfl, ?_, ?_⟩)⟩
              · rw [f_X10_goesIn, e17, e18]
                exact gBs ek (gIF nk (gBs e1 (gIT p23 (gIF nw1 (gIF nw2 (gBs e4' (gIT ge (gIT (by rw [v17, u1]; rfl) rfl))))))))
              · rw [gVw_2 c2, gsL_nk (by decide), gsL_eq, nG_zero gu u1]; rfl
              · rw [gVw_2 c2, gsL_eq, v17]; rfl
            · refine ⟨1, gsL (gsL (sPut (sPut h1 m w) m u) m 17 ((sPut (sPut h1 m w) m u).2 m 18)) m 18 ((sPut (sPut h1 m w) m u).2 m 17), ?_, ((N2.S).L).L, gLv_n (by omega) (Or.inr ⟨u, by rw [vw]; exact hd, rfl, ?_, ?_⟩)⟩
              · rw [f_X10_goesIn, e17, e18]
                refine gBs ek (gIF nk (gBs e1 (gIT p23 (gIF nw1 (gIF nw2 (gBs e4' (gIT ge (gIF ?_ rfl))))))))
                rw [v17, l0, lI_eq (by omega) (by omega) (by omega) (by omega)]
                omega
              · rw [gVw_2 c2, gsL_nk (by decide), gsL_eq, v18]; rfl
              · rw [gVw_2 c2, gsL_eq, v17]; rfl
theorem gWk_skip {S : gTb} {n p k : Nat} {w : gQ} : ∀ d : Nat, (∀ i, p + k ≤ i → i < p + k + d → gOn S p i = false) → gWk S n p (k + d) w = gWk S n p k w := by
  intro d
  induction d with
  | zero => intro _; rfl
  | succ d ih =>
    intro h
    have off := h (p + (k + d)) (by omega) (by omega)
    rw [show k + (d + 1) = (k + d) + 1 by omega, gWk, off, if_neg Bool.false_ne_true]
    exact ih (fun i h1 h2 => h i h1 (by omega))
theorem m_f55 {h : gHp} {m t n c : Nat} {S : gTb} (R : mRow (h.2 (m + 1)) n c S) (W : gWf t n c S) {p v : Nat} (hp : p < n) (x4 : Int32) : ∀ (k z : Nat), z < v → v < k + z → gOn S p z = true → gOn S z v = true → v < n → ∃ j : Nat, f_X10_find_55 m x4 (jI v) h k (jI z) = some (jI j) ∧ j < v ∧ S 5 j = v ∧ gOn S p j = true := by
  have hn := W.n
  intro k
  induction k with
  | zero => intro z h1 h2; omega
  | succ k ih =>
    intro z hz hk on1 on2 hv
    have ea := m_around R W (p := z) (by omega)
    rw [← jl_1] at ea
    rcases W.ar (show z < n by omega) with ⟨a1, a2, a3⟩ | ⟨a1, a2⟩
    · obtain ⟨u, hu⟩ : ∃ u : Nat, S 5 z = u := ⟨(S 5 z).toNat, by omega⟩
      rw [hu, r4_p (by omega)] at ea
      by_cases e : u = v
      · refine ⟨z, ?_, hz, by rw [hu, e], on1⟩
        rw [f_X10_find_55]
        exact gBs ea (gIT (by rw [e]) rfl)
      · rw [gOn_nx W (by omega) hu, decide_eq_false (by omega), Bool.false_or] at on2
        have le := gOn_lt W (by omega) on2
        obtain ⟨j, q1, q2⟩ := ih u (by omega) (by omega) (gOn_up W hu n p hp (by omega) on1) on2 hv
        refine ⟨j, ?_, q2⟩
        rw [f_X10_find_55]
        exact gBs ea (gIF (jne (by omega) (by omega) (by omega) (by omega) (by omega)) (gBs ea q1))
    · omega
theorem m_f38 {m t n c : Nat} {S : gTb} (W : gWf t n c S) {p : Nat} (hp : p < n) : ∀ (f v : Nat) (h : gHp) (w : gQ) (M : Nat), v - p < f → gOn S p v = true → mRow (h.2 (m + 1)) n c S → (∀ q, q < n → mQ h m q (rR S (-1) n q)) → h.2 m 17 = lI w.1 → h.2 m 18 = lI w.2 → nG w → w.1 ≤ 9999 * M → w.2 ≤ 9999 * M → M * rW S 100 1000 (-1) n v ≤ 1000000000000 → ∃ h', f_X10_find_38 m (jI p) f (jI v) 1 h = some (jI (gWk S n p (v - p) w).1, h') ∧ nFr m h h' ∧ ((gWk S n p (v - p) w).1 = 1 → h'.2 m 17 = lI (gWk S n p (v - p) w).2.1 ∧ h'.2 m 18 = lI (gWk S n p (v - p) w).2.2 ∧ (gWk S n p (v - p) w).2.2 < 9223372036854775808) := by
  have hn := W.n
  intro f
  induction f with
  | zero => intro v h w M hf; omega
  | succ f ih =>
    intro v h w M hf on R Q e17 e18 gw b1 b2 hM
    have vn := gOn_lt W hp on
    have rp : 1 ≤ rW S 100 1000 (-1) n v := rW_pos (by omega) (by omega) n v (by omega) vn.2
    have Mb : M ≤ 1000000000000 := Nat.le_trans (Nat.le_mul_of_pos_right M rp) hM
    by_cases e : v = p
    · subst e
      rw [Nat.sub_self]
      refine ⟨h, ?_, nFr.rf, fun _ => ⟨e17, e18, by show w.2 < _; omega⟩⟩
      rw [f_X10_find_38]
      exact gIT rfl rfl
    · obtain ⟨j, e55, jv, j5, jon⟩ := m_f55 R W hp (jI p) gFuel p (by omega) (by unfold gFuel; omega) (gOn_self W hp) on vn.2
      have jn := gOn_lt W hp jon
      have h4 := W.so vn.2 jn.2 j5
      obtain ⟨x, h1, g1, N1, L1⟩ := m_goesIn R W vn.2 jv j5 h4 Q e17 e18 gw b1 b2 hM
      have sk : gWk S n p (v - p) w = gWk S n p (j - p + 1) w := by
        have q := gWk_skip (S := S) (n := n) (p := p) (k := j - p + 1) (w := w) (v - 1 - j) (fun i i1 i2 => by
          cases hi : gOn S p i with
          | false => rfl
          | true =>
            have ch := gOn_ch W n p hp (by omega) jon hi (by omega)
            rw [gOn_nx W jn.2 j5, decide_eq_false (by omega), Bool.false_or] at ch
            have := gOn_lt W vn.2 ch
            omega)
        rw [show j - p + 1 + (v - 1 - j) = v - p by omega] at q
        exact q
      have st : gWk S n p (j - p + 1) w = if (sO S n v j).2 = 0 then (if (gVw S v w).2 = 0 then (2, w) else (0, w)) else ((dS (gVw S v w) (sO S n v j)).elim (0, w) fun u => gWk S n p (j - p) (gVw S v u)) := by
        rw [gWk, show p + (j - p) = j by omega, jon, if_pos rfl, j5, Int.toNat_natCast]
      have ne : ¬ jI (v : Int) = jI p := jne (by omega) (by omega) (by omega) (by omega) (by omega)
      have step : ∀ r, f_X10_find_38 m (jI p) f (jI j) (jI x) h1 = r → f_X10_find_38 m (jI p) (f + 1) (jI v) 1 h = r := fun r hr => by
        rw [f_X10_find_38]
        exact gIF ne (gIT rfl (gBs e55 (gBs g1 hr)))
      have stop : x ≠ 1 → 0 ≤ x → x ≤ 2 → f_X10_find_38 m (jI p) f (jI j) (jI x) h1 = some (jI x, h1) := fun x1 x2 x3 => by
        obtain ⟨f', rfl⟩ : ∃ f', f = f' + 1 := ⟨f - 1, by omega⟩
        rw [f_X10_find_38]
        by_cases ej : j = p
        · exact gIT (by rw [ej]) rfl
        · exact gIF (jne (by omega) (by omega) (by omega) (by omega) (by omega)) (gIF (jne (b := 1) (by omega) (by omega) (by omega) (by omega) x1) rfl)
      rw [sk, st]
      unfold gLv at L1
      by_cases z : (sO S n v j).2 = 0
      · rw [if_pos z] at L1 ⊢
        by_cases w0 : (gVw S v w).2 = 0
        · rw [if_pos w0] at L1 ⊢
          refine ⟨h1, step _ ?_, N1, fun y => absurd (show (2 : Int) = 1 from y) (by decide)⟩
          rw [stop (by omega) (by omega) (by omega), L1]
        · rw [if_neg w0] at L1 ⊢
          refine ⟨h1, step _ ?_, N1, fun y => absurd (show (0 : Int) = 1 from y) (by decide)⟩
          rw [stop (by omega) (by omega) (by omega), L1]
      · rw [if_neg z] at L1 ⊢
        have z0 := Nat.pos_of_ne_zero z
        rcases L1 with ⟨d1, d2⟩ | ⟨u, d1, d2, d3, d4⟩
        · rw [d1]
          refine ⟨h1, step _ ?_, N1, fun y => absurd (show (0 : Int) = 1 from y) (by decide)⟩
          rw [stop (by omega) (by omega) (by omega), d2]
          rfl
        · rw [d1]
          have mm := st_m W vn.2 jv j5 h4 hM
          have sl := sO_le W (j := j) vn.2
          obtain ⟨sb1, sb2, sb3, sb4⟩ := st_b b1 b2 sl
          have p1 : 1 ≤ gPro (rW S 100 1000 (-1) n) (gBut (gSon S v) j) v := gPro_one fun q hq _ => rW_pos (by omega) (by omega) n q (by omega) (by omega)
          have bb : u.1 ≤ 9999 * (M * gPro (rW S 100 1000 (-1) n) (gBut (gSon S v) j) v) ∧ u.2 ≤ 9999 * (M * gPro (rW S 100 1000 (-1) n) (gBut (gSon S v) j) v) := by
            by_cases i0 : (gVw S v w).2 = 0
            · have ds : dS (gVw S v w) (sO S n v j) = some (1, 0) := if_pos i0
              rw [ds] at d1
              rw [← Option.some.inj d1]
              have m1 : 1 ≤ M := by
                rcases Nat.eq_zero_or_pos M with y | y
                · rw [y] at b1 b2
                  have y1 : w.1 = 0 := by omega
                  have y2 : w.2 = 0 := by omega
                  have := nG_inf gw y2
                  rw [this] at y1
                  exact absurd y1 (by decide)
                · exact y
              have := Nat.mul_pos m1 p1
              exact ⟨by show 1 ≤ _; omega, Nat.zero_le _⟩
            · have dp := dS_pos (Nat.pos_of_ne_zero i0) z0 d1
              by_cases c2 : S 4 v = 2
              · rw [gVw_2 c2] at dp
                have l1 : u.1 ≤ w.2 * (sO S n v j).2 := dp.2.1
                have l2 : u.2 ≤ w.1 * (sO S n v j).2 := dp.2.2
                omega
              · rw [gVw_1 c2] at dp
                omega
          have bv : (gVw S v u).1 ≤ 9999 * (M * gPro (rW S 100 1000 (-1) n) (gBut (gSon S v) j) v) ∧ (gVw S v u).2 ≤ 9999 * (M * gPro (rW S 100 1000 (-1) n) (gBut (gSon S v) j) v) := by
            by_cases c2 : S 4 v = 2
            · rw [gVw_2 c2]; exact ⟨bb.2, bb.1⟩
            · rw [gVw_1 c2]; exact bb
          obtain ⟨h', q1, q2, q3⟩ := ih j h1 (gVw S v u) (M * gPro (rW S 100 1000 (-1) n) (gBut (gSon S v) j) v) (by omega) jon (by rw [(N1.1 (m + 1) (by omega)).2]; exact R) (fun q hq => N1.mq (Q q hq)) d3 d4 (gVw_G (dS_G z0 d1)) bv.1 bv.2 mm.1
          refine ⟨h', step _ ?_, N1.tr q2, q3⟩
          rw [d2]
          exact q1
