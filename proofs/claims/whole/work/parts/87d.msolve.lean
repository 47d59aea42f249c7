/-! the reference: one level down the way -/
theorem gSum_inf {f : Nat → gQ} {P : Nat → Bool} {i : Nat} (hP : P i = true) (h0 : (f i).2 = 0) : ∀ N, i < N → (gSum f P N).2 = 0 := by
  intro N
  induction N with
  | zero => intro h; omega
  | succ N ih =>
    intro h
    by_cases e : P N = true
    · rw [gSum_T e, iAdd_z]
      by_cases e2 : N = i
      · rw [e2]; exact Or.inr h0
      · exact Or.inl (ih (by omega))
    · rw [gSum_F e]
      refine ih ?_
      by_cases e2 : N = i
      · rw [e2] at e; exact absurd hP e
      · omega
theorem gSum_fin {f : Nat → gQ} {P : Nat → Bool} : ∀ N, (∀ q, q < N → P q = true → (f q).2 ≠ 0) → 0 < (gSum f P N).2 := by
  intro N
  induction N with
  | zero => intro _; exact (by decide : 0 < 1)
  | succ N ih =>
    intro h
    have i := ih (fun q hq => h q (by omega))
    by_cases e : P N = true
    · rw [gSum_T e]
      exact iAdd_pos i (Nat.pos_of_ne_zero (h N (by omega) e))
    · rw [gSum_F e]; exact i
def nFr (m : Nat) (h h' : gHp) : Prop := (∀ y, y ≠ m → h'.1 y = h.1 y ∧ h'.2 y = h.2 y) ∧ ∀ k, k ≠ 23 → h'.1 m k = h.1 m k
theorem nFr.rf {m : Nat} {h : gHp} : nFr m h h := ⟨fun _ _ => ⟨rfl, rfl⟩, fun _ _ => rfl⟩
theorem nFr.tr {m : Nat} {h h1 h2 : gHp} (p : nFr m h h1) (q : nFr m h1 h2) : nFr m h h2 := ⟨fun y hy => ⟨(q.1 y hy).1.trans (p.1 y hy).1, (q.1 y hy).2.trans (p.1 y hy).2⟩, fun k hk => (q.2 k hk).trans (p.2 k hk)⟩
theorem nFr.L {m k : Nat} {v : Int64} {h h1 : gHp} (p : nFr m h h1) : nFr m h (gsL h1 m k v) := p.tr ⟨fun y hy => ⟨rfl, rL_n hy⟩, fun _ _ => rfl⟩
theorem nFr.S {m : Nat} {q : gQ} {h h1 : gHp} (p : nFr m h h1) : nFr m h (sPut h1 m q) := (p.L).L
theorem nFr.P {m : Nat} {q : Int × Int} {h h1 : gHp} (p : nFr m h h1) : nFr m h (mPut h1 m q) := (p.L).L
theorem nFr.mq {m q : Nat} {r : gQ} {h h1 : gHp} (p : nFr m h h1) (H : mQ h m q r) : mQ h1 m q r := H.mv (p.1 _ (by omega)).2 (p.1 _ (by omega)).2
theorem nFr.fr {m : Nat} {h h1 : gHp} (p : nFr m h h1) : mFr m h h1 := ⟨fun x x1 _ _ _ _ => p.1 x x1, p.2⟩
theorem mPut_17 (h : gHp) (m : Nat) (q : Int × Int) : (mPut h m q).2 m 17 = lI q.1 := by
  unfold mPut
  rw [gsL_nk (by decide), gsL_eq]
def gLv (S : gTb) (v m : Nat) (w s : gQ) (x : Int) (h' : gHp) : Prop := if s.2 = 0 then x = (if (gVw S v w).2 = 0 then 2 else 0) else (dS (gVw S v w) s = none ∧ x = 0) ∨ ∃ u, dS (gVw S v w) s = some u ∧ x = 1 ∧ h'.2 m 17 = lI (gVw S v u).1 ∧ h'.2 m 18 = lI (gVw S v u).2
theorem gLv_n {S : gTb} {v m : Nat} {w s : gQ} {x : Int} {h' : gHp} (z : s.2 ≠ 0) (k : (dS (gVw S v w) s = none ∧ x = 0) ∨ ∃ u, dS (gVw S v w) s = some u ∧ x = 1 ∧ h'.2 m 17 = lI (gVw S v u).1 ∧ h'.2 m 18 = lI (gVw S v u).2) : gLv S v m w s x h' := by
  unfold gLv
  rw [if_neg z]
  exact k
theorem gLv_z {S : gTb} {v m : Nat} {w s : gQ} {x : Int} {h' : gHp} (z : s.2 = 0) (k : x = if (gVw S v w).2 = 0 then 2 else 0) : gLv S v m w s x h' := by
  unfold gLv
  rw [if_pos z]
  exact k
theorem m_g30 {m t n c : Nat} {S : gTb} (W : gWf t n c S) {v j : Nat} (hv : v < n) (hj : j < v) (h5 : S 5 j = v) (c1 : S 4 v = 1) {w : gQ} (gw : nG w) {M : Nat} (b1 : w.1 ≤ 9999 * M) (b2 : w.2 ≤ 9999 * M) (hM : M * rW S 100 1000 (-1) n v ≤ 1000000000000) : ∀ (r i f : Nat) (h : gHp), i + r = v → r < f → mRow (h.2 (m + 1)) n c S → (∀ q, q < n → mQ h m q (rR S (-1) n q)) → (∀ q, q < i → gBut (gSon S v) j q = true → (gVw S v (rR S (-1) n q)).2 ≠ 0) → ∃ (x : Int) (h' : gHp), f_X10_goesIn_30 m (jI v) (jI j) (lI w.1) (lI w.2) f (lI (gSum (fun q => gVw S v (rR S (-1) n q)) (gBut (gSon S v) j) i).1) (lI (gSum (fun q => gVw S v (rR S (-1) n q)) (gBut (gSon S v) j) i).2) (jI i) h = some (jI x, h') ∧ nFr m h h' ∧ gLv S v m w (sO S n v j) x h' := by
  intro r
  have hn := W.n
  have h4 : S 4 v ≠ 0 := by omega
  have c2 : S 4 v ≠ 2 := by omega
  have Mb : M ≤ 1000000000000 := Nat.le_trans (Nat.le_mul_of_pos_right M (rW_pos (by omega) (by omega) n v (by omega) hv)) hM
  have sl := sO_le W (j := j) hv
  have mm := st_m W hv hj h5 h4 hM
  obtain ⟨sb1, sb2, sb3, sb4⟩ := st_b b1 b2 sl
  induction r with
  | zero =>
    intro i f h hi hf R Q hs
    obtain ⟨f', rfl⟩ : ∃ f', f = f' + 1 := ⟨f - 1, by omega⟩
    have ei : i = v := by omega
    subst ei
    have z0 := gSum_fin (f := fun q => gVw S i (rR S (-1) n q)) (P := gBut (gSon S i) j) i hs
    show ∃ (x : Int) (h' : gHp), f_X10_goesIn_30 m (jI i) (jI j) (lI w.1) (lI w.2) (f' + 1) (lI (sO S n i j).1) (lI (sO S n i j).2) (jI i) h = some (jI x, h') ∧ nFr m h h' ∧ gLv S i m w (sO S n i j) x h'
    have z0' : 0 < (sO S n i j).2 := z0
    have le : jI (i : Int) ≤ jI i := jle (by omega) (by omega) (by omega) (by omega) (by omega)
    have wz : gsL (gsL h m 17 (lI w.1)) m 18 (lI w.2) = sPut h m w := rfl
    by_cases w2 : w.2 = 0
    · refine ⟨1, sPut h m w, ?_, nFr.rf.S, gLv_n (by omega) (Or.inr ⟨(1, 0), by rw [gVw_1 c2]; exact if_pos w2, rfl, ?_, ?_⟩)⟩
      · rw [f_X10_goesIn_30, wz]
        refine gIT le (gBs (v := sPut h m w) (gIT ?_ rfl) (gIT ?_ rfl))
        · rw [l0, lI_le (by omega) (by omega) (by omega) (by omega)]; omega
        · rw [sPut_17, l0, lI_le (by omega) (by omega) (by omega) (by omega)]; omega
      · rw [sPut_17, gVw_1 c2, nG_inf gw w2]
      · rw [sPut_18, gVw_1 c2, nG_inf gw w2]
    · have w2' := Nat.pos_of_ne_zero w2
      obtain ⟨s1, s2⟩ := s_sub (sPut h m w) m (q := w) (r := sO S n i j) w2' z0' (by omega) (by omega) (by omega)
      have n5 : ¬ lI (w.2 : Int) ≤ 0 := by rw [l0, lI_le (by omega) (by omega) (by omega) (by omega)]; omega
      cases hd : dS w (sO S n i j) with
      | none =>
        obtain ⟨zz, e4, z3, z4⟩ := s1 hd
        refine ⟨0, mPut (sPut h m w) m zz, ?_, (nFr.rf.S).P, gLv_n (by omega) (Or.inl ⟨by rw [gVw_1 c2]; exact hd, rfl⟩)⟩
        rw [f_X10_goesIn_30, wz]
        refine gIT le (gBs (v := mPut (sPut h m w) m zz) (gIF n5 (gBs e4 rfl)) (gIF ?_ rfl))
        rw [mPut_17, l0, lI_le (by omega) (by omega) (by omega) (by omega)]
        omega
      | some u =>
        have e4 := s2 u hd
        have up := dS_pos w2' z0' hd
        refine ⟨1, sPut (sPut h m w) m u, ?_, (nFr.rf.S).S, gLv_n (by omega) (Or.inr ⟨u, by rw [gVw_1 c2]; exact hd, rfl, by rw [sPut_17, gVw_1 c2], by rw [sPut_18, gVw_1 c2]⟩)⟩
        rw [f_X10_goesIn_30, wz]
        refine gIT le (gBs (v := sPut (sPut h m w) m u) (gIF n5 (gBs e4 rfl)) (gIT ?_ rfl))
        rw [sPut_17, l0, lI_le (by omega) (by omega) (by omega) (by omega)]
        omega
  | succ r ih =>
    intro i f h hi hf R Q hs
    obtain ⟨f', rfl⟩ : ∃ f', f = f' + 1 := ⟨f - 1, by omega⟩
    have nle : ¬ jI (v : Int) ≤ jI i := jnle (by omega) (by omega) (by omega) (by omega) (by omega)
    have ea := m_around R W (p := i) (by omega)
    rw [← jl_1] at ea
    have ei : jI (i : Int) + 1 = jI ((i + 1 : Nat) : Int) := by rw [jl_1, jI_add]; rfl
    have ar : -1 ≤ S 5 i ∧ S 5 i < n := by
      rcases W.ar (show i < n by omega) with ⟨x1, x2, x3⟩ | ⟨x1, x2⟩ <;> omega
    have g11 : gIn (jI (i : Int)) 11 := jin (by omega) (by omega) (by omega)
    have r9 := rR_9 W (x := -1) (p := i) (by omega)
    have skip : ¬ gBut (gSon S v) j i = true → ∃ (x : Int) (h' : gHp), f_X10_goesIn_30 m (jI v) (jI j) (lI w.1) (lI w.2) f' (lI (gSum (fun q => gVw S v (rR S (-1) n q)) (gBut (gSon S v) j) i).1) (lI (gSum (fun q => gVw S v (rR S (-1) n q)) (gBut (gSon S v) j) i).2) (jI ((i + 1 : Nat) : Int)) h = some (jI x, h') ∧ nFr m h h' ∧ gLv S v m w (sO S n v j) x h' := fun e => by
      have q := ih (i + 1) f' h (by omega) (by omega) R Q (fun q hq hp => by
        by_cases e2 : q = i
        · rw [e2] at hp; exact absurd hp e
        · exact hs q (by omega) hp)
      rw [gSum_F e] at q
      exact q
    by_cases c5 : S 5 i = v
    · have e5 : jI (r4 (S 5 i)) = jI v := by rw [r4_p (by omega), c5]
      by_cases cj : i = j
      · obtain ⟨x, h', q1, q2, q3⟩ := skip (by
          unfold gBut
          rw [decide_eq_true cj, Bool.not_true, Bool.and_false]; exact Bool.false_ne_true)
        refine ⟨x, h', ?_, q2, q3⟩
        rw [f_X10_goesIn_30, ei]
        exact gIF nle (gBs ea (gIT e5 (gIT (by rw [cj]) q1)))
      · have hP : gBut (gSon S v) j i = true := by
          unfold gBut
          rw [decide_eq_false cj, show gSon S v i = true from decide_eq_true c5]; rfl
        have nj : ¬ jI (i : Int) = jI j := jne (by omega) (by omega) (by omega) (by omega) (by omega)
        have Qi := Q i (by omega)
        by_cases z : (rR S (-1) n i).2 = 0
        · have sz : (sO S n v j).2 = 0 := gSum_inf (f := fun q => gVw S v (rR S (-1) n q)) hP (by show (gVw S v (rR S (-1) n i)).2 = 0; rw [gVw_1 c2]; exact z) v (by omega)
          refine ⟨if w.2 = 0 then 2 else 0, h, ?_, nFr.rf, ?_⟩
          · rw [f_X10_goesIn_30, gNp (by omega)]
            refine gIF nle (gBs ea (gIT e5 (gIF nj (gIT g11 (gIT (by rw [Qi.2, z]; rfl) ?_)))))
            by_cases w2 : w.2 = 0
            · rw [if_pos w2]
              exact gIT (by rw [w2]; rfl) rfl
            · rw [if_neg w2]
              refine gIF ?_ rfl
              rw [l0, lI_eq (by omega) (by omega) (by omega) (by omega)]
              omega
          · exact gLv_z sz (by rw [gVw_1 c2])
        · have sR := sum_R W hv h4 (x := -1) (P := gBut (gSon S v) j) (fun q hq hp => by
            unfold gBut at hp
            exact (Bool.and_eq_true_iff.mp hp).1) false (i := i) (by omega) hP
          have es : gSum (fun q => if false = true then iInv (rR S (-1) n q) else rR S (-1) n q) (gBut (gSon S v) j) i = gSum (fun q => gVw S v (rR S (-1) n q)) (gBut (gSon S v) j) i := gSum_congr fun q hq => ⟨rfl, fun _ => by rw [gVw_1 c2]; rfl⟩
          rw [es] at sR
          have zf := gSum_fin (f := fun q => gVw S v (rR S (-1) n q)) (P := gBut (gSon S v) j) i hs
          have add := s_sum h m (q := gSum (fun q => gVw S v (rR S (-1) n q)) (gBut (gSon S v) j) i) (r := rR S (-1) n i) (by omega) (by omega) (by omega) zf (Nat.pos_of_ne_zero z)
          rw [← Qi.1, ← Qi.2] at add
          have F1 : nFr m h (sPut h m (iAdd (gSum (fun q => gVw S v (rR S (-1) n q)) (gBut (gSon S v) j) i) (rR S (-1) n i))) := nFr.rf.S
          obtain ⟨x, h', q1, q2, q3⟩ := ih (i + 1) f' _ (by omega) (by omega) (by rw [(F1.1 (m + 1) (by omega)).2]; exact R) (fun q hq => F1.mq (Q q hq)) (fun q hq hp => by
            by_cases e2 : q = i
            · rw [e2, gVw_1 c2]; exact z
            · exact hs q (by omega) hp)
          rw [gSum_T hP, gVw_1 c2] at q1
          refine ⟨x, h', ?_, F1.tr q2, q3⟩
          rw [f_X10_goesIn_30, ei, gNp (by omega)]
          refine gIF nle (gBs ea (gIT e5 (gIF nj (gIT g11 (gIF ?_ (gIT g11 (gIT g11 (gBs add ?_))))))))
          · rw [Qi.2, l0, lI_eq (by omega) (by omega) (by omega) (by omega)]
            omega
          · rw [sPut_17, sPut_18]
            exact q1
    · obtain ⟨x, h', q1, q2, q3⟩ := skip (by
        unfold gBut
        rw [show gSon S v i = false from decide_eq_false c5, Bool.false_and]; exact Bool.false_ne_true)
      refine ⟨x, h', ?_, q2, q3⟩
      rw [f_X10_goesIn_30, ei]
      refine gIF nle (gBs ea (gIF ?_ q1))
      have : r4 (S 5 i) ≠ (v : Int) := fun e => c5 ((r4_eq (by omega)).mp e)
      have rb : -4 ≤ r4 (S 5 i) ∧ r4 (S 5 i) < 11 := by unfold r4; split <;> omega
      exact jne (by omega) (by omega) (by omega) (by omega) this
