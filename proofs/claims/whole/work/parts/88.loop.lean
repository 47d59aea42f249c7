/-! call after call -/
theorem lp_s {α : Type} {b t : Nat} {f g : gHp → Option (α × gHp)} {h : gHp} {Z : gZT} (Q : gOK b (b + 142) t f g) (C : cI b h Z) (M : mI (b + 142) h Z) (W : wI t Z) : ∃ (v : α) (h1 h2 : gHp) (Z' : gZT), f h = some (v, h1) ∧ g h1 = some (v, h2) ∧ cI b h2 Z' ∧ mI (b + 142) h2 Z' ∧ wI (t + 1) Z' := by
  obtain ⟨v, h1, Z', q1, C1, W1, G1, mm⟩ := Q Z h C W
  have M1 : mI (b + 142) h1 Z := M.mv (by rw [G1.i1 (by omega)]) (by rw [G1.i1 (by omega)]) (by rw [G1.i1 (by omega)]) (G1.i1 (by omega)) (G1 _ (by omega)).2 (G1 _ (by omega)).2 (G1 _ (by omega)).2
  obtain ⟨h2, q2, M2, G2⟩ := mm h1 M1
  exact ⟨v, h1, h2, Z', q1, q2, C1.fr G2 (by omega), M2, W1⟩
theorem lp_r {α : Type} {b t : Nat} {f g : gHp → Option α} {h : gHp} {Z : gZT} (Q : gOKr b (b + 142) t f g) (C : cI b h Z) (M : mI (b + 142) h Z) (W : wI t Z) : ∃ v : α, f h = some v ∧ g h = some v := by
  obtain ⟨v, q1, mm⟩ := Q Z h C W
  exact ⟨v, q1, mm h M⟩
theorem lp_z (x : Int32) : ∃ g : Bool, (if x = 0 then some 0 else some 1 : Option Int32) = some (gZ g) := by
  by_cases c : x = 0
  · exact ⟨false, gIT c rfl⟩
  · exact ⟨true, gIF c rfl⟩
theorem lp_up {b L : Nat} {xs : Nat → Int32} (hL : L ≤ 2560) (hS : ∀ (t : Nat) (x1 x2 x3 x4 : Int32), gOK b (b + 142) t (f_X9_solve b x1 x2 x3 x4) (f_X10_solve (b + 142) x1 x2 x3 x4)) (hR : ∀ t : Nat, gOK b (b + 142) t (f_X9_readNetwork b) (f_X10_readNetwork (b + 142))) : ∀ (k t : Nat) (h : gHp) (Z : gZT), t ≤ 512 → 513 < k + t → cI b h Z → mI (b + 142) h Z → wI t Z → f_L_law_18 L xs b (b + 142) k (jI ((5 * t : Nat) : Int)) h = some true := by
  intro k
  induction k with
  | zero => intro t h Z h1 h2; omega
  | succ k ih =>
    intro t h Z ht hk C M W
    have eL : nI L - 5 = jI ((L : Int) - 5) := by rw [nI_jI, jl_5, jI_sub]
    by_cases cl : (L : Int) - 5 < ((5 * t : Nat) : Int)
    · rw [f_L_law_18, eL]
      exact gIT (jlt (by omega) (by omega) (by omega) (by omega) cl) rfl
    have e5 : jI ((5 * t : Nat) : Int) + 5 = jI ((5 * (t + 1) : Nat) : Int) := by rw [jl_5, jI_add]; rfl
    have g0 : gIn (jI ((5 * t : Nat) : Int)) L := jin (by omega) (by omega) (by omega)
    have g1 : gIn (jI ((5 * t : Nat) : Int) + 1) L := by rw [jl_1, jI_add]; exact jin (by omega) (by omega) (by omega)
    have g2 : gIn (jI ((5 * t : Nat) : Int) + 2) L := by rw [jl_2, jI_add]; exact jin (by omega) (by omega) (by omega)
    have g3 : gIn (jI ((5 * t : Nat) : Int) + 3) L := by rw [jl_3, jI_add]; exact jin (by omega) (by omega) (by omega)
    have g4 : gIn (jI ((5 * t : Nat) : Int) + 4) L := by rw [jl_4, jI_add]; exact jin (by omega) (by omega) (by omega)
    have go : ∀ h' Z', cI b h' Z' → mI (b + 142) h' Z' → wI (t + 1) Z' → f_L_law_18 L xs b (b + 142) k (jI ((5 * (t + 1) : Nat) : Int)) h' = some true := fun h' Z' C' M' W' => ih (t + 1) h' Z' (by omega) (by omega) C' M' W'
    have stay := go h Z C M (W.up (by omega))
    have n0 : ¬ nI L - 5 < jI ((5 * t : Nat) : Int) := by rw [eL]; exact jnlt (by omega) (by omega) (by omega) (by omega) (by omega)
    rw [f_L_law_18, e5]
    refine gIF n0 (gIT g0 ?_)
    generalize hz : jI ((5 * (t + 1) : Nat) : Int) = z at go stay ⊢
    by_cases c0 : xs (gN (jI ((5 * t : Nat) : Int))) &&& 31 = 0
    · refine gIT c0 ?_
      obtain ⟨v, h1, h2, Z', q1, q2, C', M', W'⟩ := lp_s (s_type b (b + 142) t (((xs (gN (jI ((5 * t : Nat) : Int) + 1))).toUInt32 % 65536).toInt32)) C M W
      exact gIT g1 (gBs q1 (gIT g1 (gBs q2 (gIT rfl (go _ _ C' M' W')))))
    refine gIF c0 ?_
    by_cases c1 : xs (gN (jI ((5 * t : Nat) : Int))) &&& 31 = 1
    · refine gIT c1 ?_
      obtain ⟨v, h1, h2, Z', q1, q2, C', M', W'⟩ := lp_s (s_clear b (b + 142) t ) C M W
      exact gBs q1 (gBs q2 (gIT rfl (go _ _ C' M' W')))
    refine gIF c1 ?_
    by_cases c2 : xs (gN (jI ((5 * t : Nat) : Int))) &&& 31 = 2
    · refine gIT c2 ?_
      obtain ⟨v, h1, h2, Z', q1, q2, C', M', W'⟩ := lp_s (hR t) C M W
      exact gBs q1 (gBs q2 (gIT rfl (go _ _ C' M' W')))
    refine gIF c2 ?_
    by_cases c3 : xs (gN (jI ((5 * t : Nat) : Int))) &&& 31 = 3
    · refine gIT c3 ?_
      obtain ⟨v, h1, h2, Z', q1, q2, C', M', W'⟩ := lp_s (s_perform b (b + 142) t ) C M W
      exact gBs q1 (gBs q2 (gIT rfl (go _ _ C' M' W')))
    refine gIF c3 ?_
    by_cases c4 : xs (gN (jI ((5 * t : Nat) : Int))) &&& 31 = 4
    · refine gIT c4 ?_
      obtain ⟨v, h1, h2, Z', q1, q2, C', M', W'⟩ := lp_s (s_fold b (b + 142) t (xs (gN (jI ((5 * t : Nat) : Int) + 1)))) C M W
      exact gIT g1 (gBs q1 (gIT g1 (gBs q2 (gIT rfl (go _ _ C' M' W')))))
    refine gIF c4 ?_
    by_cases c5 : xs (gN (jI ((5 * t : Nat) : Int))) &&& 31 = 5
    · refine gIT c5 ?_
      obtain ⟨g, eg⟩ := lp_z (xs (gN (jI ((5 * t : Nat) : Int) + 1)))
      obtain ⟨v, h1, h2, Z', q1, q2, C', M', W'⟩ := lp_s (s_foldAll b (b + 142) t g) C M W
      exact gIT g1 (gBs eg (gBs q1 (gIT g1 (gBs eg (gBs q2 (gIT rfl (go _ _ C' M' W')))))))
    refine gIF c5 ?_
    by_cases c6 : xs (gN (jI ((5 * t : Nat) : Int))) &&& 31 = 6
    · refine gIT c6 ?_
      obtain ⟨v, h1, h2, Z', q1, q2, C', M', W'⟩ := lp_s (s_unfold b (b + 142) t (xs (gN (jI ((5 * t : Nat) : Int) + 1)))) C M W
      exact gIT g1 (gBs q1 (gIT g1 (gBs q2 (gIT rfl (go _ _ C' M' W')))))
    refine gIF c6 ?_
    by_cases c7 : xs (gN (jI ((5 * t : Nat) : Int))) &&& 31 = 7
    · refine gIT c7 ?_
      obtain ⟨v, h1, h2, Z', q1, q2, C', M', W'⟩ := lp_s (s_note b (b + 142) t (by omega) (xs (gN (jI ((5 * t : Nat) : Int) + 1)))) C M W
      exact gIT g1 (gBs q1 (gIT g1 (gBs q2 (gIT rfl (go _ _ C' M' W')))))
    refine gIF c7 ?_
    by_cases c8 : xs (gN (jI ((5 * t : Nat) : Int))) &&& 31 = 8
    · refine gIT c8 ?_
      obtain ⟨v, h1, h2, Z', q1, q2, C', M', W'⟩ := lp_s (s_undo b (b + 142) t ) C M W
      exact gBs q1 (gBs q2 (gIT rfl (go _ _ C' M' W')))
    refine gIF c8 ?_
    by_cases c9 : xs (gN (jI ((5 * t : Nat) : Int))) &&& 31 = 9
    · refine gIT c9 ?_
      obtain ⟨v, h1, h2, Z', q1, q2, C', M', W'⟩ := lp_s (s_keep b (b + 142) t ) C M W
      exact gBs q1 (gBs q2 (gIT rfl (go _ _ C' M' W')))
    refine gIF c9 ?_
    by_cases c10 : xs (gN (jI ((5 * t : Nat) : Int))) &&& 31 = 10
    · refine gIT c10 ?_
      obtain ⟨v, h1, h2, Z', q1, q2, C', M', W'⟩ := lp_s (s_restore b (b + 142) t ) C M W
      exact gBs q1 (gBs q2 (gIT rfl (go _ _ C' M' W')))
    refine gIF c10 ?_
    by_cases c11 : xs (gN (jI ((5 * t : Nat) : Int))) &&& 31 = 11
    · refine gIT c11 ?_
      obtain ⟨v, q1, q2⟩ := lp_r (q_part b (b + 142) t (xs (gN (jI ((5 * t : Nat) : Int) + 1))) (xs (gN (jI ((5 * t : Nat) : Int) + 2)))) C M W
      exact gIT g1 (gIT g2 (gBs q1 (gIT g1 (gIT g2 (gBs q2 (gIT rfl stay))))))
    refine gIF c11 ?_
    by_cases c12 : xs (gN (jI ((5 * t : Nat) : Int))) &&& 31 = 12
    · refine gIT c12 ?_
      obtain ⟨v, q1, q2⟩ := lp_r (q_arm b (b + 142) t (xs (gN (jI ((5 * t : Nat) : Int) + 1))) (xs (gN (jI ((5 * t : Nat) : Int) + 2)))) C M W
      exact gIT g1 (gIT g2 (gBs q1 (gIT g1 (gIT g2 (gBs q2 (gIT rfl stay))))))
    refine gIF c12 ?_
    by_cases c13 : xs (gN (jI ((5 * t : Nat) : Int))) &&& 31 = 13
    · refine gIT c13 ?_
      obtain ⟨v, h1, h2, Z', q1, q2, C', M', W'⟩ := lp_s (q_resistance b (b + 142) t (xs (gN (jI ((5 * t : Nat) : Int) + 1))) (xs (gN (jI ((5 * t : Nat) : Int) + 2)))) C M W
      exact gIT g1 (gIT g2 (gBs q1 (gIT g1 (gIT g2 (gBs q2 (gIT rfl (go _ _ C' M' W')))))))
    refine gIF c13 ?_
    by_cases c14 : xs (gN (jI ((5 * t : Nat) : Int))) &&& 31 = 14
    · refine gIT c14 ?_
      obtain ⟨v, h1, h2, Z', q1, q2, C', M', W'⟩ := lp_s (q_folded b (b + 142) t (xs (gN (jI ((5 * t : Nat) : Int) + 1))) (xs (gN (jI ((5 * t : Nat) : Int) + 2)))) C M W
      exact gIT g1 (gIT g2 (gBs q1 (gIT g1 (gIT g2 (gBs q2 (gIT rfl (go _ _ C' M' W')))))))
    refine gIF c14 ?_
    by_cases c15 : xs (gN (jI ((5 * t : Nat) : Int))) &&& 31 = 15
    · refine gIT c15 ?_
      obtain ⟨v, h1, h2, Z', q1, q2, C', M', W'⟩ := lp_s (q_voltage b (b + 142) t (xs (gN (jI ((5 * t : Nat) : Int) + 1))) (xs (gN (jI ((5 * t : Nat) : Int) + 2)))) C M W
      exact gIT g1 (gIT g2 (gBs q1 (gIT g1 (gIT g2 (gBs q2 (gIT rfl (go _ _ C' M' W')))))))
    refine gIF c15 ?_
    by_cases c16 : xs (gN (jI ((5 * t : Nat) : Int))) &&& 31 = 16
    · refine gIT c16 ?_
      obtain ⟨v, h1, h2, Z', q1, q2, C', M', W'⟩ := lp_s (q_reading b (b + 142) t (xs (gN (jI ((5 * t : Nat) : Int) + 1))) (xs (gN (jI ((5 * t : Nat) : Int) + 2)))) C M W
      exact gIT g1 (gIT g2 (gBs q1 (gIT g1 (gIT g2 (gBs q2 (gIT rfl (go _ _ C' M' W')))))))
    refine gIF c16 ?_
    by_cases c17 : xs (gN (jI ((5 * t : Nat) : Int))) &&& 31 = 17
    · refine gIT c17 ?_
      obtain ⟨v, h1, h2, Z', q1, q2, C', M', W'⟩ := lp_s (q_loss b (b + 142) t (xs (gN (jI ((5 * t : Nat) : Int) + 1)))) C M W
      exact gIT g1 (gBs q1 (gIT g1 (gBs q2 (gIT rfl (go _ _ C' M' W')))))
    refine gIF c17 ?_
    by_cases c18 : xs (gN (jI ((5 * t : Nat) : Int))) &&& 31 = 18
    · refine gIT c18 ?_
      obtain ⟨v, q1, q2⟩ := lp_r (q_noted b (b + 142) t (by omega) (xs (gN (jI ((5 * t : Nat) : Int) + 1))) (xs (gN (jI ((5 * t : Nat) : Int) + 2)))) C M W
      exact gIT g1 (gIT g2 (gBs q1 (gIT g1 (gIT g2 (gBs q2 (gIT rfl stay))))))
    refine gIF c18 ?_
    by_cases c19 : xs (gN (jI ((5 * t : Nat) : Int))) &&& 31 = 19
    · refine gIT c19 ?_
      obtain ⟨v, h1, h2, Z', q1, q2, C', M', W'⟩ := lp_s (hS t (xs (gN (jI ((5 * t : Nat) : Int) + 1))) (xs (gN (jI ((5 * t : Nat) : Int) + 2))) (xs (gN (jI ((5 * t : Nat) : Int) + 3))) (xs (gN (jI ((5 * t : Nat) : Int) + 4)))) C M W
      exact gIT g1 (gIT g2 (gIT g3 (gIT g4 (gBs q1 (gIT g1 (gIT g2 (gIT g3 (gIT g4 (gBs q2 (gIT rfl (go _ _ C' M' W')))))))))))
    refine gIF c19 ?_
    by_cases c20 : xs (gN (jI ((5 * t : Nat) : Int))) &&& 31 = 20
    · refine gIT c20 ?_
      obtain ⟨v, h1, h2, Z', q1, q2, C', M', W'⟩ := lp_s (s_fault b (b + 142) t (xs (gN (jI ((5 * t : Nat) : Int) + 1))) (xs (gN (jI ((5 * t : Nat) : Int) + 2))) (xs (gN (jI ((5 * t : Nat) : Int) + 3)))) C M W
      exact gIT g1 (gIT g2 (gIT g3 (gBs q1 (gIT g1 (gIT g2 (gIT g3 (gBs q2 (gIT rfl (go _ _ C' M' W')))))))))
    refine gIF c20 ?_
    by_cases c21 : xs (gN (jI ((5 * t : Nat) : Int))) &&& 31 = 21
    · refine gIT c21 ?_
      obtain ⟨v, h1, h2, Z', q1, q2, C', M', W'⟩ := lp_s (q_worst b (b + 142) t ) C M W
      exact gBs q1 (gBs q2 (gIT rfl (go _ _ C' M' W')))
    refine gIF c21 ?_
    by_cases c22 : xs (gN (jI ((5 * t : Nat) : Int))) &&& 31 = 22
    · refine gIT c22 ?_
      obtain ⟨v, q1, q2⟩ := lp_r (q_count b (b + 142) t (by omega) (xs (gN (jI ((5 * t : Nat) : Int) + 1)))) C M W
      exact gIT g1 (gBs q1 (gIT g1 (gBs q2 (gIT rfl stay))))
    refine gIF c22 ?_
    exact stay
/-- the state of a new bench -/
def gT0 : gTb := fun f p => if f = 0 then (if p = 1 then 12 else if p = 2 then 100 else 0) else 0
def gZ0 : gZT := ((0, fun _ => 0), (0, 0, gT0), (0, fun _ => (0, 0, gT0)), (false, (0, 0, gT0)))
theorem lp_w0 : gWf 0 0 0 gT0 := by
  refine ⟨by decide, fun p h => absurd h (by omega), fun p h => absurd h (by omega), fun p h => absurd h (by omega), fun p h => absurd h (by omega), fun p h => absurd h (by omega), fun p q h => absurd h (by omega), fun p h => absurd h (by omega), fun l h => ⟨by show (0 : Int) ≤ 0; omega, by show (0 : Int) ≤ 0; omega⟩, fun l h h3 => absurd rfl h3, fun p h => absurd h (by omega), fun k h => absurd h (by omega)⟩
theorem lp_wI : wI 0 gZ0 := ⟨by show (0 : Nat) ≤ 40; omega, lp_w0, by show (0 : Nat) ≤ 5; omega, fun i hi => absurd hi (Nat.not_lt_zero i), fun e => absurd e Bool.false_ne_true⟩
theorem lp_cI (b : Nat) : cI b (hT0 b) gZ0 := by
  refine ⟨⟨(congrFun (i0I b 1) 1).trans rfl, fun i hi => absurd hi (Nat.not_lt_zero i)⟩, ⟨⟨(congrFun (i0I b 4) 4).trans rfl, fun p hp => absurd hp (Nat.not_lt_zero p), fun p hp => absurd hp (Nat.not_lt_zero p), fun p hp => absurd hp (Nat.not_lt_zero p), fun l hl => ?_⟩, ⟨(congrFun (i0I b 9) 3).trans rfl, fun p hp => absurd hp (Nat.not_lt_zero p), fun p hp => absurd hp (Nat.not_lt_zero p), fun p hp => absurd hp (Nat.not_lt_zero p)⟩, ⟨fun l hl h3 => absurd rfl h3, fun l hl h3 => absurd rfl h3⟩, fun p hp => absurd hp (Nat.not_lt_zero p), (congrFun (i0I b 3) 5).trans rfl, (congrFun (i0I b 3) 6).trans rfl, (congrFun (i0I b 3) 7).trans rfl⟩, ⟨0, by omega, (congrFun (i0I b 42) 1).trans rfl, (congrFun (i0I b 42) 2).trans rfl, fun i hi => absurd hi (Nat.not_lt_zero i)⟩, (congrFun (i0I b 0) 9).trans rfl, fun e => absurd e Bool.false_ne_true⟩
  exact (congrFun (i0I b 8) l).trans (if_pos hl)
theorem lp_mI (b : Nat) : mI (b + 142) (hT0 b) gZ0 := by
  refine ⟨⟨(congrFun (i0I b 142) 5).trans rfl, fun i hi => absurd hi (Nat.not_lt_zero i)⟩, ⟨⟨(congrFun (i0L b 143) 0).trans rfl, (congrFun (i0L b 143) 1).trans rfl, (congrFun (i0L b 143) 2).trans rfl, (congrFun (i0L b 143) 3).trans rfl, (congrFun (i0L b 143) 4).trans rfl⟩, fun l hl => ?_, fun l hl h3 => absurd rfl h3, fun p hp => absurd hp (Nat.not_lt_zero p), fun p hp => absurd hp (Nat.not_lt_zero p)⟩, ⟨(congrFun (i0I b 142) 2).trans rfl, fun i hi => absurd hi (Nat.not_lt_zero i)⟩, (congrFun (i0I b 142) 4).trans rfl, fun e => absurd e Bool.false_ne_true⟩
  refine (congrFun (i0L b 143) (8 + 3 * l + 2)).trans ?_
  show (if 8 + 3 * l + 2 = 2 then (100 : Int64) else if 8 + 3 * l + 2 = 1 then 12 else 0) = _
  rw [if_neg (by omega), if_neg (by omega)]
  rfl
