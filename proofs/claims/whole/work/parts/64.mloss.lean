/-! the reference's voltages, readings and losses -/
theorem m_layVoltages {h : gHp} {m t n c : Nat} {S : gTb} (R : mRow (h.2 (m + 1)) n c S) (W : gWf t n c S) {x : Int} (Q : ∀ q, q < n → mQ h m q (rR S x n q)) {p : Nat} (hp : p < n) (hx : x ≤ p) : ∃ h', f_X10_layVoltages m (jI p) h = some h' ∧ mV h' m p (vV S (rR S x n) p) ∧ mFr m h h' := by
  have hn := W.n
  have hs : (((S 0 1).toNat : Nat) : Int) = S 0 1 := by have := W.1; omega
  have e0 := m_parts R hn
  have eI : gsL (gsL h (m + 11) (n - 1) (h.2 (m + 1) 1)) (m + 12) (n - 1) 1 = vPut h m (n - 1) ((S 0 1).toNat, 1) := by
    rw [R.1.2.1, ← hs]; rfl
  obtain ⟨o, eo, H1, H2⟩ := gDn (fun k i s1 => f_X10_layVoltages_32 m (jI p) k (jI ((i : Int) - 1)) s1) p (fun i s1 => i ≤ n - 1 ∧ (∀ q, i ≤ q → q < n → mV s1 m q (vV S (rR S x n) q)) ∧ mFr m h s1 ∧ s1.2 (m + 9) = h.2 (m + 9) ∧ s1.2 (m + 10) = h.2 (m + 10)) (fun h' => mV h' m p (vV S (rR S x n) p) ∧ mFr m h h') (by
    intro k s1 hI
    refine ⟨s1, ?_, hI.2.1 p (Nat.le_refl _) hp, hI.2.2.1⟩
    rw [f_X10_layVoltages_32]
    exact gIT (jlt (by omega) (by omega) (by omega) (by omega) (by omega)) rfl) (by
    intro k i s1 hi hI
    obtain ⟨hin, QV, F, U9, U10⟩ := hI
    left
    try dsimp only
    have ei : ((i + 1 : Nat) : Int) - 1 = i := by omega
    rw [ei]
    have Rs : mRow (s1.2 (m + 1)) n c S := by rw [F.row]; exact R
    rcases W.ar (p := i) (by omega) with ⟨a1, a2, a3⟩ | ⟨a1, a2⟩
    · obtain ⟨u, hu⟩ : ∃ u : Nat, S 5 i = u := ⟨(S 5 i).toNat, by omega⟩
      have hun : u < n := by omega
      have vu := vV_9 W (x := x) hun (by omega)
      have vi := vV_9 W (x := x) (p := i) (by omega) (by omega)
      have eV : vV S (rR S x n) i = vStep S (rR S x n) (vV S (rR S x n) u) u i := vV_e W (by omega) hu
      have e1 := m_around Rs W (p := i) (by omega)
      rw [hu, r4_p (by omega)] at e1
      obtain ⟨h', e2, E1, F2, K2⟩ := m_layVoltage Rs W (x := x) (fun q hq => (Q q hq).mv U9 U10) (p := i) (by omega) hu (by omega) (QV u (by omega) hun) vu.1 (by omega) (by omega) vu.2.1 (by rw [← eV]; omega) (by rw [← eV]; omega)
      rw [← eV] at e2
      refine ⟨vPut h' m i (vV S (rR S x n) i), ?_, by omega, fun q h1 h2 => ?_, ?_, ?_, ?_⟩
      · rw [f_X10_layVoltages_32]
        refine gIF (jnlt (by omega) (by omega) (by omega) (by omega) (by omega)) ?_
        rw [jl_1]
        refine gBs e1 (gBs e2 ?_)
        rw [jI_neg, jI_add]
        rfl
      · by_cases e : q = i
        · subst e; exact vPut_V _ _ _ _
        · exact vPut_k e (K2 q _ e (QV q (by omega) h2))
      · exact (F.tr ⟨fun y q1 q2 q3 q4 q5 => ⟨by rw [E1], F2 y q1 q4 q5⟩, fun k _ => by rw [E1]⟩).V
      · rw [vPut_2 (by omega) (by omega), F2 _ (by omega) (by omega) (by omega)]; exact U9
      · rw [vPut_2 (by omega) (by omega), F2 _ (by omega) (by omega) (by omega)]; exact U10
    · omega) gFuel (n - 1) (vPut h m (n - 1) ((S 0 1).toNat, 1)) (by omega) (by unfold gFuel; omega) ⟨Nat.le_refl _, fun q h1 h2 => by
      have e : q = n - 1 := by omega
      have b := W.ar (p := n - 1) (by omega)
      rw [e, vV_rt (p := n - 1) (by omega)]
      exact vPut_V _ _ _ _, mFr.rf.V, by rw [vPut_2 (by omega) (by omega)], by rw [vPut_2 (by omega) (by omega)]⟩
  try dsimp only at eo
  refine ⟨o, ?_, H1, H2⟩
  have e1 : jI (n : Int) - 1 = jI ((n - 1 : Nat) : Int) := by rw [jl_1, jI_sub, show (n : Int) - 1 = ((n - 1 : Nat) : Int) by omega]
  have e2 : jI (n : Int) - 2 = jI (((n - 1 : Nat) : Int) - 1) := by rw [show (2 : Int32) = jI 2 from rfl, jI_sub, show (n : Int) - 2 = ((n - 1 : Nat) : Int) - 1 by omega]
  rw [f_X10_layVoltages]
  refine gBs e0 ?_
  rw [e1, e2, gNp (by omega)]
  refine gIT (jin (z := 1) (by omega) (by omega) (by omega)) ?_
  refine gIT (jin (by omega) (by omega) (by omega)) ?_
  refine gIT (jin (by omega) (by omega) (by omega)) ?_
  refine gBs (v := o) ?_ rfl
  rw [show gN 1 = 1 from rfl, eI]
  exact eo
theorem m_findVoltage {h : gHp} {m t n c : Nat} {S : gTb} (R : mRow (h.2 (m + 1)) n c S) (W : gWf t n c S) {x : Int} (hx0 : -1 ≤ x ∧ x < 11) {p : Nat} (hp : p < n) (hx : x ≤ p) : ∃ h', f_X10_findVoltage m (jI p) (jI (r4 x)) h = some h' ∧ h'.2 m 17 = lI (vV S (rR S x n) p).1 ∧ h'.2 m 18 = lI (vV S (rR S x n) p).2 ∧ mFr m h h' := by
  have hn := W.n
  have A : gAs S S (-4) 0 := ⟨fun _ _ _ => rfl, fun l => by rw [if_neg (by omega)]⟩
  obtain ⟨h1, e1, Q1, F1⟩ := m_lay R W W A (by omega) (by omega) hx0
  obtain ⟨h2, e2, Q2, F2⟩ := m_layVoltages (h := h1) (by rw [F1.row]; exact R) W Q1 hp hx
  have eS : gsL (gsL h2 m 17 (h2.2 (m + 11) p)) m 18 ((gsL h2 m 17 (h2.2 (m + 11) p)).2 (m + 12) p) = sPut h2 m (vV S (rR S x n) p) := by
    rw [rL_n (by omega), Q2.1, Q2.2]; rfl
  refine ⟨sPut h2 m (vV S (rR S x n) p), ?_, sPut_17 _ _ _, sPut_18 _ _ _, (F1.tr F2).S⟩
  have m4 : (-4 : Int32) = jI (-4) := rfl
  rw [← m4, ← jl_0] at e1
  rw [f_X10_findVoltage]
  refine gBs e1 (gBs e2 ?_)
  rw [gNp (by omega), eS]
  refine gIT (jin (by omega) (by omega) (by omega)) ?_
  exact gIT (jin (by omega) (by omega) (by omega)) rfl
theorem m_lossOf {h : gHp} {m t n c : Nat} {S : gTb} (R : mRow (h.2 (m + 1)) n c S) (W : gWf t n c S) {p : Nat} (hp : p < n) : ∃ h', f_X10_lossOf m (jI p) h = some (jI (gLo S n p), h') ∧ mFr m h h' := by
  have hn := W.n
  obtain ⟨h1, e1, a1, a2, F1⟩ := m_findVoltage R W (x := -1) (by omega) hp (by omega)
  have m4 : jI (r4 (-1)) = (-4 : Int32) := rfl
  rw [m4] at e1
  have z := vV_9 W (x := -1) hp (by omega)
  by_cases c0 : (vV S (rR S (-1) n) p).1 = 0
  · refine ⟨h1, ?_, F1⟩
    rw [gLo_z c0, f_X10_lossOf]
    exact gBs e1 (gIT (by rw [a1]; exact (lI_z (by omega)).mpr c0) rfl)
  · obtain ⟨h2, e2, b1, b2, F2⟩ := m_findVoltage (h := h1) (by rw [F1.row]; exact R) W (x := p) (by omega) hp (by omega)
    rw [r4_p (by omega)] at e2
    have z' := vV_9 W (x := p) hp (by omega)
    obtain ⟨g1, g2, g3, g4⟩ := loss_9 W hp c0
    have el := gLo_n c0 rfl
    have hle := gLo_le W hp
    have pr := s_product h2 m (q := vV S (rR S p n) p) (r := iInv (vV S (rR S (-1) n) p)) z'.1 (iInv_G z.1) (by omega) (by omega) (by show (vV S (rR S (-1) n) p).2 < _; omega) (by show (vV S (rR S (-1) n) p).1 < _; omega) z'.2.1 (by show 0 < (vV S (rR S (-1) n) p).1; omega) (by omega) (by omega)
    have pr' : f_X10_product m (h2.2 m 17) (h2.2 m 18) (h1.2 m 18) (h1.2 m 17) h2 = some (sPut h2 m (nMul (vV S (rR S p n) p) (iInv (vV S (rR S (-1) n) p)))) := by
      rw [a1, a2, b1, b2]; exact pr
    generalize nMul (vV S (rR S p n) p) (iInv (vV S (rR S (-1) n) p)) = r at *
    refine ⟨sPut h2 m r, ?_, (F1.tr F2).S⟩
    rw [f_X10_lossOf]
    refine gBs e1 (gIF (by rw [a1]; exact fun q => c0 ((lI_z (by omega)).mp q)) (gBs e2 (gBs pr' ?_)))
    rw [sPut_17, sPut_18]
    refine gIF (fun q => by have := (lI_z (by omega)).mp q; omega) ?_
    have k2 : (1000 : Int64) * (lI r.2 - lI r.1) = lI ((1000 * (r.2 - r.1) : Nat) : Int) := by
      rw [l1000, lI_sub, lI_mul]
      congr 1
      omega
    rw [k2, lI_divN (by omega) (by omega), lI_to32 (by omega) (by omega), ← el]
