/-! the reference reads commands -/
def mC (m : Nat) (h h' : gHp) : Prop := (∀ y, y ≠ m → h'.1 y = h.1 y) ∧ h'.2 = h.2 ∧ ∀ k, k ≠ 7 → k ≠ 14 → k ≠ 15 → k ≠ 16 → h'.1 m k = h.1 m k
theorem mC.rf {m : Nat} {h : gHp} : mC m h h := ⟨fun _ _ => rfl, rfl, fun _ _ _ _ _ => rfl⟩
theorem mC.I {m k : Nat} {v : Int32} {h h1 : gHp} (F : mC m h h1) (hk : k = 7 ∨ k = 14 ∨ k = 15 ∨ k = 16) : mC m h (gsI h1 m k v) := ⟨fun y hy => (rI_n hy).trans (F.1 y hy), F.2.1, fun j a b c d => (rI_k (by omega)).trans (F.2.2 j a b c d)⟩
theorem mC.tx {m : Nat} {h h' : gHp} {z : Nat × (Nat → Int32)} (F : mC m h h') (T : mTx h m z) : mTx h' m z := by
  unfold mTx at *
  rw [F.2.2 5 (by omega) (by omega) (by omega) (by omega), F.1 (m + 4) (by omega)]
  exact T
theorem mC.tr {m : Nat} {h h1 h2 : gHp} (F : mC m h h1) (G : mC m h1 h2) : mC m h h2 := ⟨fun y hy => (G.1 y hy).trans (F.1 y hy), G.2.1.trans F.2.1, fun k a b c d => (G.2.2 k a b c d).trans (F.2.2 k a b c d)⟩
theorem mI.mC {m : Nat} {h h' : gHp} {Z : gZT} (M : mI m h Z) (F : mC m h h') : mI m h' Z := M.mv (F.2.2 2 (by omega) (by omega) (by omega) (by omega)) (F.2.2 4 (by omega) (by omega) (by omega) (by omega)) (F.2.2 5 (by omega) (by omega) (by omega) (by omega)) (F.1 _ (by omega)) (by rw [F.2.1]) (by rw [F.2.1]) (by rw [F.2.1])
theorem mC.fr {m : Nat} {h h' : gHp} (F : mC m h h') : gFr m 13 h h' := fun y q => ⟨F.1 y (by omega), by rw [F.2.1]⟩
theorem m_takesBlank {h : gHp} {m : Nat} {z : Nat × (Nat → Int32)} (T : mTx h m z) (hl : z.1 ≤ 40) {s : Nat} (hs : s ≤ z.1) (hb : s < z.1 → z.2 s = 32) (ha : h.1 m 7 = jI s) : f_X10_takesBlank m h = some (if s < z.1 then (true, gsI h m 7 (jI ((s + 1 : Nat) : Int))) else (false, h)) := by
  rw [f_X10_takesBlank, ha, T.1]
  by_cases c : s < z.1
  · have e : jI (s : Int) + 1 = jI ((s + 1 : Nat) : Int) := by rw [jl_1, jI_add]; rfl
    rw [if_pos c, gNp (by omega), T.2 s c, e]
    exact gIF (jnle (by omega) (by omega) (by omega) (by omega) (by omega)) (gIT (jin (by omega) (by omega) (by omega)) (gIT (hb c) rfl))
  · rw [if_neg c]
    exact gIT (jle (by omega) (by omega) (by omega) (by omega) (by omega)) rfl
theorem nP_end {z : Nat × (Nat → Int32)} {A : Int} : nP z A z.1 = (false, z.1, -1) := by
  have e := eB_le (len := z.1) (ch := z.2) (s := z.1) (Nat.le_refl _)
  have w : nW z.2 z.1 (eB z.1 z.2 z.1) = -1 := by
    unfold nW
    rw [if_pos (Or.inl e.2)]
  unfold nP
  rw [w, if_pos (Or.inl (by omega))]
theorem m_186 {h : gHp} {m : Nat} {z : Nat × (Nat → Int32)} (T : mTx h m z) (hl : z.1 ≤ 40) {e : Nat} (he : e ≤ z.1) (ha : h.1 m 7 = jI e) : f_X10_readsCommand_186 m h = some (decide (e = z.1), h) := by
  rw [f_X10_readsCommand_186, ha, T.1]
  by_cases c : e = z.1
  · rw [decide_eq_true c]; exact gIT (by rw [c]) rfl
  · rw [decide_eq_false c]; exact gIF (jne (by omega) (by omega) (by omega) (by omega) (by omega)) rfl
theorem m_140 {h : gHp} {m : Nat} {z : Nat × (Nat → Int32)} (T : mTx h m z) (hl : z.1 ≤ 40) {A : Int} (hA : h.1 m 14 = jI A) (h1 : A = 0 ∨ A = 4 ∨ A = 5) {s : Nat} (hs : s ≤ z.1) (ha : h.1 m 7 = jI s) : ∃ h', f_X10_readsCommand_140 m h = some ((nP z A s).1, h') ∧ mC m h h' ∧ h'.1 m 7 = jI ((nP z A s).2.1 : Nat) ∧ h'.1 m 14 = jI A ∧ h'.1 m 15 = h.1 m 15 ∧ ((nP z A s).1 = true → h'.1 m 16 = jI (nP z A s).2.2) := by
  have es := eB_le (len := z.1) (ch := z.2) hs
  have e1 := m_end T hl hs ha
  have mb : (0 : Int) ≤ (if A = 5 then 999 else 99) ∧ (if A = 5 then 999 else 99 : Int) ≤ 999 := by split <;> omega
  have mo : (if h.1 m 14 = 5 then some 999 else some 99 : Option Int32) = some (jI (if A = 5 then 999 else 99)) := by
    rw [hA]
    by_cases c : A = 5
    · rw [if_pos c]; exact gIT (by rw [c]; rfl) rfl
    · rw [if_neg c]; exact gIF (jne (b := 5) (by omega) (by omega) (by omega) (by omega) c) rfl
  have e2 := m_number T hl es.1 es.2 ha mb
  have nb := nW_b z.2 s (eB z.1 z.2 s)
  by_cases c : nW z.2 s (eB z.1 z.2 s) < 1 ∨ (if A = 5 then 999 else 99) < nW z.2 s (eB z.1 z.2 s)
  · rw [if_pos c] at e2
    have eP : nP z A s = (false, s, nW z.2 s (eB z.1 z.2 s)) := if_pos c
    rw [eP]
    refine ⟨gsI h m 16 (jI (-4)), ?_, mC.rf.I (by omega), (rI_k (by decide)).trans ha, (rI_k (by decide)).trans hA, rI_k (by decide), fun w => absurd w Bool.false_ne_true⟩
    rw [f_X10_readsCommand_140]
    exact gBs e1 (gBs mo (gBs e2 (gIT (rI_e _ _ _ _) rfl)))
  · rw [if_neg c] at e2
    have eP : nP z A s = (decide (eB z.1 z.2 s = z.1), eB z.1 z.2 s, nW z.2 s (eB z.1 z.2 s)) := if_neg c
    rw [eP]
    have T2 : mTx (gsI (gsI h m 16 (jI (nW z.2 s (eB z.1 z.2 s)))) m 7 (jI ((eB z.1 z.2 s : Nat) : Int))) m z := ((mC.rf.I (k := 16) (by omega)).I (k := 7) (by omega)).tx T
    refine ⟨gsI (gsI h m 16 (jI (nW z.2 s (eB z.1 z.2 s)))) m 7 (jI ((eB z.1 z.2 s : Nat) : Int)), ?_, (mC.rf.I (by omega)).I (by omega), rI_e _ _ _ _, by rw [rI_k (by decide), rI_k (by decide)]; exact hA, by rw [rI_k (by decide), rI_k (by decide)], fun _ => by rw [rI_k (by decide), rI_e]⟩
    rw [f_X10_readsCommand_140]
    refine gBs e1 (gBs mo (gBs e2 (gIF ?_ ?_)))
    · rw [rI_e]
      exact jne (a := nW z.2 s (eB z.1 z.2 s)) (b := -4) (by omega) (by omega) (by omega) (by omega) (by omega)
    · exact m_186 T2 hl es.2 (rI_e _ _ _ _)
theorem m_readsCommand {h : gHp} {m : Nat} {z : Nat × (Nat → Int32)} (T : mTx h m z) (hl : z.1 ≤ 40) : ∃ h', f_X10_readsCommand m h = some ((cR z).1, h') ∧ mC m h h' ∧ ((cR z).1 = false → h'.1 m 7 = jI ((cR z).2.1 : Nat)) ∧ ((cR z).1 = true → h'.1 m 14 = jI (cR z).2.2.1 ∧ ((cR z).2.2.1 < 4 → h'.1 m 15 = jI (cR z).2.2.2.1) ∧ (((cR z).2.2.1 = 0 ∨ 4 ≤ (cR z).2.2.1) → h'.1 m 16 = jI (cR z).2.2.2.2)) := by
  have b0 := eB_le (len := z.1) (ch := z.2) (s := 0) (by omega)
  have ab := aW_b z.2 (eB z.1 z.2 0)
  have F0 : mC m h (gsI h m 7 0) := mC.rf.I (by omega)
  have T0 := F0.tx T
  have a0 : (gsI h m 7 0).1 m 7 = jI ((0 : Nat) : Int) := by rw [rI_e]; rfl
  have e0 := m_end T0 hl (s := 0) (by omega) a0
  have ew := m_word T0 hl (e := eB z.1 z.2 0) b0.2 (by rw [a0]; rfl)
  have b1 : cS1 z ≤ z.1 := by unfold cS1; omega
  have b3 : cS1 z ≤ cE1 z ∧ cE1 z ≤ z.1 := eB_le b1
  rw [f_X10_readsCommand]
  unfold cR
  by_cases c1 : aW z.2 (eB z.1 z.2 0) = -1
  · rw [if_pos c1]
    rw [c1] at ew
    refine ⟨gsI (gsI h m 7 0) m 14 (jI (r4 (-1))), gBs e0 (gBs ew (gIT (by rw [rI_e]; rfl) rfl)), F0.I (by omega), fun _ => by rw [rI_k (by decide), rI_e]; rfl, fun w => absurd w Bool.false_ne_true⟩
  rw [if_neg c1]
  generalize hA : aW z.2 (eB z.1 z.2 0) = A at *
  rw [r4_p (by omega)] at ew
  obtain ⟨h1, hh1⟩ : ∃ h1, h1 = gsI (gsI h m 7 0) m 14 (jI A) := ⟨_, rfl⟩
  have F1 : mC m h h1 := by rw [hh1]; exact F0.I (by omega)
  have w1 : h1.1 m 14 = jI A := by rw [hh1]; exact rI_e _ _ _ _
  have n1 : ¬ h1.1 m 14 = -4 := by rw [w1]; exact jne (a := A) (b := -4) (by omega) (by omega) (by omega) (by omega) (by omega)
  obtain ⟨h2, hh2⟩ : ∃ h2, h2 = gsI h1 m 7 (jI ((eB z.1 z.2 0 : Nat) : Int)) := ⟨_, rfl⟩
  have F2 : mC m h h2 := by rw [hh2]; exact F1.I (by omega)
  have w2 : h2.1 m 14 = jI A := by rw [hh2, rI_k (by decide)]; exact w1
  have a2 : h2.1 m 7 = jI ((eB z.1 z.2 0 : Nat) : Int) := by rw [hh2]; exact rI_e _ _ _ _
  have tb := m_takesBlank (F2.tx T) hl b0.2 (fun w => eB_bl (by omega) w) a2
  by_cases cb : eB z.1 z.2 0 < z.1
  · rw [if_pos cb] at tb
    have s1e : cS1 z = eB z.1 z.2 0 + 1 := by unfold cS1; omega
    obtain ⟨h3, hh3⟩ : ∃ h3, h3 = gsI h2 m 7 (jI ((eB z.1 z.2 0 + 1 : Nat) : Int)) := ⟨_, rfl⟩
    rw [← hh3] at tb
    have F3 : mC m h h3 := by rw [hh3]; exact F2.I (by omega)
    have w3 : h3.1 m 14 = jI A := by rw [hh3, rI_k (by decide)]; exact w2
    have a3 : h3.1 m 7 = jI ((cS1 z : Nat) : Int) := by rw [hh3, s1e]; exact rI_e _ _ _ _
    have T3 := F3.tx T
    by_cases c4 : A < 4
    · rw [if_pos c4]
      have n4 : ¬ (4 : Int32) ≤ h3.1 m 14 := by rw [w3]; exact jnle (a := 4) (by omega) (by omega) (by omega) (by omega) (by omega)
      have e1 : f_X10_end m h3 = some (jI ((cE1 z : Nat) : Int)) := m_end T3 hl b1 a3
      have ed : jI ((cE1 z : Nat) : Int) - jI ((cS1 z : Nat) : Int) = jI ((cE1 z - cS1 z : Nat) : Int) := by
        rw [jI_sub]
        congr 1
        omega
      have head : ∀ r, (if jI ((cE1 z - cS1 z : Nat) : Int) = 1 then if gIn (jI ((cS1 z : Nat) : Int)) 40 then (f_X10_in (h3.1 (m + 4) (gN (jI ((cS1 z : Nat) : Int)))) 97 102 h3).bind fun v18 => if v18 = true then if gIn (jI ((cS1 z : Nat) : Int)) 40 then if ((gsI (gsI h3 m 15 ((h3.1 (m + 4) (gN (jI ((cS1 z : Nat) : Int)))) - 97)) m 7 (jI ((cE1 z : Nat) : Int))).1 m 14) = 0 then (f_X10_takesBlank m (gsI (gsI h3 m 15 ((h3.1 (m + 4) (gN (jI ((cS1 z : Nat) : Int)))) - 97)) m 7 (jI ((cE1 z : Nat) : Int)))).bind fun v21 => if v21.1 = true then f_X10_readsCommand_125 m v21.2 else some (false, v21.2) else f_X10_readsCommand_125 m (gsI (gsI h3 m 15 ((h3.1 (m + 4) (gN (jI ((cS1 z : Nat) : Int)))) - 97)) m 7 (jI ((cE1 z : Nat) : Int))) else none else some (false, h3) else none else some (false, h3) : Option (Bool × gHp)) = r → ((f_X10_end m (gsI h m 7 0)).bind fun v2 => (f_X10_word m v2 (gsI h m 7 0)).bind fun v4 => if ((gsI (gsI h m 7 0) m 14 v4).1 m 14) = (-4) then some (false, gsI (gsI h m 7 0) m 14 v4) else (f_X10_takesBlank m (gsI (gsI (gsI h m 7 0) m 14 v4) m 7 v2)).bind fun v6 => if v6.1 = true then if 4 ≤ (v6.2.1 m 14) then f_X10_readsCommand_125 m v6.2 else (f_X10_end m v6.2).bind fun v15 => if (v15 - (v6.2.1 m 7)) = 1 then if gIn (v6.2.1 m 7) 40 then (f_X10_in (v6.2.1 (m + 4) (gN (v6.2.1 m 7))) 97 102 v6.2).bind fun v18 => if v18 = true then if gIn (v6.2.1 m 7) 40 then if ((gsI (gsI v6.2 m 15 ((v6.2.1 (m + 4) (gN (v6.2.1 m 7))) - 97)) m 7 v15).1 m 14) = 0 then (f_X10_takesBlank m (gsI (gsI v6.2 m 15 ((v6.2.1 (m + 4) (gN (v6.2.1 m 7))) - 97)) m 7 v15)).bind fun v21 => if v21.1 = true then f_X10_readsCommand_125 m v21.2 else some (false, v21.2) else f_X10_readsCommand_125 m (gsI (gsI v6.2 m 15 ((v6.2.1 (m + 4) (gN (v6.2.1 m 7))) - 97)) m 7 v15) else none else some (false, v6.2) else none else some (false, v6.2) else some (false, v6.2) : Option (Bool × gHp)) = r := fun r hr => by
        refine gBs e0 (gBs ew ?_)
        rw [← hh1, ← hh2]
        refine gIF n1 (gBs tb (gIT rfl (gIF n4 (gBs e1 ?_))))
        try dsimp only
        rw [a3, ed]
        exact hr
      by_cases d1 : cE1 z = cS1 z + 1
      · have t0 : h3.1 (m + 4) (gN (jI ((cS1 z : Nat) : Int))) = jI (z.2 (cS1 z)).toInt := by rw [gNp (by omega), T3.2 (cS1 z) (by omega), jI_of]
        have r1 := Int32.le_toInt (z.2 (cS1 z))
        have r2 := Int32.toInt_lt (z.2 (cS1 z))
        have di := m_in h3 (x := (z.2 (cS1 z)).toInt) (y := 97) (z := 102) (by omega) (by omega) (by omega) (by omega) (by omega) (by omega)
        have k1 : jI ((cE1 z - cS1 z : Nat) : Int) = 1 := by rw [d1, Nat.add_sub_cancel_left]; rfl
        have k2 : gIn (jI ((cS1 z : Nat) : Int)) 40 := jin (by omega) (by omega) (by omega)
        by_cases d2 : 97 ≤ (z.2 (cS1 z)).toInt ∧ (z.2 (cS1 z)).toInt ≤ 102
        · rw [if_pos ⟨d1, by omega, by omega⟩]
          rw [decide_eq_true d2] at di
          have e97 : jI (z.2 (cS1 z)).toInt - 97 = jI ((z.2 (cS1 z)).toInt - 97) := by rw [jl_97, jI_sub]
          obtain ⟨h4, hh4⟩ : ∃ h4, h4 = gsI (gsI h3 m 15 (jI ((z.2 (cS1 z)).toInt - 97))) m 7 (jI ((cE1 z : Nat) : Int)) := ⟨_, rfl⟩
          have F4 : mC m h h4 := by rw [hh4]; exact (F3.I (by omega)).I (by omega)
          have w4 : h4.1 m 14 = jI A := by rw [hh4, rI_k (by decide), rI_k (by decide)]; exact w3
          have l4 : h4.1 m 15 = jI ((z.2 (cS1 z)).toInt - 97) := by rw [hh4, rI_k (by decide), rI_e]
          have a4 : h4.1 m 7 = jI ((cE1 z : Nat) : Int) := by rw [hh4, rI_e]
          by_cases c0 : A = 0
          · rw [if_pos c0]
            have tb2 := m_takesBlank (F4.tx T) hl b3.2 (fun w => eB_bl b1 w) a4
            by_cases cb2 : cE1 z < z.1
            · rw [if_pos cb2] at tb2
              obtain ⟨h5, hh5⟩ : ∃ h5, h5 = gsI h4 m 7 (jI ((cE1 z + 1 : Nat) : Int)) := ⟨_, rfl⟩
              rw [← hh5] at tb2
              have F5 : mC m h h5 := by rw [hh5]; exact F4.I (by omega)
              have w5 : h5.1 m 14 = jI A := by rw [hh5, rI_k (by decide)]; exact w4
              have l5 : h5.1 m 15 = jI ((z.2 (cS1 z)).toInt - 97) := by rw [hh5, rI_k (by decide)]; exact l4
              have a5 : h5.1 m 7 = jI ((cE1 z + 1 : Nat) : Int) := by rw [hh5]; exact rI_e _ _ _ _
              obtain ⟨h6, q1, q2, q3, q4, q5, q6⟩ := m_140 (F5.tx T) hl w5 (Or.inl c0) (s := cE1 z + 1) (by omega) a5
              rw [show min (cE1 z + 1) z.1 = cE1 z + 1 by omega]
              rw [c0] at q1 q3 q4 q6
              refine ⟨h6, head _ ?_, F5.tr q2, fun _ => q3, fun w => ⟨q4, fun _ => q5.trans l5, fun _ => q6 w⟩⟩
              rw [t0, e97, ← hh4]
              refine gIT k1 (gIT k2 (gBs di (gIT rfl (gIT k2 (gIT (by rw [w4, c0]; rfl) (gBs tb2 (gIT rfl ?_)))))))
              rw [f_X10_readsCommand_125]
              exact gIT (by rw [w5, c0]; rfl) q1
            · rw [if_neg cb2] at tb2
              rw [show min (cE1 z + 1) z.1 = z.1 by omega, nP_end]
              refine ⟨h4, head _ ?_, F4, fun _ => by rw [a4, show cE1 z = z.1 by omega], fun w => absurd w Bool.false_ne_true⟩
              rw [t0, e97, ← hh4]
              exact gIT k1 (gIT k2 (gBs di (gIT rfl (gIT k2 (gIT (by rw [w4, c0]; rfl) (gBs tb2 (gIF Bool.false_ne_true rfl)))))))
          · rw [if_neg c0]
            have n0 : ¬ h4.1 m 14 = 0 := by rw [w4]; exact jne (b := 0) (by omega) (by omega) (by omega) (by omega) c0
            refine ⟨h4, head _ ?_, F4, fun _ => a4, fun _ => ⟨w4, fun _ => l4, fun w => by
              have w' : A = 0 ∨ 4 ≤ A := w
              omega⟩⟩
            rw [t0, e97, ← hh4]
            refine gIT k1 (gIT k2 (gBs di (gIT rfl (gIT k2 (gIF n0 ?_)))))
            rw [f_X10_readsCommand_125]
            exact gIF n0 (gIT (by rw [w4]; exact jle (b := 3) (by omega) (by omega) (by omega) (by omega) (by omega)) (m_186 (F4.tx T) hl b3.2 a4))
        · rw [if_neg (fun w => d2 (by omega))]
          rw [decide_eq_false d2] at di
          refine ⟨h3, head _ ?_, F3, fun _ => a3, fun w => absurd w Bool.false_ne_true⟩
          rw [t0]
          exact gIT k1 (gIT k2 (gBs di (gIF Bool.false_ne_true rfl)))
      · rw [if_neg (fun w => d1 w.1)]
        exact ⟨h3, head _ (gIF (jne (b := 1) (by omega) (by omega) (by omega) (by omega) (by omega)) rfl), F3, fun _ => a3, fun w => absurd w Bool.false_ne_true⟩
    · rw [if_neg c4]
      obtain ⟨h6, q1, q2, q3, q4, q5, q6⟩ := m_140 T3 hl w3 (Or.inr (by omega)) b1 a3
      refine ⟨h6, gBs e0 (gBs ew ?_), F3.tr q2, fun _ => q3, fun w => ⟨q4, fun w2 => absurd w2 c4, fun _ => q6 w⟩⟩
      rw [← hh1, ← hh2]
      refine gIF n1 (gBs tb (gIT rfl (gIT (by rw [w3]; exact jle (a := 4) (by omega) (by omega) (by omega) (by omega) (by omega)) ?_)))
      rw [f_X10_readsCommand_125]
      exact gIF (by rw [w3]; exact jne (b := 0) (by omega) (by omega) (by omega) (by omega) (by omega)) (gIF (by rw [w3]; exact jnle (b := 3) (by omega) (by omega) (by omega) (by omega) (by omega)) q1)
  · rw [if_neg cb] at tb
    have s1e : cS1 z = z.1 := by unfold cS1; omega
    have e0e : eB z.1 z.2 0 = z.1 := by omega
    have res : (if A < 4 then
    if cE1 z = cS1 z + 1 ∧ 0 ≤ (z.2 (cS1 z)).toInt - 97 ∧ (z.2 (cS1 z)).toInt - 97 < 6 then
      if A = 0 then ((nP z 0 (min (cE1 z + 1) z.1)).1, (nP z 0 (min (cE1 z + 1) z.1)).2.1, (0 : Int), (z.2 (cS1 z)).toInt - 97, (nP z 0 (min (cE1 z + 1) z.1)).2.2)
      else (decide (cE1 z = z.1), cE1 z, A, (z.2 (cS1 z)).toInt - 97, 0)
    else (false, cS1 z, A, 0, 0)
  else ((nP z A (cS1 z)).1, (nP z A (cS1 z)).2.1, A, 0, (nP z A (cS1 z)).2.2)) = (if A < 4 then (false, z.1, A, 0, 0) else (false, z.1, A, 0, -1)) := by
      by_cases c4 : A < 4
      · rw [if_pos c4, if_pos c4, if_neg (fun w => by have := w.1; omega), s1e]
      · rw [if_neg c4, if_neg c4, s1e, nP_end]
    rw [res]
    have fl : (if A < 4 then (false, z.1, A, (0 : Int), (0 : Int)) else (false, z.1, A, 0, -1)).1 = false ∧ (if A < 4 then (false, z.1, A, (0 : Int), (0 : Int)) else (false, z.1, A, 0, -1)).2.1 = z.1 := by split <;> exact ⟨rfl, rfl⟩
    rw [fl.1, fl.2]
    refine ⟨h2, gBs e0 (gBs ew ?_), F2, fun _ => by rw [a2, e0e], fun w => absurd w Bool.false_ne_true⟩
    rw [← hh1, ← hh2]
    exact gIF n1 (gBs tb (gIF Bool.false_ne_true rfl))
