/-! the reference's row of a network that was read -/
theorem mB.fr {m : Nat} {h h' : gHp} (F : mB m h h') : gFr m 13 h h' := fun y q => ⟨F.1 y (by omega) (by omega) (by omega) (by omega) (by omega), by rw [F.2.1]⟩
theorem mI.B {m : Nat} {h h' : gHp} {Z : gZT} (M : mI m h Z) (F : mB m h h') : mI m h' Z := M.mv (F.2.2 2 (by decide) (by decide) (by decide)) (F.2.2 4 (by decide) (by decide) (by decide)) (F.2.2 5 (by decide) (by decide) (by decide)) (F.1 _ (by omega) (by omega) (by omega) (by omega) (by omega)) (by rw [F.2.1]) (by rw [F.2.1]) (by rw [F.2.1])
/-- only the row changes -/
def mW (m : Nat) (h h' : gHp) : Prop := h'.1 = h.1 ∧ ∀ y, y ≠ m + 1 → h'.2 y = h.2 y
theorem mW.rf {m : Nat} {h : gHp} : mW m h h := ⟨rfl, fun _ _ => rfl⟩
theorem mW.L {m k : Nat} {v : Int64} {h h1 : gHp} (F : mW m h h1) : mW m h (gsL h1 (m + 1) k v) := ⟨F.1, fun y hy => (rL_n hy).trans (F.2 y hy)⟩
theorem mW.tr {m : Nat} {h h1 h2 : gHp} (F : mW m h h1) (G : mW m h1 h2) : mW m h h2 := ⟨G.1.trans F.1, fun y hy => (G.2 y hy).trans (F.2 y hy)⟩
theorem m_rn32 (h : gHp) (m : Nat) : ∃ h', f_X10_readNetwork_32 m gFuel 0 h = some h' ∧ mW m h h' ∧ (∀ l : Nat, l < 6 → h'.2 (m + 1) (8 + 3 * l + 2) = lI 0) ∧ (∀ x, x < 8 ∨ 26 ≤ x → h'.2 (m + 1) x = h.2 (m + 1) x) := by
  obtain ⟨o, eo, o1, o2, o3⟩ := gUp (fun k i s => f_X10_readNetwork_32 m k (jI i) s) 6 (fun i s => mW m h s ∧ (∀ l : Nat, l < i → s.2 (m + 1) (8 + 3 * l + 2) = lI 0) ∧ (∀ x, x < 8 ∨ 26 ≤ x → s.2 (m + 1) x = h.2 (m + 1) x)) (fun s => mW m h s ∧ (∀ l : Nat, l < 6 → s.2 (m + 1) (8 + 3 * l + 2) = lI 0) ∧ (∀ x, x < 8 ∨ 26 ≤ x → s.2 (m + 1) x = h.2 (m + 1) x)) (by
    intro k s hI
    refine ⟨s, ?_, hI⟩
    rw [f_X10_readNetwork_32]
    exact gIT (jle (a := 6) (by omega) (by omega) (by omega) (by omega) (by omega)) rfl) (by
    intro k i s hi hI
    left
    obtain ⟨F, I, J⟩ := hI
    have ei : jI (i : Int) + 1 = jI ((i + 1 : Nat) : Int) := by rw [jl_1, jI_add]; rfl
    have ec : (8 : Int32) + 3 * jI (i : Int) + 2 = jI ((8 + 3 * i + 2 : Nat) : Int) := by
      rw [jl_8, jl_3, jl_2, jI_mul, jI_add, jI_add]
      exact congrArg jI (by omega)
    refine ⟨gsL s (m + 1) (8 + 3 * i + 2) (lI 0), ?_, F.L, fun l hl => ?_, fun x hx => ?_⟩
    · rw [f_X10_readNetwork_32, ec, gNp (by omega), ei]
      exact gIF (jnle (a := 6) (by omega) (by omega) (by omega) (by omega) (by omega)) (gIT (jin (by omega) (by omega) (by omega)) rfl)
    · by_cases e : l = i
      · rw [e, rL_e]
      · rw [rL_k (by omega)]
        exact I l (by omega)
    · rw [rL_k (by omega)]
      exact J x hx) gFuel 0 h (by omega) (by unfold gFuel; omega) ⟨mW.rf, fun l hl => absurd hl (Nat.not_lt_zero l), fun _ _ => rfl⟩
  exact ⟨o, eo, o1, o2, o3⟩
theorem m_rn60 {h : gHp} {m n : Nat} (p8 : h.1 m 8 = jI n) (hn : n ≤ 11) : ∃ h', f_X10_readNetwork_60 m gFuel 0 h = some h' ∧ mW m h h' ∧ (∀ x, x < 5 * n → h'.2 (m + 1) (26 + x) = (h.1 (m + 5) x).toInt64) ∧ (∀ x, x < 26 ∨ 81 ≤ x → h'.2 (m + 1) x = h.2 (m + 1) x) := by
  have e5 : (5 : Int32) * jI (n : Int) = jI ((5 * n : Nat) : Int) := by rw [jl_5, jI_mul]; rfl
  obtain ⟨o, eo, o1, o2, o3⟩ := gUp (fun k i s => f_X10_readNetwork_60 m k (jI i) s) (5 * n) (fun i s => mW m h s ∧ (∀ x, x < i → s.2 (m + 1) (26 + x) = (h.1 (m + 5) x).toInt64) ∧ (∀ x, x < 26 ∨ 81 ≤ x → s.2 (m + 1) x = h.2 (m + 1) x)) (fun s => mW m h s ∧ (∀ x, x < 5 * n → s.2 (m + 1) (26 + x) = (h.1 (m + 5) x).toInt64) ∧ (∀ x, x < 26 ∨ 81 ≤ x → s.2 (m + 1) x = h.2 (m + 1) x)) (by
    intro k s hI
    refine ⟨s, ?_, hI⟩
    rw [f_X10_readNetwork_60, hI.1.1, p8, e5]
    exact gIT (jle (by omega) (by omega) (by omega) (by omega) (by omega)) rfl) (by
    intro k i s hi hI
    left
    obtain ⟨F, I, J⟩ := hI
    have ei : jI (i : Int) + 1 = jI ((i + 1 : Nat) : Int) := by rw [jl_1, jI_add]; rfl
    have ec : (26 : Int32) + jI (i : Int) = jI ((26 + i : Nat) : Int) := by rw [jl_26, jI_add]; rfl
    refine ⟨gsL s (m + 1) (26 + i) (h.1 (m + 5) i).toInt64, ?_, F.L, fun x hx => ?_, fun x hx => ?_⟩
    · rw [f_X10_readNetwork_60, F.1, p8, e5, ec, gNp (by omega), gNp (by omega), ei]
      exact gIF (jnle (by omega) (by omega) (by omega) (by omega) (by omega)) (gIT (jin (by omega) (by omega) (by omega)) (gIT (jin (by omega) (by omega) (by omega)) rfl))
    · by_cases e : x = i
      · rw [e, rL_e]
      · rw [rL_k (by omega)]
        exact I x (by omega)
    · rw [rL_k (by omega)]
      exact J x hx) gFuel 0 h (by omega) (by unfold gFuel; omega) ⟨mW.rf, fun l hl => absurd hl (Nat.not_lt_zero l), fun _ _ => rfl⟩
  exact ⟨o, eo, o1, o2, o3⟩
theorem m_rn94 {h : gHp} {m t n c : Nat} {S : gTb} (p8 : h.1 m 8 = jI n) (T : mRd h m n S) (W : gWf t n c S) (h0 : ∀ l : Nat, l < 6 → h.2 (m + 1) (8 + 3 * l + 2) = lI 0) : ∃ h', f_X10_readNetwork_94 m gFuel 0 h = some h' ∧ mW m h h' ∧ (∀ l : Nat, l < 6 → h'.2 (m + 1) (8 + 3 * l + 2) = lI (S 3 l) ∧ (S 3 l ≠ 0 → h'.2 (m + 1) (8 + 3 * l) = lI 10 ∧ h'.2 (m + 1) (8 + 3 * l + 1) = lI 0)) ∧ (∀ x, x < 8 ∨ 26 ≤ x → h'.2 (m + 1) x = h.2 (m + 1) x) := by
  have hn := W.n
  obtain ⟨o, eo, o1, o2, o3⟩ := gUp (fun k i s => f_X10_readNetwork_94 m k (jI i) s) n (fun i s => mW m h s ∧ (∀ l : Nat, l < 6 → s.2 (m + 1) (8 + 3 * l + 2) = lI (if S 3 l ≤ i then S 3 l else 0) ∧ (S 3 l ≠ 0 → S 3 l ≤ i → s.2 (m + 1) (8 + 3 * l) = lI 10 ∧ s.2 (m + 1) (8 + 3 * l + 1) = lI 0)) ∧ (∀ x, x < 8 ∨ 26 ≤ x → s.2 (m + 1) x = h.2 (m + 1) x)) (fun s => mW m h s ∧ (∀ l : Nat, l < 6 → s.2 (m + 1) (8 + 3 * l + 2) = lI (if S 3 l ≤ n then S 3 l else 0) ∧ (S 3 l ≠ 0 → S 3 l ≤ n → s.2 (m + 1) (8 + 3 * l) = lI 10 ∧ s.2 (m + 1) (8 + 3 * l + 1) = lI 0)) ∧ (∀ x, x < 8 ∨ 26 ≤ x → s.2 (m + 1) x = h.2 (m + 1) x)) (by
    intro k s hI
    refine ⟨s, ?_, hI⟩
    rw [f_X10_readNetwork_94, hI.1.1, p8]
    exact gIT (jle (by omega) (by omega) (by omega) (by omega) (by omega)) rfl) (by
    intro k i s hi hI
    left
    obtain ⟨F, I, J⟩ := hI
    have ei : jI (i : Int) + 1 = jI ((i + 1 : Nat) : Int) := by rw [jl_1, jI_add]; rfl
    have kd := W.kd hi
    have t0 := T i hi
    have e0 : (5 : Int32) * jI (i : Int) + 0 = jI ((5 * i : Nat) : Int) := by
      rw [jl_5, jl_0, jI_mul, jI_add]
      exact congrArg jI (by omega)
    have e2 : (5 : Int32) * jI (i : Int) + 2 = jI ((5 * i + 2 : Nat) : Int) := by rw [jl_5, jl_2, jI_mul, jI_add]; rfl
    have nle : ¬ jI (n : Int) ≤ jI i := jnle (by omega) (by omega) (by omega) (by omega) (by omega)
    by_cases c0 : S 4 i = 0
    · obtain ⟨l, h6, a1, a2⟩ := W.am hi c0
      have r0 : (8 : Int32) + 3 * jI (l : Int) + 0 = jI ((8 + 3 * l : Nat) : Int) := by
        rw [jl_8, jl_3, jl_0, jI_mul, jI_add, jI_add]
        exact congrArg jI (by omega)
      have r1 : (8 : Int32) + 3 * jI (l : Int) + 1 = jI ((8 + 3 * l + 1 : Nat) : Int) := by
        rw [jl_8, jl_3, jl_1, jI_mul, jI_add, jI_add]
        exact congrArg jI (by omega)
      have r2 : (8 : Int32) + 3 * jI (l : Int) + 2 = jI ((8 + 3 * l + 2 : Nat) : Int) := by
        rw [jl_8, jl_3, jl_2, jI_mul, jI_add, jI_add]
        exact congrArg jI (by omega)
      have e64 : (jI ((i + 1 : Nat) : Int)).toInt64 = lI ((i + 1 : Nat) : Int) := jI_to64 (by omega) (by omega)
      have tl : s.1 (m + 5) (5 * i + 2) = jI (l : Nat) := by rw [F.1, t0.2.2.1, a1, r4_i]
      have tk : s.1 (m + 5) (5 * i) = jI 0 := by rw [F.1, t0.1, c0]
      refine ⟨gsL (gsL (gsL s (m + 1) (8 + 3 * l) (lI 10)) (m + 1) (8 + 3 * l + 1) (lI 0)) (m + 1) (8 + 3 * l + 2) (lI ((i + 1 : Nat) : Int)), ?_, F.L.L.L, fun j j6 => ?_, fun x hx => ?_⟩
      · rw [f_X10_readNetwork_94, show s.1 m 8 = jI n by rw [F.1]; exact p8, e0, e2, gNp (by omega), gNp (by omega), tk, tl, r0, r1, r2, gNp (by omega), gNp (by omega), gNp (by omega), ei, e64]
        exact gIF nle (gIT (jin (by omega) (by omega) (by omega)) (gIT rfl (gIT (jin (by omega) (by omega) (by omega)) (gIT (jin (by omega) (by omega) (by omega)) (gIT (jin (by omega) (by omega) (by omega)) (gIT (jin (by omega) (by omega) (by omega)) rfl))))))
      · by_cases e : j = l
        · subst e
          rw [rL_e, if_pos (by omega), a2]
          refine ⟨rfl, fun _ _ => ⟨?_, ?_⟩⟩
          · rw [rL_k (by omega), rL_k (by omega), rL_e]
          · rw [rL_k (by omega), rL_e]
        · have ne : S 3 j ≠ i + 1 := fun w => by
            have b := (W.lt j6 (by omega)).2.1
            rw [w, show ((i : Int) + 1 - 1).toNat = i by omega, a1] at b
            omega
          have I1 := I j j6
          rw [rL_k (by omega), rL_k (by omega), rL_k (by omega), I1.1]
          refine ⟨?_, fun w1 w2 => ?_⟩
          · by_cases w : S 3 j ≤ i
            · rw [if_pos w, if_pos (by omega)]
            · rw [if_neg w, if_neg (by omega)]
          · rw [rL_k (by omega), rL_k (by omega), rL_k (by omega), rL_k (by omega), rL_k (by omega), rL_k (by omega)]
            exact I1.2 w1 (by omega)
      · rw [rL_k (by omega), rL_k (by omega), rL_k (by omega)]
        exact J x hx
    · have tk : s.1 (m + 5) (5 * i) = jI (S 4 i) := by rw [F.1]; exact t0.1
      refine ⟨s, ?_, F, fun j j6 => ?_, J⟩
      · rw [f_X10_readNetwork_94, show s.1 m 8 = jI n by rw [F.1]; exact p8, e0, gNp (by omega), tk, ei]
        exact gIF nle (gIT (jin (by omega) (by omega) (by omega)) (gIF (jne (b := 0) (by omega) (by omega) (by omega) (by omega) c0) rfl))
      · have ne : S 3 j ≠ i + 1 := fun w => by
          have b := (W.lt j6 (by omega)).1
          rw [w, show ((i : Int) + 1 - 1).toNat = i by omega] at b
          exact c0 b
        have I1 := I j j6
        refine ⟨?_, fun w1 w2 => I1.2 w1 (by omega)⟩
        rw [I1.1]
        by_cases w : S 3 j ≤ i
        · rw [if_pos w, if_pos (by omega)]
        · rw [if_neg w, if_neg (by omega)]) gFuel 0 h (by omega) (by unfold gFuel; omega) ⟨mW.rf, fun l h6 => ⟨by
          have b := W.an h6
          rw [h0 l h6]
          split
          · exact congrArg lI (by omega)
          · rfl, fun w1 w2 => absurd w2 (by have b := W.an h6; omega)⟩, fun _ _ => rfl⟩
  refine ⟨o, eo, o1, fun l h6 => ?_, o3⟩
  have b := W.an h6
  have I1 := o2 l h6
  rw [if_pos b.2] at I1
  exact ⟨I1.1, fun w => I1.2 w b.2⟩
/-- the reference's row behind the reading -/
theorem m_rnRow {h : gHp} {m t n n0 c : Nat} {S S0 : gTb} (R : mRow (h.2 (m + 1)) n0 c S0) (p8 : h.1 m 8 = jI n) (T : mRd h m n S) (W : gWf t n c S) (o : ∀ w x, w = 0 ∨ 8 < w → S w x = S0 w x) (o1 : ∀ l, S 1 l = 10) (o2 : ∀ l, S 2 l = 0) : ∃ h', ((f_X10_readNetwork_32 m gFuel 0 (gsL h (m + 1) 0 (lI n))).bind fun v7 => (f_X10_readNetwork_60 m gFuel 0 v7).bind fun v12 => (f_X10_readNetwork_94 m gFuel 0 v12).bind fun v20 => some (v20.1 m 8, v20)) = some (jI n, h') ∧ mW m h h' ∧ mRow (h'.2 (m + 1)) n c S := by
  have hn := W.n
  obtain ⟨v7, q1, F1, a1, a2⟩ := m_rn32 (gsL h (m + 1) 0 (lI n)) m
  have F1' : mW m h v7 := mW.rf.L.tr F1
  obtain ⟨v12, q2, F2, b1, b2⟩ := m_rn60 (h := v7) (m := m) (n := n) (by rw [F1'.1]; exact p8) hn
  have F2' := F1'.tr F2
  have T2 : mRd v12 m n S := T.mv (by rw [F2'.1])
  obtain ⟨v20, q3, F3, d1, d2⟩ := m_rn94 (h := v12) (m := m) (n := n) (S := S) (by rw [F2'.1]; exact p8) T2 W (fun l h6 => (b2 _ (by omega)).trans (a1 l h6))
  have F3' := F2'.tr F3
  have E : ∀ x, (x < 8 ∧ x ≠ 0) ∨ 81 ≤ x → v20.2 (m + 1) x = h.2 (m + 1) x := fun x hx => by
    rw [d2 x (by omega), b2 x (by omega), a2 x (by omega), rL_k (by omega)]
  refine ⟨v20, gBs q1 (gBs q2 (gBs q3 ?_)), F3', ⟨?_, ?_, ?_, ?_, ?_⟩, fun l h6 => (d1 l h6).1, fun l h6 h3 => ?_, fun p hp => ?_, fun k hk => ?_⟩
  · rw [F3'.1, p8]
  · rw [d2 0 (by omega), b2 0 (by omega), a2 0 (by omega), rL_e]
  · rw [E 1 (by omega), o 0 1 (by omega)]; exact R.1.2.1
  · rw [E 2 (by omega), o 0 2 (by omega)]; exact R.1.2.2.1
  · rw [E 3 (by omega), o 0 3 (by omega)]; exact R.1.2.2.2.1
  · rw [E 4 (by omega)]; exact R.1.2.2.2.2
  · have e := (d1 l h6).2 h3
    rw [o1, o2]
    exact e
  · have t0 := T p hp
    have kd := W.kd hp
    have ar := W.ar hp
    have lt := W.letp hp
    have sn := W.sn hp
    have sb := gCnt_le (fun q => decide (S 5 q = p)) p
    have fo := W.fo hp
    have e : ∀ w : Nat, w < 5 → v20.2 (m + 1) (26 + 5 * p + w) = (h.1 (m + 5) (5 * p + w)).toInt64 := fun w hw => by
      rw [show 26 + 5 * p + w = 26 + (5 * p + w) by omega, d2 _ (by omega), b1 _ (by omega), F1'.1]
    have x0 : v20.2 (m + 1) (26 + 5 * p) = (h.1 (m + 5) (5 * p)).toInt64 := e 0 (by omega)
    have x1 := e 1 (by omega)
    have x2 := e 2 (by omega)
    have x3 := e 3 (by omega)
    have x4 := e 4 (by omega)
    rw [t0.1, jI_to64 (by omega) (by omega)] at x0
    rw [t0.2.1, jI_to64 (by unfold r4; split <;> omega) (by unfold r4; split <;> omega)] at x1
    rw [t0.2.2.1, jI_to64 (by unfold r4; split <;> omega) (by unfold r4; split <;> omega)] at x2
    rw [t0.2.2.2.1, jI_to64 (by omega) (by omega)] at x3
    rw [t0.2.2.2.2, jI_to64 (by omega) (by omega)] at x4
    exact ⟨x0, x1, x2, x3, x4⟩
  · rw [E _ (by omega), E _ (by omega), E _ (by omega), o 9 k (by omega), o 10 k (by omega), o 11 k (by omega)]
    exact R.2.2.2.2 k hk
