theorem nP_e {z : Nat × (Nat → Int32)} {A : Int} {s : Nat} (hs : s ≤ z.1) : (nP z A s).2.1 ≤ z.1 := by
  have := eB_le (ch := z.2) hs
  unfold nP
  by_cases c : nW z.2 s (eB z.1 z.2 s) < 1 ∨ (if A = 5 then 999 else 99) < nW z.2 s (eB z.1 z.2 s)
  · rw [if_pos c]; exact hs
  · rw [if_neg c]; exact this.2
theorem cR_e {z : Nat × (Nat → Int32)} : (cR z).2.1 ≤ z.1 := by
  have s1 : cS1 z ≤ z.1 := by unfold cS1; omega
  have e1 : cE1 z ≤ z.1 := (eB_le (ch := z.2) s1).2
  unfold cR
  by_cases c1 : aW z.2 (eB z.1 z.2 0) = -1
  · rw [if_pos c1]; exact Nat.zero_le _
  rw [if_neg c1]
  by_cases c4 : aW z.2 (eB z.1 z.2 0) < 4
  · rw [if_pos c4]
    by_cases d : cE1 z = cS1 z + 1 ∧ 0 ≤ (z.2 (cS1 z)).toInt - 97 ∧ (z.2 (cS1 z)).toInt - 97 < 6
    · rw [if_pos d]
      by_cases c0 : aW z.2 (eB z.1 z.2 0) = 0
      · rw [if_pos c0]; exact nP_e (by omega)
      · rw [if_neg c0]; exact e1
    · rw [if_neg d]; exact s1
  · rw [if_neg c4]; exact nP_e s1
theorem gCl_b {A : Int} {l : Nat} (hA : 0 ≤ A ∧ A ≤ 5) (hl : A < 4 → l < 6) : gCl A l < 27 := by
  unfold gCl
  split
  · omega
  · split
    · omega
    · have := hl (by omega)
      split <;> omega
theorem m_perform36 {h : gHp} {m t : Nat} {tx : Nat × (Nat → Int32)} {n c : Nat} {S : gTb} {H : Nat × (Nat → gA3)} {X : Bool × gA3} (M : mI m h (tx, (n, c, S), H, X)) (W : wI t (tx, (n, c, S), H, X)) {A v : Int} {l : Nat} (hA : 0 ≤ A ∧ A ≤ 5) (hl : A < 4 → l < 6 ∧ S 3 l ≠ 0) (hv : (A = 0 ∨ 4 ≤ A) → 1 ≤ v ∧ v ≤ (if A = 5 then 999 else 99)) (w0 : h.1 m 14 = jI A) (w1 : A < 4 → h.1 m 15 = jI l) (w2 : (A = 0 ∨ 4 ≤ A) → h.1 m 16 = jI v) : if kOld S A l = kDue A v then f_X10_perform_36 m h = some (-4, h) else ∃ h', f_X10_perform_36 m h = some (1, h') ∧ mI m h' (tx, (n, c, kNew S A l v), gRec H (n, c, S), X) ∧ gFr m 13 h h' := by
  have R : mRow (h.2 (m + 1)) n c S := M.2.1
  have Wf : gWf t n c S := W.2.1
  have B1 := kOld_b Wf hA hl
  have B2 := kDue_b hA hv
  have gb := gCl_b (A := A) (l := l) hA (fun w => (hl w).1)
  have ne : ∀ j : Int, 0 ≤ j → j ≤ 5 → A ≠ j → ¬ h.1 m 14 = jI j := fun j j0 j5 w => by rw [w0]; exact jne (by omega) (by omega) (by omega) (by omega) w
  have eq : ∀ j : Int, A = j → h.1 m 14 = jI j := fun j w => by rw [w0, w]
  have ec : (if (h.1 m 14) = 4 then some 1 else if (h.1 m 14) = 5 then some 2 else if (h.1 m 14) = 0 then some ((8 + (3 * (h.1 m 15))) + 0) else some ((8 + (3 * (h.1 m 15))) + 1) : Option (Int32)) = some (jI ((gCl A l : Nat) : Int)) := by
    unfold gCl
    by_cases c4 : A = 4
    · rw [if_pos c4]; exact gIT (eq 4 c4) rfl
    rw [if_neg c4]
    refine gIF (ne 4 (by omega) (by omega) c4) ?_
    by_cases c5 : A = 5
    · rw [if_pos c5]; exact gIT (eq 5 c5) rfl
    rw [if_neg c5, w1 (by omega)]
    refine gIF (ne 5 (by omega) (by omega) c5) ?_
    by_cases c0 : A = 0
    · rw [if_pos c0]
      refine gIT (eq 0 c0) ?_
      rw [jl_8, jl_3, jl_0, jI_mul, jI_add, jI_add]
      congr 2
    · rw [if_neg c0]
      refine gIF (ne 0 (by omega) (by omega) c0) ?_
      rw [jl_8, jl_3, jl_1, jI_mul, jI_add, jI_add]
      congr 2
  have ed : (if (h.1 m 14) = 1 then some 1 else if (h.1 m 14) = 2 then some 2 else if (h.1 m 14) = 3 then some 0 else some (h.1 m 16) : Option (Int32)) = some (jI (kDue A v)) := by
    unfold kDue
    by_cases c1 : A = 1
    · rw [if_pos c1]; exact gIT (eq 1 c1) rfl
    rw [if_neg c1]
    refine gIF (ne 1 (by omega) (by omega) c1) ?_
    by_cases c2 : A = 2
    · rw [if_pos c2]; exact gIT (eq 2 c2) rfl
    rw [if_neg c2]
    refine gIF (ne 2 (by omega) (by omega) c2) ?_
    by_cases c3 : A = 3
    · rw [if_pos c3]; exact gIT (eq 3 c3) rfl
    rw [if_neg c3]
    refine gIF (ne 3 (by omega) (by omega) c3) ?_
    rw [w2 (by omega)]
  have ev : h.2 (m + 1) (gCl A l) = lI (kOld S A l) := by
    unfold gCl kOld
    by_cases c4 : A = 4
    · rw [if_pos c4, if_pos c4]; exact R.1.2.1
    rw [if_neg c4, if_neg c4]
    by_cases c5 : A = 5
    · rw [if_pos c5, if_pos c5]; exact R.1.2.2.1
    rw [if_neg c5, if_neg c5]
    have s := R.2.2.1 l (hl (by omega)).1 (hl (by omega)).2
    by_cases c0 : A = 0
    · rw [if_pos c0, if_pos c0]; exact s.1
    · rw [if_neg c0, if_neg c0]; exact s.2
  have e64 : (jI (kDue A v)).toInt64 = lI (kDue A v) := jI_to64 (by omega) (by omega)
  have g141 : gIn (jI ((gCl A l : Nat) : Int)) 141 := jin (by omega) (by omega) (by omega)
  by_cases e : kOld S A l = kDue A v
  · rw [if_pos e, f_X10_perform_36]
    refine gBs ec (gBs ed (gIT g141 ?_))
    rw [gNp (by omega), e64]
    exact gIT (by rw [ev, e]) rfl
  · rw [if_neg e, f_X10_perform_36]
    obtain ⟨u2, k1, H2, F2⟩ := m_record M.2.2.1 W.2.2.1 W.2.2.2.1 R Wf
    have R2 : mRow (u2.2 (m + 1)) n c S := by rw [(F2.1 (m + 1) (by omega) (by omega)).2]; exact R
    have w3 : u2.1 m 14 = jI A := by rw [F2.2.2.2 14 (by omega)]; exact w0
    obtain ⟨h', k2, E1, E2, R5⟩ := m_change (v := v) R2 Wf hA w3 hl
    refine ⟨h', ?_, M.act F2 H2 E1 E2 R5, mI.actF F2 E1 E2⟩
    refine gBs ec (gBs ed (gIT g141 ?_))
    rw [gNp (by omega), e64]
    refine gIF (fun w => e ?_) (gBs k1 (gIT g141 k2))
    rw [ev] at w
    exact (lI_eq (by omega) (by omega) (by omega) (by omega)).mp w
theorem s_perform (b m t : Nat) : gOK b m t (f_X9_perform b) (f_X10_perform m) := by
  rintro ⟨tx, ⟨n, c, S⟩, H, X⟩ h C W
  have Wf : gWf t n c S := W.2.1
  have hn := Wf.n
  obtain ⟨v1, q1, G1, T1⟩ := u_read (h := h) (a := b + 112) (z := tx) C.1 (by omega) W.1
  rw [show b + 112 - 111 = b + 1 from rfl] at q1
  have C1 : cI b v1 (tx, (n, c, S), H, X) := C.fr G1 (by omega)
  have R1 : cSt v1 (b + 3) n c S := C1.2.1
  have L1 : gFr b 142 h v1 := G1.mono (by omega) (by omega)
  have mm : ∀ h2, mI m h2 (tx, (n, c, S), H, X) → ∃ u1, f_X10_readsCommand m h2 = some ((cR tx).1, u1) ∧ mC m h2 u1 ∧ mI m u1 (tx, (n, c, S), H, X) ∧ ((cR tx).1 = false → u1.1 m 7 = jI ((cR tx).2.1 : Nat)) ∧ ((cR tx).1 = true → u1.1 m 14 = jI (cR tx).2.2.1 ∧ ((cR tx).2.2.1 < 4 → u1.1 m 15 = jI (cR tx).2.2.2.1) ∧ (((cR tx).2.2.1 = 0 ∨ 4 ≤ (cR tx).2.2.1) → u1.1 m 16 = jI (cR tx).2.2.2.2)) := fun h2 M => by
    obtain ⟨u1, a1, a2, a3, a4⟩ := m_readsCommand (h := h2) (m := m) (z := tx) M.1 W.1
    exact ⟨u1, a1, a2, M.mC a2, a3, a4⟩
  by_cases ok : (cR tx).1 = true
  · have K := cR_ok ok
    have T := T1 ok
    rw [if_pos ok] at q1
    obtain ⟨A, hA⟩ : ∃ A, A = (cR tx).2.2.1 := ⟨_, rfl⟩
    obtain ⟨L, hL⟩ : ∃ L, L = (cR tx).2.2.2.1 := ⟨_, rfl⟩
    obtain ⟨v, hv⟩ : ∃ v, v = (cR tx).2.2.2.2 := ⟨_, rfl⟩
    rw [← hA, ← hL, ← hv] at K T
    have mm' : ∀ h2, mI m h2 (tx, (n, c, S), H, X) → ∃ u1, f_X10_readsCommand m h2 = some (true, u1) ∧ mC m h2 u1 ∧ mI m u1 (tx, (n, c, S), H, X) ∧ u1.1 m 14 = jI A ∧ (A < 4 → u1.1 m 15 = jI L) ∧ ((A = 0 ∨ 4 ≤ A) → u1.1 m 16 = jI v) := fun h2 M => by
      obtain ⟨u1, a1, a2, a3, a4, a5⟩ := mm h2 M
      rw [ok] at a1
      have a6 := a5 ok
      rw [← hA, ← hL, ← hv] at a6
      exact ⟨u1, a1, a2, a3, a6.1, a6.2.1, a6.2.2⟩
    obtain ⟨l, hl⟩ : ∃ l : Nat, l = L.toNat := ⟨_, rfl⟩
    have ll : A < 4 → L = (l : Int) ∧ l < 6 := fun w => by have := K.2.2.1 w; omega
    have tl := u_takesLetter (h := v1) (a := b + 112) T.1 ⟨by omega, K.2.1⟩
    -- the arm is there, or no letter is asked for
    have both : ∀ (hl3 : A < 4 → l < 6 ∧ S 3 l ≠ 0), ∃ (v' : Int32) (h' : gHp) (Z' : gZT), f_X9_perform_54 b v1 = some (v', h') ∧ cI b h' Z' ∧ wI (t + 1) Z' ∧ gFr b 142 h h' ∧ ∀ u1, mI m u1 (tx, (n, c, S), H, X) → u1.1 m 14 = jI A → (A < 4 → u1.1 m 15 = jI L) → ((A = 0 ∨ 4 ≤ A) → u1.1 m 16 = jI v) → ∃ u2, f_X10_perform_36 m u1 = some (v', u2) ∧ mI m u2 Z' ∧ gFr m 13 u1 u2 := fun hl3 => by
      have t2 : A < 4 → v1.1 (b + 112) 2 = jI l := fun w => by rw [← (ll w).1]; exact T.2.1 w
      have dn := u_isDoneIn R1 Wf (r := b + 112) (A := A) (v := v) (l := l) ⟨K.1, K.2.1⟩ T.1 hl3 t2 K.2.2.2 T.2.2
      have mp := fun u1 (M : mI m u1 (tx, (n, c, S), H, X)) (x1 : u1.1 m 14 = jI A) (x2 : A < 4 → u1.1 m 15 = jI L) (x3 : (A = 0 ∨ 4 ≤ A) → u1.1 m 16 = jI v) => m_perform36 M W (A := A) (v := v) (l := l) ⟨K.1, K.2.1⟩ hl3 K.2.2.2 x1 (fun w => by rw [← (ll w).1]; exact x2 w) x3
      by_cases e : kOld S A l = kDue A v
      · rw [decide_eq_true e] at dn
        refine ⟨-4, v1, (tx, (n, c, S), H, X), ?_, C1, W.up (by omega), L1, fun u1 M x1 x2 x3 => ?_⟩
        · rw [f_X9_perform_54]
          exact gBs dn (gIT rfl rfl)
        · have q := mp u1 M x1 x2 x3
          rw [if_pos e] at q
          exact ⟨u1, q, M, gFr.rf⟩
      · rw [decide_eq_false e] at dn
        obtain ⟨v2, k1, H1, G2⟩ := u_record (a := b + 42) (s := b + 3) C1.2.2.1 W.2.2.1 R1 Wf (by omega)
        have R2 : cSt v2 (b + 3) n c S := R1.mv (G2.sa (by omega))
        have c112 : v2.1 (b + 112) = v1.1 (b + 112) := (G2 _ (by omega)).1
        obtain ⟨v3, k2, R3, G3⟩ := u_changeIn R2 Wf (r := b + 112) (A := A) (v := v) (l := l) ⟨K.1, K.2.1⟩ (by rw [c112]; exact T.1) hl3 (fun w => by rw [c112]; exact t2 w) (fun w => by rw [c112]; exact T.2.2 w)
        have W3 := kNew_w (Wf.mono (t' := t + 1) (by omega)) (A := A) (v := v) (l := l) ⟨K.1, K.2.1⟩ K.2.2.2 hl3
        refine ⟨1, v3, (tx, (n, c, kNew S A l v), gRec H (n, c, S), X), ?_, C1.act (t := t) G2 H1 G3 R3, W.act W3, L1.tr ((G2.mono (by omega) (by omega)).tr (G3.mono (by omega) (by omega))), fun u1 M x1 x2 x3 => ?_⟩
        · rw [f_X9_perform_54]
          exact gBs dn (gIF Bool.false_ne_true (gBs k1 (gBs k2 rfl)))
        · have q := mp u1 M x1 x2 x3
          rw [if_neg e] at q
          exact q
    have headC : ∀ r, (if A < 4 then (if l < 6 ∧ S 3 l ≠ 0 then f_X9_perform_54 b v1 else some (-1, v1)) else f_X9_perform_54 b v1) = r → f_X9_perform b h = r := fun r hr => by
      rw [f_X9_perform]
      refine gBs q1 (gIT rfl (gBs tl ?_))
      by_cases c4 : A < 4
      · rw [if_pos c4] at hr
        rw [decide_eq_true (by omega)]
        refine gIT rfl ?_
        rw [show v1.1 (b + 112) 2 = jI l by rw [← (ll c4).1]; exact T.2.1 c4]
        have eh := u_hasArm R1.1 Wf (z := (l : Int)) (by omega) (by omega)
        rw [Int.toNat_natCast] at eh
        by_cases d : l < 6 ∧ S 3 l ≠ 0
        · rw [if_pos d] at hr
          rw [decide_eq_true ⟨by omega, by omega, d.2⟩] at eh
          exact gBs eh (gIT rfl hr)
        · rw [if_neg d] at hr
          rw [decide_eq_false (fun w => d ⟨by omega, w.2.2⟩)] at eh
          exact gBs eh (gIF Bool.false_ne_true hr)
      · rw [if_neg c4] at hr
        rw [decide_eq_false (by omega)]
        exact gIF Bool.false_ne_true hr
    have headM : ∀ h2 u1 r, f_X10_readsCommand m h2 = some (true, u1) → mI m u1 (tx, (n, c, S), H, X) → u1.1 m 14 = jI A → (A < 4 → u1.1 m 15 = jI L) → (if A < 4 then (if l < 6 ∧ S 3 l ≠ 0 then f_X10_perform_36 m u1 else some (-1, u1)) else f_X10_perform_36 m u1) = r → f_X10_perform m h2 = r := fun h2 u1 r x1 M x2 x3 hr => by
      rw [f_X10_perform]
      refine gBs x1 (gIT rfl ?_)
      by_cases c4 : A < 4
      · rw [if_pos c4] at hr
        refine gIF (by show ¬ (4 : Int32) ≤ u1.1 m 14; rw [x2]; exact jnle (a := 4) (by omega) (by omega) (by omega) (by omega) (by omega)) ?_
        show ((f_X10_hasArm m (u1.1 m 15) u1).bind _) = r
        rw [x3 c4, (ll c4).1]
        have eh := m_hasArm (h := u1) (m := m) M.2.1 Wf (z := (l : Int)) (by omega) (by omega)
        rw [Int.toNat_natCast] at eh
        by_cases d : l < 6 ∧ S 3 l ≠ 0
        · rw [if_pos d] at hr
          rw [decide_eq_true ⟨by omega, by omega, d.2⟩] at eh
          exact gBs eh (gIT rfl hr)
        · rw [if_neg d] at hr
          rw [decide_eq_false (fun w => d ⟨by omega, w.2.2⟩)] at eh
          exact gBs eh (gIF Bool.false_ne_true hr)
      · rw [if_neg c4] at hr
        exact gIT (by show (4 : Int32) ≤ u1.1 m 14; rw [x2]; exact jle (a := 4) (by omega) (by omega) (by omega) (by omega) (by omega)) hr
    by_cases c4 : A < 4
    · by_cases d : l < 6 ∧ S 3 l ≠ 0
      · obtain ⟨v', h', Z', a1, a2, a3, a4, a5⟩ := both (fun _ => d)
        refine ⟨v', h', Z', headC _ (by rw [if_pos c4, if_pos d]; exact a1), a2, a3, a4, fun h2 M => ?_⟩
        obtain ⟨u1, x1, x2, x3, x4, x5, x6⟩ := mm' h2 M
        obtain ⟨u2, y1, y2, y3⟩ := a5 u1 x3 x4 x5 x6
        exact ⟨u2, headM h2 u1 _ x1 x3 x4 x5 (by rw [if_pos c4, if_pos d]; exact y1), y2, x2.fr.tr y3⟩
      · refine ⟨-1, v1, _, headC _ (by rw [if_pos c4, if_neg d]), C1, W.up (by omega), L1, fun h2 M => ?_⟩
        obtain ⟨u1, x1, x2, x3, x4, x5, x6⟩ := mm' h2 M
        exact ⟨u1, headM h2 u1 _ x1 x3 x4 x5 (by rw [if_pos c4, if_neg d]), x3, x2.fr⟩
    · obtain ⟨v', h', Z', a1, a2, a3, a4, a5⟩ := both (fun w => absurd w c4)
      refine ⟨v', h', Z', headC _ (by rw [if_neg c4]; exact a1), a2, a3, a4, fun h2 M => ?_⟩
      obtain ⟨u1, x1, x2, x3, x4, x5, x6⟩ := mm' h2 M
      obtain ⟨u2, y1, y2, y3⟩ := a5 u1 x3 x4 x5 x6
      exact ⟨u2, headM h2 u1 _ x1 x3 x4 x5 (by rw [if_neg c4]; exact y1), y2, x2.fr.tr y3⟩
  · have no : (cR tx).1 = false := by cases e : (cR tx).1 with
      | true => exact absurd e ok
      | false => rfl
    rw [if_neg ok] at q1
    refine ⟨-100 - jI ((cR tx).2.1 : Nat), v1, _, ?_, C1, W.up (by omega), L1, fun h2 M => ?_⟩
    · rw [f_X9_perform]
      exact gBs q1 (gIF (jne (b := -1) (by omega) (by have := cR_e (z := tx); have w1 : tx.1 ≤ 40 := W.1; omega) (by omega) (by omega) (by omega)) rfl)
    · obtain ⟨u1, x1, x2, x3, x4, _⟩ := mm h2 M
      rw [no] at x1
      refine ⟨u1, ?_, x3, x2.fr⟩
      rw [f_X10_perform]
      refine gBs x1 (gIF Bool.false_ne_true ?_)
      show some ((-100 : Int32) - u1.1 m 7, u1) = _
      rw [x4 no]
