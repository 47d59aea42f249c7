/-! texts, undo, keep, restore -/
theorem s_type (b m t : Nat) (x : Int32) : gOK b m t (f_X9_type b x) (f_X10_type m x) := by
  rintro ⟨⟨len, ch⟩, ⟨n, c, S⟩, H, X⟩ h C W
  have hlen : len ≤ 40 := W.1
  have c1 : h.1 (b + 1) 1 = jI len := C.1.1
  by_cases h40 : len = 40
  · refine ⟨-3, h, _, ?_, C, W.up (by omega), gFr.rf, fun h2 M => ⟨h2, ?_, M, gFr.rf⟩⟩
    · rw [f_X9_type, c1]
      exact gIF (jnlt (b := 40) (by omega) (by omega) (by omega) (by omega) (by omega)) rfl
    · have m1 : h2.1 m 5 = jI len := M.1.1
      rw [f_X10_type, m1]
      exact gIT (by rw [h40]; rfl) rfl
  · have e1 : jI (len : Int) + 1 = jI ((len + 1 : Nat) : Int) := by rw [jl_1, jI_add]; rfl
    refine ⟨jI ((len + 1 : Nat) : Int), gsI (gsI h (b + 1 + 1) len (vp_nar .char x)) (b + 1) 1 (jI ((len + 1 : Nat) : Int)), ((len + 1, fun i => if i = len then vp_nar .char x else ch i), (n, c, S), H, X), ?_, ?_, ?_, (gFr.rf.I (by omega) (by omega)).I (by omega) (by omega), fun h2 M => ?_⟩
    · have e2 : (gsI h (b + 1 + 1) len (vp_nar .char x)).1 (b + 1) 1 = jI len := by rw [rI_n (by omega)]; exact c1
      rw [f_X9_type, c1]
      refine gIT (jlt (b := 40) (by omega) (by omega) (by omega) (by omega) (by omega)) (gBs (v := gsI (gsI h (b + 1 + 1) len (vp_nar .char x)) (b + 1) 1 (jI ((len + 1 : Nat) : Int))) ?_ ?_)
      · rw [f_X4_append, c1, gNp (by omega), e2, e1]
        exact gIF (jnle (a := 40) (by omega) (by omega) (by omega) (by omega) (by omega)) (gIT (jin (by omega) (by omega) (by omega)) rfl)
      · rw [rI_e]
    · have E : ∀ y, y ≠ b + 1 → y ≠ b + 1 + 1 → (gsI (gsI h (b + 1 + 1) len (vp_nar .char x)) (b + 1) 1 (jI ((len + 1 : Nat) : Int))).1 y = h.1 y ∧ (gsI (gsI h (b + 1 + 1) len (vp_nar .char x)) (b + 1) 1 (jI ((len + 1 : Nat) : Int))).2 y = h.2 y := fun y h1 h2 => ⟨by rw [rI_n h1, rI_n h2], rfl⟩
      refine ⟨⟨rI_e _ _ _ _, fun i hi => ?_⟩, C.2.1.mv (fun y q1 q2 => E y (by omega) (by omega)), C.2.2.1.mv (fun y q1 q2 => E y (by omega) (by omega)), ⟨?_, fun e => (C.2.2.2.2 e).mv (fun y q1 q2 => E y (by omega) (by omega))⟩⟩
      · show _ = if i = len then vp_nar .char x else ch i
        rw [rI_n (by omega)]
        have hi2 : i < len + 1 := hi
        by_cases e : i = len
        · subst e
          rw [if_pos rfl, rI_e]
        · rw [if_neg e, rI_k e]
          exact C.1.2 i (by show i < len; omega)
      · rw [(E b (by omega) (by omega)).1]; exact C.2.2.2.1
    · exact ⟨by show len + 1 ≤ 40; omega, W.2.1.mono (by omega), W.2.2.1, fun i hi => (W.2.2.2.1 i hi).mono (by omega), fun e => (W.2.2.2.2 e).mono (by omega)⟩
    · have m1 : h2.1 m 5 = jI len := M.1.1
      have e2 : (gsI h2 (m + 4) len (vp_nar .char x)).1 m 5 = jI len := by rw [rI_n (by omega)]; exact m1
      refine ⟨gsI (gsI h2 (m + 4) len (vp_nar .char x)) m 5 (jI ((len + 1 : Nat) : Int)), ?_, ⟨⟨rI_e _ _ _ _, fun i hi => ?_⟩, M.2.1, ⟨?_, M.2.2.1.2⟩, ⟨?_, M.2.2.2.2⟩⟩, (gFr.rf.I (by omega) (by omega)).I (by omega) (by omega)⟩
      · rw [f_X10_type, m1, gNp (by omega), e2, e1, rI_e]
        exact gIF (jne (b := 40) (by omega) (by omega) (by omega) (by omega) (by omega)) (gIT (jin (by omega) (by omega) (by omega)) rfl)
      · show _ = if i = len then vp_nar .char x else ch i
        rw [rI_n (by omega)]
        have hi2 : i < len + 1 := hi
        by_cases e : i = len
        · subst e
          rw [if_pos rfl, rI_e]
        · rw [if_neg e, rI_k e]
          exact M.1.2 i (by show i < len; omega)
      · rw [rI_k (by decide), rI_n (by omega)]; exact M.2.2.1.1
      · rw [rI_k (by decide), rI_n (by omega)]; exact M.2.2.2.1
theorem s_clear (b m t : Nat) : gOK b m t (f_X9_clearText b) (f_X10_clearText m) := by
  rintro ⟨⟨len, ch⟩, ⟨n, c, S⟩, H, X⟩ h C W
  have E : ∀ y, y ≠ b + 1 → (gsI h (b + 1) 1 0).1 y = h.1 y ∧ (gsI h (b + 1) 1 0).2 y = h.2 y := fun y h1 => ⟨rI_n h1, rfl⟩
  refine ⟨jI len, gsI h (b + 1) 1 0, ((0, ch), (n, c, S), H, X), ?_, ⟨⟨rI_e _ _ _ _, fun i hi => absurd hi (Nat.not_lt_zero i)⟩, C.2.1.mv (fun y q1 q2 => E y (by omega)), C.2.2.1.mv (fun y q1 q2 => E y (by omega)), ⟨?_, fun e => (C.2.2.2.2 e).mv (fun y q1 q2 => E y (by omega))⟩⟩, ⟨Nat.zero_le _, W.2.1.mono (by omega), W.2.2.1, fun i hi => (W.2.2.2.1 i hi).mono (by omega), fun e => (W.2.2.2.2 e).mono (by omega)⟩, gFr.rf.I (by omega) (by omega), fun h2 M => ⟨gsI h2 m 5 0, ?_, ⟨⟨rI_e _ _ _ _, fun i hi => absurd hi (Nat.not_lt_zero i)⟩, M.2.1, ⟨?_, M.2.2.1.2⟩, ⟨?_, M.2.2.2.2⟩⟩, gFr.rf.I (by omega) (by omega)⟩⟩
  · rw [f_X9_clearText, show h.1 (b + 1) 1 = jI len from C.1.1]
  · rw [(E b (by omega)).1]; exact C.2.2.2.1
  · rw [f_X10_clearText, show h2.1 m 5 = jI len from M.1.1]
  · rw [rI_k (by decide)]; exact M.2.2.1.1
  · rw [rI_k (by decide)]; exact M.2.2.2.1
theorem s_undo (b m t : Nat) : gOK b m t (f_X9_undo b) (f_X10_undo m) := by
  rintro ⟨tx, ⟨n, c, S⟩, H, X⟩ h C W
  have o3 : h.1 (b + 42) 2 = jI H.1 := by obtain ⟨o, o1, o2, o3, o4⟩ := C.2.2.1; exact o3
  have hH : H.1 ≤ 5 := W.2.2.1
  by_cases h0 : H.1 = 0
  · refine ⟨-4, h, _, ?_, C, W.up (by omega), gFr.rf, fun h2 M => ⟨h2, ?_, M, gFr.rf⟩⟩
    · rw [f_X9_undo, o3, h0]
      exact gIT rfl rfl
    · rw [f_X10_undo, show h2.1 m 2 = jI H.1 from M.2.2.1.1, h0]
      exact gIT rfl rfl
  · have wl := W.2.2.2.1 (H.1 - 1) (show H.1 - 1 < H.1 by omega)
    obtain ⟨h', e1, R', H', F', a2⟩ := u_giveBack (a := b + 42) (s := b + 3) (H := H) C.2.2.1 hH (by omega) wl (by omega)
    refine ⟨jI ((H.1 - 1 : Nat) : Int), h', (tx, H.2 (H.1 - 1), (H.1 - 1, H.2), X), ?_, ⟨C.1.mv (fun y q1 q2 => F' y (by omega) (by omega)), R', H', ⟨?_, fun e => (C.2.2.2.2 e).mv (fun y q1 q2 => F' y (by omega) (by omega))⟩⟩, ?_, fun y hy => F' y (by omega) (by omega), fun h2 M => ?_⟩
    · rw [f_X9_undo, o3]
      refine gIF (jne (b := 0) (by omega) (by omega) (by omega) (by omega) (by omega)) (gBs e1 ?_)
      rw [a2]
    · rw [(F' b (by omega) (by omega)).1]; exact C.2.2.2.1
    · exact ⟨W.1, wl.mono (by omega), by show H.1 - 1 ≤ 5; omega, fun i hi => (W.2.2.2.1 i (by have hi2 : i < H.1 - 1 := hi; show i < H.1; omega)).mono (by omega), fun e => (W.2.2.2.2 e).mono (by omega)⟩
    · have k0 : h2.1 m 2 = jI H.1 := M.2.2.1.1
      have e3 : h2.1 m 2 - 1 = jI ((H.1 - 1 : Nat) : Int) := by
        rw [k0, jl_1, jI_sub]
        congr 1
        omega
      obtain ⟨o, eo, o1, o2, o4⟩ := gUp (fun k i s1 => f_X10_undo_22 m k (jI i) s1) 141 (fun i s1 => s1.1 = (gsI h2 m 2 (jI ((H.1 - 1 : Nat) : Int))).1 ∧ (∀ y, y ≠ m + 1 → s1.2 y = h2.2 y) ∧ (∀ x, x < i → s1.2 (m + 1) x = h2.2 (m + 2) (141 * (H.1 - 1) + x))) (fun s1 => s1.1 = (gsI h2 m 2 (jI ((H.1 - 1 : Nat) : Int))).1 ∧ (∀ y, y ≠ m + 1 → s1.2 y = h2.2 y) ∧ (∀ x, x < 141 → s1.2 (m + 1) x = h2.2 (m + 2) (141 * (H.1 - 1) + x))) (by
        intro k s1 hI
        refine ⟨s1, ?_, hI⟩
        rw [f_X10_undo_22]
        exact gIT (jle (a := 141) (by omega) (by omega) (by omega) (by omega) (by omega)) rfl) (by
        intro kk i s1 hi hI
        left
        obtain ⟨i1, i2, i3⟩ := hI
        have e4 : (141 : Int32) * s1.1 m 2 + jI (i : Int) = jI ((141 * (H.1 - 1) + i : Nat) : Int) := by
          rw [i1, rI_e, jl_141, jI_mul, jI_add]
          congr 1
        have e2 : jI (i : Int) + 1 = jI ((i + 1 : Nat) : Int) := by rw [jl_1, jI_add]; rfl
        refine ⟨gsL s1 (m + 1) i (h2.2 (m + 2) (141 * (H.1 - 1) + i)), ?_, i1, fun y hy => (rL_n hy).trans (i2 y hy), fun x hx => ?_⟩
        · rw [f_X10_undo_22, e2, e4, gNp (by omega), gNp (by omega), i2 _ (by omega)]
          exact gIF (jnle (a := 141) (by omega) (by omega) (by omega) (by omega) (by omega)) (gIT (jin (by omega) (by omega) (by omega)) (gIT (jin (by omega) (by omega) (by omega)) rfl))
        · by_cases ex : x = i
          · subst ex
            exact rL_e _ _ _ _
          · rw [rL_k ex]
            exact i3 x (by omega)) gFuel 0 (gsI h2 m 2 (jI ((H.1 - 1 : Nat) : Int))) (by omega) (by unfold gFuel; omega) ⟨rfl, fun _ _ => rfl, fun x hx => absurd hx (Nat.not_lt_zero x)⟩
      refine ⟨o, ?_, ⟨⟨?_, ?_⟩, ?_, ⟨?_, fun i hi => ?_⟩, ⟨?_, ?_⟩⟩, fun y hy => ⟨?_, o2 y (by omega)⟩⟩
      · rw [f_X10_undo, e3]
        refine gIF (by rw [k0]; exact jne (b := 0) (by omega) (by omega) (by omega) (by omega) (by omega)) (gBs eo ?_)
        rw [o1, rI_e]
      · rw [o1, rI_k (by decide)]; exact M.1.1
      · rw [o1, rI_n (by omega)]; exact M.1.2
      · exact mRow.mv wl.n wl.c (M.2.2.1.2 (H.1 - 1) (show H.1 - 1 < H.1 by omega)) fun x hx => o4 x hx
      · rw [o1, rI_e]
      · rw [o2 _ (by omega)]
        exact M.2.2.1.2 i (by have hi2 : i < H.1 - 1 := hi; show i < H.1; omega)
      · rw [o1, rI_k (by decide)]; exact M.2.2.2.1
      · rw [o2 _ (by omega)]; exact M.2.2.2.2
      · rw [o1, rI_n (by omega)]
theorem s_keep (b m t : Nat) : gOK b m t (f_X9_keep b) (f_X10_keep m) := by
  rintro ⟨tx, ⟨n, c, S⟩, H, X⟩ h C W
  have R : cSt h (b + 3) n c S := C.2.1
  have Wf : gWf t n c S := W.2.1
  have hn := Wf.n
  obtain ⟨v2, e1, R', G'⟩ := u_copy (a0 := b + 16) R Wf (by omega)
  have E : ∀ y, y ≠ b → (y < b + 16 ∨ b + 16 + 13 ≤ y) → (gsI v2 b 9 1).1 y = h.1 y ∧ (gsI v2 b 9 1).2 y = h.2 y := fun y h1 h2 => ⟨(rI_n h1).trans (G' y h2).1, (G' y h2).2⟩
  refine ⟨jI n, gsI v2 b 9 1, (tx, (n, c, S), H, (true, (n, c, S))), ?_, ⟨C.1.mv (fun y q1 q2 => E y (by omega) (by omega)), R.mv (fun y q1 q2 => E y (by omega) (by omega)), C.2.2.1.mv (fun y q1 q2 => E y (by omega) (by omega)), ⟨rI_e _ _ _ _, fun _ => R'.mv (fun y q1 q2 => ⟨rI_n (by omega), rfl⟩)⟩⟩, ⟨W.1, Wf.mono (by omega), W.2.2.1, fun i hi => (W.2.2.2.1 i hi).mono (by omega), fun _ => Wf.mono (by omega)⟩, (G'.mono (by omega) (by omega)).I (by omega) (by omega), fun h2 M => ?_⟩
  · rw [f_X9_keep]
    refine gBs e1 ?_
    rw [(E (b + 3 + 1) (by omega) (by omega)).1, show h.1 (b + 3 + 1) 4 = jI n from R.1.1]
  · have M1 : mRow (h2.2 (m + 1)) n c S := M.2.1
    obtain ⟨o, eo, o1, o2, o4⟩ := gUp (fun k i s1 => f_X10_keep_2 m k (jI i) s1) 141 (fun i s1 => s1.1 = h2.1 ∧ (∀ y, y ≠ m + 3 → s1.2 y = h2.2 y) ∧ (∀ x, x < i → s1.2 (m + 3) x = h2.2 (m + 1) x)) (fun s1 => s1.1 = h2.1 ∧ (∀ y, y ≠ m + 3 → s1.2 y = h2.2 y) ∧ (∀ x, x < 141 → s1.2 (m + 3) x = h2.2 (m + 1) x)) (by
      intro k s1 hI
      refine ⟨s1, ?_, hI⟩
      rw [f_X10_keep_2]
      exact gIT (jle (a := 141) (by omega) (by omega) (by omega) (by omega) (by omega)) rfl) (by
      intro kk i s1 hi hI
      left
      obtain ⟨i1, i2, i3⟩ := hI
      have e2 : jI (i : Int) + 1 = jI ((i + 1 : Nat) : Int) := by rw [jl_1, jI_add]; rfl
      refine ⟨gsL s1 (m + 3) i (h2.2 (m + 1) i), ?_, i1, fun y hy => (rL_n hy).trans (i2 y hy), fun x hx => ?_⟩
      · rw [f_X10_keep_2, e2, gNp (by omega), i2 _ (by omega)]
        exact gIF (jnle (a := 141) (by omega) (by omega) (by omega) (by omega) (by omega)) (gIT (jin (by omega) (by omega) (by omega)) (gIT (jin (by omega) (by omega) (by omega)) rfl))
      · by_cases ex : x = i
        · subst ex
          exact rL_e _ _ _ _
        · rw [rL_k ex]
          exact i3 x (by omega)) gFuel 0 h2 (by omega) (by unfold gFuel; omega) ⟨rfl, fun _ _ => rfl, fun x hx => absurd hx (Nat.not_lt_zero x)⟩
    refine ⟨gsI o m 4 1, gBs eo (gBs (m_parts (h := gsI o m 4 1) (by rw [rI_2, o2 _ (by omega)]; exact M1) hn) rfl), ⟨⟨?_, ?_⟩, ?_, ⟨?_, fun i hi => ?_⟩, ⟨rI_e _ _ _ _, fun _ => ?_⟩⟩, fun y hy => ⟨?_, o2 y (by omega)⟩⟩
    · rw [rI_k (by decide), o1]; exact M.1.1
    · rw [rI_n (by omega), o1]; exact M.1.2
    · rw [rI_2, o2 _ (by omega)]; exact M1
    · rw [rI_k (by decide), o1]; exact M.2.2.1.1
    · rw [rI_2, o2 _ (by omega)]; exact M.2.2.1.2 i hi
    · exact mRow.mv Wf.n Wf.c M1 fun x hx => o4 x hx
    · rw [rI_n (by omega), o1]
theorem s_restore (b m t : Nat) : gOK b m t (f_X9_restore b) (f_X10_restore m) := by
  rintro ⟨tx, ⟨n, c, S⟩, H, ⟨fl, ⟨n', c', S'⟩⟩⟩ h C W
  have R : cSt h (b + 3) n c S := C.2.1
  have Wf : gWf t n c S := W.2.1
  have f1 : h.1 b 9 = gZ fl := C.2.2.2.1
  cases fl with
  | false =>
    refine ⟨-4, h, _, ?_, C, W.up (by omega), gFr.rf, fun h2 M => ⟨h2, ?_, M, gFr.rf⟩⟩
    · rw [f_X9_restore, f1]
      exact gIT rfl rfl
    · rw [f_X10_restore, show h2.1 m 4 = gZ false from M.2.2.2.1]
      exact gIT rfl rfl
  | true =>
    have R2 : cSt h (b + 16) n' c' S' := C.2.2.2.2 rfl
    have Wf2 : gWf t n' c' S' := W.2.2.2.2 rfl
    obtain ⟨v2, e1, H1, G1⟩ := u_record (a := b + 42) (s := b + 3) C.2.2.1 W.2.2.1 R Wf (by omega)
    obtain ⟨v4, e2, R3, G2⟩ := u_copy (a0 := b + 3) (R2.mv (G1.sa (lo' := b + 16) (n' := 13) (by omega))) Wf2 (by omega)
    have gw := gRec_w W.2.2.1 W.2.2.2.1 (X := (n, c, S)) Wf
    have E : ∀ y, (y < b + 3 ∨ b + 16 ≤ y) → (y < b + 42 ∨ b + 109 ≤ y) → v4.1 y = h.1 y ∧ v4.2 y = h.2 y := fun y h1 h2 => ⟨(G2 y (by omega)).1.trans (G1 y (by omega)).1, (G2 y (by omega)).2.trans (G1 y (by omega)).2⟩
    refine ⟨jI n', v4, (tx, (n', c', S'), gRec H (n, c, S), (true, (n', c', S'))), ?_, ⟨C.1.mv (fun y q1 q2 => E y (by omega) (by omega)), R3, H1.mv (G2.sa (by omega)), ⟨?_, fun _ => R2.mv (fun y q1 q2 => E y (by omega) (by omega))⟩⟩, ⟨W.1, Wf2.mono (by omega), gw.1, fun i hi => (gw.2 i hi).mono (by omega), fun _ => Wf2.mono (by omega)⟩, (G1.mono (by omega) (by omega)).tr (G2.mono (by omega) (by omega)), fun h2 M => ?_⟩
    · rw [f_X9_restore, f1]
      refine gIF (by decide) (gBs e1 (gBs e2 ?_))
      rw [show v4.1 (b + 3 + 1) 4 = jI n' from R3.1.1]
    · rw [(E b (by omega) (by omega)).1]; exact f1
    · have M1 : mRow (h2.2 (m + 1)) n c S := M.2.1
      have M2 : mRow (h2.2 (m + 3)) n' c' S' := M.2.2.2.2 rfl
      obtain ⟨u2, q1, H2, F2⟩ := m_record M.2.2.1 W.2.2.1 W.2.2.2.1 M1 Wf
      obtain ⟨o, eo, o1, o2, o4⟩ := gUp (fun k i s1 => f_X10_restore_16 m k (jI i) s1) 141 (fun i s1 => s1.1 = u2.1 ∧ (∀ y, y ≠ m + 1 → s1.2 y = u2.2 y) ∧ (∀ x, x < i → s1.2 (m + 1) x = u2.2 (m + 3) x)) (fun s1 => s1.1 = u2.1 ∧ (∀ y, y ≠ m + 1 → s1.2 y = u2.2 y) ∧ (∀ x, x < 141 → s1.2 (m + 1) x = u2.2 (m + 3) x)) (by
        intro k s1 hI
        refine ⟨s1, ?_, hI⟩
        rw [f_X10_restore_16]
        exact gIT (jle (a := 141) (by omega) (by omega) (by omega) (by omega) (by omega)) rfl) (by
        intro kk i s1 hi hI
        left
        obtain ⟨i1, i2, i3⟩ := hI
        have e2 : jI (i : Int) + 1 = jI ((i + 1 : Nat) : Int) := by rw [jl_1, jI_add]; rfl
        refine ⟨gsL s1 (m + 1) i (u2.2 (m + 3) i), ?_, i1, fun y hy => (rL_n hy).trans (i2 y hy), fun x hx => ?_⟩
        · rw [f_X10_restore_16, e2, gNp (by omega), i2 _ (by omega)]
          exact gIF (jnle (a := 141) (by omega) (by omega) (by omega) (by omega) (by omega)) (gIT (jin (by omega) (by omega) (by omega)) (gIT (jin (by omega) (by omega) (by omega)) rfl))
        · by_cases ex : x = i
          · subst ex
            exact rL_e _ _ _ _
          · rw [rL_k ex]
            exact i3 x (by omega)) gFuel 0 u2 (by omega) (by unfold gFuel; omega) ⟨rfl, fun _ _ => rfl, fun x hx => absurd hx (Nat.not_lt_zero x)⟩
      have row : mRow (o.2 (m + 1)) n' c' S' := mRow.mv Wf2.n Wf2.c M2 fun x hx => (o4 x hx).trans (by rw [(F2.1 (m + 3) (by omega) (by omega)).2])
      refine ⟨o, ?_, ⟨⟨?_, ?_⟩, row, ⟨?_, fun i hi => ?_⟩, ⟨?_, fun _ => ?_⟩⟩, fun y hy => ⟨?_, ?_⟩⟩
      · rw [f_X10_restore, show h2.1 m 4 = gZ true from M.2.2.2.1]
        exact gIF (by decide) (gBs q1 (gBs eo (gBs (m_parts row Wf2.n) rfl)))
      · rw [o1, F2.2.2.2 5 (by omega)]; exact M.1.1
      · rw [o1, (F2.1 _ (by omega) (by omega)).1]; exact M.1.2
      · rw [o1]; exact H2.1
      · rw [o2 _ (by omega)]; exact H2.2 i hi
      · rw [o1, F2.2.2.2 4 (by omega)]; exact M.2.2.2.1
      · rw [o2 _ (by omega), (F2.1 _ (by omega) (by omega)).2]; exact M2
      · rw [o1]; exact (F2.1 y (by omega) (by omega)).1
      · exact (o2 y (by omega)).trans (F2.1 y (by omega) (by omega)).2
