/-! the class reads a network -/
theorem u_clear {h : gHp} {w : Nat} {S : gTb} (h3 : ∀ l, S 3 l = 0) : ∃ h', f_X5_clear w h = some h' ∧ gFr w 5 h h' ∧ cNet h' w 0 S := by
  obtain ⟨o, eo, o1, o2, o3⟩ := gUp (fun k i s => f_X5_clear_7 w k (jI i) s) 6 (fun i s => gFr w 5 h s ∧ s.1 w 4 = jI 0 ∧ ∀ l : Nat, l < i → s.1 (w + 4) l = jI (-1)) (fun s => gFr w 5 h s ∧ s.1 w 4 = jI 0 ∧ ∀ l : Nat, l < 6 → s.1 (w + 4) l = jI (-1)) (by
    intro k s hI
    refine ⟨s, ?_, hI⟩
    rw [f_X5_clear_7]
    exact gIT (jle (a := 6) (by omega) (by omega) (by omega) (by omega) (by omega)) rfl) (by
    intro k i s hi hI
    left
    obtain ⟨G, I, J⟩ := hI
    have ei : jI (i : Int) + 1 = jI ((i + 1 : Nat) : Int) := by rw [jl_1, jI_add]; rfl
    refine ⟨gsI s (w + 4) i (jI (-1)), ?_, G.I (by omega) (by omega), by rw [rI_n (by omega)]; exact I, fun l hl => ?_⟩
    · rw [f_X5_clear_7, gNp (by omega), ei]
      exact gIF (jnle (a := 6) (by omega) (by omega) (by omega) (by omega) (by omega)) (gIT (jin (by omega) (by omega) (by omega)) rfl)
    · by_cases e : l = i
      · rw [e, rI_e]
      · rw [rI_k e]
        exact J l (by omega)) gFuel 0 (gsI h w 4 0) (by omega) (by unfold gFuel; omega) ⟨gFr.rf.I (by omega) (by omega), rI_e _ _ _ _, fun l hl => absurd hl (Nat.not_lt_zero l)⟩
  refine ⟨o, ?_, o1, o2, fun p hp => absurd hp (Nat.not_lt_zero p), fun p hp => absurd hp (Nat.not_lt_zero p), fun p hp => absurd hp (Nat.not_lt_zero p), fun l hl => ?_⟩
  · rw [f_X5_clear]
    exact gBs eo rfl
  · rw [h3]
    exact o3 l hl
theorem u_resetArms {h : gHp} {s n : Nat} {S : gTb} (R : cNet h (s + 1) n S) (K : n ≤ 11 ∧ ∀ p : Nat, p < n → 0 ≤ S 4 p ∧ S 4 p ≤ 2) : ∃ h', f_X8_resetArms s h = some h' ∧ gFr (s + 10) 3 h h' ∧ (∀ l : Nat, l < 6 → h'.1 (s + 10) l = jI 10 ∧ h'.1 (s + 11) l = jI 0) ∧ ∀ p : Nat, p < n → h'.1 (s + 12) p = jI (if S 4 p = 0 then 1 else 0) := by
  obtain ⟨o, eo, o1, o2⟩ := gUp (fun k i v => f_X8_resetArms_2 s k (jI i) v) 6 (fun i v => gFr (s + 10) 2 h v ∧ ∀ l : Nat, l < i → v.1 (s + 10) l = jI 10 ∧ v.1 (s + 11) l = jI 0) (fun v => gFr (s + 10) 2 h v ∧ ∀ l : Nat, l < 6 → v.1 (s + 10) l = jI 10 ∧ v.1 (s + 11) l = jI 0) (by
    intro k v hI
    refine ⟨v, ?_, hI⟩
    rw [f_X8_resetArms_2]
    exact gIT (jle (a := 6) (by omega) (by omega) (by omega) (by omega) (by omega)) rfl) (by
    intro k i v hi hI
    left
    obtain ⟨G, J⟩ := hI
    have ei : jI (i : Int) + 1 = jI ((i + 1 : Nat) : Int) := by rw [jl_1, jI_add]; rfl
    refine ⟨gsI (gsI v (s + 10) i (jI 10)) (s + 11) i (jI 0), ?_, (G.I (by omega) (by omega)).I (by omega) (by omega), fun l hl => ?_⟩
    · rw [f_X8_resetArms_2, gNp (by omega), ei]
      exact gIF (jnle (a := 6) (by omega) (by omega) (by omega) (by omega) (by omega)) (gIT (jin (by omega) (by omega) (by omega)) (gIT (jin (by omega) (by omega) (by omega)) rfl))
    · by_cases e : l = i
      · rw [e, rI_e, rI_n (by omega), rI_e]
        exact ⟨rfl, rfl⟩
      · have J1 := J l (by omega)
        refine ⟨?_, ?_⟩
        · rw [rI_k e, rI_k e]; exact J1.1
        · rw [rI_k e, rI_k e]; exact J1.2) gFuel 0 h (by omega) (by unfold gFuel; omega) ⟨gFr.rf, fun l hl => absurd hl (Nat.not_lt_zero l)⟩
  obtain ⟨h', q1, q2, q3⟩ := u_unfoldEach (h := o) (a := s) (t := 0) (c := 0) (R.mv (o1.sa (by omega))) K
  refine ⟨h', ?_, (o1.mono (by omega) (by omega)).tr (q2.mono (by omega) (by omega)), fun l hl => ?_, q3⟩
  · rw [f_X8_resetArms]
    exact gBs eo (gBs q1 rfl)
  · rw [q2.i1 (by omega), q2.i1 (by omega)]
    exact o2 l hl
/-- a table without parts -/
def gS0 (S : gTb) : gTb := fun u x => if u = 1 then 10 else if u = 2 then 0 else if u = 3 then 0 else S u x
theorem gS0_w (S : gTb) : gB0 0 (gS0 S) [] := ⟨⟨Nat.zero_le _, List.nodup_nil, fun q hq => absurd hq List.not_mem_nil, fun q hq => absurd hq (Nat.not_lt_zero q), fun w => absurd w (Nat.lt_irrefl 0)⟩, fun p hp => absurd hp (Nat.not_lt_zero p), fun p hp => absurd hp (Nat.not_lt_zero p), fun p hp => absurd hp (Nat.not_lt_zero p), fun p q hp => absurd hp (Nat.not_lt_zero p), fun p hp => absurd hp (Nat.not_lt_zero p), fun l _ => ⟨Int.le_refl 0, Int.le_refl 0⟩, fun l _ w => absurd rfl w, fun p hp => absurd hp (Nat.not_lt_zero p)⟩
theorem gS0_o {S : gTb} {u x : Nat} (h : u = 0 ∨ 8 < u) : gS0 S u x = S u x := by
  unfold gS0
  rw [if_neg (by omega), if_neg (by omega), if_neg (by omega)]
theorem s_read (b m t : Nat) : gOK b m t (f_X9_readNetwork b) (f_X10_readNetwork m) := by
  rintro ⟨tx, ⟨n, c, S⟩, H, X⟩ h C W
  have R : cSt h (b + 3) n c S := C.2.1
  have Wf : gWf t n c S := W.2.1
  have hl : tx.1 ≤ 40 := W.1
  have qf := u_findFault (h := h) (a := b + 1) (z := tx) C.1 hl (b + 109)
  have bg := sc_b (z := tx) tx.1 0 0 0 true (by omega)
  obtain ⟨n', S', HC, HM⟩ := rd_loop (a := b + 109) (w := b + 4) (ya := b + 1) (m := m) (z := tx) (by omega) hl (by omega) tx.1 0 0 (gS0 S) [] [] [] 0 true gFuel gFuel (by omega) (by unfold gFuel; omega) (by unfold gFuel; omega) (gS0_w S) (Nat.le_refl 0) (by omega) (fun l h6 => by rw [Nat.zero_testBit]; exact (decide_eq_false (fun w => w rfl)).symm) (fun w => absurd w (by decide))
  rw [show ((([] : List (List Nat × List Nat)).length : Nat) : Int) = 0 from rfl] at HC HM
  obtain ⟨g, hg⟩ : ∃ g, g = gSc tx tx.1 0 0 0 true := ⟨_, rfl⟩
  rw [← hg] at HC HM qf bg
  -- the reference reads
  have mm : ∀ h2, mI m h2 (tx, (n, c, S), H, X) → ∃ u1, f_X10_readsNetwork m h2 = some (decide (g = -1), u1) ∧ mB m h2 u1 ∧ (g = -1 → u1.1 m 8 = jI n' ∧ mRd u1 m n' S') ∧ (g ≠ -1 → u1.1 m 7 = jI g) := fun h2 M => by
    have g0 : gIn 0 42 := jin (z := 0) (by omega) (by omega) (by omega)
    have z0 : gN 0 = 0 := gNp (i := 0) (by omega)
    obtain ⟨v, dv⟩ : ∃ v, v = gsI (gsI (gsI (gsI (gsI h2 m 8 0) m 11 0) (m + 7) 0 0) (m + 8) 0 0) m 7 0 := ⟨_, rfl⟩
    have Fv : mB m h2 v := by
      rw [dv]
      refine ⟨fun y ym _ _ y7 y8 => ?_, rfl, fun k k7 k8 k11 => ?_⟩
      · rw [rI_n ym, rI_n y8, rI_n y7, rI_n ym, rI_n ym]
      · rw [rI_k k7, rI_n (by omega), rI_n (by omega), rI_k k11, rI_k k8]
    have v7 : v.1 m 7 = jI (0 : Nat) := by rw [dv, rI_e]; rfl
    have Cv : mBd v m 0 (gS0 S) [([], [])] := by
      refine ⟨⟨?_, ?_, fun p hp => absurd hp (Nat.not_lt_zero p), trivial⟩, ?_, ?_, trivial⟩
      · rw [dv, rI_k (by decide), rI_n (by omega), rI_n (by omega), rI_k (by decide), rI_e]; rfl
      · rw [dv, rI_k (by decide), rI_n (by omega), rI_n (by omega), rI_e]; rfl
      · show v.1 (m + 7) 0 = jI 0
        rw [dv, rI_n (by omega), rI_n (by omega), rI_e]; rfl
      · show v.1 (m + 8) 0 = jI 0
        rw [dv, rI_n (by omega), rI_e]; rfl
    obtain ⟨u1, q1, F1, x1, x2⟩ := HM v (Fv.tx M.1) v7 Cv
    refine ⟨u1, ?_, Fv.tr F1, x1, x2⟩
    rw [f_X10_readsNetwork, z0, ← dv]
    exact gIT g0 (gIT g0 q1)
  by_cases eg : g = -1
  · obtain ⟨⟨x1, ⟨A, B1, lA⟩, x3⟩, HC2⟩ := HC eg
    have o : ∀ u x, u = 0 ∨ 8 < u → S' u x = S u x := fun u x hu => (x3 u x (by omega)).trans (gS0_o hu)
    have o1 : ∀ l, S' 1 l = 10 := fun l => x3 1 l (by omega)
    have o2 : ∀ l, S' 2 l = 0 := fun l => x3 2 l (by omega)
    have Wn : gWf t n' c S' := bd_wf Wf B1 lA x1 o o1 o2
    have Wn1 : gWf (t + 1) n' c S' := Wn.mono (by omega)
    have hn := Wn.n
    -- the class
    obtain ⟨h1, e1, H1, G1⟩ := u_record (a := b + 42) (s := b + 3) C.2.2.1 W.2.2.1 R Wf (by omega)
    obtain ⟨h2, e2, G2, N2⟩ := u_clear (h := h1) (w := b + 4) (S := gS0 S) (fun l => rfl)
    obtain ⟨h3, d3⟩ : ∃ h3, h3 = gsI h2 (b + 109) 2 0 := ⟨_, rfl⟩
    have a3 : h3.1 (b + 109) 2 = 0 := by rw [d3, rI_e]
    obtain ⟨h4, d4⟩ : ∃ h4, h4 = gsI (gsI h3 (b + 109 + 1) 0 0) (b + 109 + 2) 0 0 := ⟨_, rfl⟩
    have e4 : f_X6_clearDepth (b + 109) h3 = some h4 := by
      have a31 : (gsI h3 (b + 109 + 1) 0 0).1 (b + 109) 2 = 0 := by rw [rI_n (by omega)]; exact a3
      have z0 : gN 0 = 0 := gNp (i := 0) (by omega)
      rw [f_X6_clearDepth, a3, z0, a31, z0, d4]
      exact gIT (jin (z := 0) (by omega) (by omega) (by omega)) (gIT (jin (z := 0) (by omega) (by omega) (by omega)) rfl)
    have E4 : ∀ y, (y < b + 109 ∨ b + 112 ≤ y) → h4.1 y = h2.1 y ∧ h4.2 y = h2.2 y := fun y hy => by
      rw [d4, d3]
      exact ⟨by rw [rI_n (by omega), rI_n (by omega), rI_n (by omega)], rfl⟩
    have T4 : cTx h4 (b + 1) tx := C.1.mv (fun y y1 y2 => ⟨(E4 y (by omega)).1.trans ((G2 y (by omega)).1.trans (G1 y (by omega)).1), (E4 y (by omega)).2.trans ((G2 y (by omega)).2.trans (G1 y (by omega)).2)⟩)
    have C4 : cBd h4 (b + 109) (b + 4) 0 (gS0 S) [([], [])] := by
      refine ⟨N2.mv (fun y y1 y2 => E4 y (by omega)), ?_, ?_, ?_, trivial⟩
      · rw [d4, rI_n (by omega), rI_n (by omega), a3]; rfl
      · show bMk (h4.1 (b + 109 + 1) 0) []
        rw [d4, rI_n (by omega), rI_e]
        exact bMk_nil
      · show bMk (h4.1 (b + 109 + 2) 0) []
        rw [d4, rI_e]
        exact bMk_nil
    obtain ⟨h5, e5, N5, F5⟩ := HC2 h4 T4 C4
    have eb : f_X6_build (b + 109) (b + 1) (b + 3 + 1) h1 = some h5 := by
      rw [f_X6_build]
      refine gBs e2 ?_
      rw [← d3]
      exact gBs e4 e5
    obtain ⟨h6, e6, G6, y1, y2⟩ := u_resetArms (h := h5) (s := b + 3) (n := n') (S := S') N5 ⟨hn, fun p hp => Wn.kd hp⟩
    -- what is as it was behind the recording
    have E : ∀ y, (y < b + 4 ∨ b + 9 ≤ y) → (y < b + 13 ∨ b + 16 ≤ y) → (y < b + 109 ∨ b + 112 ≤ y) → h6.1 y = h1.1 y ∧ h6.2 y = h1.2 y := fun y q1 q2 q3 => ⟨(G6 y (by omega)).1.trans ((F5 y (by omega) (by omega)).1.trans ((E4 y (by omega)).1.trans (G2 y (by omega)).1)), (G6 y (by omega)).2.trans ((F5 y (by omega) (by omega)).2.trans ((E4 y (by omega)).2.trans (G2 y (by omega)).2))⟩
    have E0 : ∀ y, (y < b + 4 ∨ b + 9 ≤ y) → (y < b + 13 ∨ b + 16 ≤ y) → (y < b + 42 ∨ b + 112 ≤ y) → h6.1 y = h.1 y ∧ h6.2 y = h.2 y := fun y q1 q2 q3 => ⟨(E y q1 q2 (by omega)).1.trans (G1 y (by omega)).1, (E y q1 q2 (by omega)).2.trans (G1 y (by omega)).2⟩
    have N6 : cNet h6 (b + 3 + 1) n' S' := cNet.mv (a := b + 3 + 1) N5 (fun y q1 q2 => G6 y (by omega))
    have R6 : cSt h6 (b + 3) n' c S' := by
      obtain ⟨_, ⟨s1, s2, s3, s4⟩, _, _, s5, s6, s7⟩ := R
      refine ⟨N6, ⟨?_, fun k hk => ?_, fun k hk => ?_, fun k hk => ?_⟩, ⟨fun l h6' _ => ?_, fun l h6' _ => ?_⟩, fun p hp => ?_, ?_, ?_, ?_⟩
      · rw [(E0 _ (by omega) (by omega) (by omega)).1]; exact s1
      · rw [(E0 _ (by omega) (by omega) (by omega)).2, o 9 k (by omega)]; exact s2 k hk
      · rw [(E0 _ (by omega) (by omega) (by omega)).2, o 10 k (by omega)]; exact s3 k hk
      · rw [(E0 _ (by omega) (by omega) (by omega)).1, o 11 k (by omega)]; exact s4 k hk
      · rw [o1]; exact (y1 l h6').1
      · rw [o2]; exact (y1 l h6').2
      · rw [y2 p hp]
        exact congrArg jI (B1.2.2.2.2.2.2.2.2 p hp).symm
      · rw [(E0 _ (by omega) (by omega) (by omega)).1, o 0 1 (by omega)]; exact s5
      · rw [(E0 _ (by omega) (by omega) (by omega)).1, o 0 2 (by omega)]; exact s6
      · rw [(E0 _ (by omega) (by omega) (by omega)).1, o 0 3 (by omega)]; exact s7
    have gw := gRec_w W.2.2.1 W.2.2.2.1 (X := (n, c, S)) Wf
    refine ⟨jI n', h6, (tx, (n', c, S'), gRec H (n, c, S), X), ?_, ⟨C.1.mv (fun y q1 q2 => E0 y (by omega) (by omega) (by omega)), R6, H1.mv (fun y q1 q2 => E y (by omega) (by omega) (by omega)), ⟨?_, fun e => (C.2.2.2.2 e).mv (fun y q1 q2 => E0 y (by omega) (by omega) (by omega))⟩⟩, W.act (B := (n', c, S')) Wn1, fun y hy => E0 y (by omega) (by omega) (by omega), fun k2 M => ?_⟩
    · rw [f_X9_readNetwork]
      refine gBs qf (gIT (by rw [eg]; rfl) (gBs e1 (gBs eb (gBs e6 ?_))))
      rw [N6.1]
    · rw [(E0 b (by omega) (by omega) (by omega)).1]; exact C.2.2.2.1
    · obtain ⟨u1, q1, F1, z1, _⟩ := mm k2 M
      rw [decide_eq_true eg] at q1
      obtain ⟨p8, T⟩ := z1 eg
      have M1 := M.B F1
      obtain ⟨u2, q2, H2, F2⟩ := m_record M1.2.2.1 W.2.2.1 W.2.2.2.1 M1.2.1 Wf
      have R2 : mRow (u2.2 (m + 1)) n c S := by rw [(F2.1 (m + 1) (by omega) (by omega)).2]; exact M1.2.1
      have p8' : u2.1 m 8 = jI n' := (F2.2.2.2 8 (by decide)).trans p8
      have T2 : mRd u2 m n' S' := T.mv (F2.1 (m + 5) (by omega) (by omega)).1
      obtain ⟨u3, q3, E3, R3⟩ := m_rnRow R2 p8' T2 Wn o o1 o2
      refine ⟨u3, ?_, M1.act F2 H2 E3.1 E3.2 R3, F1.fr.tr (mI.actF F2 E3.1 E3.2)⟩
      rw [f_X10_readNetwork]
      refine gBs q1 (gIT rfl (gBs q2 (gIT (jin (z := 0) (by omega) (by omega) (by omega)) ?_)))
      rw [p8', jI_to64 (by omega) (by omega)]
      exact q3
  · refine ⟨-100 - jI g, h, _, ?_, C, W.up (by omega), gFr.rf, fun k2 M => ?_⟩
    · rw [f_X9_readNetwork]
      exact gBs qf (gIF (jne (b := -1) (by omega) (by omega) (by omega) (by omega) eg) rfl)
    · obtain ⟨u1, q1, F1, _, z2⟩ := mm k2 M
      rw [decide_eq_false eg] at q1
      refine ⟨u1, ?_, M.B F1, F1.fr⟩
      rw [f_X10_readNetwork]
      refine gBs q1 (gIF Bool.false_ne_true ?_)
      show some ((-100 : Int32) - u1.1 m 7, u1) = _
      rw [z2 eg]
