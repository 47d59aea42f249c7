/-! noted readings -/
def gNp2 (S : gTb) (V : gQ) (k : Nat) : Bool := decide (lI (S 9 k) = lI V.1 ∧ lI (S 10 k) = lI V.2)
theorem u_find {h : gHp} {a x c : Nat} {S : gTb} {V : gQ} (R : cNot h a c S) (hc : c ≤ 20) (Q : hQ h x V) : f_X7_find a x h = some (if gFst (gNp2 S V) c < c then jI (gFst (gNp2 S V) c) else jI (-1)) := by
  obtain ⟨R1, R2, R3, R4⟩ := R
  have q0 : h.2 x 0 = lI V.1 := Q.1
  have q1 : h.2 x 1 = lI V.2 := Q.2
  have L := gUpE (fun k i (_ : Unit) => f_X7_find_2 a x h k (jI i)) c (fun i _ => ∀ q, q < i → ¬ gNp2 S V q = true) (if gFst (gNp2 S V) c < c then jI (gFst (gNp2 S V) c) else jI (-1)) (by
    intro k s hI
    rw [gFst_no hI, if_neg (by omega), f_X7_find_2, R1]
    exact gIT (jle (by omega) (by omega) (by omega) (by omega) (by omega)) rfl) (by
    intro k i s hi hI
    have g20 : gIn (jI i) 20 := jin (by omega) (by omega) (by omega)
    have g1 : ¬ jI (c : Int) ≤ jI i := jnle (by omega) (by omega) (by omega) (by omega) (by omega)
    have ei : jI (i : Int) + 1 = jI ((i + 1 : Nat) : Int) := by rw [jl_1, jI_add]; rfl
    by_cases c1 : gNp2 S V i = true
    · right
      rw [gFst_hit hI hi c1, if_pos hi, f_X7_find_2, R1, gNp (by omega), R2 i hi, R3 i hi, q0, q1]
      have c2 := of_decide_eq_true c1
      exact gIF g1 (gIT g20 (gIT c2.1 (gIT g20 (gIT c2.2 rfl))))
    · left
      refine ⟨(), ?_, ?_⟩
      · rw [f_X7_find_2, R1, gNp (by omega), R2 i hi, R3 i hi, q0, q1, ei]
        refine gIF g1 (gIT g20 ?_)
        by_cases d1 : lI (S 9 i) = lI V.1
        · refine gIT d1 (gIT g20 (gIF (fun d2 => c1 (decide_eq_true ⟨d1, d2⟩)) rfl))
        · exact gIF d1 rfl
      · intro q hq
        by_cases e : q = i
        · rw [e]; exact c1
        · exact hI q (by omega)) gFuel () (by unfold gFuel; omega) (by intro q hq; omega)
  exact L
theorem m_noteLoop {h : gHp} {m n c : Nat} {S : gTb} {V : gQ} (R : mRow (h.2 (m + 1)) n c S) (hc : c ≤ 20) (q0 : h.2 m 17 = lI V.1) (q1 : h.2 m 18 = lI V.2) : f_X10_note_26 m (jI c) h gFuel 0 = some (jI (gFst (gNp2 S V) c)) := by
  have L := gUpE (fun k i (_ : Unit) => f_X10_note_26 m (jI c) h k (jI i)) c (fun i _ => ∀ q, q < i → ¬ gNp2 S V q = true) (jI (gFst (gNp2 S V) c)) (by
    intro k s hI
    rw [gFst_no hI, f_X10_note_26]
    exact gIT (jle (by omega) (by omega) (by omega) (by omega) (by omega)) rfl) (by
    intro k i s hi hI
    have g1 : ¬ jI (c : Int) ≤ jI i := jnle (by omega) (by omega) (by omega) (by omega) (by omega)
    have ei : jI (i : Int) + 1 = jI ((i + 1 : Nat) : Int) := by rw [jl_1, jI_add]; rfl
    have ex : (81 : Int32) + 3 * jI i = jI ((81 + 3 * i : Nat) : Int) := by
      rw [jl_81, jl_3, jI_mul, jI_add]
      congr 1
    have ex1 : jI ((81 + 3 * i : Nat) : Int) + 1 = jI ((81 + 3 * i + 1 : Nat) : Int) := by
      rw [jl_1, jI_add]; rfl
    have s4 := R.2.2.2.2 i hi
    have gA : gIn (jI ((81 + 3 * i : Nat) : Int)) 141 := jin (by omega) (by omega) (by omega)
    have gB : gIn (jI ((81 + 3 * i + 1 : Nat) : Int)) 141 := jin (by omega) (by omega) (by omega)
    by_cases c1 : gNp2 S V i = true
    · right
      rw [gFst_hit hI hi c1, f_X10_note_26, ex, ex1, gNp (by omega), gNp (by omega), s4.1, s4.2.1, q0, q1]
      have c2 := of_decide_eq_true c1
      exact gIF g1 (gIT gA (gIT c2.1 (gIT gB (gIT c2.2 rfl))))
    · left
      refine ⟨(), ?_, ?_⟩
      · rw [f_X10_note_26, ex, ex1, gNp (by omega), gNp (by omega), s4.1, s4.2.1, q0, q1, ei]
        refine gIF g1 (gIT gA ?_)
        by_cases d1 : lI (S 9 i) = lI V.1
        · refine gIT d1 (gIT gB (gIF (fun d2 => c1 (decide_eq_true ⟨d1, d2⟩)) rfl))
        · exact gIF d1 rfl
      · intro q hq
        by_cases e : q = i
        · rw [e]; exact c1
        · exact hI q (by omega)) gFuel () (by unfold gFuel; omega) (by intro q hq; omega)
  exact L
theorem gFst_le (P : Nat → Bool) : ∀ i, gFst P i ≤ i := by
  intro i
  induction i with
  | zero => exact Nat.le_refl _
  | succ i ih =>
    rw [gFst]
    split
    · omega
    · split <;> omega
/-- only noted readings differ -/
theorem gWf.cn {t t' n c c' : Nat} {S S' : gTb} (W : gWf t n c S) (ht : t ≤ t') (hS : ∀ f k, f ≠ 9 → f ≠ 10 → f ≠ 11 → S' f k = S f k) (hc : c' ≤ 20) (h11 : ∀ k : Nat, k < c' → 0 ≤ S' 11 k ∧ S' 11 k ≤ t') : gWf t' n c' S' := by
  obtain ⟨⟨a1, a2, a3, a4, a5, a6, a7, a8⟩, b1, b2, b3, b4, b5, b6, b7, b8, b9, b10, b11⟩ := W
  have e : ∀ f k, f < 9 → S' f k = S f k := fun f k hf => hS f k (by omega) (by omega) (by omega)
  refine ⟨⟨a1, hc, ?_⟩, ?_, ?_, ?_, ?_, ?_, ?_, ?_, ?_, ?_, ?_, h11⟩
  · rw [e 0 1 (by omega), e 0 2 (by omega), e 0 3 (by omega)]; omega
  · intro p hp; rw [e 4 p (by omega)]; exact b1 p hp
  · intro p hp; rw [e 5 p (by omega)]; exact b2 p hp
  · intro p hp; rw [e 5 p (by omega)]; exact b3 p hp
  · intro p hp h4
    rw [e 4 p (by omega)] at h4
    obtain ⟨l, q1, q2, q3⟩ := b4 p hp h4
    exact ⟨l, q1, by rw [e 6 p (by omega)]; exact q2, by rw [e 3 l (by omega)]; exact q3⟩
  · intro p hp h4
    rw [e 4 p (by omega)] at h4
    obtain ⟨q1, q, q2, q3⟩ := b5 p hp h4
    exact ⟨by rw [e 6 p (by omega)]; exact q1, q, q2, by rw [e 5 q (by omega)]; exact q3⟩
  · intro p q hp hq h5
    rw [e 5 q (by omega)] at h5
    rw [e 4 p (by omega)]
    exact b6 p q hp hq h5
  · intro p hp
    rw [e 7 p (by omega), b7 p hp]
    congr 1
    exact gCnt_congr fun q hq => by rw [e 5 q (by omega)]
  · intro l hl; rw [e 3 l (by omega)]; exact b8 l hl
  · intro l hl h3
    rw [e 3 l (by omega)] at h3 ⊢
    rw [e 4 _ (by omega), e 6 _ (by omega), e 1 l (by omega), e 2 l (by omega)]
    exact b9 l hl h3
  · intro p hp; rw [e 8 p (by omega)]; exact b10 p hp
theorem cSt.cn {h h' : gHp} {a n c c' : Nat} {S S' : gTb} (R : cSt h a n c S) (E : ∀ y, y < a + 6 ∨ a + 10 ≤ y → h'.1 y = h.1 y ∧ h'.2 y = h.2 y) (hS : ∀ f k, f ≠ 9 → f ≠ 10 → f ≠ 11 → S' f k = S f k) (N : cNot h' (a + 6) c' S') : cSt h' a n c' S' := by
  have e : ∀ f k, f < 9 → S' f k = S f k := fun f k hf => hS f k (by omega) (by omega) (by omega)
  obtain ⟨r1, r2, r3, r4, r5, r6, r7⟩ := R
  refine ⟨?_, N, ?_, ?_, ?_, ?_, ?_⟩
  · obtain ⟨n1, n2, n3, n4, n5⟩ := r1.mv (h' := h') (fun y q1 q2 => E y (by omega))
    refine ⟨n1, ?_, ?_, ?_, ?_⟩
    · intro q hq; rw [e 4 q (by omega)]; exact n2 q hq
    · intro q hq; rw [e 5 q (by omega)]; exact n3 q hq
    · intro q hq; rw [e 6 q (by omega)]; exact n4 q hq
    · intro q hq; rw [e 3 q (by omega)]; exact n5 q hq
  · have := r3.mv (h' := h') (fun y q1 q2 => E y (by omega))
    refine ⟨?_, ?_⟩
    · intro l hl h3
      rw [e 3 l (by omega)] at h3
      rw [e 1 l (by omega)]; exact this.1 l hl h3
    · intro l hl h3
      rw [e 3 l (by omega)] at h3
      rw [e 2 l (by omega)]; exact this.2 l hl h3
  · intro q hq; rw [(E (a + 12) (by omega)).1, e 8 q (by omega)]; exact r4 q hq
  · rw [(E a (by omega)).1, e 0 1 (by omega)]; exact r5
  · rw [(E a (by omega)).1, e 0 2 (by omega)]; exact r6
  · rw [(E a (by omega)).1, e 0 3 (by omega)]; exact r7
theorem mRow.cn {r r' : Nat → Int64} {n c c' : Nat} {S S' : gTb} (hn : n ≤ 11) (R : mRow r n c S) (E : ∀ x, x < 81 → x ≠ 4 → r' x = r x) (e4 : r' 4 = lI c') (hS : ∀ f k, f ≠ 9 → f ≠ 10 → f ≠ 11 → S' f k = S f k) (N : ∀ k : Nat, k < c' → r' (81 + 3 * k) = lI (S' 9 k) ∧ r' (81 + 3 * k + 1) = lI (S' 10 k) ∧ r' (81 + 3 * k + 2) = lI (S' 11 k)) : mRow r' n c' S' := by
  have e : ∀ f k, f < 9 → S' f k = S f k := fun f k hf => hS f k (by omega) (by omega) (by omega)
  obtain ⟨⟨q0, q1, q2, q3, q4⟩, s1, s2, s3, s4⟩ := R
  refine ⟨⟨?_, ?_, ?_, ?_, e4⟩, ?_, ?_, ?_, N⟩
  · rw [E 0 (by omega) (by omega)]; exact q0
  · rw [E 1 (by omega) (by omega), e 0 1 (by omega)]; exact q1
  · rw [E 2 (by omega) (by omega), e 0 2 (by omega)]; exact q2
  · rw [E 3 (by omega) (by omega), e 0 3 (by omega)]; exact q3
  · intro l hl; rw [E _ (by omega) (by omega), e 3 l (by omega)]; exact s1 l hl
  · intro l hl h3
    rw [e 3 l (by omega)] at h3
    rw [E _ (by omega) (by omega), E _ (by omega) (by omega), e 1 l (by omega), e 2 l (by omega)]
    exact s2 l hl h3
  · intro q hq
    rw [E _ (by omega) (by omega), E _ (by omega) (by omega), E _ (by omega) (by omega), E _ (by omega) (by omega), E _ (by omega) (by omega), e 4 q (by omega), e 5 q (by omega), e 6 q (by omega), e 7 q (by omega), e 8 q (by omega)]
    exact s3 q hq
def gNn (S : gTb) (c : Nat) (V : gQ) : gTb := gU (gU (gU S 9 c V.1) 10 c V.2) 11 c 1
def gNo (S : gTb) (k : Nat) : gTb := gU S 11 k (S 11 k + 1)
theorem gNn_f {S : gTb} {c : Nat} {V : gQ} {f k : Nat} (h9 : f ≠ 9) (h10 : f ≠ 10) (h11 : f ≠ 11) : gNn S c V f k = S f k := by
  unfold gNn
  rw [gU_n h11, gU_n h10, gU_n h9]
theorem gNn_k {S : gTb} {c : Nat} {V : gQ} {f k : Nat} (h : k ≠ c) : gNn S c V f k = S f k := by
  unfold gNn
  rw [gU_k h, gU_k h, gU_k h]
theorem gNn_9 (S : gTb) (c : Nat) (V : gQ) : gNn S c V 9 c = V.1 := by
  unfold gNn
  rw [gU_n (by decide), gU_n (by decide), gU_eq]
theorem gNn_10 (S : gTb) (c : Nat) (V : gQ) : gNn S c V 10 c = V.2 := by
  unfold gNn
  rw [gU_n (by decide), gU_eq]
theorem gNn_11 (S : gTb) (c : Nat) (V : gQ) : gNn S c V 11 c = 1 := gU_eq _ _ _ _
theorem s_note (b m t : Nat) (ht : t ≤ 1000) (x1 : Int32) : gOK b m t (f_X9_note b x1) (f_X10_note m x1) := by
  rintro ⟨tx, ⟨n, c, S⟩, H, X⟩ h C W
  have R : cSt h (b + 3) n c S := C.2.1
  have Wf : gWf t n c S := W.2.1
  have hn := Wf.n
  have hc := Wf.c
  obtain ⟨z1, rfl, a1, a2⟩ := jI_ex x1
  have eh := u_hasPart R.1 hn a1 a2
  by_cases hz : 0 ≤ z1 ∧ z1 < n
  · rw [decide_eq_true hz] at eh
    obtain ⟨p, rfl⟩ : ∃ p : Nat, z1 = p := ⟨z1.toNat, by omega⟩
    have hp : p < n := by omega
    obtain ⟨v4, q1, Q1, G1, U1⟩ := u_findReading (a := b + 113) (s := b + 3) R Wf (by omega) hp
    have R4 := R.mv (G1.sa (lo' := b + 3) (n' := 13) (by omega))
    have q2 := u_find R4.2.1 hc Q1
    have Rc : v4.1 (b + 3 + 6) 3 = jI c := R4.2.1.1
    have kle := gFst_le (gNp2 S (vV S (rR S p n) p)) c
    have C4 := C.fr G1 (by omega)
    have refr : ∀ h2, mI m h2 (tx, (n, c, S), H, X) → ∃ u4, f_X10_noPart m (jI p) h2 = some false ∧ f_X10_findVoltage m (jI p) (jI p) h2 = some u4 ∧ mFr m h2 u4 ∧ u4.2 m 17 = lI (vV S (rR S p n) p).1 ∧ u4.2 m 18 = lI (vV S (rR S p n) p).2 ∧ (u4.2 (m + 1) 4).toInt32 = jI c ∧ f_X10_note_26 m (jI c) u4 gFuel 0 = some (jI (gFst (gNp2 S (vV S (rR S p n) p)) c)) ∧ mI m u4 (tx, (n, c, S), H, X) := fun h2 M => by
      have M1 : mRow (h2.2 (m + 1)) n c S := M.2.1
      obtain ⟨u4, k1, k2, k3, F⟩ := m_findVoltage M1 Wf (x := p) (by omega) hp (by omega)
      rw [r4_p (by omega)] at k1
      have M4 : mRow (u4.2 (m + 1)) n c S := by rw [F.row]; exact M1
      exact ⟨u4, m_noPartT M1 hn hp, k1, F, k2, k3, by rw [M4.1.2.2.2.2, lI_to32 (by omega) (by omega)], m_noteLoop M4 hc k2 k3, M.fr F⟩
    generalize vV S (rR S p n) p = V at *
    by_cases hk : gFst (gNp2 S V) c < c
    · -- noted before
      rw [if_pos hk] at q2
      generalize gFst (gNp2 S V) c = k at *
      have ti := Wf.ti hk
      obtain ⟨v8, q3, H8, G8⟩ := u_record (a := b + 42) (s := b + 3) C4.2.2.1 W.2.2.1 R4 Wf (by omega)
      have R8 := R4.mv (G8.sa (lo' := b + 3) (n' := 13) (by omega))
      have nk : ¬ jI (k : Int) = -1 := jne (b := -1) (by omega) (by omega) (by omega) (by omega) (by omega)
      have e11 : v8.1 (b + 3 + 6 + 3) k = jI (S 11 k) := R8.2.1.2.2.2 k hk
      have g20 : gIn (jI k) 20 := jin (by omega) (by omega) (by omega)
      have e1 : jI (S 11 k) + 1 = jI (S 11 k + 1) := by rw [jl_1, jI_add]
      have q4 : f_X7_put (b + 3 + 6) (b + 113 + 7 + 2 * p) (jI k) v8 = some (jI (S 11 k + 1), gsI v8 (b + 3 + 6 + 3) k (jI (S 11 k + 1))) := by
        rw [f_X7_put]
        refine gBs (v := (jI k, v8)) (gIF nk rfl) ?_
        try dsimp only
        rw [gNp (by omega), e11, e1, rI_e]
        exact gIF (jnlt (b := 0) (by omega) (by omega) (by omega) (by omega) (by omega)) (gIT (by rw [show v8.1 (b + 3 + 6) 3 = jI c from R8.2.1.1]; exact jlt (by omega) (by omega) (by omega) (by omega) (by omega)) (gIT g20 (gIT g20 (gIT g20 rfl))))
      have hS : ∀ f j, f ≠ 9 → f ≠ 10 → f ≠ 11 → gNo S k f j = S f j := fun f j _ _ h11 => gU_n h11
      have R10 : cSt (gsI v8 (b + 3 + 6 + 3) k (jI (S 11 k + 1))) (b + 3) n c (gNo S k) := by
        refine R8.cn (fun y hy => ⟨rI_n (by omega), rfl⟩) hS ?_
        obtain ⟨n1, n2, n3, n4⟩ := R8.2.1
        refine ⟨by rw [rI_n (by omega)]; exact n1, fun j hj => ?_, fun j hj => ?_, fun j hj => ?_⟩
        · unfold gNo; rw [gU_n (by decide)]; exact n2 j hj
        · unfold gNo; rw [gU_n (by decide)]; exact n3 j hj
        · unfold gNo
          by_cases e : j = k
          · subst e; rw [rI_e, gU_eq]
          · rw [rI_k e, gU_k e]; exact n4 j hj
      have W10 : gWf (t + 1) n c (gNo S k) := Wf.cn (by omega) hS hc (fun j hj => by
        have tj := Wf.ti hj
        unfold gNo
        by_cases e : j = k
        · subst e; rw [gU_eq]; omega
        · rw [gU_k e]; omega)
      refine ⟨jI (S 11 k + 1), gsI v8 (b + 3 + 6 + 3) k (jI (S 11 k + 1)), (tx, (n, c, gNo S k), gRec H (n, c, S), X), ?_, C4.act (t := t) G8 H8 (gFr.rf.I (by omega) (by omega)) R10, W.act W10, ((G1.mono (by omega) (by omega)).tr (G8.mono (by omega) (by omega))).I (by omega) (by omega), fun h2 M => ?_⟩
      · have q5 : f_X9_note_64 b (b + 113 + 7 + 2 * p) (jI k) v4 = some (jI (S 11 k + 1), gsI v8 (b + 3 + 6 + 3) k (jI (S 11 k + 1))) := by
          rw [f_X9_note_64]
          exact gBs q3 (gBs q4 rfl)
        rw [f_X9_note]
        exact gBs eh (gIT rfl (gBs q1 (gBs q2 (gIF nk q5))))
      · obtain ⟨u4, k1, k2, F, k3, k4, k5, k6, M4⟩ := refr h2 M
        have M1 : mRow (u4.2 (m + 1)) n c S := M4.2.1
        obtain ⟨u8, k7, H9, F9⟩ := m_record M4.2.2.1 W.2.2.1 W.2.2.2.1 M1 Wf
        have row8 : u8.2 (m + 1) = u4.2 (m + 1) := (F9.1 (m + 1) (by omega) (by omega)).2
        have ex : (81 : Int32) + 3 * jI k + 2 = jI ((81 + 3 * k + 2 : Nat) : Int) := by
          rw [jl_81, jl_3, jl_2, jI_mul, jI_add, jI_add]
          congr 1
        have e11' : u8.2 (m + 1) (81 + 3 * k + 2) + 1 = lI (S 11 k + 1) := by rw [row8, (M1.2.2.2.2 k hk).2.2, l1, lI_add]
        have gx : gIn (jI ((81 + 3 * k + 2 : Nat) : Int)) 141 := jin (by omega) (by omega) (by omega)
        refine ⟨gsL u8 (m + 1) (81 + 3 * k + 2) (lI (S 11 k + 1)), ?_, M4.act F9 H9 rfl (fun y hy => rL_n hy) ?_, (F.fr).tr (mI.actF F9 rfl (fun y hy => rL_n hy))⟩
        · rw [f_X10_note]
          refine gBs k1 (gIF Bool.false_ne_true (gBs k2 (gIT (jin (z := 4) (by omega) (by omega) (by omega)) ?_)))
          rw [show gN 4 = 4 from rfl, k5]
          refine gBs k6 (gIF (jne (b := 20) (by omega) (by omega) (by omega) (by omega) (by omega)) (gBs k7 (gBs (v := u8) (gIF (jne (by omega) (by omega) (by omega) (by omega) (by omega)) rfl) ?_)))
          rw [ex, gNp (by omega), e11', rL_e, lI_to32 (by omega) (by omega)]
          exact gIT gx (gIT gx (gIT gx rfl))
        · refine mRow.cn hn M1 (fun x hx h4 => ?_) ?_ hS (fun j hj => ?_)
          · rw [rL_k (by omega), row8]
          · rw [rL_k (by omega), row8]; exact M1.1.2.2.2.2
          · try dsimp only at hj ⊢
            have s4 := M1.2.2.2.2 j hj
            rw [rL_k (by omega), rL_k (by omega), row8]
            unfold gNo
            rw [gU_n (by decide), gU_n (by decide)]
            refine ⟨s4.1, s4.2.1, ?_⟩
            by_cases e : j = k
            · subst e; rw [rL_e, gU_eq]
            · rw [rL_k (by omega), gU_k e, row8]; exact s4.2.2
    · rw [if_neg hk] at q2
      have hkc : gFst (gNp2 S V) c = c := by omega
      rw [hkc] at refr
      by_cases c20 : c = 20
      · refine ⟨-3, v4, _, ?_, C4, W.up (by omega), G1.mono (by omega) (by omega), fun h2 M => ?_⟩
        · rw [f_X9_note]
          exact gBs eh (gIT rfl (gBs q1 (gBs q2 (gIT rfl (gIF (by rw [Rc]; exact jnlt (b := 20) (by omega) (by omega) (by omega) (by omega) (by omega)) rfl)))))
        · obtain ⟨u4, k1, k2, F, k3, k4, k5, k6, M4⟩ := refr h2 M
          refine ⟨u4, ?_, M4, F.fr⟩
          rw [f_X10_note]
          refine gBs k1 (gIF Bool.false_ne_true (gBs k2 (gIT (jin (z := 4) (by omega) (by omega) (by omega)) ?_)))
          rw [show gN 4 = 4 from rfl, k5]
          exact gBs k6 (gIT (by rw [c20]; rfl) rfl)
      · obtain ⟨v8, q3, H8, G8⟩ := u_record (a := b + 42) (s := b + 3) C4.2.2.1 W.2.2.1 R4 Wf (by omega)
        have R8 := R4.mv (G8.sa (lo' := b + 3) (n' := 13) (by omega))
        have Q8 := Q1.fr G8 (by omega)
        have Rc8 : v8.1 (b + 3 + 6) 3 = jI c := R8.2.1.1
        have e1 : jI (c : Int) + 1 = jI ((c + 1 : Nat) : Int) := by rw [jl_1, jI_add]; rfl
        have g20 : gIn (jI c) 20 := jin (by omega) (by omega) (by omega)
        have q0' : v8.2 (b + 113 + 7 + 2 * p) 0 = lI V.1 := Q8.1
        have q1' : v8.2 (b + 113 + 7 + 2 * p) 1 = lI V.2 := Q8.2
        have hS : ∀ f j, f ≠ 9 → f ≠ 10 → f ≠ 11 → gNn S c V f j = S f j := fun f j h9 h10 h11 => gNn_f h9 h10 h11
        have q4 : ∃ v10, f_X7_put (b + 3 + 6) (b + 113 + 7 + 2 * p) (jI (-1)) v8 = some (jI 1, v10) ∧ cNot v10 (b + 3 + 6) (c + 1) (gNn S c V) ∧ ∀ y, y < b + 9 ∨ b + 13 ≤ y → v10.1 y = v8.1 y ∧ v10.2 y = v8.2 y := by
          have w3 : (gsL v8 (b + 3 + 6 + 1) c (lI V.1)).2 (b + 113 + 7 + 2 * p) 1 = lI V.2 := by rw [rL_n (by omega)]; exact q1'
          have w4 : (gsI (gsL (gsL v8 (b + 3 + 6 + 1) c (lI V.1)) (b + 3 + 6 + 2) c (lI V.2)) (b + 3 + 6 + 3) c 0).1 (b + 3 + 6) 3 = jI c := by rw [rI_n (by omega)]; exact Rc8
          refine ⟨gsI (gsI (gsI (gsL (gsL v8 (b + 3 + 6 + 1) c (lI V.1)) (b + 3 + 6 + 2) c (lI V.2)) (b + 3 + 6 + 3) c 0) (b + 3 + 6) 3 (jI ((c + 1 : Nat) : Int))) (b + 3 + 6 + 3) c (jI 1), ?_, ?_, fun y hy => ⟨by rw [rI_n (by omega), rI_n (by omega), rI_n (by omega)]; rfl, by show (gsL (gsL v8 (b + 3 + 6 + 1) c (lI V.1)) (b + 3 + 6 + 2) c (lI V.2)).2 y = _; rw [rL_n (by omega), rL_n (by omega)]⟩⟩
          · rw [f_X7_put, Rc8, gNp (by omega), q0', w3, w4, e1]
            refine gBs (v := (jI c, gsI (gsI (gsL (gsL v8 (b + 3 + 6 + 1) c (lI V.1)) (b + 3 + 6 + 2) c (lI V.2)) (b + 3 + 6 + 3) c 0) (b + 3 + 6) 3 (jI ((c + 1 : Nat) : Int)))) (gIT rfl (gIF (jnle (a := 20) (by omega) (by omega) (by omega) (by omega) (by omega)) (gIT g20 (gIT g20 (gIT g20 rfl))))) ?_
            try dsimp only
            have w5 : (gsI (gsI (gsL (gsL v8 (b + 3 + 6 + 1) c (lI V.1)) (b + 3 + 6 + 2) c (lI V.2)) (b + 3 + 6 + 3) c 0) (b + 3 + 6) 3 (jI ((c + 1 : Nat) : Int))).1 (b + 3 + 6 + 3) c + 1 = jI 1 := by
              rw [rI_n (by omega), rI_e, jl_0, jl_1, jI_add]
              rfl
            have w6 : (gsI (gsI (gsL (gsL v8 (b + 3 + 6 + 1) c (lI V.1)) (b + 3 + 6 + 2) c (lI V.2)) (b + 3 + 6 + 3) c 0) (b + 3 + 6) 3 (jI ((c + 1 : Nat) : Int))).1 (b + 3 + 6) 3 = jI ((c + 1 : Nat) : Int) := rI_e _ _ _ _
            rw [gNp (by omega), w5, w6, rI_e]
            exact gIF (jnlt (b := 0) (by omega) (by omega) (by omega) (by omega) (by omega)) (gIT (jlt (by omega) (by omega) (by omega) (by omega) (by omega)) (gIT g20 (gIT g20 (gIT g20 rfl))))
          · obtain ⟨n1, n2, n3, n4⟩ := R8.2.1
            refine ⟨by rw [rI_n (by omega), rI_e], fun j hj => ?_, fun j hj => ?_, fun j hj => ?_⟩
            · show (gsL (gsL v8 (b + 3 + 6 + 1) c (lI V.1)) (b + 3 + 6 + 2) c (lI V.2)).2 (b + 3 + 6 + 1) j = _
              rw [rL_n (by omega)]
              by_cases e : j = c
              · subst e; rw [rL_e, gNn_9]
              · rw [rL_k e, gNn_k e]; exact n2 j (by omega)
            · show (gsL (gsL v8 (b + 3 + 6 + 1) c (lI V.1)) (b + 3 + 6 + 2) c (lI V.2)).2 (b + 3 + 6 + 2) j = _
              by_cases e : j = c
              · subst e; rw [rL_e, gNn_10]
              · rw [rL_k e, rL_n (by omega), gNn_k e]; exact n3 j (by omega)
            · by_cases e : j = c
              · subst e; rw [rI_e, gNn_11]
              · rw [rI_k e, rI_n (by omega), rI_k e, gNn_k e]; exact n4 j (by omega)
        obtain ⟨v10, q4, N10, E10⟩ := q4
        have R10 : cSt v10 (b + 3) n (c + 1) (gNn S c V) := R8.cn (fun y hy => E10 y (by omega)) hS N10
        have W10 : gWf (t + 1) n (c + 1) (gNn S c V) := Wf.cn (by omega) hS (by omega) (fun j hj => by
          by_cases e : j = c
          · subst e; rw [gNn_11]; omega
          · have tj := Wf.ti (k := j) (by omega)
            rw [gNn_k e]; omega)
        have G10 : gFr (b + 3) 13 v8 v10 := fun y hy => E10 y (by omega)
        refine ⟨jI 1, v10, (tx, (n, c + 1, gNn S c V), gRec H (n, c, S), X), ?_, C4.act (t := t) G8 H8 G10 R10, W.act W10, ((G1.mono (by omega) (by omega)).tr (G8.mono (by omega) (by omega))).tr (G10.mono (by omega) (by omega)), fun h2 M => ?_⟩
        · have q5 : f_X9_note_64 b (b + 113 + 7 + 2 * p) (jI (-1)) v4 = some (jI 1, v10) := by
            rw [f_X9_note_64]
            exact gBs q3 (gBs q4 rfl)
          rw [f_X9_note]
          exact gBs eh (gIT rfl (gBs q1 (gBs q2 (gIT rfl (gIT (by rw [Rc]; exact jlt (b := 20) (by omega) (by omega) (by omega) (by omega) (by omega)) q5)))))
        · obtain ⟨u4, k1, k2, F, k3, k4, k5, k6, M4⟩ := refr h2 M
          have M1 : mRow (u4.2 (m + 1)) n c S := M4.2.1
          obtain ⟨u8, k7, H9, F9⟩ := m_record M4.2.2.1 W.2.2.1 W.2.2.2.1 M1 Wf
          have row8 : u8.2 (m + 1) = u4.2 (m + 1) := (F9.1 (m + 1) (by omega) (by omega)).2
          have s17 : u8.2 m 17 = lI V.1 := by rw [F9.2.2.1]; exact k3
          have s18 : u8.2 m 18 = lI V.2 := by rw [F9.2.2.1]; exact k4
          have ex0 : (81 : Int32) + 3 * jI c = jI ((81 + 3 * c : Nat) : Int) := by
            rw [jl_81, jl_3, jI_mul, jI_add]
            congr 1
          have ex1 : jI ((81 + 3 * c : Nat) : Int) + 1 = jI ((81 + 3 * c + 1 : Nat) : Int) := by rw [jl_1, jI_add]; rfl
          have ex2 : jI ((81 + 3 * c : Nat) : Int) + 2 = jI ((81 + 3 * c + 2 : Nat) : Int) := by rw [jl_2, jI_add]; rfl
          have g0 : gIn (jI ((81 + 3 * c : Nat) : Int)) 141 := jin (by omega) (by omega) (by omega)
          have g1 : gIn (jI ((81 + 3 * c + 1 : Nat) : Int)) 141 := jin (by omega) (by omega) (by omega)
          have g2 : gIn (jI ((81 + 3 * c + 2 : Nat) : Int)) 141 := jin (by omega) (by omega) (by omega)
          have y1 : (gsL u8 (m + 1) (81 + 3 * c) (lI V.1)).2 m 18 = lI V.2 := by rw [rL_n (by omega)]; exact s18
          have y4 : (gsL (gsL (gsL u8 (m + 1) (81 + 3 * c) (lI V.1)) (m + 1) (81 + 3 * c + 1) (lI V.2)) (m + 1) (81 + 3 * c + 2) 0).2 (m + 1) 4 + 1 = lI ((c + 1 : Nat) : Int) := by
            rw [rL_k (by omega), rL_k (by omega), rL_k (by omega), row8, M1.1.2.2.2.2, l1, lI_add]; rfl
          have y5 : (gsL (gsL (gsL (gsL u8 (m + 1) (81 + 3 * c) (lI V.1)) (m + 1) (81 + 3 * c + 1) (lI V.2)) (m + 1) (81 + 3 * c + 2) 0) (m + 1) 4 (lI ((c + 1 : Nat) : Int))).2 (m + 1) (81 + 3 * c + 2) + 1 = lI 1 := by
            rw [rL_k (by omega), rL_e, l0, l1, lI_add]
            rfl
          refine ⟨gsL (gsL (gsL (gsL (gsL u8 (m + 1) (81 + 3 * c) (lI V.1)) (m + 1) (81 + 3 * c + 1) (lI V.2)) (m + 1) (81 + 3 * c + 2) 0) (m + 1) 4 (lI ((c + 1 : Nat) : Int))) (m + 1) (81 + 3 * c + 2) (lI 1), ?_, M4.act F9 H9 rfl (fun y hy => by rw [rL_n hy, rL_n hy, rL_n hy, rL_n hy, rL_n hy]) ?_, (F.fr).tr (mI.actF F9 rfl (fun y hy => by rw [rL_n hy, rL_n hy, rL_n hy, rL_n hy, rL_n hy]))⟩
          · rw [f_X10_note]
            refine gBs k1 (gIF Bool.false_ne_true (gBs k2 (gIT (jin (z := 4) (by omega) (by omega) (by omega)) ?_)))
            rw [show gN 4 = 4 from rfl, k5]
            refine gBs k6 (gIF (jne (b := 20) (by omega) (by omega) (by omega) (by omega) (by omega)) (gBs k7 ?_))
            rw [ex0, ex1, ex2, gNp (by omega), gNp (by omega), gNp (by omega), s17, y1, y4]
            refine gBs (v := gsL (gsL (gsL (gsL u8 (m + 1) (81 + 3 * c) (lI V.1)) (m + 1) (81 + 3 * c + 1) (lI V.2)) (m + 1) (81 + 3 * c + 2) 0) (m + 1) 4 (lI ((c + 1 : Nat) : Int))) (gIT rfl (gIT g0 (gIT g1 (gIT g2 (gIT (jin (z := 4) (by omega) (by omega) (by omega)) (gIT (jin (z := 4) (by omega) (by omega) (by omega)) rfl)))))) ?_
            try dsimp only
            rw [y5, rL_e, lI_to32 (by omega) (by omega)]
            exact gIT g2 (gIT g2 (gIT g2 rfl))
          · have F5 : ∀ x, x ≠ 4 → x ≠ 81 + 3 * c → x ≠ 81 + 3 * c + 1 → x ≠ 81 + 3 * c + 2 → (gsL (gsL (gsL (gsL (gsL u8 (m + 1) (81 + 3 * c) (lI V.1)) (m + 1) (81 + 3 * c + 1) (lI V.2)) (m + 1) (81 + 3 * c + 2) 0) (m + 1) 4 (lI ((c + 1 : Nat) : Int))) (m + 1) (81 + 3 * c + 2) (lI 1)).2 (m + 1) x = u4.2 (m + 1) x := fun x h4 hx0 hx1 hx2 => by
              rw [rL_k hx2, rL_k h4, rL_k hx2, rL_k hx1, rL_k hx0, row8]
            refine mRow.cn hn M1 (fun x hx h4 => F5 x h4 (by omega) (by omega) (by omega)) ?_ hS (fun j hj => ?_)
            · rw [rL_k (by omega), rL_e]
            · try dsimp only at hj ⊢
              by_cases e : j = c
              · subst e
                refine ⟨?_, ?_, ?_⟩
                · rw [rL_k (by omega), rL_k (by omega), rL_k (by omega), rL_k (by omega), rL_e, gNn_9]
                · rw [rL_k (by omega), rL_k (by omega), rL_k (by omega), rL_e, gNn_10]
                · rw [rL_e, gNn_11]
              · have s4 := M1.2.2.2.2 j (by omega)
                rw [F5 _ (by omega) (by omega) (by omega) (by omega), F5 _ (by omega) (by omega) (by omega) (by omega), F5 _ (by omega) (by omega) (by omega) (by omega), gNn_k e, gNn_k e, gNn_k e]
                exact s4
  · rw [decide_eq_false hz] at eh
    refine ⟨-1, h, _, gBs eh (gIF Bool.false_ne_true rfl), C, W.up (by omega), gFr.rf, fun h2 M => ⟨h2, ?_, M, gFr.rf⟩⟩
    have e2 := m_noPart (h := h2) (m := m) M.2.1 hn a1 a2
    rw [decide_eq_false hz] at e2
    exact gBs e2 (gIT rfl rfl)
