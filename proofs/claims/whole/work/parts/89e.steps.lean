/-! the reference reads on, a character at a time -/
theorem mB.tx {m : Nat} {h h' : gHp} {z : Nat × (Nat → Int32)} (F : mB m h h') (T : mTx h m z) : mTx h' m z := by
  unfold mTx at *
  rw [F.2.2 5 (by decide) (by decide) (by decide), F.1 (m + 4) (by omega) (by omega) (by omega) (by omega) (by omega)]
  exact T
theorem mBq.k7 {m : Nat} {h h' : gHp} (F : mBq m h h') : h'.1 m 7 = h.1 m 7 := F.2.2 7 (by decide) (by decide)
theorem m_33 {h : gHp} {m i : Nat} {z : Nat × (Nat → Int32)} (T : mTx h m z) (hl : z.1 ≤ 40) (hi : i < z.1) (h7 : h.1 m 7 = jI i) (f : Nat) (x1 x2 : Int32) : f_X10_readsNetwork_33 m (f + 1) x1 x2 h = if x2 = 0 then f_X10_readsNetwork_84 m x1 x2 (z.2 i) h (fun y0 y1 y2 => f_X10_readsNetwork_33 m f y0 y1 y2) else if z.2 i = 40 then (if gIn (x1 + 1) 42 then if gIn (x1 + 1) 42 then f_X10_readsNetwork_194 m (x1 + 1) x2 (gsI (gsI h (m + 7) (gN (x1 + 1)) 0) (m + 8) (gN (x1 + 1)) 0) (fun y0 y1 y2 => f_X10_readsNetwork_33 m f y0 y1 y2) else none else none) else f_X10_readsNetwork_84 m x1 x2 (z.2 i) h (fun y0 y1 y2 => f_X10_readsNetwork_33 m f y0 y1 y2) := by
  rw [f_X10_readsNetwork_33, T.1, h7, gNp (by omega), T.2 i hi]
  exact gIF (jnle (by omega) (by omega) (by omega) (by omega) (by omega)) (gIT (jin (by omega) (by omega) (by omega)) rfl)
/-- on to the next character -/
theorem m_nx {v : gHp} {m i n : Nat} {z : Nat × (Nat → Int32)} {S : gTb} {F : List (List Nat × List Nat)} (T : mTx v m z) (h7 : v.1 m 7 = jI i) (C : mBd v m n S F) (x1 x2 : Int32) (k : Int32 → Int32 → gHp → Option (Bool × gHp)) : ∃ v', f_X10_readsNetwork_194 m x1 x2 v k = k x1 x2 v' ∧ mTx v' m z ∧ v'.1 m 7 = jI ((i + 1 : Nat) : Int) ∧ mBd v' m n S F ∧ mB m v v' := by
  have e1 : jI (i : Int) + 1 = jI ((i + 1 : Nat) : Int) := by rw [jl_1, jI_add]; rfl
  have F1 : mB m v (gsI v m 7 (jI ((i + 1 : Nat) : Int))) := mB.rf.i7
  refine ⟨gsI v m 7 (jI ((i + 1 : Nat) : Int)), ?_, F1.tx T, rI_e _ _ _ _, ⟨C.1.mv (rI_k (by decide)) (rI_k (by decide)) (rI_n (by omega)) (rI_n (by omega)), C.2.mv (fun j _ => ⟨by rw [rI_n (by omega)], by rw [rI_n (by omega)]⟩)⟩, F1⟩
  rw [f_X10_readsNetwork_194, h7, e1]
theorem m_sOpen {h : gHp} {m i n : Nat} {z : Nat × (Nat → Int32)} {S : gTb} {f : List Nat × List Nat} {r : List (List Nat × List Nat)} (T : mTx h m z) (hl : z.1 ≤ 40) (hi : i < z.1) (h7 : h.1 m 7 = jI i) (C : mBd h m n S (f :: r)) (hr : r.length < 41) (c : z.2 i = 40) (g : Nat) : ∃ h1, f_X10_readsNetwork_33 m (g + 1) (jI (r.length : Nat)) (gZ true) h = f_X10_readsNetwork_33 m g (jI ((f :: r).length : Nat)) (gZ true) h1 ∧ mTx h1 m z ∧ h1.1 m 7 = jI ((i + 1 : Nat) : Int) ∧ mBd h1 m n S (([], []) :: f :: r) ∧ mB m h h1 := by
  have e1 : jI (r.length : Int) + 1 = jI ((r.length + 1 : Nat) : Int) := by rw [jl_1, jI_add]; rfl
  have g42 : gIn (jI ((r.length + 1 : Nat) : Int)) 42 := jin (by omega) (by omega) (by omega)
  obtain ⟨v, d⟩ : ∃ v, v = gsI (gsI h (m + 7) (r.length + 1) 0) (m + 8) (r.length + 1) 0 := ⟨_, rfl⟩
  have F1 : mB m h v := by rw [d]; exact ((mBl.rf.I (Or.inl rfl)).I (Or.inr rfl)).B
  have E : ∀ y, y ≠ m + 7 → y ≠ m + 8 → v.1 y = h.1 y := fun y y1 y2 => by rw [d, rI_n y2, rI_n y1]
  have C1 : mBd v m n S (([], []) :: f :: r) := by
    refine ⟨?_, ?_, ?_, mSk.mv C.2 (fun k hk => ⟨?_, ?_⟩)⟩
    · show mCo v m n S (([] : List Nat) ++ (([] : List Nat) ++ bdA (f :: r)))
      rw [List.nil_append, List.nil_append]
      exact C.1.mv (by rw [E m (by omega) (by omega)]) (by rw [E m (by omega) (by omega)]) (E _ (by omega) (by omega)) (E _ (by omega) (by omega))
    · rw [List.length_cons, d, rI_n (by omega), rI_e]; rfl
    · rw [List.length_cons, d, rI_e]; rfl
    · rw [List.length_cons] at hk
      rw [d, rI_n (by omega), rI_k (by omega)]
    · rw [List.length_cons] at hk
      rw [d, rI_k (by omega), rI_n (by omega)]
  obtain ⟨v', q1, q2, q3, q4, q5⟩ := m_nx (F1.tx T) (by rw [E m (by omega) (by omega)]; exact h7) C1 (jI ((r.length + 1 : Nat) : Int)) (gZ true) (fun y0 y1 y2 => f_X10_readsNetwork_33 m g y0 y1 y2)
  refine ⟨v', ?_, q2, q3, q4, F1.tr q5⟩
  rw [m_33 T hl hi h7, e1, gNp (by omega), ← d, q1, List.length_cons]
  exact gIF (by decide) (gIT c (gIT g42 (gIT g42 rfl)))
theorem m_sArm {h : gHp} {m i n l : Nat} {z : Nat × (Nat → Int32)} {S : gTb} {L P : List Nat} {r : List (List Nat × List Nat)} (T : mTx h m z) (hl : z.1 ≤ 40) (hi : i < z.1) (h7 : h.1 m 7 = jI i) (C : mBd h m n S ((L, P) :: r)) (B : gB0 n S (bdA ((L, P) :: r))) (hr : r.length < 42) (h6 : l < 6) (c : z.2 i = jI ((97 + l : Nat) : Int)) (h0 : S 3 l = 0) (g : Nat) : ∃ h1, f_X10_readsNetwork_33 m (g + 1) (jI (r.length : Nat)) (gZ true) h = f_X10_readsNetwork_33 m g (jI (r.length : Nat)) (gZ false) h1 ∧ mTx h1 m z ∧ h1.1 m 7 = jI ((i + 1 : Nat) : Int) ∧ mBd h1 m (n + 1) (gPut S n 0 l []) ((L, n :: P) :: r) ∧ mB m h h1 := by
  obtain ⟨C0, K1, K2, K3⟩ := C
  have lim := bd_limL B h6 h0
  have lP : P.length ≤ 12 := by
    have : (bdA ((L, P) :: r)).length = P.length + (L ++ bdA r).length := List.length_append
    omega
  have g42 : gIn (jI (r.length : Int)) 42 := jin (by omega) (by omega) (by omega)
  have e97 : jI ((97 + l : Nat) : Int) - 97 = jI (l : Nat) := by
    rw [jl_97, jI_sub]
    exact congrArg jI (by omega)
  have i1 := m_in h (x := ((97 + l : Nat) : Int)) (y := 97) (z := 102) (by omega) (by omega) (by omega) (by omega) (by omega) (by omega)
  rw [decide_eq_true (by omega)] at i1
  have i2 := m_isRead C0.1 C0.2.2.1 B h6
  rw [decide_eq_false (fun w => w h0)] at i2
  obtain ⟨v, q1, C1, F1⟩ := m_lays (X := []) (A := bdA ((L, P) :: r)) (k := 0) (l := (l : Int)) C0 (by omega) (fun q hq => absurd hq List.not_mem_nil) (by
    have : ([] : List Nat).length = 0 := rfl
    omega) (by omega) (by omega)
  rw [r4_i] at q1
  have k1 : v.1 (m + 7) r.length = jI (P.length : Nat) := by rw [F1.1 _ (by omega) (by omega) (by omega)]; exact K1
  have e1 : jI (P.length : Int) + 1 = jI ((P.length + 1 : Nat) : Int) := by rw [jl_1, jI_add]; rfl
  obtain ⟨v2, d⟩ : ∃ v2, v2 = gsI v (m + 7) r.length (jI ((P.length + 1 : Nat) : Int)) := ⟨_, rfl⟩
  have F2 : mB m h v2 := by rw [d]; exact ((mBl.rf.q F1).I (Or.inl rfl)).B
  have C2 : mBd v2 m (n + 1) (gPut S n 0 l []) ((L, n :: P) :: r) := by
    refine ⟨C1.mv (by rw [d, rI_n (by omega)]) (by rw [d, rI_n (by omega)]) (by rw [d, rI_n (by omega)]) (by rw [d, rI_n (by omega)]), ?_, ?_, K3.mv (fun k hk => ⟨?_, ?_⟩)⟩
    · show v2.1 (m + 7) r.length = jI ((n :: P).length : Nat)
      rw [d, rI_e, List.length_cons]
    · show v2.1 (m + 8) r.length = jI (L.length : Nat)
      rw [d, rI_n (by omega), F1.1 _ (by omega) (by omega) (by omega)]
      exact K2
    · rw [d, rI_k (by omega), F1.1 _ (by omega) (by omega) (by omega)]
    · rw [d, rI_n (by omega), F1.1 _ (by omega) (by omega) (by omega)]
  obtain ⟨v', y1, y2, y3, y4, y5⟩ := m_nx (F2.tx T) (by rw [d, rI_n (by omega), F1.k7]; exact h7) C2 (jI (r.length : Nat)) 0 (fun y0 y1 y2 => f_X10_readsNetwork_33 m g y0 y1 y2)
  refine ⟨v', ?_, y2, y3, y4, F2.tr y5⟩
  rw [m_33 T hl hi h7, c]
  refine gIF (by decide) (gIF (jne (b := 40) (by omega) (by omega) (by omega) (by omega) (by omega)) ?_)
  rw [f_X10_readsNetwork_84, e97]
  refine gIF (by decide) (gBs i1 (gIT rfl (gBs i2 (gIF Bool.false_ne_true (gBs q1 (gIT g42 (gIT g42 ?_)))))))
  rw [gNp (by omega), k1, e1, ← d, y1]
  rfl
theorem m_sBar {h : gHp} {m i n : Nat} {z : Nat × (Nat → Int32)} {S : gTb} {F : List (List Nat × List Nat)} (T : mTx h m z) (hl : z.1 ≤ 40) (hi : i < z.1) (h7 : h.1 m 7 = jI i) (C : mBd h m n S F) (c : z.2 i = 124) (g : Nat) (x1 : Int32) : ∃ h1, f_X10_readsNetwork_33 m (g + 1) x1 (gZ false) h = f_X10_readsNetwork_33 m g x1 (gZ true) h1 ∧ mTx h1 m z ∧ h1.1 m 7 = jI ((i + 1 : Nat) : Int) ∧ mBd h1 m n S F ∧ mB m h h1 := by
  obtain ⟨v', y1, y2, y3, y4, y5⟩ := m_nx T h7 C x1 1 (fun y0 y1 y2 => f_X10_readsNetwork_33 m g y0 y1 y2)
  refine ⟨v', ?_, y2, y3, y4, y5⟩
  rw [m_33 T hl hi h7]
  refine gIT rfl ?_
  rw [f_X10_readsNetwork_84]
  exact gIT rfl (gIT c y1)
theorem m_sPlus {h : gHp} {m i n : Nat} {z : Nat × (Nat → Int32)} {S : gTb} {L P : List Nat} {r : List (List Nat × List Nat)} (T : mTx h m z) (hl : z.1 ≤ 40) (hi : i < z.1) (h7 : h.1 m 7 = jI i) (C : mBd h m n S ((L, P) :: r)) (B : gB0 n S (bdA ((L, P) :: r))) (hP : P ≠ []) (hr : r.length < 42) (c : z.2 i = 43) (g : Nat) : ∃ h1, f_X10_readsNetwork_33 m (g + 1) (jI (r.length : Nat)) (gZ false) h = f_X10_readsNetwork_33 m g (jI (r.length : Nat)) (gZ true) h1 ∧ mTx h1 m z ∧ h1.1 m 7 = jI ((i + 1 : Nat) : Int) ∧ mBd h1 m (bdJ n S 2 P).1 (bdJ n S 2 P).2.1 (((bdJ n S 2 P).2.2 ++ L, []) :: r) ∧ mB m h h1 := by
  obtain ⟨v, q1, C1, F1⟩ := m_endsLink C B hP hr
  obtain ⟨v', y1, y2, y3, y4, y5⟩ := m_nx (F1.B.tx T) (F1.k7.trans h7) C1 (jI (r.length : Nat)) 1 (fun y0 y1 y2 => f_X10_readsNetwork_33 m g y0 y1 y2)
  refine ⟨v', ?_, y2, y3, y4, F1.B.tr y5⟩
  rw [m_33 T hl hi h7]
  refine gIT rfl ?_
  rw [f_X10_readsNetwork_84, c]
  exact gIT rfl (gIF (by decide) (gIT rfl (gBs q1 y1)))
theorem m_sClose {h : gHp} {m i n : Nat} {z : Nat × (Nat → Int32)} {S : gTb} {L P L2 P2 : List Nat} {r : List (List Nat × List Nat)} (T : mTx h m z) (hl : z.1 ≤ 40) (hi : i < z.1) (h7 : h.1 m 7 = jI i) (C : mBd h m n S ((L, P) :: (L2, P2) :: r)) (B : gB0 n S (bdA ((L, P) :: (L2, P2) :: r))) (hP : P ≠ []) (hr : r.length < 41) (c : z.2 i = 41) (g : Nat) : ∃ h1, f_X10_readsNetwork_33 m (g + 1) (jI (((L2, P2) :: r).length : Nat)) (gZ false) h = f_X10_readsNetwork_33 m g (jI (r.length : Nat)) (gZ false) h1 ∧ mTx h1 m z ∧ h1.1 m 7 = jI ((i + 1 : Nat) : Int) ∧ mBd h1 m (bdC n S L P).1 (bdC n S L P).2.1 ((L2, (bdC n S L P).2.2 ++ P2) :: r) ∧ mB m h h1 := by
  have lr : ((L2, P2) :: r).length = r.length + 1 := List.length_cons
  have lX := bdC_l (n := n) (S := S) (L := L) hP
  have B1 := bdC_w B
  have lim := bd_lim B1
  have lP : P2.length ≤ 12 := by
    have : (bdA ((L2, P2) :: r)).length = P2.length + (L2 ++ bdA r).length := List.length_append
    rw [List.length_append] at lim
    omega
  obtain ⟨v, q1, C1, K1, F1⟩ := m_endsChain C B hP (by omega)
  rw [lr] at q1 ⊢
  have em : jI ((r.length + 1 : Nat) : Int) + -1 = jI (r.length : Nat) := by
    rw [show (-1 : Int32) = jI (-1) from rfl, jI_add]
    exact congrArg jI (by omega)
  have g42 : gIn (jI (r.length : Int)) 42 := jin (by omega) (by omega) (by omega)
  have k1 : v.1 (m + 7) r.length = jI (P2.length : Nat) := K1.1
  have e1 : jI (P2.length : Int) + 1 = jI ((P2.length + 1 : Nat) : Int) := by rw [jl_1, jI_add]; rfl
  obtain ⟨v2, d⟩ : ∃ v2, v2 = gsI v (m + 7) r.length (jI ((P2.length + 1 : Nat) : Int)) := ⟨_, rfl⟩
  have F2 : mBl m h v2 := by rw [d]; exact F1.I (Or.inl rfl)
  have C2 : mBd v2 m (bdC n S L P).1 (bdC n S L P).2.1 ((L2, (bdC n S L P).2.2 ++ P2) :: r) := by
    refine ⟨?_, ?_, ?_, K1.2.2.mv (fun k hk => ⟨?_, ?_⟩)⟩
    · show mCo v2 m _ _ (((bdC n S L P).2.2 ++ P2) ++ (L2 ++ bdA r))
      rw [List.append_assoc]
      exact C1.mv (by rw [d, rI_n (by omega)]) (by rw [d, rI_n (by omega)]) (by rw [d, rI_n (by omega)]) (by rw [d, rI_n (by omega)])
    · show v2.1 (m + 7) r.length = jI (((bdC n S L P).2.2 ++ P2).length : Nat)
      rw [d, rI_e, List.length_append, lX]
      exact congrArg jI (by omega)
    · show v2.1 (m + 8) r.length = jI (L2.length : Nat)
      rw [d, rI_n (by omega)]
      exact K1.2.1
    · rw [d, rI_k (by omega)]
    · rw [d, rI_n (by omega)]
  obtain ⟨v', y1, y2, y3, y4, y5⟩ := m_nx (F2.B.tx T) (F2.k7.trans h7) C2 (jI (r.length : Nat)) (gZ false) (fun y0 y1 y2 => f_X10_readsNetwork_33 m g y0 y1 y2)
  refine ⟨v', ?_, y2, y3, y4, F2.B.tr y5⟩
  rw [m_33 T hl hi h7]
  refine gIT rfl ?_
  rw [f_X10_readsNetwork_84, c]
  refine gIT rfl (gIF (by decide) (gIF (by decide) (gIT rfl (gIF (jne (b := 0) (by omega) (by omega) (by omega) (by omega) (by omega)) (gBs q1 ?_)))))
  rw [em, gNp (by omega), k1, e1, ← d]
  exact gIT g42 (gIT g42 y1)
/-- faults -/
theorem m_sBadF {h : gHp} {m i : Nat} {z : Nat × (Nat → Int32)} (T : mTx h m z) (hl : z.1 ≤ 40) (hi : i < z.1) (h7 : h.1 m 7 = jI i) (c1 : ¬ z.2 i = 43) (c2 : ¬ z.2 i = 124) {x1 : Int32} (c3 : ¬ z.2 i = 41 ∨ x1 = 0) (g : Nat) : f_X10_readsNetwork_33 m (g + 1) x1 (gZ false) h = some (false, h) := by
  rw [m_33 T hl hi h7]
  refine gIT rfl ?_
  rw [f_X10_readsNetwork_84]
  refine gIT rfl (gIF c2 (gIF c1 ?_))
  rcases c3 with c3 | c3
  · exact gIF c3 rfl
  · by_cases c4 : z.2 i = 41
    · exact gIT c4 (gIT c3 rfl)
    · exact gIF c4 rfl
theorem m_sBadT {h : gHp} {m i : Nat} {z : Nat × (Nat → Int32)} (T : mTx h m z) (hl : z.1 ≤ 40) (hi : i < z.1) (h7 : h.1 m 7 = jI i) (c1 : ¬ z.2 i = 40) {q : Int} (hq : z.2 i = jI q) (q1 : -2147483648 ≤ q) (q2 : q < 2147483648) (c2 : ¬ (97 ≤ q ∧ q < 103)) (g : Nat) (x1 : Int32) : f_X10_readsNetwork_33 m (g + 1) x1 (gZ true) h = some (false, h) := by
  have i1 := m_in h (x := q) (y := 97) (z := 102) q1 q2 (by omega) (by omega) (by omega) (by omega)
  rw [decide_eq_false (by omega)] at i1
  rw [m_33 T hl hi h7]
  refine gIF (by decide) (gIF c1 ?_)
  rw [f_X10_readsNetwork_84, hq]
  exact gIF (by decide) (gBs i1 (gIF Bool.false_ne_true rfl))
theorem m_sSeen {h : gHp} {m i n l : Nat} {z : Nat × (Nat → Int32)} {S : gTb} {F : List (List Nat × List Nat)} (T : mTx h m z) (hl : z.1 ≤ 40) (hi : i < z.1) (h7 : h.1 m 7 = jI i) (C : mBd h m n S F) (B : gB0 n S (bdA F)) (h6 : l < 6) (c : z.2 i = jI ((97 + l : Nat) : Int)) (h0 : S 3 l ≠ 0) (g : Nat) (x1 : Int32) : f_X10_readsNetwork_33 m (g + 1) x1 (gZ true) h = some (false, h) := by
  have e97 : jI ((97 + l : Nat) : Int) - 97 = jI (l : Nat) := by
    rw [jl_97, jI_sub]
    exact congrArg jI (by omega)
  have i1 := m_in h (x := ((97 + l : Nat) : Int)) (y := 97) (z := 102) (by omega) (by omega) (by omega) (by omega) (by omega) (by omega)
  rw [decide_eq_true (by omega)] at i1
  have i2 := m_isRead C.1.1 C.1.2.2.1 B h6
  rw [decide_eq_true h0] at i2
  rw [m_33 T hl hi h7, c]
  refine gIF (by decide) (gIF (jne (b := 40) (by omega) (by omega) (by omega) (by omega) (by omega)) ?_)
  rw [f_X10_readsNetwork_84, e97]
  exact gIF (by decide) (gBs i1 (gIT rfl (gBs i2 (gIT rfl rfl))))
