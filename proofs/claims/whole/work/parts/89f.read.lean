/-! class and reference read a network: the text from i on -/
def rdC (a w ya : Nat) (z : Nat × (Nat → Int32)) (n : Nat) (S : gTb) (F : List (List Nat × List Nat)) (i fc n' : Nat) (S' : gTb) : Prop := ∀ h, cTx h ya z → cBd h a w n S F → ∃ h', ((f_X6_build_15 a ya w fc (jI i) h).bind fun v8 => (f_X6_endChain a w v8).bind fun v12 => some v12.2) = some h' ∧ cNet h' w n' S' ∧ cBf a w h h'
def rdM (m : Nat) (z : Nat × (Nat → Int32)) (n : Nat) (S : gTb) (F : List (List Nat × List Nat)) (i fm n' : Nat) (S' : gTb) (g : Int) (wp : Bool) : Prop := ∀ h, mTx h m z → h.1 m 7 = jI i → mBd h m n S F → ∃ h', f_X10_readsNetwork_33 m fm (jI ((F.length : Int) - 1)) (gZ wp) h = some (decide (g = -1), h') ∧ mB m h h' ∧ (g = -1 → h'.1 m 8 = jI n' ∧ mRd h' m n' S') ∧ (g ≠ -1 → h'.1 m 7 = jI g)
def rdR (a w ya m : Nat) (z : Nat × (Nat → Int32)) (n : Nat) (S : gTb) (F : List (List Nat × List Nat)) (i fc fm : Nat) (g : Int) (wp : Bool) : Prop := ∃ (n' : Nat) (S' : gTb), (g = -1 → (0 < n' ∧ (∃ A, gB0 n' S' A ∧ A.length ≤ 1) ∧ ∀ u x, u < 3 ∨ 8 < u → S' u x = S u x) ∧ rdC a w ya z n S F i fc n' S') ∧ rdM m z n S F i fm n' S' g wp
/-- a fault -/
theorem rd_bad {a w ya m : Nat} {z : Nat × (Nat → Int32)} {n : Nat} {S : gTb} {F : List (List Nat × List Nat)} {i fc fm : Nat} {wp : Bool} {g : Int} (hg : g = i) (Hm : ∀ h, mTx h m z → h.1 m 7 = jI i → mBd h m n S F → f_X10_readsNetwork_33 m fm (jI ((F.length : Int) - 1)) (gZ wp) h = some (false, h)) : rdR a w ya m z n S F i fc fm g wp := by
  refine ⟨n, S, fun e => absurd e (by omega), fun h T h7 C => ⟨h, ?_, mB.rf, fun e => absurd e (by omega), fun _ => by rw [hg]; exact h7⟩⟩
  rw [decide_eq_false (by omega)]
  exact Hm h T h7 C
/-- a step -/
theorem rd_step {a w ya m : Nat} {z : Nat × (Nat → Int32)} {n n1 : Nat} {S S1 : gTb} {f f1 : List Nat × List Nat} {r r1 : List (List Nat × List Nat)} {i fc fm : Nat} {wp wp1 : Bool} {g g1 : Int} (hl : z.1 ≤ 40) (hi : i < z.1) (hd : (ya + 2 ≤ a ∨ a + 3 ≤ ya) ∧ (ya + 2 ≤ w ∨ w + 5 ≤ ya)) (eg : g = g1) (o : ∀ u x, u < 3 ∨ 8 < u → S1 u x = S u x) (Hc : ∀ h, cTx h ya z → cBd h a w n S (f :: r) → ∃ h1, f_X6_take a (z.2 i) w h = some h1 ∧ cBd h1 a w n1 S1 (f1 :: r1) ∧ cBf a w h h1) (Hm : ∀ h, mTx h m z → h.1 m 7 = jI i → mBd h m n S (f :: r) → ∃ h1, f_X10_readsNetwork_33 m (fm + 1) (jI (r.length : Nat)) (gZ wp) h = f_X10_readsNetwork_33 m fm (jI (r1.length : Nat)) (gZ wp1) h1 ∧ mTx h1 m z ∧ h1.1 m 7 = jI ((i + 1 : Nat) : Int) ∧ mBd h1 m n1 S1 (f1 :: r1) ∧ mB m h h1) (R : rdR a w ya m z n1 S1 (f1 :: r1) (i + 1) fc fm g1 wp1) : rdR a w ya m z n S (f :: r) i (fc + 1) (fm + 1) g wp := by
  obtain ⟨n', S', R1, R2⟩ := R
  have ll : ((f :: r).length : Int) - 1 = (r.length : Nat) := by rw [List.length_cons]; omega
  have ll1 : ((f1 :: r1).length : Int) - 1 = (r1.length : Nat) := by rw [List.length_cons]; omega
  refine ⟨n', S', fun e => ?_, fun h T h7 C => ?_⟩
  · obtain ⟨⟨x1, x2, x3⟩, x4⟩ := R1 (eg.symm.trans e)
    refine ⟨⟨x1, x2, fun u x hu => (x3 u x hu).trans (o u x hu)⟩, fun h T C => ?_⟩
    obtain ⟨h1, q1, C1, F1⟩ := Hc h T C
    have T1 : cTx h1 ya z := T.mv (fun y y1 y2 => F1 y (by omega) (by omega))
    obtain ⟨h', q2, N', F'⟩ := x4 h1 T1 C1
    refine ⟨h', ?_, N', F1.tr F'⟩
    have ei : jI (i : Int) + 1 = jI ((i + 1 : Nat) : Int) := by rw [jl_1, jI_add]; rfl
    have e15 : f_X6_build_15 a ya w (fc + 1) (jI i) h = f_X6_build_15 a ya w fc (jI ((i + 1 : Nat) : Int)) h1 := by
      rw [f_X6_build_15, T.1, gNp (by omega), T.2 i hi, ei]
      exact gIF (jnle (by omega) (by omega) (by omega) (by omega) (by omega)) (gIT (jin (by omega) (by omega) (by omega)) (gBs q1 rfl))
    rw [e15]
    exact q2
  · obtain ⟨h1, q1, T1, k7, C1, F1⟩ := Hm h T h7 C
    obtain ⟨h', q2, F2, x1, x2⟩ := R2 h1 T1 k7 C1
    rw [ll1] at q2
    refine ⟨h', ?_, F1.tr F2, fun e => x1 (eg.symm.trans e), fun e => ?_⟩
    · rw [ll, q1, q2, eg]
    · rw [eg]
      exact x2 (fun w => e (eg.trans w))
theorem rd_loop {a w ya m : Nat} {z : Nat × (Nat → Int32)} (d : a + 3 ≤ w ∨ w + 5 ≤ a) (hl : z.1 ≤ 40) (hd : (ya + 2 ≤ a ∨ a + 3 ≤ ya) ∧ (ya + 2 ≤ w ∨ w + 5 ≤ ya)) : ∀ (r i n : Nat) (S : gTb) (L P : List Nat) (rr : List (List Nat × List Nat)) (M : Nat) (wp : Bool) (fc fm : Nat), i + r = z.1 → r < fc → r < fm → gB0 n S (bdA ((L, P) :: rr)) → rr.length ≤ i → M < 64 → (∀ l : Nat, l < 6 → M.testBit l = decide (S 3 l ≠ 0)) → (wp = false → P ≠ []) → rdR a w ya m z n S ((L, P) :: rr) i fc fm (gSc z r i (rr.length : Nat) M wp) wp := by
  intro r
  induction r with
  | zero =>
    intro i n S L P rr M wp fc fm hi h1 h2 B hr hM hb hP
    obtain ⟨fc', rfl⟩ : ∃ f', fc = f' + 1 := ⟨fc - 1, by omega⟩
    obtain ⟨fm', rfl⟩ : ∃ f', fm = f' + 1 := ⟨fm - 1, by omega⟩
    have ll : (((L, P) :: rr).length : Int) - 1 = (rr.length : Nat) := by rw [List.length_cons]; omega
    have ele : ∀ h, mTx h m z → h.1 m 7 = jI i → h.1 m 5 ≤ h.1 m 7 := fun h T h7 => by
      rw [T.1, h7]
      exact jle (by omega) (by omega) (by omega) (by omega) (by omega)
    cases wp with
    | true =>
      refine rd_bad (by rw [sc_0t]; omega) (fun h T h7 C => ?_)
      rw [f_X10_readsNetwork_33]
      exact gIT (ele h T h7) (gIF (by decide) rfl)
    | false =>
      by_cases c : rr.length = 0
      · have er : rr = [] := List.eq_nil_of_length_eq_zero c
        subst er
        rw [sc_0a (by rw [c]; omega)]
        have B1 := bdC_w B
        have l1 := bdC_l (n := n) (S := S) (L := L) (hP rfl)
        have lA : ((bdC n S L P).2.2 ++ bdA []).length = 1 := by
          rw [List.length_append, l1]; rfl
        refine ⟨(bdC n S L P).1, (bdC n S L P).2.1, fun _ => ⟨⟨?_, ⟨_, B1, by omega⟩, fun u x hu => bdC_o hu⟩, fun h T C => ?_⟩, fun h T h7 C => ?_⟩
        · obtain ⟨q, A', eA⟩ : ∃ q A', (bdC n S L P).2.2 ++ bdA [] = q :: A' := by
            cases hh : (bdC n S L P).2.2 ++ bdA [] with
            | nil => rw [hh] at lA; exact absurd lA (by decide)
            | cons q A' => exact ⟨q, A', rfl⟩
          have := (B1.1.2.2.1 q (by rw [eA]; exact List.mem_cons_self)).1
          omega
        · obtain ⟨v', h', q1, _, N', _, _, F'⟩ := u_endChain C B (by omega) d
          refine ⟨h', ?_, N', F'⟩
          have e15 : f_X6_build_15 a ya w (fc' + 1) (jI i) h = some h := by
            rw [f_X6_build_15, T.1]
            exact gIT (jle (by omega) (by omega) (by omega) (by omega) (by omega)) rfl
          exact gBs e15 (gBs q1 rfl)
        · obtain ⟨h', q1, C1, _, F1⟩ := m_endsChain C B (hP rfl) (by omega)
          refine ⟨h', ?_, F1.B, fun _ => ⟨C1.1, C1.2.2.1⟩, fun w => absurd rfl w⟩
          rw [f_X10_readsNetwork_33, decide_eq_true (show (-1 : Int) = -1 from rfl)]
          refine gIT (ele h T h7) (gIT rfl (gIT ?_ (gBs q1 rfl)))
          exact jle (a := ((([(L, P)] : List (List Nat × List Nat)).length : Nat) : Int) - 1) (b := 0) (by rw [ll]; omega) (by rw [ll]; omega) (by omega) (by omega) (by rw [ll]; omega)
      · refine rd_bad (by rw [sc_0b (by omega)]; omega) (fun h T h7 C => ?_)
        rw [ll, f_X10_readsNetwork_33]
        exact gIT (ele h T h7) (gIT rfl (gIF (jnle (b := 0) (by omega) (by omega) (by omega) (by omega) (by omega)) rfl))
  | succ r ih =>
    intro i n S L P rr M wp fc fm hi h1 h2 B hr hM hb hP
    obtain ⟨fc', rfl⟩ : ∃ f', fc = f' + 1 := ⟨fc - 1, by omega⟩
    obtain ⟨fm', rfl⟩ : ∃ f', fm = f' + 1 := ⟨fm - 1, by omega⟩
    have hi2 : i < z.1 := by omega
    have ll : (((L, P) :: rr).length : Int) - 1 = (rr.length : Nat) := by rw [List.length_cons]; omega
    cases wp with
    | false =>
      have hP' := hP rfl
      by_cases c1 : z.2 i = 43
      · rw [sc_43 c1]
        refine rd_step (n1 := (bdJ n S 2 P).1) (S1 := (bdJ n S 2 P).2.1) (f1 := ((bdJ n S 2 P).2.2 ++ L, [])) (r1 := rr) (wp1 := true) hl hi2 hd rfl (fun u x hu => bdJ_o hu) (fun h T C => ?_) (fun h T h7 C => m_sPlus T hl hi2 h7 C B hP' (by omega) c1 fm') ?_
        · rw [c1]
          exact u_takePlus C B (by omega) d
        · exact ih (i + 1) _ _ _ _ rr M true fc' fm' (by omega) (by omega) (by omega) (bdL_w' B) (by omega) hM (fun l h6 => by rw [bdJ_3 (by omega)]; exact hb l h6) (fun w => absurd w (by decide))
      by_cases c2 : z.2 i = 124
      · rw [sc_124 c1 c2]
        refine rd_step (n1 := n) (S1 := S) (f1 := (L, P)) (r1 := rr) (wp1 := true) hl hi2 hd rfl (fun u x hu => rfl) (fun h T C => ?_) (fun h T h7 C => m_sBar T hl hi2 h7 C c2 fm' _) ?_
        · rw [c2]
          exact ⟨h, u_takeBar h a w, C, cBf.rf⟩
        · exact ih (i + 1) n S L P rr M true fc' fm' (by omega) (by omega) (by omega) B (by omega) hM hb (fun w => absurd w (by decide))
      by_cases c3 : z.2 i = 41
      · cases rr with
        | nil =>
          rw [sc_41a c1 c2 c3 (by show ((0 : Nat) : Int) ≤ 0; omega)]
          exact rd_bad rfl (fun h T h7 C => m_sBadF T hl hi2 h7 c1 c2 (Or.inr rfl) fm')
        | cons g2 rr2 =>
          obtain ⟨L2, P2⟩ := g2
          have lr : ((L2, P2) :: rr2).length = rr2.length + 1 := List.length_cons
          have eo : (((L2, P2) :: rr2).length : Int) - 1 = (rr2.length : Nat) := by rw [lr]; omega
          rw [sc_41b c1 c2 c3 (by rw [lr]; omega), eo]
          refine rd_step (n1 := (bdC n S L P).1) (S1 := (bdC n S L P).2.1) (f1 := (L2, (bdC n S L P).2.2 ++ P2)) (r1 := rr2) (wp1 := false) hl hi2 hd rfl (fun u x hu => bdC_o hu) (fun h T C => ?_) (fun h T h7 C => m_sClose T hl hi2 h7 C B hP' (by omega) c3 fm') ?_
          · rw [c3]
            exact u_takeClose C B (by omega) d
          · refine ih (i + 1) _ _ _ _ rr2 M false fc' fm' (by omega) (by omega) (by omega) ?_ (by omega) hM (fun l h6 => by rw [bdC_3]; exact hb l h6) (fun _ w => ?_)
            · show gB0 _ _ (((bdC n S L P).2.2 ++ P2) ++ (L2 ++ bdA rr2))
              rw [List.append_assoc]
              exact bdC_w B
            · have l1 := bdC_l (n := n) (S := S) (L := L) hP'
              have l2 : ((bdC n S L P).2.2 ++ P2).length = 0 := by rw [w]; rfl
              rw [List.length_append] at l2
              omega
      · rw [sc_bf c1 c2 c3]
        exact rd_bad rfl (fun h T h7 C => m_sBadF T hl hi2 h7 c1 c2 (Or.inl c3) fm')
    | true =>
      obtain ⟨q, hq, q1, q2⟩ := jI_ex (z.2 i)
      have et : (z.2 i).toInt = q := by rw [hq]; exact jI_toInt q1 q2
      by_cases c1 : z.2 i = 40
      · rw [sc_40 c1, show ((rr.length : Nat) : Int) + 1 = (((L, P) :: rr).length : Nat) by rw [List.length_cons]; rfl]
        refine rd_step (n1 := n) (S1 := S) (f1 := ([], [])) (r1 := (L, P) :: rr) (wp1 := true) hl hi2 hd rfl (fun u x hu => rfl) (fun h T C => ?_) (fun h T h7 C => m_sOpen T hl hi2 h7 C (by omega) c1 fm') ?_
        · rw [c1]
          exact u_takeOpen C (by omega) d
        · exact ih (i + 1) n S [] [] ((L, P) :: rr) M true fc' fm' (by omega) (by omega) (by omega) (show gB0 n S (([] : List Nat) ++ (([] : List Nat) ++ bdA ((L, P) :: rr))) by rw [List.nil_append, List.nil_append]; exact B) (by rw [List.length_cons]; omega) hM hb (fun w => absurd w (by decide))
      by_cases c2 : 97 ≤ q ∧ q < 103
      · obtain ⟨l, hl'⟩ : ∃ l : Nat, q - 97 = l := ⟨(q - 97).toNat, by omega⟩
        have et2 : ((z.2 i).toInt - 97).toNat = l := by rw [et, hl', Int.toNat_natCast]
        have cl : z.2 i = jI ((97 + l : Nat) : Int) := by
          rw [hq]
          exact congrArg jI (by omega)
        have h6 : l < 6 := by omega
        by_cases c3 : S 3 l = 0
        · rw [sc_lb c1 (by rw [et]; exact c2) (by rw [et2, hb l h6, decide_eq_false (fun w => w c3)]; exact Bool.false_ne_true), et2]
          have lim := bd_limL B h6 c3
          refine rd_step (n1 := n + 1) (S1 := gPut S n 0 l []) (f1 := (L, n :: P)) (r1 := rr) (wp1 := false) hl hi2 hd rfl (fun u x hu => gPut_o hu) (fun h T C => u_takeArm C (by omega) h6 cl (by omega) d) (fun h T h7 C => m_sArm T hl hi2 h7 C B (by omega) h6 cl c3 fm') ?_
          refine ih (i + 1) _ _ _ _ rr (M ||| 2 ^ l) false fc' fm' (by omega) (by omega) (by omega) (bd_arm B h6 c3) (by omega) (Nat.or_lt_two_pow (n := 6) hM (Nat.pow_lt_pow_right (by decide) (by omega))) (fun j j6 => ?_) (fun _ w => absurd w (List.cons_ne_nil _ _))
          rw [Nat.testBit_or, Nat.testBit_two_pow, hb j j6, gPut_3]
          by_cases e : l = j
          · rw [decide_eq_true e, Bool.or_true, if_pos ⟨rfl, by omega⟩]
            exact (decide_eq_true (by omega)).symm
          · rw [decide_eq_false e, Bool.or_false, if_neg (fun w => e (by omega))]
        · rw [sc_la c1 (by rw [et]; exact c2) (by rw [et2, hb l h6]; exact decide_eq_true c3)]
          exact rd_bad rfl (fun h T h7 C => m_sSeen T hl hi2 h7 C B h6 cl c3 fm' _)
      · rw [sc_bt c1 (by rw [et]; exact c2)]
        exact rd_bad rfl (fun h T h7 C => m_sBadT T hl hi2 h7 c1 hq q1 q2 c2 fm' _)
