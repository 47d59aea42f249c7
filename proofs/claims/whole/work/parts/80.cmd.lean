/-! commands: the words of the text -/
def eB (len : Nat) (ch : Nat → Int32) (s : Nat) : Nat := s + gFst (fun k => decide (ch (s + k) = 32)) (len - s)
theorem eB_le {len s : Nat} {ch : Nat → Int32} (h : s ≤ len) : s ≤ eB len ch s ∧ eB len ch s ≤ len := by
  have := gFst_le (fun k => decide (ch (s + k) = 32)) (len - s)
  unfold eB
  omega
theorem gFst_P {P : Nat → Bool} : ∀ n, gFst P n < n → P (gFst P n) = true := by
  intro n
  induction n with
  | zero => intro h; omega
  | succ n ih =>
    intro h
    rw [gFst] at h ⊢
    by_cases c : gFst P n < n
    · rw [if_pos c]; exact ih c
    · rw [if_neg c] at h ⊢
      by_cases d : P n = true
      · rw [if_pos d]; exact d
      · rw [if_neg d] at h; omega
theorem eB_bl {len s : Nat} {ch : Nat → Int32} (h : s ≤ len) (h2 : eB len ch s < len) : ch (eB len ch s) = 32 := by
  unfold eB at h2 ⊢
  exact of_decide_eq_true (gFst_P (P := fun k => decide (ch (s + k) = 32)) (len - s) (by omega))
theorem u_findBlank {h : gHp} {a : Nat} {z : Nat × (Nat → Int32)} (T : cTx h a z) (hl : z.1 ≤ 40) {s : Nat} (hs : s ≤ z.1) : f_X4_findBlank a (jI s) h = some (jI (eB z.1 z.2 s)) := by
  have L := gUpE (fun k i (_ : Unit) => f_X4_findBlank_2 a h k (jI ((s + i : Nat) : Int))) (z.1 - s) (fun i _ => ∀ q, q < i → ¬ decide (z.2 (s + q) = 32) = true) (jI (eB z.1 z.2 s)) (by
    intro k _ hI
    unfold eB
    rw [gFst_no hI, f_X4_findBlank_2, T.1]
    exact gIT (jle (by omega) (by omega) (by omega) (by omega) (by omega)) rfl) (by
    intro k i _ hi hI
    have ei : jI ((s + i : Nat) : Int) + 1 = jI ((s + (i + 1) : Nat) : Int) := by rw [jl_1, jI_add]; rfl
    have g1 : ¬ jI (z.1 : Int) ≤ jI ((s + i : Nat) : Int) := jnle (by omega) (by omega) (by omega) (by omega) (by omega)
    have g2 : gIn (jI ((s + i : Nat) : Int)) 40 := jin (by omega) (by omega) (by omega)
    have t2 := T.2 (s + i) (by omega)
    by_cases c : z.2 (s + i) = 32
    · right
      unfold eB
      rw [gFst_hit hI hi (decide_eq_true c), f_X4_findBlank_2, T.1, gNp (by omega), t2]
      exact gIF g1 (gIT g2 (gIT c rfl))
    · left
      refine ⟨(), ?_, ?_⟩
      · rw [f_X4_findBlank_2, T.1, gNp (by omega), t2, ei]
        exact gIF g1 (gIT g2 (gIF c rfl))
      · intro q hq
        by_cases e : q = i
        · rw [e, decide_eq_true_eq]; exact c
        · exact hI q (by omega)) gFuel () (by unfold gFuel; omega) (by intro q hq; omega)
  rw [f_X4_findBlank]
  exact gBs L rfl
theorem m_end {h : gHp} {m : Nat} {z : Nat × (Nat → Int32)} (T : mTx h m z) (hl : z.1 ≤ 40) {s : Nat} (hs : s ≤ z.1) (ha : h.1 m 7 = jI s) : f_X10_end m h = some (jI (eB z.1 z.2 s)) := by
  have L := gUpE (fun k i (_ : Unit) => f_X10_end_5 m h k (jI ((s + i : Nat) : Int))) (z.1 - s) (fun i _ => ∀ q, q < i → ¬ decide (z.2 (s + q) = 32) = true) (jI (eB z.1 z.2 s)) (by
    intro k _ hI
    unfold eB
    rw [gFst_no hI, f_X10_end_5, T.1]
    exact gIT (jle (by omega) (by omega) (by omega) (by omega) (by omega)) rfl) (by
    intro k i _ hi hI
    have ei : jI ((s + i : Nat) : Int) + 1 = jI ((s + (i + 1) : Nat) : Int) := by rw [jl_1, jI_add]; rfl
    have g1 : ¬ jI (z.1 : Int) ≤ jI ((s + i : Nat) : Int) := jnle (by omega) (by omega) (by omega) (by omega) (by omega)
    have g2 : gIn (jI ((s + i : Nat) : Int)) 40 := jin (by omega) (by omega) (by omega)
    have t2 := T.2 (s + i) (by omega)
    by_cases c : z.2 (s + i) = 32
    · right
      unfold eB
      rw [gFst_hit hI hi (decide_eq_true c), f_X10_end_5, T.1, gNp (by omega), t2]
      exact gIF g1 (gIT g2 (gIT c rfl))
    · left
      refine ⟨(), ?_, ?_⟩
      · rw [f_X10_end_5, T.1, gNp (by omega), t2, ei]
        exact gIF g1 (gIT g2 (gIF c rfl))
      · intro q hq
        by_cases e : q = i
        · rw [e, decide_eq_true_eq]; exact c
        · exact hI q (by omega)) gFuel () (by unfold gFuel; omega) (by intro q hq; omega)
  rw [f_X10_end, ha]
  exact gBs L rfl
/-- the word with the number i stands from 0 to e -/
def gSp (ch : Nat → Int32) (e i : Nat) : Bool := decide (e = gSlen.getD i 0) && decide (gCnt (fun k => !decide (ch k = (gSbyt.getD i []).getD k 0)) (gSlen.getD i 0) = 0)
theorem u_startsWith {h : gHp} {a : Nat} {z : Nat × (Nat → Int32)} (T : cTx h a z) (hl : z.1 ≤ 40) {e i : Nat} (he : e ≤ z.1) (hi : gSlen.getD i 0 < 40) : f_X4_startsWith a i (jI e) h = some (gSp z.2 e i) := by
  have e0 : f_J0_length_8abf5 i h = some (jI (gSlen.getD i 0)) := by rw [f_J0_length_8abf5, nI_jI]
  unfold gSp
  rw [f_X4_startsWith, T.1]
  refine gBs e0 ?_
  by_cases c : e = gSlen.getD i 0
  · rw [decide_eq_true c, Bool.true_and]
    refine gIT (by rw [c]) (gIT (jle (by omega) (by omega) (by omega) (by omega) (by omega)) ?_)
    rw [← c]
    have L := gUpE (fun k j (_ : Unit) => f_X4_startsWith_20 a i (jI e) h k (jI j)) e (fun j _ => gCnt (fun k => !decide (z.2 k = (gSbyt.getD i []).getD k 0)) j = 0) (decide (gCnt (fun k => !decide (z.2 k = (gSbyt.getD i []).getD k 0)) e = 0)) (by
      intro k _ hI
      rw [decide_eq_true hI, f_X4_startsWith_20]
      exact gIT (jle (by omega) (by omega) (by omega) (by omega) (by omega)) rfl) (by
      intro k j _ hj hI
      have g1 : ¬ jI (e : Int) ≤ jI j := jnle (by omega) (by omega) (by omega) (by omega) (by omega)
      have g2 : gIn (jI j) 40 := jin (by omega) (by omega) (by omega)
      have e1 : f_J0_charAt_5068e i (jI j) h = some ((gSbyt.getD i []).getD j 0) := by
        rw [f_J0_charAt_5068e, gNp (by omega)]
        exact gIT (jin (by omega) (by omega) (by omega)) rfl
      have t2 := T.2 j (by omega)
      have ei : jI (j : Int) + 1 = jI ((j + 1 : Nat) : Int) := by rw [jl_1, jI_add]; rfl
      by_cases d : z.2 j = (gSbyt.getD i []).getD j 0
      · left
        refine ⟨(), ?_, ?_⟩
        · rw [f_X4_startsWith_20, gNp (by omega), t2, ei]
          exact gIF g1 (gIT g2 (gBs e1 (gIT d rfl)))
        · rw [gCnt_F (by rw [decide_eq_true d]; decide)]; exact hI
      · right
        have := gCnt_hit (P := fun k => !decide (z.2 k = (gSbyt.getD i []).getD k 0)) hj (by rw [decide_eq_false d]; rfl)
        rw [decide_eq_false this, f_X4_startsWith_20, gNp (by omega), t2]
        exact gIF g1 (gIT g2 (gBs e1 (gIF d rfl)))) gFuel () (by unfold gFuel; omega) rfl
    exact L
  · rw [decide_eq_false c, Bool.false_and]
    exact gIF (jne (by omega) (by omega) (by omega) (by omega) (by omega)) rfl
def aW (ch : Nat → Int32) (e : Nat) : Int := if gSp ch e 0 = true then 0 else if gSp ch e 1 = true then 1 else if gSp ch e 2 = true then 2 else if gSp ch e 3 = true then 3 else if gSp ch e 4 = true then 4 else if gSp ch e 5 = true then 5 else -1
theorem aW_b (ch : Nat → Int32) (e : Nat) : -1 ≤ aW ch e ∧ aW ch e ≤ 5 := by
  unfold aW
  repeat' split
  all_goals omega
theorem u_findAction {h : gHp} {a : Nat} {z : Nat × (Nat → Int32)} (T : cTx h a z) (hl : z.1 ≤ 40) {e : Nat} (he : e ≤ z.1) : f_X1_findAction a (jI e) h = some (jI (aW z.2 e)) := by
  have s := fun i hi => u_startsWith T hl he (i := i) hi
  rw [f_X1_findAction, jl_0]
  by_cases c0 : gSp z.2 e 0 = true
  · rw [show aW z.2 e = 0 from if_pos c0]
    exact gBs (s 0 (by decide)) (gIT c0 rfl)
  have n0 : aW z.2 e = if gSp z.2 e 1 = true then 1 else if gSp z.2 e 2 = true then 2 else if gSp z.2 e 3 = true then 3 else if gSp z.2 e 4 = true then 4 else if gSp z.2 e 5 = true then 5 else -1 := if_neg c0
  by_cases c1 : gSp z.2 e 1 = true
  · rw [n0, if_pos c1]
    exact gBs (s 0 (by decide)) (gIF c0 (gBs (s 1 (by decide)) (gIT c1 rfl)))
  have n1 : aW z.2 e = if gSp z.2 e 2 = true then 2 else if gSp z.2 e 3 = true then 3 else if gSp z.2 e 4 = true then 4 else if gSp z.2 e 5 = true then 5 else -1 := n0.trans (if_neg c1)
  by_cases c2 : gSp z.2 e 2 = true
  · rw [n1, if_pos c2]
    exact gBs (s 0 (by decide)) (gIF c0 (gBs (s 1 (by decide)) (gIF c1 (gBs (s 2 (by decide)) (gIT c2 rfl)))))
  have n2 : aW z.2 e = if gSp z.2 e 3 = true then 3 else if gSp z.2 e 4 = true then 4 else if gSp z.2 e 5 = true then 5 else -1 := n1.trans (if_neg c2)
  by_cases c3 : gSp z.2 e 3 = true
  · rw [n2, if_pos c3]
    exact gBs (s 0 (by decide)) (gIF c0 (gBs (s 1 (by decide)) (gIF c1 (gBs (s 2 (by decide)) (gIF c2 (gBs (s 3 (by decide)) (gIT c3 rfl)))))))
  have n3 : aW z.2 e = if gSp z.2 e 4 = true then 4 else if gSp z.2 e 5 = true then 5 else -1 := n2.trans (if_neg c3)
  by_cases c4 : gSp z.2 e 4 = true
  · rw [n3, if_pos c4]
    exact gBs (s 0 (by decide)) (gIF c0 (gBs (s 1 (by decide)) (gIF c1 (gBs (s 2 (by decide)) (gIF c2 (gBs (s 3 (by decide)) (gIF c3 (gBs (s 4 (by decide)) (gIT c4 rfl)))))))))
  have n4 : aW z.2 e = if gSp z.2 e 5 = true then 5 else -1 := n3.trans (if_neg c4)
  by_cases c5 : gSp z.2 e 5 = true
  · rw [n4, if_pos c5]
    exact gBs (s 0 (by decide)) (gIF c0 (gBs (s 1 (by decide)) (gIF c1 (gBs (s 2 (by decide)) (gIF c2 (gBs (s 3 (by decide)) (gIF c3 (gBs (s 4 (by decide)) (gIF c4 (gBs (s 5 (by decide)) (gIT c5 rfl)))))))))))
  rw [n4, if_neg c5]
  exact gBs (s 0 (by decide)) (gIF c0 (gBs (s 1 (by decide)) (gIF c1 (gBs (s 2 (by decide)) (gIF c2 (gBs (s 3 (by decide)) (gIF c3 (gBs (s 4 (by decide)) (gIF c4 (gBs (s 5 (by decide)) (gIF c5 rfl)))))))))))
/-- the words, letter by letter -/
theorem gSp_0 (ch : Nat → Int32) (e : Nat) : gSp ch e 0 = true ↔ e = 3 ∧ ch 0 = 115 ∧ ch 1 = 101 ∧ ch 2 = 116 := by
  simp [gSp, gSlen, gSbyt, gCnt, and_assoc]
theorem gSp_1 (ch : Nat → Int32) (e : Nat) : gSp ch e 1 = true ↔ e = 4 ∧ ch 0 = 111 ∧ ch 1 = 112 ∧ ch 2 = 101 ∧ ch 3 = 110 := by
  simp [gSp, gSlen, gSbyt, gCnt, and_assoc]
theorem gSp_2 (ch : Nat → Int32) (e : Nat) : gSp ch e 2 = true ↔ e = 5 ∧ ch 0 = 115 ∧ ch 1 = 104 ∧ ch 2 = 111 ∧ ch 3 = 114 ∧ ch 4 = 116 := by
  simp [gSp, gSlen, gSbyt, gCnt, and_assoc]
theorem gSp_3 (ch : Nat → Int32) (e : Nat) : gSp ch e 3 = true ↔ e = 4 ∧ ch 0 = 109 ∧ ch 1 = 101 ∧ ch 2 = 110 ∧ ch 3 = 100 := by
  simp [gSp, gSlen, gSbyt, gCnt, and_assoc]
theorem gSp_4 (ch : Nat → Int32) (e : Nat) : gSp ch e 4 = true ↔ e = 6 ∧ ch 0 = 115 ∧ ch 1 = 111 ∧ ch 2 = 117 ∧ ch 3 = 114 ∧ ch 4 = 99 ∧ ch 5 = 101 := by
  simp [gSp, gSlen, gSbyt, gCnt, and_assoc]
theorem gSp_5 (ch : Nat → Int32) (e : Nat) : gSp ch e 5 = true ↔ e = 5 ∧ ch 0 = 109 ∧ ch 1 = 101 ∧ ch 2 = 116 ∧ ch 3 = 101 ∧ ch 4 = 114 := by
  simp [gSp, gSlen, gSbyt, gCnt, and_assoc]
theorem m_isWord {h : gHp} {m : Nat} {z : Nat × (Nat → Int32)} (T : mTx h m z) (hl : z.1 ≤ 40) {e : Nat} (he : e ≤ z.1) (ha : h.1 m 7 = jI 0) {k : Int} (hk : k = 3 ∨ k = 4) (x0 x1 x2 x3 : Int32) : f_X10_isWord m (jI e) (jI k) x0 x1 x2 x3 h = some (decide (k ≤ (e : Int) ∧ z.2 0 = x0 ∧ z.2 1 = x1 ∧ z.2 2 = x2 ∧ (if k = 3 then e = 3 else z.2 3 = x3))) := by
  have e0 : jI (e : Int) - jI 0 = jI e := by rw [jI_sub, Int.sub_zero]
  rw [f_X10_isWord, ha, e0]
  by_cases c0 : (e : Int) < k
  · rw [decide_eq_false (by omega)]
    exact gIT (jlt (by omega) (by omega) (by omega) (by omega) c0) rfl
  · refine gIF (jnlt (by omega) (by omega) (by omega) (by omega) (by omega)) (gIT (jin (z := 0) (by omega) (by omega) (by omega)) ?_)
    rw [show gN (jI 0) = 0 from rfl, T.2 0 (by omega)]
    by_cases c1 : z.2 0 = x0
    · refine gIT c1 (gIT (jin (z := 1) (by omega) (by omega) (by omega)) ?_)
      rw [show gN (jI 0 + 1) = 1 from rfl, T.2 1 (by omega)]
      by_cases c2 : z.2 1 = x1
      · refine gIT c2 (gIT (jin (z := 2) (by omega) (by omega) (by omega)) ?_)
        rw [show gN (jI 0 + 2) = 2 from rfl, T.2 2 (by omega)]
        by_cases c3 : z.2 2 = x2
        · refine gIT c3 ?_
          rcases hk with rfl | rfl
          · refine gIF (jnle (a := 4) (by omega) (by omega) (by omega) (by omega) (by omega)) ?_
            by_cases c4 : e = 3
            · rw [decide_eq_true ⟨by omega, c1, c2, c3, by rw [if_pos rfl]; exact c4⟩]
              exact gIT (by rw [c4]; rfl) rfl
            · rw [decide_eq_false (fun w => c4 (by have := w.2.2.2.2; rw [if_pos rfl] at this; exact this))]
              exact gIF (jne (b := 3) (by omega) (by omega) (by omega) (by omega) (by omega)) rfl
          · refine gIT (jle (a := 4) (by omega) (by omega) (by omega) (by omega) (by omega)) (gIT (jin (z := 3) (by omega) (by omega) (by omega)) ?_)
            rw [show gN (jI 0 + 3) = 3 from rfl, T.2 3 (by omega)]
            by_cases c4 : z.2 3 = x3
            · rw [decide_eq_true ⟨by omega, c1, c2, c3, by rw [if_neg (by decide)]; exact c4⟩]
              exact gIT c4 rfl
            · rw [decide_eq_false (fun w => c4 (by have := w.2.2.2.2; rw [if_neg (by decide)] at this; exact this))]
              exact gIF c4 rfl
        · rw [decide_eq_false (fun w => c3 w.2.2.2.1)]
          exact gIF c3 rfl
      · rw [decide_eq_false (fun w => c2 w.2.2.1)]
        exact gIF c2 rfl
    · rw [decide_eq_false (fun w => c1 w.2.1)]
      exact gIF c1 rfl
theorem m_word {h : gHp} {m : Nat} {z : Nat × (Nat → Int32)} (T : mTx h m z) (hl : z.1 ≤ 40) {e : Nat} (he : e ≤ z.1) (ha : h.1 m 7 = jI 0) : f_X10_word m (jI e) h = some (jI (r4 (aW z.2 e))) := by
  have e0 : jI (e : Int) - jI 0 = jI e := by rw [jI_sub, Int.sub_zero]
  have g40 : ∀ k : Nat, k < 6 → gIn (jI 0 + jI k) 40 := fun k hk => by
    rw [jI_add]; exact jin (by omega) (by omega) (by omega)
  have w0 := m_isWord T hl he ha (k := 3) (Or.inl rfl) 115 101 116 0
  have w1 := m_isWord T hl he ha (k := 4) (Or.inr rfl) 111 112 101 110
  have w2 := m_isWord T hl he ha (k := 4) (Or.inr rfl) 115 104 111 114
  have w3 := m_isWord T hl he ha (k := 4) (Or.inr rfl) 109 101 110 100
  have w4 := m_isWord T hl he ha (k := 4) (Or.inr rfl) 115 111 117 114
  have w5 := m_isWord T hl he ha (k := 4) (Or.inr rfl) 109 101 116 101
  rw [f_X10_word, ha, e0]
  by_cases c0 : gSp z.2 e 0 = true
  · have q := (gSp_0 _ _).mp c0
    rw [decide_eq_true ⟨by omega, q.2.1, q.2.2.1, q.2.2.2, by rw [if_pos rfl]; exact q.1⟩] at w0
    rw [show aW z.2 e = 0 from if_pos c0]
    exact gBs w0 (gIT rfl rfl)
  have n0 : aW z.2 e = if gSp z.2 e 1 = true then 1 else if gSp z.2 e 2 = true then 2 else if gSp z.2 e 3 = true then 3 else if gSp z.2 e 4 = true then 4 else if gSp z.2 e 5 = true then 5 else -1 := if_neg c0
  rw [decide_eq_false (fun w => c0 ((gSp_0 _ _).mpr ⟨by have := w.2.2.2.2; rw [if_pos rfl] at this; exact this, w.2.1, w.2.2.1, w.2.2.2.1⟩))] at w0
  refine gBs w0 (gIF Bool.false_ne_true ?_)
  by_cases l4 : e = 4
  · refine gIT (by rw [l4]; rfl) ?_
    have z2 : gSp z.2 e 2 = false := by
      rcases hq : gSp z.2 e 2 with _ | _
      · rfl
      · have := ((gSp_2 _ _).mp hq).1; omega
    have z4 : gSp z.2 e 4 = false := by
      rcases hq : gSp z.2 e 4 with _ | _
      · rfl
      · have := ((gSp_4 _ _).mp hq).1; omega
    have z5 : gSp z.2 e 5 = false := by
      rcases hq : gSp z.2 e 5 with _ | _
      · rfl
      · have := ((gSp_5 _ _).mp hq).1; omega
    rw [n0, z2, z4, z5]
    by_cases c1 : gSp z.2 e 1 = true
    · have q := (gSp_1 _ _).mp c1
      rw [decide_eq_true ⟨by omega, q.2.1, q.2.2.1, q.2.2.2.1, by rw [if_neg (by decide)]; exact q.2.2.2.2⟩] at w1
      rw [if_pos c1]
      exact gBs w1 (gIT rfl rfl)
    rw [decide_eq_false (fun w => c1 ((gSp_1 _ _).mpr ⟨l4, w.2.1, w.2.2.1, w.2.2.2.1, by have := w.2.2.2.2; rw [if_neg (by decide)] at this; exact this⟩))] at w1
    rw [if_neg c1]
    refine gBs w1 (gIF Bool.false_ne_true ?_)
    by_cases c3 : gSp z.2 e 3 = true
    · have q := (gSp_3 _ _).mp c3
      rw [decide_eq_true ⟨by omega, q.2.1, q.2.2.1, q.2.2.2.1, by rw [if_neg (by decide)]; exact q.2.2.2.2⟩] at w3
      rw [c3]
      exact gBs w3 (gIT rfl rfl)
    rw [decide_eq_false (fun w => c3 ((gSp_3 _ _).mpr ⟨l4, w.2.1, w.2.2.1, w.2.2.2.1, by have := w.2.2.2.2; rw [if_neg (by decide)] at this; exact this⟩))] at w3
    rw [if_neg Bool.false_ne_true, if_neg c3]
    exact gBs w3 (gIF Bool.false_ne_true rfl)
  refine gIF (jne (b := 4) (by omega) (by omega) (by omega) (by omega) (by omega)) ?_
  have z1 : gSp z.2 e 1 = false := by
    rcases hq : gSp z.2 e 1 with _ | _
    · rfl
    · have := ((gSp_1 _ _).mp hq).1; omega
  have z3 : gSp z.2 e 3 = false := by
    rcases hq : gSp z.2 e 3 with _ | _
    · rfl
    · have := ((gSp_3 _ _).mp hq).1; omega
  by_cases l5 : e = 5
  · refine gIT (by rw [l5]; rfl) ?_
    have z4 : gSp z.2 e 4 = false := by
      rcases hq : gSp z.2 e 4 with _ | _
      · rfl
      · have := ((gSp_4 _ _).mp hq).1; omega
    rw [n0, z1, z3, z4]
    have e4 : h.1 (m + 4) (gN (jI 0 + 4)) = z.2 4 := by rw [show gN (jI 0 + 4) = 4 from rfl]; exact T.2 4 (by omega)
    by_cases c2 : gSp z.2 e 2 = true
    · have q := (gSp_2 _ _).mp c2
      rw [decide_eq_true ⟨by omega, q.2.1, q.2.2.1, q.2.2.2.1, by rw [if_neg (by decide)]; exact q.2.2.2.2.1⟩] at w2
      rw [c2]
      exact gBs w2 (gIT rfl (gIT (g40 4 (by omega)) (gIT (by rw [e4]; exact q.2.2.2.2.2) rfl)))
    have k120 : f_X10_word_120 m (jI e) h = some (jI (r4 (if gSp z.2 e 5 = true then 5 else -1))) := by
      rw [f_X10_word_120, ha]
      by_cases c5 : gSp z.2 e 5 = true
      · have q := (gSp_5 _ _).mp c5
        rw [decide_eq_true ⟨by omega, q.2.1, q.2.2.1, q.2.2.2.1, by rw [if_neg (by decide)]; exact q.2.2.2.2.1⟩] at w5
        rw [c5]
        exact gBs w5 (gIT rfl (gIT (g40 4 (by omega)) (gIT (by rw [e4]; exact q.2.2.2.2.2) rfl)))
      · rw [if_neg c5]
        by_cases d5 : 4 ≤ (e : Int) ∧ z.2 0 = 109 ∧ z.2 1 = 101 ∧ z.2 2 = 116 ∧ (if (4 : Int) = 3 then e = 3 else z.2 3 = 101)
        · rw [decide_eq_true d5] at w5
          refine gBs w5 (gIT rfl (gIT (g40 4 (by omega)) (gIF (fun w => c5 ((gSp_5 _ _).mpr ⟨l5, d5.2.1, d5.2.2.1, d5.2.2.2.1, by have := d5.2.2.2.2; rw [if_neg (by decide)] at this; exact this, by rw [← e4]; exact w⟩)) rfl)))
        · rw [decide_eq_false d5] at w5
          exact gBs w5 (gIF Bool.false_ne_true rfl)
    rw [if_neg Bool.false_ne_true, if_neg c2, if_neg Bool.false_ne_true, if_neg Bool.false_ne_true]
    by_cases d2 : 4 ≤ (e : Int) ∧ z.2 0 = 115 ∧ z.2 1 = 104 ∧ z.2 2 = 111 ∧ (if (4 : Int) = 3 then e = 3 else z.2 3 = 114)
    · rw [decide_eq_true d2] at w2
      exact gBs w2 (gIT rfl (gIT (g40 4 (by omega)) (gIF (fun w => c2 ((gSp_2 _ _).mpr ⟨l5, d2.2.1, d2.2.2.1, d2.2.2.2.1, by have := d2.2.2.2.2; rw [if_neg (by decide)] at this; exact this, by rw [← e4]; exact w⟩)) k120)))
    · rw [decide_eq_false d2] at w2
      exact gBs w2 (gIF Bool.false_ne_true k120)
  refine gIF (jne (b := 5) (by omega) (by omega) (by omega) (by omega) (by omega)) ?_
  have z2 : gSp z.2 e 2 = false := by
    rcases hq : gSp z.2 e 2 with _ | _
    · rfl
    · have := ((gSp_2 _ _).mp hq).1; omega
  have z5 : gSp z.2 e 5 = false := by
    rcases hq : gSp z.2 e 5 with _ | _
    · rfl
    · have := ((gSp_5 _ _).mp hq).1; omega
  rw [n0, z1, z2, z3, z5, if_neg Bool.false_ne_true, if_neg Bool.false_ne_true, if_neg Bool.false_ne_true]
  by_cases l6 : e = 6
  · refine gIT (by rw [l6]; rfl) ?_
    have e4 : h.1 (m + 4) (gN (jI 0 + 4)) = z.2 4 := by rw [show gN (jI 0 + 4) = 4 from rfl]; exact T.2 4 (by omega)
    have e5 : h.1 (m + 4) (gN (jI 0 + 5)) = z.2 5 := by rw [show gN (jI 0 + 5) = 5 from rfl]; exact T.2 5 (by omega)
    by_cases c4 : gSp z.2 e 4 = true
    · have q := (gSp_4 _ _).mp c4
      rw [decide_eq_true ⟨by omega, q.2.1, q.2.2.1, q.2.2.2.1, by rw [if_neg (by decide)]; exact q.2.2.2.2.1⟩] at w4
      rw [c4]
      exact gBs w4 (gIT rfl (gIT (g40 4 (by omega)) (gIT (by rw [e4]; exact q.2.2.2.2.2.1) (gIT (g40 5 (by omega)) (gIT (by rw [e5]; exact q.2.2.2.2.2.2) rfl)))))
    rw [if_neg c4, if_neg Bool.false_ne_true]
    by_cases d4 : 4 ≤ (e : Int) ∧ z.2 0 = 115 ∧ z.2 1 = 111 ∧ z.2 2 = 117 ∧ (if (4 : Int) = 3 then e = 3 else z.2 3 = 114)
    · rw [decide_eq_true d4] at w4
      refine gBs w4 (gIT rfl (gIT (g40 4 (by omega)) ?_))
      rw [e4]
      by_cases d5 : z.2 4 = 99
      · refine gIT d5 (gIT (g40 5 (by omega)) ?_)
        rw [e5]
        exact gIF (fun w => c4 ((gSp_4 _ _).mpr ⟨l6, d4.2.1, d4.2.2.1, d4.2.2.2.1, by have := d4.2.2.2.2; rw [if_neg (by decide)] at this; exact this, d5, w⟩)) rfl
      · exact gIF d5 rfl
    · rw [decide_eq_false d4] at w4
      exact gBs w4 (gIF Bool.false_ne_true rfl)
  have z4 : gSp z.2 e 4 = false := by
    rcases hq : gSp z.2 e 4 with _ | _
    · rfl
    · have := ((gSp_4 _ _).mp hq).1; omega
  rw [z4, if_neg Bool.false_ne_true, if_neg Bool.false_ne_true]
  exact gIF (jne (b := 6) (by omega) (by omega) (by omega) (by omega) (by omega)) rfl
