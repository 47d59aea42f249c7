/-! worst, count, noted -/
def gWo (S : gTb) (n : Nat) : Nat → Int × Int
  | 0 => (-4, 0)
  | i + 1 => if (gWo S n i).1 = -4 ∨ (gWo S n i).2 < (gLo S n i : Int) then ((i : Int), (gLo S n i : Int)) else gWo S n i
theorem gWo_b {t n c : Nat} {S : gTb} (W : gWf t n c S) : ∀ i, i ≤ n → -4 ≤ (gWo S n i).1 ∧ (gWo S n i).1 < n ∧ 0 ≤ (gWo S n i).2 ∧ (gWo S n i).2 ≤ 1000 := by
  intro i
  induction i with
  | zero => intro _; exact ⟨Int.le_refl _, by show (-4 : Int) < n; omega, Int.le_refl _, by show (0 : Int) ≤ 1000; omega⟩
  | succ i ih =>
    intro hi
    have ih := ih (by omega)
    have hl := gLo_le W (p := i) (by omega)
    rw [gWo]
    split
    · exact ⟨by show -4 ≤ (i : Int); omega, by show (i : Int) < n; omega, by show 0 ≤ (gLo S n i : Int); omega, by show (gLo S n i : Int) ≤ 1000; omega⟩
    · exact ih
theorem gWo_step (S : gTb) (n i : Nat) (w : Int × Int) (hw : gWo S n i = w) : gWo S n (i + 1) = if w.1 = -4 ∨ w.2 < (gLo S n i : Int) then ((i : Int), (gLo S n i : Int)) else w := by
  subst hw
  rfl
theorem q_worst (b m t : Nat) : gOK b m t (f_X9_worst b) (f_X10_worst m) := by
  rintro ⟨tx, ⟨n, c, S⟩, H, X⟩ h C W
  have R : cSt h (b + 3) n c S := C.2.1
  have Wf : gWf t n c S := W.2.1
  have hn := Wf.n
  have m4 : (-4 : Int32) = jI (-4) := rfl
  obtain ⟨o, eo, ho, Go⟩ := gUp (fun k i (s : Int32 × Int32 × gHp) => f_X9_worst_7 b k s.1 s.2.1 (jI i) s.2.2) n (fun i s => s.1 = jI (gWo S n i).1 ∧ s.2.1 = jI (gWo S n i).2 ∧ gFr (b + 116) 25 h s.2.2) (fun o => o.1 = jI (gWo S n n).1 ∧ gFr (b + 116) 25 h o.2) (by
    rintro k ⟨u, v, s1⟩ ⟨rfl, rfl, G⟩
    try dsimp only at G
    have R1 : s1.1 (b + 3 + 1) 4 = jI n := by rw [G.i1 (by omega)]; exact R.1.1
    refine ⟨(jI (gWo S n n).1, s1), ?_, rfl, G⟩
    try dsimp only
    rw [f_X9_worst_7, R1]
    exact gIT (jle (by omega) (by omega) (by omega) (by omega) (by omega)) rfl) (by
    rintro k i ⟨u, v, s1⟩ hi ⟨rfl, rfl, G⟩
    left
    try dsimp only at G
    have Rs := R.mv (G.sa (lo' := b + 3) (n' := 13) (by omega))
    obtain ⟨s2, e2, G2⟩ := u_findLoss (a := b + 113) Rs Wf (by omega) hi
    have hb := gWo_b Wf i (by omega)
    have hl := gLo_le Wf hi
    refine ⟨(jI (gWo S n (i + 1)).1, jI (gWo S n (i + 1)).2, s2), ?_, rfl, rfl, G.tr G2⟩
    try dsimp only
    rw [f_X9_worst_7, Rs.1.1]
    refine gIF (jnle (by omega) (by omega) (by omega) (by omega) (by omega)) (gBs e2 ?_)
    rw [m4, show jI (i : Int) + 1 = jI ((i + 1 : Nat) : Int) by rw [jl_1, jI_add]; rfl]
    rw [gWo_step S n i _ rfl]
    generalize gWo S n i = w at *
    by_cases c1 : w.1 = -4
    · rw [if_pos (Or.inl c1)]
      exact gIT (by rw [c1]) rfl
    · refine gIF (jne (by omega) (by omega) (by omega) (by omega) c1) ?_
      by_cases c2 : w.2 < (gLo S n i : Int)
      · rw [if_pos (Or.inr c2)]
        exact gIF (jnle (by omega) (by omega) (by omega) (by omega) (by omega)) rfl
      · rw [if_neg (show ¬ (w.1 = -4 ∨ w.2 < (gLo S n i : Int)) by omega)]
        exact gIT (jle (by omega) (by omega) (by omega) (by omega) (by omega)) rfl) gFuel 0 (jI (-4), jI 0, h) (by omega) (by unfold gFuel; omega) ⟨rfl, rfl, gFr.rf⟩
  try dsimp only at eo
  rw [show ((0 : Nat) : Int) = 0 from rfl, ← jl_0, ← m4] at eo
  refine ⟨o.1, o.2, _, gBs eo rfl, C.fr Go (by omega), W.up (by omega), Go.mono (by omega) (by omega), fun h2 M => ?_⟩
  have M1 : mRow (h2.2 (m + 1)) n c S := M.2.1
  obtain ⟨o', eo', ho', Fo'⟩ := gUp (fun k i (s : Int32 × Int32 × gHp) => f_X10_worst_7 m k s.1 s.2.1 (jI i) s.2.2) n (fun i s => s.1 = jI (gWo S n i).1 ∧ s.2.1 = jI (gWo S n i).2 ∧ mFr m h2 s.2.2) (fun o => o.1 = jI (gWo S n n).1 ∧ mFr m h2 o.2) (by
    rintro k ⟨u, v, s1⟩ ⟨rfl, rfl, G⟩
    try dsimp only at G
    have Rs : mRow (s1.2 (m + 1)) n c S := by rw [G.row]; exact M1
    refine ⟨(jI (gWo S n n).1, s1), ?_, rfl, G⟩
    try dsimp only
    rw [f_X10_worst_7]
    exact gBs (m_parts Rs hn) (gIT (jle (by omega) (by omega) (by omega) (by omega) (by omega)) rfl)) (by
    rintro k i ⟨u, v, s1⟩ hi ⟨rfl, rfl, G⟩
    left
    try dsimp only at G
    have Rs : mRow (s1.2 (m + 1)) n c S := by rw [G.row]; exact M1
    obtain ⟨s2, e2, G2⟩ := m_lossOf Rs Wf hi
    have hb := gWo_b Wf i (by omega)
    have hl := gLo_le Wf hi
    refine ⟨(jI (gWo S n (i + 1)).1, jI (gWo S n (i + 1)).2, s2), ?_, rfl, rfl, G.tr G2⟩
    try dsimp only
    rw [f_X10_worst_7]
    refine gBs (m_parts Rs hn) (gIF (jnle (by omega) (by omega) (by omega) (by omega) (by omega)) (gBs e2 ?_))
    rw [m4, show jI (i : Int) + 1 = jI ((i + 1 : Nat) : Int) by rw [jl_1, jI_add]; rfl]
    rw [gWo_step S n i _ rfl]
    generalize gWo S n i = w at *
    by_cases c1 : w.1 = -4
    · rw [if_pos (Or.inl c1)]
      exact gIT (by rw [c1]) rfl
    · refine gIF (jne (by omega) (by omega) (by omega) (by omega) c1) ?_
      by_cases c2 : w.2 < (gLo S n i : Int)
      · rw [if_pos (Or.inr c2)]
        exact gIF (jnle (by omega) (by omega) (by omega) (by omega) (by omega)) rfl
      · rw [if_neg (show ¬ (w.1 = -4 ∨ w.2 < (gLo S n i : Int)) by omega)]
        exact gIT (jle (by omega) (by omega) (by omega) (by omega) (by omega)) rfl) gFuel 0 (jI (-4), jI 0, h2) (by omega) (by unfold gFuel; omega) ⟨rfl, rfl, mFr.rf⟩
  try dsimp only at eo'
  rw [show ((0 : Nat) : Int) = 0 from rfl, ← jl_0, ← m4] at eo'
  refine ⟨o'.2, ?_, M.fr Fo', Fo'.fr⟩
  rw [ho, ← ho']
  exact gBs eo' rfl
/-- all times -/
def gTs (S : gTb) : Nat → Int
  | 0 => 0
  | k + 1 => gTs S k + S 11 k
theorem u_countTimes {h : gHp} {a c : Nat} {S : gTb} (R : cNot h a c S) (hc : c ≤ 20) : f_X7_countTimes a h = some (jI (gTs S c)) := by
  obtain ⟨R1, R2, R3, R4⟩ := R
  have L := gUpE (fun k i (v : Int32) => f_X7_countTimes_4 a h k v (jI i)) c (fun i v => v = jI (gTs S i)) (jI (gTs S c)) (by
    rintro k _ rfl
    rw [f_X7_countTimes_4, R1]
    exact gIT (jle (by omega) (by omega) (by omega) (by omega) (by omega)) rfl) (by
    rintro k i _ hi rfl
    left
    refine ⟨_, ?_, rfl⟩
    rw [f_X7_countTimes_4, R1, gNp (by omega), R4 i hi]
    refine gIF (jnle (by omega) (by omega) (by omega) (by omega) (by omega)) (gIT (jin (by omega) (by omega) (by omega)) ?_)
    rw [jl_1, jI_add, jI_add]
    rfl) gFuel (jI 0) (by unfold gFuel; omega) rfl
  try dsimp only at L
  rw [show ((0 : Nat) : Int) = 0 from rfl, ← jl_0] at L
  rw [f_X7_countTimes, L]
  rfl
theorem m_times {h : gHp} {m t n c : Nat} {S : gTb} (R : mRow (h.2 (m + 1)) n c S) (W : gWf t n c S) (ht : t ≤ 1000) (x1 x2 x3 : Int32) : f_X10_count_70 m x1 x2 x3 h gFuel 0 0 = some (jI (gTs S c)) := by
  have hc := W.c
  have e4 : h.2 (m + 1) 4 = lI c := R.1.2.2.2.2
  have L := gUpE (fun k i (v : Int32) => f_X10_count_70 m x1 x2 x3 h k v (jI i)) c (fun i v => v = jI (gTs S i)) (jI (gTs S c)) (by
    rintro k _ rfl
    rw [f_X10_count_70, show gN 4 = 4 from rfl, e4, jI_to64 (by omega) (by omega)]
    exact gIT (jin (z := 4) (by omega) (by omega) (by omega)) (gIT (by rw [lI_le (by omega) (by omega) (by omega) (by omega)]; omega) rfl)) (by
    rintro k i _ hi rfl
    left
    have ti := W.ti hi
    have e11 := (R.2.2.2.2 i hi).2.2
    refine ⟨_, ?_, rfl⟩
    have ex : (81 : Int32) + 3 * jI i + 2 = jI ((81 + 3 * i + 2 : Nat) : Int) := by
      rw [show (81 : Int32) = jI 81 from rfl, show (3 : Int32) = jI 3 from rfl, show (2 : Int32) = jI 2 from rfl, jI_mul, jI_add, jI_add]
      congr 1
    rw [f_X10_count_70, show gN 4 = 4 from rfl, e4, jI_to64 (by omega) (by omega), ex, gNp (by omega), e11, lI_to32 (by omega) (by omega)]
    refine gIT (jin (z := 4) (by omega) (by omega) (by omega)) (gIF (by rw [lI_le (by omega) (by omega) (by omega) (by omega)]; omega) (gIT (jin (by omega) (by omega) (by omega)) ?_))
    rw [jl_1, jI_add, jI_add]
    rfl) gFuel (jI 0) (by unfold gFuel; omega) rfl
  exact L
theorem m_count7 {h : gHp} {m t n c : Nat} {S : gTb} (R : mRow (h.2 (m + 1)) n c S) (W : gWf t n c S) (x1 : Int32) : f_X10_count_7 m x1 h gFuel 0 0 0 = some (jI (gCnt (fun l => decide (S 3 l ≠ 0)) 6), jI (gCnt (fun l => decide (S 3 l ≠ 0 ∧ S 2 l ≠ 0)) 6)) := by
  have L := gUpE (fun k i (v : Int32 × Int32) => f_X10_count_7 m x1 h k v.1 v.2 (jI i)) 6 (fun i v => v = (jI (gCnt (fun l => decide (S 3 l ≠ 0)) i), jI (gCnt (fun l => decide (S 3 l ≠ 0 ∧ S 2 l ≠ 0)) i))) (jI (gCnt (fun l => decide (S 3 l ≠ 0)) 6), jI (gCnt (fun l => decide (S 3 l ≠ 0 ∧ S 2 l ≠ 0)) 6)) (by
    rintro k _ rfl
    rw [f_X10_count_7]
    exact gIT (jle (a := 6) (by omega) (by omega) (by omega) (by omega) (by omega)) rfl) (by
    rintro k i _ hi rfl
    left
    have e1 := m_hasArm R W (z := i) (by omega) (by omega)
    rw [Int.toNat_natCast] at e1
    have k6 : ¬ (6 : Int32) ≤ jI i := jnle (a := 6) (by omega) (by omega) (by omega) (by omega) (by omega)
    have ei : jI (i : Int) + 1 = jI ((i + 1 : Nat) : Int) := by rw [jl_1, jI_add]; rfl
    refine ⟨_, ?_, rfl⟩
    rw [f_X10_count_7, ei]
    refine gIF k6 ?_
    by_cases c3 : S 3 i = 0
    · rw [decide_eq_false (by omega)] at e1
      have g1 := gCnt_F (P := fun l => decide (S 3 l ≠ 0)) (n := i) (by simp [c3])
      have g2 := gCnt_F (P := fun l => decide (S 3 l ≠ 0 ∧ S 2 l ≠ 0)) (n := i) (by simp [c3])
      refine gBs e1 (gBs (v := 0) (gIF Bool.false_ne_true rfl) (gBs e1 (gIF Bool.false_ne_true ?_)))
      rw [g1, g2, jl_0, jI_add, jI_add, Int.add_zero, Int.add_zero]
    · rw [decide_eq_true (by omega)] at e1
      have e2 := m_state R W hi c3
      have st := W.lt hi c3
      have g1 := gCnt_T (P := fun l => decide (S 3 l ≠ 0)) (n := i) (decide_eq_true c3)
      by_cases c2 : S 2 i = 0
      · have g2 := gCnt_F (P := fun l => decide (S 3 l ≠ 0 ∧ S 2 l ≠ 0)) (n := i) (by simp [c2])
        refine gBs e1 (gBs (v := 1) (gIT rfl rfl) (gBs e1 (gIT rfl (gBs (by rw [jl_1]; exact e2) (gIT (by rw [c2]; rfl) ?_)))))
        rw [g1, g2, jl_0, jl_1, jI_add, jI_add, Int.add_zero]
        rfl
      · have g2 := gCnt_T (P := fun l => decide (S 3 l ≠ 0 ∧ S 2 l ≠ 0)) (n := i) (decide_eq_true ⟨c3, c2⟩)
        refine gBs e1 (gBs (v := 1) (gIT rfl rfl) (gBs e1 (gIT rfl (gBs (by rw [jl_1]; exact e2) (gIF (jne (b := 0) (by omega) (by omega) (by omega) (by omega) c2) ?_)))))
        rw [g1, g2, jl_1, jI_add, jI_add]
        rfl) gFuel (jI 0, jI 0) (by unfold gFuel; omega) rfl
  exact L
theorem q_count (b m t : Nat) (ht : t ≤ 1000) (x1 : Int32) : gOKr b m t (f_X9_count b x1) (f_X10_count m x1) := by
  rintro ⟨tx, ⟨n, c, S⟩, H, X⟩ h C W
  have R : cSt h (b + 3) n c S := C.2.1
  have Wf : gWf t n c S := W.2.1
  have hn := Wf.n
  have hc := Wf.c
  have w1 := Wf.1
  obtain ⟨z, rfl, a1, a2⟩ := jI_ex x1
  have head : ∀ h2, mI m h2 (tx, (n, c, S), H, X) → mRow (h2.2 (m + 1)) n c S ∧ f_X10_count_7 m (jI z) h2 gFuel 0 0 0 = some (jI (gCnt (fun l => decide (S 3 l ≠ 0)) 6), jI (gCnt (fun l => decide (S 3 l ≠ 0 ∧ S 2 l ≠ 0)) 6)) ∧ ∀ u v : Int32, f_X10_count_70 m (jI z) u v h2 gFuel 0 0 = some (jI (gTs S c)) := fun h2 M => by
    have M1 : mRow (h2.2 (m + 1)) n c S := M.2.1
    exact ⟨M1, m_count7 M1 Wf (jI z), fun u v => m_times M1 Wf ht (jI z) u v⟩
  by_cases w0 : z = 0
  · subst w0
    refine ⟨jI n, ?_, fun h2 M => ?_⟩
    · rw [f_X9_count]
      exact gIT rfl (by rw [show h.1 (b + 3 + 1) 4 = jI n from R.1.1])
    · obtain ⟨M1, q1, q2⟩ := head h2 M
      exact gBs q1 (gBs (q2 _ _) (gIT rfl (gBs (m_parts M1 hn) rfl)))
  have n0 : ¬ jI z = 0 := jne (b := 0) a1 a2 (by omega) (by omega) w0
  by_cases w1' : z = 1
  · subst w1'
    refine ⟨jI (gCnt (fun q => decide (S 4 q = 0)) n), ?_, fun h2 M => ?_⟩
    · exact gIF n0 (gIT rfl (gBs (by rw [jl_0]; exact u_countKind R.1 Wf) rfl))
    · obtain ⟨M1, q1, q2⟩ := head h2 M
      rw [arms_eq Wf]
      exact gBs q1 (gBs (q2 _ _) (gIF n0 (gIT rfl rfl)))
  have n1 : ¬ jI z = 1 := jne (b := 1) a1 a2 (by omega) (by omega) w1'
  by_cases w2 : z = 2
  · subst w2
    refine ⟨_, gIF n0 (gIF n1 (gIT rfl (gBs (u_countUnfolded R Wf) rfl))), fun h2 M => ?_⟩
    obtain ⟨M1, q1, q2⟩ := head h2 M
    exact gBs q1 (gBs (q2 _ _) (gIF n0 (gIF n1 (gIT rfl (gBs (m_open M1 Wf) rfl)))))
  have n2 : ¬ jI z = 2 := jne (b := 2) a1 a2 (by omega) (by omega) w2
  by_cases w3 : z = 3
  · subst w3
    refine ⟨jI (S 0 1), gIF n0 (gIF n1 (gIF n2 (gIT rfl (by rw [show h.1 (b + 3) 5 = jI (S 0 1) from R.2.2.2.2.1])))), fun h2 M => ?_⟩
    obtain ⟨M1, q1, q2⟩ := head h2 M
    exact gBs q1 (gBs (q2 _ _) (gIF n0 (gIF n1 (gIF n2 (gIT rfl (gIT (jin (z := 1) (by omega) (by omega) (by omega)) (by rw [show gN 1 = 1 from rfl, M1.1.2.1, lI_to32 (by omega) (by omega)])))))))
  have n3 : ¬ jI z = 3 := jne (b := 3) a1 a2 (by omega) (by omega) w3
  by_cases w4 : z = 4
  · subst w4
    refine ⟨jI (S 0 2), gIF n0 (gIF n1 (gIF n2 (gIF n3 (gIT rfl (by rw [show h.1 (b + 3) 6 = jI (S 0 2) from R.2.2.2.2.2.1]))))), fun h2 M => ?_⟩
    obtain ⟨M1, q1, q2⟩ := head h2 M
    exact gBs q1 (gBs (q2 _ _) (gIF n0 (gIF n1 (gIF n2 (gIF n3 (gIT rfl (gIT (jin (z := 2) (by omega) (by omega) (by omega)) (by rw [show gN 2 = 2 from rfl, M1.1.2.2.1, lI_to32 (by omega) (by omega)]))))))))
  have n4 : ¬ jI z = 4 := jne (b := 4) a1 a2 (by omega) (by omega) w4
  by_cases w5 : z = 5
  · subst w5
    refine ⟨jI c, gIF n0 (gIF n1 (gIF n2 (gIF n3 (gIF n4 (gIT rfl (by rw [show h.1 (b + 3 + 6) 3 = jI c from R.2.1.1])))))), fun h2 M => ?_⟩
    obtain ⟨M1, q1, q2⟩ := head h2 M
    exact gBs q1 (gBs (q2 _ _) (gIF n0 (gIF n1 (gIF n2 (gIF n3 (gIF n4 (gIT rfl (gIT (jin (z := 4) (by omega) (by omega) (by omega)) (by rw [show gN 4 = 4 from rfl, M1.1.2.2.2.2, lI_to32 (by omega) (by omega)])))))))))
  have n5 : ¬ jI z = 5 := jne (b := 5) a1 a2 (by omega) (by omega) w5
  by_cases w6 : z = 6
  · subst w6
    refine ⟨_, gIF n0 (gIF n1 (gIF n2 (gIF n3 (gIF n4 (gIF n5 (gIT rfl (gBs (u_countTimes R.2.1 hc) rfl))))))), fun h2 M => ?_⟩
    obtain ⟨M1, q1, q2⟩ := head h2 M
    exact gBs q1 (gBs (q2 _ _) (gIF n0 (gIF n1 (gIF n2 (gIF n3 (gIF n4 (gIF n5 (gIT rfl rfl))))))))
  have n6 : ¬ jI z = 6 := jne (b := 6) a1 a2 (by omega) (by omega) w6
  by_cases w7 : z = 7
  · subst w7
    refine ⟨jI (S 0 3), gIF n0 (gIF n1 (gIF n2 (gIF n3 (gIF n4 (gIF n5 (gIF n6 (gIT rfl (by rw [show h.1 (b + 3) 7 = jI (S 0 3) from R.2.2.2.2.2.2])))))))), fun h2 M => ?_⟩
    obtain ⟨M1, q1, q2⟩ := head h2 M
    exact gBs q1 (gBs (q2 _ _) (gIF n0 (gIF n1 (gIF n2 (gIF n3 (gIF n4 (gIF n5 (gIF n6 (gIT rfl (gIT (jin (z := 3) (by omega) (by omega) (by omega)) (by rw [show gN 3 = 3 from rfl, M1.1.2.2.2.1, lI_to32 (by omega) (by omega)])))))))))))
  have n7 : ¬ jI z = 7 := jne (b := 7) a1 a2 (by omega) (by omega) w7
  by_cases w8 : z = 8
  · subst w8
    obtain ⟨o, o1, o2, o3, o4⟩ := C.2.2.1
    refine ⟨jI H.1, gIF n0 (gIF n1 (gIF n2 (gIF n3 (gIF n4 (gIF n5 (gIF n6 (gIF n7 (gIT rfl (by rw [o3]))))))))), fun h2 M => ?_⟩
    obtain ⟨M1, q1, q2⟩ := head h2 M
    exact gBs q1 (gBs (q2 _ _) (gIF n0 (gIF n1 (gIF n2 (gIF n3 (gIF n4 (gIF n5 (gIF n6 (gIF n7 (gIT rfl (by rw [M.2.2.1.1])))))))))))
  have n8 : ¬ jI z = 8 := jne (b := 8) a1 a2 (by omega) (by omega) w8
  by_cases w9 : z = 9
  · subst w9
    refine ⟨jI tx.1, gIF n0 (gIF n1 (gIF n2 (gIF n3 (gIF n4 (gIF n5 (gIF n6 (gIF n7 (gIF n8 (gIT rfl (by rw [C.1.1])))))))))), fun h2 M => ?_⟩
    obtain ⟨M1, q1, q2⟩ := head h2 M
    exact gBs q1 (gBs (q2 _ _) (gIF n0 (gIF n1 (gIF n2 (gIF n3 (gIF n4 (gIF n5 (gIF n6 (gIF n7 (gIF n8 (gIT rfl (by rw [M.1.1]))))))))))))
  have n9 : ¬ jI z = 9 := jne (b := 9) a1 a2 (by omega) (by omega) w9
  by_cases w10 : z = 10
  · subst w10
    refine ⟨_, gIF n0 (gIF n1 (gIF n2 (gIF n3 (gIF n4 (gIF n5 (gIF n6 (gIF n7 (gIF n8 (gIF n9 (gIT rfl (gBs (u_countNotSound R Wf) rfl))))))))))), fun h2 M => ?_⟩
    obtain ⟨M1, q1, q2⟩ := head h2 M
    exact gBs q1 (gBs (q2 _ _) (gIF n0 (gIF n1 (gIF n2 (gIF n3 (gIF n4 (gIF n5 (gIF n6 (gIF n7 (gIF n8 (gIF n9 (gIT rfl rfl))))))))))))
  have n10 : ¬ jI z = 10 := jne (b := 10) a1 a2 (by omega) (by omega) w10
  refine ⟨-2, gIF n0 (gIF n1 (gIF n2 (gIF n3 (gIF n4 (gIF n5 (gIF n6 (gIF n7 (gIF n8 (gIF n9 (gIF n10 rfl)))))))))), fun h2 M => ?_⟩
  obtain ⟨M1, q1, q2⟩ := head h2 M
  exact gBs q1 (gBs (q2 _ _) (gIF n0 (gIF n1 (gIF n2 (gIF n3 (gIF n4 (gIF n5 (gIF n6 (gIF n7 (gIF n8 (gIF n9 (gIF n10 rfl))))))))))))
theorem q_noted (b m t : Nat) (ht : t ≤ 1000) (x1 x2 : Int32) : gOKr b m t (f_X9_noted b x1 x2) (f_X10_noted m x1 x2) := by
  rintro ⟨tx, ⟨n, c, S⟩, H, X⟩ h C W
  have R : cSt h (b + 3) n c S := C.2.1
  have Wf : gWf t n c S := W.2.1
  have hc := Wf.c
  obtain ⟨z1, rfl, a1, a2⟩ := jI_ex x1
  obtain ⟨z2, rfl, b1, b2⟩ := jI_ex x2
  have Rc : h.1 (b + 3 + 6) 3 = jI c := R.2.1.1
  by_cases c1 : z1 < 0
  · exact ⟨-2, gIT (jlt (b := 0) a1 a2 (by omega) (by omega) c1) rfl, fun h2 M => gIT (jlt (b := 0) a1 a2 (by omega) (by omega) c1) rfl⟩
  have k1 : ¬ jI z1 < 0 := jnlt (b := 0) a1 a2 (by omega) (by omega) (by omega)
  by_cases c2 : 0 ≤ z2 ∧ z2 ≤ 2
  · have k2 : ¬ jI z2 < 0 := jnlt (b := 0) b1 b2 (by omega) (by omega) (by omega)
    have k3 : jI z2 ≤ 2 := jle (b := 2) b1 b2 (by omega) (by omega) (by omega)
    obtain ⟨k, rfl⟩ : ∃ k : Nat, z1 = k := ⟨z1.toNat, by omega⟩
    have d : ∀ h2 : gHp, f_X10_in (jI z2) 0 2 h2 = some true := fun h2 => by
      have := m_in h2 (x := z2) (y := 0) (z := 2) b1 b2 (by omega) (by omega) (by omega) (by omega)
      rw [decide_eq_true c2] at this
      exact this
    by_cases c3 : k < c
    · have N := R.2.1
      have ti := Wf.ti c3
      have g20 : gIn (jI k) 20 := jin (by omega) (by omega) (by omega)
      have k4 : jI k < h.1 (b + 3 + 6) 3 := by rw [Rc]; exact jlt (by omega) (by omega) (by omega) (by omega) (by omega)
      have refr : ∀ h2, mI m h2 (tx, (n, c, S), H, X) → ∀ (w : Nat), (w : Int) = z2 → f_X10_noted m (jI k) (jI z2) h2 = some (h2.2 (m + 1) (81 + 3 * k + w)) := fun h2 M w hw => by
        have M1 : mRow (h2.2 (m + 1)) n c S := M.2.1
        have ex : (81 : Int32) + 3 * jI k + jI z2 = jI ((81 + 3 * k + w : Nat) : Int) := by
          rw [← hw, show (81 : Int32) = jI 81 from rfl, show (3 : Int32) = jI 3 from rfl, jI_mul, jI_add, jI_add]
          congr 1
        rw [f_X10_noted, ex, gNp (by omega)]
        refine gIF k1 (gBs (d h2) (gIT rfl (gIT (jin (z := 4) (by omega) (by omega) (by omega)) (gIF ?_ (gIT (jin (by omega) (by omega) (by omega)) rfl)))))
        rw [show gN 4 = 4 from rfl, M1.1.2.2.2.2, jI_to64 (by omega) (by omega), lI_le (by omega) (by omega) (by omega) (by omega)]
        omega
      by_cases w2 : z2 = 2
      · subst w2
        refine ⟨lI (S 11 k), ?_, fun h2 M => ?_⟩
        · rw [f_X9_noted, gNp (by omega)]
          refine gIF k1 (gIF k2 (gIT k3 (gIT k4 (gIT rfl (gIT g20 ?_)))))
          rw [show h.1 (b + 3 + 6 + 3) k = jI (S 11 k) from N.2.2.2 k c3, jI_to64 (by omega) (by omega)]
        · rw [refr h2 M 2 rfl]
          have M1 : mRow (h2.2 (m + 1)) n c S := M.2.1
          rw [(M1.2.2.2.2 k c3).2.2]
      · have n2 : ¬ jI z2 = 2 := jne (b := 2) b1 b2 (by omega) (by omega) w2
        by_cases w0 : z2 = 0
        · subst w0
          refine ⟨lI (S 9 k), ?_, fun h2 M => ?_⟩
          · rw [f_X9_noted, gNp (by omega)]
            refine gIF k1 (gIF k2 (gIT k3 (gIT k4 (gIF n2 (gIT rfl (gIT g20 ?_))))))
            rw [show h.2 (b + 3 + 6 + 1) k = lI (S 9 k) from N.2.1 k c3]
          · rw [refr h2 M 0 rfl]
            have M1 : mRow (h2.2 (m + 1)) n c S := M.2.1
            rw [show 81 + 3 * k + 0 = 81 + 3 * k from rfl, (M1.2.2.2.2 k c3).1]
        · have w1 : z2 = 1 := by omega
          subst w1
          have n0 : ¬ jI 1 = 0 := jne (b := 0) b1 b2 (by omega) (by omega) (by omega)
          refine ⟨lI (S 10 k), ?_, fun h2 M => ?_⟩
          · rw [f_X9_noted, gNp (by omega)]
            refine gIF k1 (gIF k2 (gIT k3 (gIT k4 (gIF n2 (gIF n0 (gIT g20 ?_))))))
            rw [show h.2 (b + 3 + 6 + 2) k = lI (S 10 k) from N.2.2.1 k c3]
          · rw [refr h2 M 1 rfl]
            have M1 : mRow (h2.2 (m + 1)) n c S := M.2.1
            rw [(M1.2.2.2.2 k c3).2.1]
    · refine ⟨-4, gIF k1 (gIF k2 (gIT k3 (gIF (by rw [Rc]; exact jnlt (by omega) (by omega) (by omega) (by omega) (by omega)) rfl))), fun h2 M => ?_⟩
      have M1 : mRow (h2.2 (m + 1)) n c S := M.2.1
      refine gIF k1 (gBs (d h2) (gIT rfl (gIT (jin (z := 4) (by omega) (by omega) (by omega)) (gIT ?_ rfl))))
      rw [show gN 4 = 4 from rfl, M1.1.2.2.2.2, jI_to64 (by omega) (by omega), lI_le (by omega) (by omega) (by omega) (by omega)]
      omega
  · refine ⟨-2, ?_, fun h2 M => ?_⟩
    · refine gIF k1 ?_
      by_cases c3 : z2 < 0
      · exact gIT (jlt (b := 0) b1 b2 (by omega) (by omega) c3) rfl
      · exact gIF (jnlt (b := 0) b1 b2 (by omega) (by omega) (by omega)) (gIF (jnle (b := 2) b1 b2 (by omega) (by omega) (by omega)) rfl)
    · have d := m_in h2 (x := z2) (y := 0) (z := 2) b1 b2 (by omega) (by omega) (by omega) (by omega)
      rw [decide_eq_false c2] at d
      exact gIF k1 (gBs d (gIF Bool.false_ne_true rfl))
