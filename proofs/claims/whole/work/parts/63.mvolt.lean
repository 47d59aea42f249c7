/-! the reference's voltages -/
def mV (h : gHp) (m p : Nat) (q : gQ) : Prop := h.2 (m + 11) p = lI q.1 ∧ h.2 (m + 12) p = lI q.2
def vPut (h : gHp) (m p : Nat) (q : gQ) : gHp := gsL (gsL h (m + 11) p (lI q.1)) (m + 12) p (lI q.2)
theorem vPut_2 {h : gHp} {m p x : Nat} {q : gQ} (h1 : x ≠ m + 11) (h2 : x ≠ m + 12) : (vPut h m p q).2 x = h.2 x := by unfold vPut; rw [rL_n h2, rL_n h1]
theorem vPut_V (h : gHp) (m p : Nat) (q : gQ) : mV (vPut h m p q) m p q := by
  unfold vPut
  refine ⟨?_, rL_e _ _ _ _⟩
  rw [rL_n (by omega), rL_e]
theorem vPut_k {h : gHp} {m p k : Nat} {q r : gQ} (hk : k ≠ p) (H : mV h m k r) : mV (vPut h m p q) m k r := by
  unfold vPut
  refine ⟨?_, ?_⟩
  · rw [rL_n (by omega), rL_k hk]; exact H.1
  · rw [rL_k hk, rL_n (by omega)]; exact H.2
theorem mV.mv {h h' : gHp} {m p : Nat} {q : gQ} (H : mV h m p q) (e1 : h'.2 (m + 11) = h.2 (m + 11)) (e2 : h'.2 (m + 12) = h.2 (m + 12)) : mV h' m p q := by
  unfold mV
  rw [e1, e2]
  exact H
theorem mFr.V {m p : Nat} {h h1 : gHp} {q : gQ} (s : mFr m h h1) : mFr m h (vPut h1 m p q) := s.tr ⟨fun x q1 q2 q3 q4 q5 => ⟨rfl, vPut_2 q4 q5⟩, fun _ _ => rfl⟩
theorem m_infinite {h : gHp} {m t n c : Nat} {S : gTb} (R : mRow (h.2 (m + 1)) n c S) (W : gWf t n c S) {x : Int} (Q : ∀ q, q < n → mQ h m q (rR S x n q)) {u : Nat} (hu : u < n) : f_X10_infinite m (jI u) h = some (jI (gCnt (fun q => gSon S u q && decide ((rR S x n q).2 = 0)) u)) := by
  have hn := W.n
  have L := gUpE (fun k i (v : Int32) => f_X10_infinite_4 m (jI u) h k v (jI i)) u (fun i v => v = jI (gCnt (fun q => gSon S u q && decide ((rR S x n q).2 = 0)) i)) (jI (gCnt (fun q => gSon S u q && decide ((rR S x n q).2 = 0)) u)) (by
    rintro k _ rfl
    try dsimp only
    simp (disch := omega) only [jl_0, jl_1, jl_2, jl_3, jl_4, jl_5, jl_6, jl_10, jl_11, jl_20, jl_26, jl_31, jl_32, jl_40, jl_41, jl_42, jl_43, jl_47, jl_48, jl_57, jl_81, jl_97, jl_99, jl_100, jl_102, jl_103, jl_124, jl_141, jl_564, jl_705, jl_999, jl_1000, jl_9999, jI_neg, cs1, jI_add, jI_sub, jI_mul, jI_neg, jI_lt, jI_le, jI_eq, gIf, gIe, gN_jI, tn_0, tn_1, tn_2, tn_3, tn_4, Int.toNat_natCast, Int.cast_ofNat_Int, if_pos, if_neg, Option.bind_some, eq_self, Bool.false_eq_true, reduceIte, f_X10_infinite_4]) (by
    rintro k i _ hi rfl
    left
    have b := W.ar (p := i) (by omega)
    have e1 := m_around R W (p := i) (by omega)
    have b3 : -4 ≤ r4 (S 5 i) ∧ r4 (S 5 i) < n := by unfold r4; split <;> omega
    refine ⟨_, ?_, rfl⟩
    try dsimp only
    by_cases c : S 5 i = u
    · have c2 : r4 (S 5 i) = u := by rw [r4_p (by omega)]; exact c
      have ri := rR_9 W (x := x) (p := i) (by omega)
      have Qi := (Q i (by omega)).2
      by_cases c3 : (rR S x n i).2 = 0
      · have e := gCnt_T (P := fun q => gSon S u q && decide ((rR S x n q).2 = 0)) (n := i) (by rw [show gSon S u i = true from decide_eq_true c, decide_eq_true c3]; rfl)
        have z : (lI ((rR S x n i).2 : Int) = 0) = True := eq_true ((lI_z (by omega)).mpr c3)
        simp (disch := omega) only [jl_0, jl_1, jl_2, jl_3, jl_4, jl_5, jl_6, jl_10, jl_11, jl_20, jl_26, jl_31, jl_32, jl_40, jl_41, jl_42, jl_43, jl_47, jl_48, jl_57, jl_81, jl_97, jl_99, jl_100, jl_102, jl_103, jl_124, jl_141, jl_564, jl_705, jl_999, jl_1000, jl_9999, jI_neg, cs1, jI_add, jI_sub, jI_mul, jI_neg, jI_lt, jI_le, jI_eq, gIf, gIe, gN_jI, tn_0, tn_1, tn_2, tn_3, tn_4, Int.toNat_natCast, Int.cast_ofNat_Int, if_pos, if_neg, Option.bind_some, eq_self, Bool.false_eq_true, reduceIte, f_X10_infinite_4, e1, c2, e, Qi, z, if_true]
      · have e := gCnt_F (P := fun q => gSon S u q && decide ((rR S x n q).2 = 0)) (n := i) (by rw [decide_eq_false c3, Bool.and_false]; exact Bool.false_ne_true)
        have z : (lI ((rR S x n i).2 : Int) = 0) = False := eq_false (fun q => c3 ((lI_z (by omega)).mp q))
        simp (disch := omega) only [jl_0, jl_1, jl_2, jl_3, jl_4, jl_5, jl_6, jl_10, jl_11, jl_20, jl_26, jl_31, jl_32, jl_40, jl_41, jl_42, jl_43, jl_47, jl_48, jl_57, jl_81, jl_97, jl_99, jl_100, jl_102, jl_103, jl_124, jl_141, jl_564, jl_705, jl_999, jl_1000, jl_9999, jI_neg, cs1, jI_add, jI_sub, jI_mul, jI_neg, jI_lt, jI_le, jI_eq, gIf, gIe, gN_jI, tn_0, tn_1, tn_2, tn_3, tn_4, Int.toNat_natCast, Int.cast_ofNat_Int, if_pos, if_neg, Option.bind_some, eq_self, Bool.false_eq_true, reduceIte, f_X10_infinite_4, e1, c2, e, Qi, z, if_false, Int.add_zero]
    · have c2 : ¬ r4 (S 5 i) = u := fun q => c ((r4_eq (by omega)).mp q)
      have e := gCnt_F (P := fun q => gSon S u q && decide ((rR S x n q).2 = 0)) (n := i) (by rw [show gSon S u i = false from decide_eq_false c, Bool.false_and]; exact Bool.false_ne_true)
      simp (disch := omega) only [jl_0, jl_1, jl_2, jl_3, jl_4, jl_5, jl_6, jl_10, jl_11, jl_20, jl_26, jl_31, jl_32, jl_40, jl_41, jl_42, jl_43, jl_47, jl_48, jl_57, jl_81, jl_97, jl_99, jl_100, jl_102, jl_103, jl_124, jl_141, jl_564, jl_705, jl_999, jl_1000, jl_9999, jI_neg, cs1, jI_add, jI_sub, jI_mul, jI_neg, jI_lt, jI_le, jI_eq, gIf, gIe, gN_jI, tn_0, tn_1, tn_2, tn_3, tn_4, Int.toNat_natCast, Int.cast_ofNat_Int, if_pos, if_neg, Option.bind_some, eq_self, Bool.false_eq_true, reduceIte, f_X10_infinite_4, e1, c2, e, Int.add_zero]) gFuel (jI 0) (by unfold gFuel; omega) rfl
  try dsimp only at L
  rw [f_X10_infinite]
  simp (disch := omega) only [jl_0, jl_1, jl_2, jl_3, jl_4, jl_5, jl_6, jl_10, jl_11, jl_20, jl_26, jl_31, jl_32, jl_40, jl_41, jl_42, jl_43, jl_47, jl_48, jl_57, jl_81, jl_97, jl_99, jl_100, jl_102, jl_103, jl_124, jl_141, jl_564, jl_705, jl_999, jl_1000, jl_9999, jI_neg, ]
  rw [show ((0 : Nat) : Int) = 0 from rfl] at L
  rw [L]
  rfl
theorem m_layVoltage {h : gHp} {m t n c : Nat} {S : gTb} (R : mRow (h.2 (m + 1)) n c S) (W : gWf t n c S) {x : Int} (Q : ∀ q, q < n → mQ h m q (rR S x n q)) {u p : Nat} (hp : p < n) (h5 : S 5 p = u) (hx : (u : Int) ≠ x) {V : gQ} (QV : mV h m u V) (gV : nG V) (v1 : V.1 < 9223372036854775808) (v2 : V.2 < 9223372036854775808) (v3 : 0 < V.2) (b1 : (vStep S (rR S x n) V u p).1 < 9223372036854775808) (b2 : (vStep S (rR S x n) V u p).2 < 9223372036854775808) : ∃ h', f_X10_layVoltage m (jI p) (jI u) h = some (vPut h' m p (vStep S (rR S x n) V u p)) ∧ h'.1 = h.1 ∧ (∀ y, y ≠ m → y ≠ m + 11 → y ≠ m + 12 → h'.2 y = h.2 y) ∧ (∀ k q, k ≠ p → mV h m k q → mV h' m k q) := by
  have hn := W.n
  have ar := W.ar hp
  have hu : u < n := by omega
  have ru := rR_9 W (x := x) hu
  have rp := rR_9 W (x := x) hp
  have eH1 : gsL (gsL h (m + 11) p (h.2 (m + 11) u)) (m + 12) p ((gsL h (m + 11) p (h.2 (m + 11) u)).2 (m + 12) u) = vPut h m p V := by
    rw [rL_n (by omega), QV.1, QV.2]; rfl
  have eH2 : gsL (gsL (vPut h m p V) m 17 0) m 18 1 = sPut (vPut h m p V) m (0, 1) := rfl
  have ek := m_kind (h := vPut h m p V) (m := m) (by rw [vPut_2 (by omega) (by omega)]; exact R) W hu
  have kd := W.kd hu
  have F2 : ∀ y, y ≠ m → y ≠ m + 11 → y ≠ m + 12 → (sPut (vPut h m p V) m (0, 1)).2 y = h.2 y := fun y h1 h2 h3 => by rw [sPut_2 h1, vPut_2 h2 h3]
  have V2 : mV (sPut (vPut h m p V) m (0, 1)) m p V := (vPut_V h m p V).mv (sPut_2 (by omega)) (sPut_2 (by omega))
  have K2 : ∀ k q, k ≠ p → mV h m k q → mV (sPut (vPut h m p V) m (0, 1)) m k q := fun k q hk H => (vPut_k hk H).mv (sPut_2 (by omega)) (sPut_2 (by omega))
  have s17 : (sPut (vPut h m p V) m (0, 1)).2 m 17 = lI 0 := sPut_17 _ _ _
  have s18 : (sPut (vPut h m p V) m (0, 1)).2 m 18 = lI 1 := sPut_18 _ _ _
  have E1 : (sPut (vPut h m p V) m (0, 1)).1 = h.1 := rfl
  have ei := m_infinite (h := sPut (vPut h m p V) m (0, 1)) (m := m) (S := S) (x := x) (by rw [F2 _ (by omega) (by omega) (by omega)]; exact R) W (fun q hq => (Q q hq).mv (F2 _ (by omega) (by omega) (by omega)) (F2 _ (by omega) (by omega) (by omega))) hu
  have Qu2 : (sPut (vPut h m p V) m (0, 1)).2 (m + 10) u = lI (rR S x n u).2 := by rw [F2 _ (by omega) (by omega) (by omega)]; exact (Q u hu).2
  have Qu1 : (sPut (vPut h m p V) m (0, 1)).2 (m + 9) u = lI (rR S x n u).1 := by rw [F2 _ (by omega) (by omega) (by omega)]; exact (Q u hu).1
  have Qp2 : (sPut (vPut h m p V) m (0, 1)).2 (m + 10) p = lI (rR S x n p).2 := by rw [F2 _ (by omega) (by omega) (by omega)]; exact (Q p hp).2
  have Qp1 : (sPut (vPut h m p V) m (0, 1)).2 (m + 9) p = lI (rR S x n p).1 := by rw [F2 _ (by omega) (by omega) (by omega)]; exact (Q p hp).1
  have gp : gIn (jI p) 11 := jin (by omega) (by omega) (by omega)
  have gu : gIn (jI u) 11 := jin (by omega) (by omega) (by omega)
  have fin : ∀ (v8 : gHp) (q : gQ), v8.2 m 17 = lI q.1 → v8.2 m 18 = lI q.2 → gsL (gsL v8 (m + 11) p (v8.2 m 17)) (m + 12) p ((gsL v8 (m + 11) p (v8.2 m 17)).2 m 18) = vPut v8 m p q := fun v8 q h1 h2 => by
    rw [rL_n (by omega), h1, h2]; rfl
  rw [f_X10_layVoltage, gNp (by omega), gNp (by omega), eH1, eH2]
  generalize sPut (vPut h m p V) m (0, 1) = H2 at *
  rw [← jl_0] at ek
  by_cases c2 : S 4 u = 2
  · refine ⟨h, gIT gu (gIT gp (gIT gu (gIT gp (gBs ek (gIT (by rw [c2]; rfl) ?_))))), rfl, fun _ _ _ _ => rfl, fun _ _ _ H => H⟩
    unfold vStep
    rw [if_pos c2]
  · have nc2 : ¬ jI (S 4 u) = (2 : Int32) := by
      rw [show (2 : Int32) = jI 2 from rfl]
      exact jne (by omega) (by omega) (by omega) (by omega) c2
    by_cases i2 : (rR S x n u).2 = 0
    · have z2 : H2.2 (m + 10) u = 0 := by rw [Qu2]; exact (lI_z (by omega)).mpr i2
      by_cases i3 : (rR S x n p).2 = 0
      · have z3 : H2.2 (m + 10) p = 0 := by rw [Qp2]; exact (lI_z (by omega)).mpr i3
        have eS : vStep S (rR S x n) V u p = nMul V (1, gCnt (fun q => gSon S u q && decide ((rR S x n q).2 = 0)) u) := by
          unfold vStep
          rw [if_neg c2, if_pos i2, if_pos i3]
        have kle := gCnt_le (fun q => gSon S u q && decide ((rR S x n q).2 = 0)) u
        have kpos : gCnt (fun q => gSon S u q && decide ((rR S x n q).2 = 0)) u ≠ 0 := gCnt_hit (i := p) (by omega) (by rw [show gSon S u p = true from decide_eq_true h5, decide_eq_true i3]; rfl)
        rw [eS] at b1 b2 ⊢
        generalize gCnt (fun q => gSon S u q && decide ((rR S x n q).2 = 0)) u = k at *
        have e64 := jI_to64 (z := (k : Int)) (by omega) (by omega)
        have pr := s_product H2 m (q := V) (r := (1, k)) gV (nG_one k) v1 v2 (by show 1 < _; omega) (by show k < _; omega) v3 (by show 0 < k; omega) b1 b2
        have pr' : f_X10_product m (H2.2 (m + 11) p) (H2.2 (m + 12) p) 1 (jI k).toInt64 H2 = some (sPut H2 m (nMul V (1, k))) := by
          rw [V2.1, V2.2, e64]; exact pr
        refine ⟨sPut H2 m (nMul V (1, k)), gIT gu (gIT gp (gIT gu (gIT gp (gBs ek (gIF nc2 (gIT gu (gBs (gIT z2 (gIT gp (gIT z3 (gIT gp (gIT gp (gBs ei (gBs pr' rfl))))))) (gIT gp (gIT gp ?_))))))))), by rw [sPut_1]; exact E1, fun y h1 h2 h3 => by rw [sPut_2 h1]; exact F2 y h1 h2 h3, fun k' q hk H => (K2 k' q hk H).mv (sPut_2 (by omega)) (sPut_2 (by omega))⟩
        rw [fin _ _ (sPut_17 _ _ _) (sPut_18 _ _ _)]
      · have z3 : ¬ H2.2 (m + 10) p = 0 := by rw [Qp2]; exact fun q => i3 ((lI_z (by omega)).mp q)
        have eS : vStep S (rR S x n) V u p = (0, 1) := by
          unfold vStep
          rw [if_neg c2, if_pos i2, if_neg i3]
        rw [eS]
        refine ⟨H2, gIT gu (gIT gp (gIT gu (gIT gp (gBs ek (gIF nc2 (gIT gu (gBs (gIT z2 (gIT gp (gIF z3 rfl))) (gIT gp (gIT gp ?_))))))))), E1, F2, K2⟩
        rw [fin H2 (0, 1) s17 s18]
    · have z2 : ¬ H2.2 (m + 10) u = 0 := by rw [Qu2]; exact fun q => i2 ((lI_z (by omega)).mp q)
      by_cases i3 : (rR S x n u).1 = 0
      · have z3 : H2.2 (m + 9) u ≤ 0 := by rw [Qu1, l0, lI_le (by omega) (by omega) (by omega) (by omega)]; omega
        have eS : vStep S (rR S x n) V u p = (0, 1) := by
          unfold vStep
          rw [if_neg c2, if_neg i2, if_pos i3]
        rw [eS]
        refine ⟨H2, gIT gu (gIT gp (gIT gu (gIT gp (gBs ek (gIF nc2 (gIT gu (gBs (gIF z2 (gIT gu (gIT z3 rfl))) (gIT gp (gIT gp ?_))))))))), E1, F2, K2⟩
        rw [fin H2 (0, 1) s17 s18]
      · have z3 : ¬ H2.2 (m + 9) u ≤ 0 := by rw [Qu1, l0, lI_le (by omega) (by omega) (by omega) (by omega)]; omega
        obtain ⟨s1, s2, s3, s4, s5⟩ := share_9 W hp h5 hx c2 i2 i3
        have eS : vStep S (rR S x n) V u p = nMul (nMul (rR S x n p) (iInv (rR S x n u))) V := by
          unfold vStep
          rw [if_neg c2, if_neg i2, if_neg i3, nMul_comm (iInv (rR S x n u)), nMul_comm V]
        rw [nMul_comm] at s1 s2 s3 s4
        rw [eS] at b1 b2 ⊢
        have p1 := s_product H2 m (q := rR S x n p) (r := iInv (rR S x n u)) (rR_G hp) (iInv_G (rR_G hu)) (by omega) (by omega) (by show (rR S x n u).2 < _; omega) (by show (rR S x n u).1 < _; omega) s5 (by show 0 < (rR S x n u).1; omega) (by omega) (by omega)
        have p1' : f_X10_product m (H2.2 (m + 9) p) (H2.2 (m + 10) p) (H2.2 (m + 10) u) (H2.2 (m + 9) u) H2 = some (sPut H2 m (nMul (rR S x n p) (iInv (rR S x n u)))) := by
          rw [Qp1, Qp2, Qu1, Qu2]; exact p1
        generalize nMul (rR S x n p) (iInv (rR S x n u)) = sh at *
        have p2 := s_product (sPut H2 m sh) m (q := sh) (r := V) s1 gV (by omega) (by omega) v1 v2 s2 v3 b1 b2
        have p2' : f_X10_product m ((sPut H2 m sh).2 m 17) ((sPut H2 m sh).2 m 18) ((sPut H2 m sh).2 (m + 11) p) ((sPut H2 m sh).2 (m + 12) p) (sPut H2 m sh) = some (sPut (sPut H2 m sh) m (nMul sh V)) := by
          rw [sPut_17, sPut_18, sPut_2 (by omega), sPut_2 (by omega), V2.1, V2.2]; exact p2
        refine ⟨sPut (sPut H2 m sh) m (nMul sh V), ?_, by rw [sPut_1, sPut_1]; exact E1, fun y h1 h2 h3 => by rw [sPut_2 h1, sPut_2 h1]; exact F2 y h1 h2 h3, fun k' q hk H => ((K2 k' q hk H).mv (sPut_2 (by omega)) (sPut_2 (by omega))).mv (sPut_2 (by omega)) (sPut_2 (by omega))⟩
        refine gIT gu (gIT gp (gIT gu (gIT gp (gBs ek (gIF nc2 (gIT gu ?_))))))
        refine gBs (v := sPut (sPut H2 m sh) m (nMul sh V)) (gIF z2 (gIT gu (gIF z3 (gIT gp (gIT gp (gIT gu (gIT gu (gBs p1' (gIT gp (gIT gp (gBs p2' rfl))))))))))) ?_
        refine gIT gp (gIT gp ?_)
        rw [fin _ _ (sPut_17 _ _ _) (sPut_18 _ _ _)]
