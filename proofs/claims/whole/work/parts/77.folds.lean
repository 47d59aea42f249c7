/-! foldAll and unfold -/
theorem gNxt_all {S : gTb} {g : Bool} : ∀ i, (∀ q : Nat, q < i → S 8 q ≠ 0) → gNxt S g i = -1 := by
  intro i
  induction i with
  | zero => intro _; rfl
  | succ i ih =>
    intro h
    rw [gNxt, ih (fun q hq => h q (by omega)), if_neg]
    intro e
    have e1 := e.1
    rw [decide_eq_false (h i (by omega)), Bool.false_and] at e1
    exact Bool.false_ne_true e1
theorem gNxt_pos {S : gTb} {g : Bool} {p : Nat} (h8 : S 8 p = 0) (hm : gMay S p = true) : ∀ i, p < i → gNxt S g i ≠ -1 := by
  intro i
  induction i with
  | zero => intro h; omega
  | succ i ih =>
    intro h
    rw [gNxt]
    by_cases e : p = i
    · subst e
      rw [decide_eq_true h8, hm]
      split
      · omega
      · rename_i hn
        intro e2
        exact hn ⟨rfl, Or.inl e2⟩
    · split
      · omega
      · exact ih (by omega)
theorem gNxt_ok {S : gTb} {g : Bool} : ∀ i, gNxt S g i ≠ -1 → ∃ p : Nat, gNxt S g i = p ∧ p < i ∧ S 8 p = 0 := by
  intro i
  induction i with
  | zero => intro h; exact absurd rfl h
  | succ i ih =>
    intro h
    rw [gNxt] at h ⊢
    by_cases c : (decide (S 8 i = 0) && gMay S i) = true ∧ (gNxt S g i = -1 ∨ g = true)
    · rw [if_pos c]
      have c1 := c.1
      simp only [Bool.and_eq_true, decide_eq_true_eq] at c1
      exact ⟨i, rfl, by omega, c1.1⟩
    · rw [if_neg c] at h ⊢
      obtain ⟨p, h1, h2, h3⟩ := ih h
      exact ⟨p, h1, by omega, h3⟩
/-- a lowest one that is not folded can be folded -/
theorem gNxt_iff {t n c : Nat} {S : gTb} (W : gWf t n c S) (g : Bool) : gNxt S g n = -1 ↔ gCnt (fun q => decide (S 8 q = 0)) n = 0 := by
  constructor
  · intro h
    by_cases h0 : gCnt (fun q => decide (S 8 q = 0)) n = 0
    · exact h0
    · exfalso
      have low : ∃ p, p < n ∧ S 8 p = 0 ∧ ∀ q, q < p → S 8 q ≠ 0 := by
        have key : ∀ i, gCnt (fun q => decide (S 8 q = 0)) i ≠ 0 → ∃ p, p < i ∧ S 8 p = 0 ∧ ∀ q, q < p → S 8 q ≠ 0 := by
          intro i
          induction i with
          | zero => intro e; exact absurd rfl e
          | succ i ih =>
            intro e
            by_cases e0 : gCnt (fun q => decide (S 8 q = 0)) i = 0
            · by_cases e8 : S 8 i = 0
              · refine ⟨i, by omega, e8, fun q hq e9 => gCnt_hit (P := fun q => decide (S 8 q = 0)) hq (decide_eq_true e9) e0⟩
              · rw [gCnt_F (by rw [decide_eq_false e8]; exact Bool.false_ne_true)] at e
                exact absurd e0 e
            · obtain ⟨p, h1, h2⟩ := ih e0
              exact ⟨p, by omega, h2⟩
        exact key n h0
      obtain ⟨p, h1, h2, h3⟩ := low
      refine gNxt_pos (g := g) h2 ?_ n h1 h
      refine decide_eq_true (gCnt_no fun q hq hc => ?_)
      have := of_decide_eq_true hc
      exact h3 q hq this.2
  · intro h
    refine gNxt_all n fun q hq e => ?_
    exact gCnt_hit (P := fun q => decide (S 8 q = 0)) hq (decide_eq_true e) h
theorem gFd_cnt {S : gTb} {n p : Nat} (hp : p < n) (h8 : S 8 p = 0) : gCnt (fun q => decide (gFd S p 8 q = 0)) n + 1 = gCnt (fun q => decide (S 8 q = 0)) n := by
  have h := gCnt_add (A := fun q => decide (S 8 q = 0)) (B := fun q => decide (gFd S p 8 q = 0)) (C := fun q => decide (q = p)) (n := n) (fun q hq => by
    by_cases e : q = p
    · subst e
      rw [decide_eq_true h8, decide_eq_true rfl, Bool.or_true]
    · rw [decide_eq_false e, Bool.or_false, gFd_o (by omega) (by omega)]) (fun q hq hc => by
    have h1 := of_decide_eq_true hc.1
    have h2 := of_decide_eq_true hc.2
    subst h2
    rw [gFd_8] at h1
    omega)
  rw [gCnt_one (B := fun q => decide (q = p)) hp (decide_eq_true rfl) (fun q hq hne hc => hne (of_decide_eq_true hc))] at h
  omega
/-- all folds, at most k -/
def gAll (g : Bool) (n : Nat) : Nat → gTb → Nat → gTb × Nat
  | 0, S, j => (S, j)
  | k + 1, S, j => if gNxt S g n = -1 then (S, j) else gAll g n k (gFd S (gNxt S g n).toNat) (j + 1)
theorem u_foldLoop {b t n c : Nat} (g : Bool) : ∀ (k j f : Nat) (S : gTb) (h : gHp), k + j ≤ 11 → k < f → gCnt (fun q => decide (S 8 q = 0)) n ≤ k → cSt h (b + 3) n c S → gWf (t + 1) n c S → S 0 3 ≤ 11 * t + j → ∃ h', f_X9_foldAll_33 b (gZ g) f (jI (gNxt S g n)) (jI j) (jI j) h = some (jI (gAll g n k S j).2, h') ∧ cSt h' (b + 3) n c (gAll g n k S j).1 ∧ gWf (t + 1) n c (gAll g n k S j).1 ∧ gFr (b + 3) 13 h h' := by
  intro k
  induction k with
  | zero =>
    intro j f S h hk hf hc R W h3
    obtain ⟨f', rfl⟩ : ∃ f', f = f' + 1 := ⟨f - 1, by omega⟩
    refine ⟨h, ?_, R, W, gFr.rf⟩
    have e : gNxt S g n = -1 := (gNxt_iff W g).mpr (by omega)
    rw [f_X9_foldAll_33, e, show gAll g n 0 S j = (S, j) from rfl]
    by_cases c11 : 11 ≤ j
    · exact gIT (jle (a := 11) (by omega) (by omega) (by omega) (by omega) (by omega)) rfl
    · exact gIF (jnle (a := 11) (by omega) (by omega) (by omega) (by omega) (by omega)) (gIT rfl rfl)
  | succ k ih =>
    intro j f S h hk hf hc R W h3
    obtain ⟨f', rfl⟩ : ∃ f', f = f' + 1 := ⟨f - 1, by omega⟩
    have n11 : ¬ (11 : Int32) ≤ jI j := jnle (a := 11) (by omega) (by omega) (by omega) (by omega) (by omega)
    have hn := W.n
    rw [f_X9_foldAll_33, gAll]
    by_cases e : gNxt S g n = -1
    · rw [if_pos e]
      exact ⟨h, gIF n11 (gIT (by rw [e]; rfl) rfl), R, W, gFr.rf⟩
    · rw [if_neg e]
      obtain ⟨p, e1, e2, e3⟩ := gNxt_ok n e
      rw [e1, Int.toNat_natCast]
      obtain ⟨v6, q1, R1, G1⟩ := u_foldOne R W e2
      have W1 := gFd_w W (by omega) e2
      have q2 := u_findFoldable R1 W1 g
      have ej : jI (j : Int) + 1 = jI ((j + 1 : Nat) : Int) := by rw [jl_1, jI_add]; rfl
      have hcnt := gFd_cnt e2 e3
      obtain ⟨h', q3, R2, W2, G2⟩ := ih (j + 1) f' (gFd S p) v6 (by omega) (by omega) (by omega) R1 W1 (by rw [gFd_3]; omega)
      refine ⟨h', gIF n11 (gIF (jne (b := -1) (by omega) (by omega) (by omega) (by omega) (by omega)) (gBs q1 (gBs q2 ?_))), R2, W2, G1.tr G2⟩
      rw [ej]
      exact q3
theorem m_foldLoop {m t n c : Nat} (g : Bool) : ∀ (k j f : Nat) (S : gTb) (h : gHp), k + j ≤ 11 → k < f → gCnt (fun q => decide (S 8 q = 0)) n ≤ k → mRow (h.2 (m + 1)) n c S → gWf (t + 1) n c S → S 0 3 ≤ 11 * t + j → ∃ h', f_X10_foldAll_22 m (gZ g) f (jI j) (jI (r4 (gNxt S g n))) h = some (jI (gAll g n k S j).2, h') ∧ mRow (h'.2 (m + 1)) n c (gAll g n k S j).1 ∧ h'.1 = h.1 ∧ ∀ y, y ≠ m + 1 → h'.2 y = h.2 y := by
  intro k
  induction k with
  | zero =>
    intro j f S h hk hf hc R W h3
    obtain ⟨f', rfl⟩ : ∃ f', f = f' + 1 := ⟨f - 1, by omega⟩
    refine ⟨h, ?_, R, rfl, fun _ _ => rfl⟩
    have e : gNxt S g n = -1 := (gNxt_iff W g).mpr (by omega)
    rw [f_X10_foldAll_22, e, show gAll g n 0 S j = (S, j) from rfl]
    exact gIT rfl rfl
  | succ k ih =>
    intro j f S h hk hf hc R W h3
    obtain ⟨f', rfl⟩ : ∃ f', f = f' + 1 := ⟨f - 1, by omega⟩
    have hn := W.n
    rw [f_X10_foldAll_22, gAll]
    by_cases e : gNxt S g n = -1
    · rw [if_pos e]
      exact ⟨h, gIT (by rw [e]; rfl) rfl, R, rfl, fun _ _ => rfl⟩
    · rw [if_neg e]
      obtain ⟨p, e1, e2, e3⟩ := gNxt_ok n e
      rw [e1, Int.toNat_natCast, r4_p (by omega)]
      obtain ⟨v6, q1, R1, E1, E2⟩ := m_folds R W e2
      have W1 := gFd_w W (by omega) e2
      have q2 := m_nextFold R1 W1 g
      have ej : jI (j : Int) + 1 = jI ((j + 1 : Nat) : Int) := by rw [jl_1, jI_add]; rfl
      have hcnt := gFd_cnt e2 e3
      obtain ⟨h', q3, R2, E3, E4⟩ := ih (j + 1) f' (gFd S p) v6 (by omega) (by omega) (by omega) R1 W1 (by rw [gFd_3]; omega)
      refine ⟨h', gIF (jne (b := -4) (by omega) (by omega) (by omega) (by omega) (by omega)) (gBs q1 (gBs q2 ?_)), R2, E3.trans E1, fun y hy => (E4 y hy).trans (E2 y hy)⟩
      rw [ej]
      exact q3
theorem s_foldAll (b m t : Nat) (g : Bool) : gOK b m t (f_X9_foldAll b (gZ g)) (f_X10_foldAll m (gZ g)) := by
  rintro ⟨tx, ⟨n, c, S⟩, H, X⟩ h C W
  have R : cSt h (b + 3) n c S := C.2.1
  have Wf : gWf t n c S := W.2.1
  have hn := Wf.n
  have e0 := u_findFoldable R Wf g
  have hcle := gCnt_le (fun q => decide (S 8 q = 0)) n
  by_cases e : gNxt S g n = -1
  · refine ⟨-4, h, _, gBs e0 (gIT (by rw [e]; rfl) rfl), C, W.up (by omega), gFr.rf, fun h2 M => ⟨h2, ?_, M, gFr.rf⟩⟩
    have e1 := m_open (h := h2) (m := m) M.2.1 Wf
    rw [show gCnt (fun q => decide ((tx, (n, c, S), H, X).2.1.2.2 8 q = 0)) (tx, (n, c, S), H, X).2.1.1 = 0 from (gNxt_iff Wf g).mp e] at e1
    exact gBs e1 (gIT rfl rfl)
  · obtain ⟨p, e1, e2, e3⟩ := gNxt_ok n e
    have w3 : S 0 3 ≤ 11 * t := by have := Wf.1; omega
    obtain ⟨v2, q1, H1, G1⟩ := u_record (a := b + 42) (s := b + 3) C.2.2.1 W.2.2.1 R Wf (by omega)
    obtain ⟨v3, q2, R3, W3, G2⟩ := u_foldLoop (b := b) (t := t) g 11 0 gFuel S v2 (by omega) (by unfold gFuel; omega) (by omega) (R.mv (G1.sa (by omega))) (Wf.mono (by omega)) (by omega)
    rw [show ((0 : Nat) : Int) = 0 from rfl, ← jl_0] at q2
    refine ⟨jI (gAll g n 11 S 0).2, v3, (tx, (n, c, (gAll g n 11 S 0).1), gRec H (n, c, S), X), ?_, C.act (t := t) G1 H1 G2 R3, W.act W3, (G1.mono (by omega) (by omega)).tr (G2.mono (by omega) (by omega)), fun h2 M => ?_⟩
    · rw [f_X9_foldAll]
      exact gBs e0 (gIF (by rw [e1]; exact jne (a := (p : Int)) (b := -1) (by omega) (by omega) (by omega) (by omega) (by omega)) (gBs q1 (gBs q2 rfl)))
    · have M1 : mRow (h2.2 (m + 1)) n c S := M.2.1
      have k0 := m_open M1 Wf
      have ne0 : gCnt (fun q => decide (S 8 q = 0)) n ≠ 0 := fun q => e ((gNxt_iff Wf g).mpr q)
      obtain ⟨u2, k1, H2, F2⟩ := m_record M.2.2.1 W.2.2.1 W.2.2.2.1 M1 Wf
      have M2 : mRow (u2.2 (m + 1)) n c S := by rw [(F2.1 (m + 1) (by omega) (by omega)).2]; exact M1
      have k2 := m_nextFold M2 Wf g
      obtain ⟨u3, k3, R4, E1, E2⟩ := m_foldLoop (m := m) (t := t) g 11 0 gFuel S u2 (by omega) (by unfold gFuel; omega) (by omega) M2 (Wf.mono (by omega)) (by omega)
      rw [show ((0 : Nat) : Int) = 0 from rfl, ← jl_0] at k3
      exact ⟨u3, gBs k0 (gIF (jne (b := 0) (by omega) (by omega) (by omega) (by omega) (by omega)) (gBs k1 (gBs k2 (gBs k3 rfl)))), M.act F2 H2 E1 E2 R4, mI.actF F2 E1 E2⟩
/-- on one way up -/
theorem gOn_ch {t n c : Nat} {S : gTb} (W : gWf t n c S) {z q : Nat} : ∀ (k p : Nat), p < n → n ≤ k + p → gOn S p z = true → gOn S p q = true → z ≤ q → gOn S z q = true := by
  intro k
  induction k with
  | zero => intro p h1 h2; omega
  | succ k ih =>
    intro p hp h2 hz hq hle
    by_cases e : p = z
    · subst e; exact hq
    · have l1' := gOn_lt W hp hz
      rcases W.ar hp with ⟨_, a2, a3⟩ | ⟨_, a2⟩
      · obtain ⟨u, hu⟩ : ∃ u : Nat, S 5 p = u := ⟨(S 5 p).toNat, by omega⟩
        rw [gOn_nx W hp hu, decide_eq_false e, Bool.false_or] at hz
        rw [gOn_nx W hp hu, decide_eq_false (by omega), Bool.false_or] at hq
        exact ih u (by omega) (by omega) hz hq hle
      · rw [gOn_rt W hp a2, decide_eq_false e] at hz
        exact absurd hz Bool.false_ne_true
def gUf (S : gTb) (p : Nat) : gTb := fun f q => if f = 8 ∧ gOn S p q = true then 0 else S f q
theorem gUf_f {S : gTb} {p f k : Nat} (h8 : f ≠ 8) : gUf S p f k = S f k := if_neg (by omega)
theorem gUf_w {t n c : Nat} {S : gTb} (W : gWf t n c S) (p : Nat) : gWf t n c (gUf S p) := by
  have w1 := W.1
  refine W.ch ?_ (fun f k h0 h8 => gUf_f h8) (fun q hq => ?_)
  · rw [gUf_f (by decide), gUf_f (by decide), gUf_f (by decide)]
    omega
  · unfold gUf
    split
    · exact Or.inl rfl
    · exact W.fo hq
theorem u_unfoldFrom {h : gHp} {a t n c : Nat} {S : gTb} (R : cSt h a n c S) (W : gWf t n c S) {p : Nat} (hp : p < n) : ∃ h', f_X8_unfoldFrom a (jI p) h = some (jI (gCnt (fun q => gOn S p q && decide (S 8 q = 1)) n), h') ∧ cSt h' a n c (gUf S p) ∧ gFr a 13 h h' := by
  have hn := W.n
  obtain ⟨Mk, hM, eM, hb⟩ := u_findWayUp R.1 W hp
  obtain ⟨o, eo, o0, o1, o2⟩ := gUp (fun k i (s : Int32 × gHp) => f_X8_unfoldFrom_14 a (jI Mk) k s.1 (jI i) s.2) n (fun i s => s.1 = jI (gCnt (fun q => gOn S p q && decide (S 8 q = 1)) i) ∧ gFr (a + 12) 1 h s.2 ∧ ∀ q, q < n → s.2.1 (a + 12) q = jI (if q < i ∧ gOn S p q = true then 0 else S 8 q)) (fun s => s.1 = jI (gCnt (fun q => gOn S p q && decide (S 8 q = 1)) n) ∧ gFr (a + 12) 1 h s.2 ∧ ∀ q, q < n → s.2.1 (a + 12) q = jI (if q < n ∧ gOn S p q = true then 0 else S 8 q)) (by
    rintro k ⟨v, s1⟩ ⟨rfl, G, I⟩
    refine ⟨_, ?_, rfl, G, I⟩
    try dsimp only at G ⊢
    rw [f_X8_unfoldFrom_14, G.i1 (by omega), show h.1 (a + 1) 4 = jI n from R.1.1]
    exact gIT (jle (by omega) (by omega) (by omega) (by omega) (by omega)) rfl) (by
    rintro k i ⟨v, s1⟩ hi ⟨rfl, G, I⟩
    left
    try dsimp only at G I
    have fo := W.fo hi
    have ei : jI (i : Int) + 1 = jI ((i + 1 : Nat) : Int) := by rw [jl_1, jI_add]; rfl
    have bt := bit_at hM (q := i) (by omega)
    rw [hb i, ← jl_31, ← jl_1] at bt
    have I0 := I i hi
    rw [if_neg (by omega)] at I0
    have gt : gIn (jI i) 11 := jin (by omega) (by omega) (by omega)
    have g1 : ¬ s1.1 (a + 1) 4 ≤ jI i := by
      rw [G.i1 (by omega), show h.1 (a + 1) 4 = jI n from R.1.1]
      exact jnle (by omega) (by omega) (by omega) (by omega) (by omega)
    rcases ho : gOn S p i with _ | _
    · have e := gCnt_F (P := fun q => gOn S p q && decide (S 8 q = 1)) (n := i) (by rw [ho, Bool.false_and]; exact Bool.false_ne_true)
      refine ⟨(jI (gCnt (fun q => gOn S p q && decide (S 8 q = 1)) (i + 1)), s1), ?_, rfl, G, fun q hq => ?_⟩
      · try dsimp only
        rw [f_X8_unfoldFrom_14, ei, e]
        rw [ho] at bt
        exact gIF g1 (gIF (by rw [bt]; decide) rfl)
      · rw [I q hq]
        by_cases eq : q = i
        · subst eq; rw [if_neg (by omega), if_neg (by rw [ho]; simp)]
        · by_cases e1 : q < i ∧ gOn S p q = true
          · rw [if_pos e1, if_pos ⟨by omega, e1.2⟩]
          · rw [if_neg e1, if_neg (fun w => e1 ⟨by omega, w.2⟩)]
    · rw [ho] at bt
      rcases fo with f0 | f0
      · have e := gCnt_F (P := fun q => gOn S p q && decide (S 8 q = 1)) (n := i) (by rw [decide_eq_false (by omega), Bool.and_false]; exact Bool.false_ne_true)
        refine ⟨(jI (gCnt (fun q => gOn S p q && decide (S 8 q = 1)) (i + 1)), s1), ?_, rfl, G, fun q hq => ?_⟩
        · try dsimp only
          rw [f_X8_unfoldFrom_14, ei, e, gNp (by omega)]
          exact gIF g1 (gIT (by rw [bt]; decide) (gIT gt (gIT (by rw [I0, f0]; rfl) rfl)))
        · rw [I q hq]
          by_cases eq : q = i
          · subst eq; rw [if_neg (by omega), if_pos ⟨by omega, ho⟩, f0]
          · by_cases e1 : q < i ∧ gOn S p q = true
            · rw [if_pos e1, if_pos ⟨by omega, e1.2⟩]
            · rw [if_neg e1, if_neg (fun w => e1 ⟨by omega, w.2⟩)]
      · have e := gCnt_T (P := fun q => gOn S p q && decide (S 8 q = 1)) (n := i) (by rw [ho, decide_eq_true f0]; rfl)
        have ec : jI ((gCnt (fun q => gOn S p q && decide (S 8 q = 1)) i : Nat) : Int) + 1 = jI ((gCnt (fun q => gOn S p q && decide (S 8 q = 1)) i + 1 : Nat) : Int) := by rw [jl_1, jI_add]; rfl
        refine ⟨(jI (gCnt (fun q => gOn S p q && decide (S 8 q = 1)) (i + 1)), gsI s1 (a + 12) i (vp_nar .boolean 0)), ?_, rfl, G.I (by omega) (by omega), fun q hq => ?_⟩
        · try dsimp only
          rw [f_X8_unfoldFrom_14, ei, e, ec, gNp (by omega)]
          exact gIF g1 (gIT (by rw [bt]; decide) (gIT gt (gIF (by rw [I0]; exact jne (b := 0) (by omega) (by omega) (by omega) (by omega) (by omega)) (gIT gt rfl))))
        · by_cases eq : q = i
          · subst eq
            rw [rI_e, if_pos ⟨by omega, ho⟩]
            exact nar_b (z := 0) (Or.inl rfl)
          · rw [rI_k eq, I q hq]
            by_cases e1 : q < i ∧ gOn S p q = true
            · rw [if_pos e1, if_pos ⟨by omega, e1.2⟩]
            · rw [if_neg e1, if_neg (fun w => e1 ⟨by omega, w.2⟩)]) gFuel 0 (jI 0, h) (by omega) (by unfold gFuel; omega) ⟨rfl, gFr.rf, fun q hq => by rw [if_neg (by omega)]; exact R.2.2.2.1 q hq⟩
  try dsimp only at eo
  rw [show ((0 : Nat) : Int) = 0 from rfl, ← jl_0] at eo
  have fs : ∀ f k, f ≠ 8 → gUf S p f k = S f k := fun f k h8 => gUf_f h8
  obtain ⟨r1, r2, r3, r4, r5, r6, r7⟩ := R
  refine ⟨o.2, ?_, ⟨?_, ?_, ?_, ?_, ?_, ?_, ?_⟩, o1.mono (by omega) (by omega)⟩
  · rw [f_X8_unfoldFrom]
    refine gBs eM (gBs eo ?_)
    rw [o0]
  · obtain ⟨n1, n2, n3, n4, n5⟩ := r1.mv (h' := o.2) (o1.sa (by omega))
    refine ⟨n1, ?_, ?_, ?_, ?_⟩
    · intro q hq; rw [fs 4 q (by decide)]; exact n2 q hq
    · intro q hq; rw [fs 5 q (by decide)]; exact n3 q hq
    · intro q hq; rw [fs 6 q (by decide)]; exact n4 q hq
    · intro q hq; rw [fs 3 q (by decide)]; exact n5 q hq
  · obtain ⟨n1, n2, n3, n4⟩ := r2.mv (h' := o.2) (o1.sa (by omega))
    refine ⟨n1, ?_, ?_, ?_⟩
    · intro q hq; rw [fs 9 q (by decide)]; exact n2 q hq
    · intro q hq; rw [fs 10 q (by decide)]; exact n3 q hq
    · intro q hq; rw [fs 11 q (by decide)]; exact n4 q hq
  · have := r3.mv (h' := o.2) (o1.sa (by omega))
    refine ⟨?_, ?_⟩
    · intro l hl h3
      rw [fs 3 l (by decide)] at h3
      rw [fs 1 l (by decide)]; exact this.1 l hl h3
    · intro l hl h3
      rw [fs 3 l (by decide)] at h3
      rw [fs 2 l (by decide)]; exact this.2 l hl h3
  · intro q hq
    rw [o2 q hq]
    unfold gUf
    by_cases e : gOn S p q = true
    · rw [if_pos ⟨hq, e⟩, if_pos ⟨rfl, e⟩]
    · rw [if_neg (fun w => e w.2), if_neg (fun w => e w.2)]
  · rw [o1.i1 (by omega), fs 0 1 (by decide)]; exact r5
  · rw [o1.i1 (by omega), fs 0 2 (by decide)]; exact r6
  · rw [o1.i1 (by omega), fs 0 3 (by decide)]; exact r7
/-- only what is folded differs -/
theorem mRow.fo {r r' : Nat → Int64} {n c : Nat} {S S' : gTb} (hn : n ≤ 11) (hc : c ≤ 20) (R : mRow r n c S) (E : ∀ x, (∀ p, p < n → x ≠ 26 + 5 * p + 4) → r' x = r x) (E8 : ∀ p, p < n → r' (26 + 5 * p + 4) = lI (S' 8 p)) (hS : ∀ f k, f ≠ 8 → S' f k = S f k) : mRow r' n c S' := by
  obtain ⟨⟨q0, q1, q2, q3, q4⟩, s1, s2, s3, s4⟩ := R
  refine ⟨⟨?_, ?_, ?_, ?_, ?_⟩, ?_, ?_, ?_, ?_⟩
  · rw [E 0 (fun p _ => by omega)]; exact q0
  · rw [E 1 (fun p _ => by omega), hS 0 1 (by decide)]; exact q1
  · rw [E 2 (fun p _ => by omega), hS 0 2 (by decide)]; exact q2
  · rw [E 3 (fun p _ => by omega), hS 0 3 (by decide)]; exact q3
  · rw [E 4 (fun p _ => by omega)]; exact q4
  · intro l hl; rw [E _ (fun p _ => by omega), hS 3 l (by decide)]; exact s1 l hl
  · intro l hl h3
    rw [hS 3 l (by decide)] at h3
    rw [E _ (fun p _ => by omega), E _ (fun p _ => by omega), hS 1 l (by decide), hS 2 l (by decide)]
    exact s2 l hl h3
  · intro q hq
    have s := s3 q hq
    rw [E _ (fun p _ => by omega), E _ (fun p _ => by omega), E _ (fun p _ => by omega), E _ (fun p _ => by omega), hS 4 q (by decide), hS 5 q (by decide), hS 6 q (by decide), hS 7 q (by decide)]
    exact ⟨s.1, s.2.1, s.2.2.1, s.2.2.2.1, E8 q hq⟩
  · intro k hk
    rw [E _ (fun p _ => by omega), E _ (fun p _ => by omega), E _ (fun p _ => by omega), hS 9 k (by decide), hS 10 k (by decide), hS 11 k (by decide)]
    exact s4 k hk
theorem m_unfoldLoop {h0 : gHp} {m t n c : Nat} {S : gTb} (R : mRow (h0.2 (m + 1)) n c S) (W : gWf t n c S) {p : Nat} (hp : p < n) : ∀ (k z : Nat) (h : gHp), z < n → n < k + z → gOn S p z = true → h.1 = h0.1 → (∀ y, y ≠ m + 1 → h.2 y = h0.2 y) → (∀ x, (∀ q, q < n → x ≠ 26 + 5 * q + 4) → h.2 (m + 1) x = h0.2 (m + 1) x) → (∀ q, q < n → h.2 (m + 1) (26 + 5 * q + 4) = lI (if q < z ∧ gOn S p q = true then 0 else S 8 q)) → ∃ h', f_X10_unfold_41 m k (jI (gCnt (fun q => gOn S p q && decide (S 8 q = 1)) z)) (jI z) h = some (jI (gCnt (fun q => gOn S p q && decide (S 8 q = 1)) n), h') ∧ mRow (h'.2 (m + 1)) n c (gUf S p) ∧ h'.1 = h0.1 ∧ ∀ y, y ≠ m + 1 → h'.2 y = h0.2 y := by
  intro k
  induction k with
  | zero => intro z h h1 h2; omega
  | succ k ih =>
    intro z h hz hk hon E1 E2 E3 E4
    have hn := W.n
    have hc := W.c
    have fo := W.fo hz
    have ez := E4 z hz
    rw [if_neg (by omega)] at ez
    have nz : ¬ jI (z : Int) = -4 := jne (b := -4) (by omega) (by omega) (by omega) (by omega) (by omega)
    -- the place of z
    have ex : (26 : Int32) + 5 * jI z + 4 = jI ((26 + 5 * z + 4 : Nat) : Int) := by
      rw [jl_26, jl_5, jl_4, jI_mul, jI_add, jI_add]
      congr 1
    have ef : f_X10_isFolded m (jI z) h = some (decide (S 8 z = 1)) := by
      have e := m_ofPart0 h m (p := z) (w := 4) (by omega) (by omega)
      rw [ez, lI_to32 (by omega) (by omega)] at e
      have e' : f_X10_ofPart m (jI z) 4 h = some (jI (S 8 z)) := e
      rw [f_X10_isFolded]
      refine gBs e' ?_
      by_cases c1 : S 8 z = 1
      · rw [decide_eq_true c1]; exact gIT (by rw [c1]; rfl) rfl
      · rw [decide_eq_false c1]; exact gIF (jne (b := 1) (by omega) (by omega) (by omega) (by omega) c1) rfl
    have ea : f_X10_ofPart m (jI z) 1 (gsL h (m + 1) (26 + 5 * z + 4) 0) = some (jI (r4 (S 5 z))) := by
      have b := W.ar hz
      have e := m_ofPart0 (gsL h (m + 1) (26 + 5 * z + 4) 0) m (p := z) (w := 1) (by omega) (by omega)
      rw [rL_k (by omega), E3 _ (fun q hq => by omega), (R.2.2.2.1 z hz).2.1, lI_to32 (by unfold r4; split <;> omega) (by unfold r4; split <;> omega)] at e
      exact e
    have gz : gIn (jI ((26 + 5 * z + 4 : Nat) : Int)) 141 := jin (by omega) (by omega) (by omega)
    -- after z
    have cz : jI ((gCnt (fun q => gOn S p q && decide (S 8 q = 1)) z : Nat) : Int) + (if decide (S 8 z = 1) = true then 1 else 0) = jI ((gCnt (fun q => gOn S p q && decide (S 8 q = 1)) (z + 1) : Nat) : Int) := by
      by_cases c1 : S 8 z = 1
      · rw [gCnt_T (by rw [hon, decide_eq_true c1]; rfl), if_pos (decide_eq_true c1), jl_1, jI_add]; rfl
      · rw [gCnt_F (by rw [decide_eq_false c1, Bool.and_false]; exact Bool.false_ne_true), if_neg (by rw [decide_eq_false c1]; exact Bool.false_ne_true), jl_0, jI_add, Int.add_zero]
    have stepH : ∀ r : Option (Int32 × gHp), f_X10_unfold_41 m k (jI (gCnt (fun q => gOn S p q && decide (S 8 q = 1)) (z + 1))) (jI (r4 (S 5 z))) (gsL h (m + 1) (26 + 5 * z + 4) 0) = r → f_X10_unfold_41 m (k + 1) (jI (gCnt (fun q => gOn S p q && decide (S 8 q = 1)) z)) (jI z) h = r := fun r hr => by
      rw [f_X10_unfold_41, ex, gNp (by omega)]
      refine gIF nz (gBs ef (gBs (v := if decide (S 8 z = 1) = true then 1 else 0) ?_ (gIT gz (gBs ea ?_))))
      · by_cases c1 : decide (S 8 z = 1) = true
        · rw [if_pos c1, if_pos c1]
        · rw [if_neg c1, if_neg c1]
      · rw [cz]; exact hr
    have F1 : ∀ y, y ≠ m + 1 → (gsL h (m + 1) (26 + 5 * z + 4) 0).2 y = h0.2 y := fun y hy => (rL_n hy).trans (E2 y hy)
    have F3 : ∀ x, (∀ q, q < n → x ≠ 26 + 5 * q + 4) → (gsL h (m + 1) (26 + 5 * z + 4) 0).2 (m + 1) x = h0.2 (m + 1) x := fun x hx => (rL_k (hx z hz)).trans (E3 x hx)
    have F4 : ∀ q, q < n → (gsL h (m + 1) (26 + 5 * z + 4) 0).2 (m + 1) (26 + 5 * q + 4) = lI (if q < z + 1 ∧ gOn S p q = true then 0 else S 8 q) := fun q hq => by
      by_cases e : q = z
      · subst e
        rw [rL_e, if_pos ⟨by omega, hon⟩]; rfl
      · rw [rL_k (by omega), E4 q hq]
        by_cases e1 : q < z ∧ gOn S p q = true
        · rw [if_pos e1, if_pos ⟨by omega, e1.2⟩]
        · rw [if_neg e1, if_neg (fun w => e1 ⟨by omega, w.2⟩)]
    rcases W.ar hz with ⟨a1, a2, a3⟩ | ⟨a1, a2⟩
    · obtain ⟨u, hu⟩ : ∃ u : Nat, S 5 z = u := ⟨(S 5 z).toNat, by omega⟩
      have hun : u < n := by omega
      -- nothing on the way between z and u
      have gap : ∀ q, z < q → q < u → gOn S p q = false := fun q h1 h2 => by
        rcases hg : gOn S p q with _ | _
        · rfl
        · have h3 := gOn_ch W n p hp (by omega) hon hg (by omega)
          rw [gOn_nx W hz hu, decide_eq_false (by omega), Bool.false_or] at h3
          have := gOn_lt W hun h3
          omega
      have cnt : ∀ i, z + 1 ≤ i → i ≤ u → gCnt (fun q => gOn S p q && decide (S 8 q = 1)) i = gCnt (fun q => gOn S p q && decide (S 8 q = 1)) (z + 1) := by
        intro i
        induction i with
        | zero => intro h1; omega
        | succ i ih2 =>
          intro h1 h2
          by_cases e : i = z
          · rw [e]
          · rw [gCnt_F (by rw [gap i (by omega) (by omega), Bool.false_and]; exact Bool.false_ne_true), ih2 (by omega) (by omega)]
      have onu : gOn S p u = true := gOn_up W hu n p hp (by omega) hon
      obtain ⟨h', q1, q2, q3, q4⟩ := ih u (gsL h (m + 1) (26 + 5 * z + 4) 0) hun (by omega) onu E1 F1 F3 (fun q hq => by
        rw [F4 q hq]
        by_cases e1 : q < z + 1 ∧ gOn S p q = true
        · rw [if_pos e1, if_pos ⟨by omega, e1.2⟩]
        · rw [if_neg e1, if_neg]
          intro w
          by_cases e2 : q < z + 1
          · exact e1 ⟨e2, w.2⟩
          · rw [gap q (by omega) w.1] at w
            exact Bool.false_ne_true w.2)
      refine ⟨h', stepH _ ?_, q2, q3, q4⟩
      rw [hu, r4_p (by omega), ← cnt u (by omega) (Nat.le_refl _)]
      exact q1
    · have ez1 : z + 1 = n := by omega
      refine ⟨gsL h (m + 1) (26 + 5 * z + 4) 0, stepH _ ?_, ?_, E1, F1⟩
      · obtain ⟨k', rfl⟩ : ∃ k', k = k' + 1 := ⟨k - 1, by omega⟩
        rw [a2, r4_m, f_X10_unfold_41, ez1]
        exact gIT rfl rfl
      · refine mRow.fo hn hc R F3 (fun q hq => ?_) (fun f k hf => gUf_f hf)
        rw [F4 q hq]
        unfold gUf
        by_cases e : gOn S p q = true
        · rw [if_pos ⟨by omega, e⟩, if_pos ⟨rfl, e⟩]
        · rw [if_neg (fun w => e w.2), if_neg (fun w => e w.2)]
theorem s_unfold (b m t : Nat) (x1 : Int32) : gOK b m t (f_X9_unfold b x1) (f_X10_unfold m x1) := by
  rintro ⟨tx, ⟨n, c, S⟩, H, X⟩ h C W
  have R : cSt h (b + 3) n c S := C.2.1
  have Wf : gWf t n c S := W.2.1
  have hn := Wf.n
  obtain ⟨z1, rfl, a1, a2⟩ := jI_ex x1
  have eh := u_hasPart R.1 hn a1 a2
  by_cases hz : 0 ≤ z1 ∧ z1 < n
  · rw [decide_eq_true hz] at eh
    obtain ⟨p, rfl⟩ : ∃ p : Nat, z1 = p := ⟨z1.toNat, by omega⟩
    have hp : p < n := by omega
    have fo := Wf.fo hp
    have kd := Wf.kd hp
    have gp : gIn (jI p) 11 := jin (by omega) (by omega) (by omega)
    have R4 : h.1 (b + 3 + 1 + 1) p = jI (S 4 p) := R.1.2.1 p hp
    have R8 : h.1 (b + 3 + 12) p = jI (S 8 p) := R.2.2.2.1 p hp
    by_cases c4 : S 4 p = 0
    · refine ⟨-3, h, _, ?_, C, W.up (by omega), gFr.rf, fun h2 M => ⟨h2, ?_, M, gFr.rf⟩⟩
      · rw [f_X9_unfold, gNp (by omega)]
        exact gBs eh (gIT rfl (gIT gp (gIT (by rw [R4, c4]; rfl) rfl)))
      · have M1 : mRow (h2.2 (m + 1)) n c S := M.2.1
        have e1 := m_noPartT M1 hn hp
        have e2 := m_kind M1 Wf hp
        exact gBs e1 (gIF Bool.false_ne_true (gBs e2 (gIT (by rw [c4]; rfl) rfl)))
    · have n4 : ¬ jI (S 4 p) = 0 := jne (b := 0) (by omega) (by omega) (by omega) (by omega) c4
      by_cases c8 : S 8 p = 0
      · refine ⟨-4, h, _, ?_, C, W.up (by omega), gFr.rf, fun h2 M => ⟨h2, ?_, M, gFr.rf⟩⟩
        · rw [f_X9_unfold, gNp (by omega), R4, R8]
          exact gBs eh (gIT rfl (gIT gp (gIF n4 (gIT gp (gIT (by rw [c8]; rfl) rfl)))))
        · have M1 : mRow (h2.2 (m + 1)) n c S := M.2.1
          have e1 := m_noPartT M1 hn hp
          have e2 := m_kind M1 Wf hp
          have e3 := m_isFolded M1 Wf hp
          rw [decide_eq_false (by omega)] at e3
          exact gBs e1 (gIF Bool.false_ne_true (gBs e2 (gIF n4 (gBs e3 (gIF Bool.false_ne_true rfl)))))
      · have n8 : ¬ jI (S 8 p) = 0 := jne (b := 0) (by omega) (by omega) (by omega) (by omega) c8
        obtain ⟨v2, q1, H1, G1⟩ := u_record (a := b + 42) (s := b + 3) C.2.2.1 W.2.2.1 R Wf (by omega)
        obtain ⟨v3, q2, R3, G2⟩ := u_unfoldFrom (R.mv (G1.sa (by omega))) Wf hp
        have Wf2 := gUf_w (Wf.mono (t' := t + 1) (by omega)) p
        refine ⟨jI (gCnt (fun q => gOn S p q && decide (S 8 q = 1)) n), v3, (tx, (n, c, gUf S p), gRec H (n, c, S), X), ?_, C.act (t := t) G1 H1 G2 R3, W.act Wf2, (G1.mono (by omega) (by omega)).tr (G2.mono (by omega) (by omega)), fun h2 M => ?_⟩
        · rw [f_X9_unfold, gNp (by omega), R4, R8]
          exact gBs eh (gIT rfl (gIT gp (gIF n4 (gIT gp (gIF n8 (gBs q1 (gBs q2 rfl)))))))
        · have M1 : mRow (h2.2 (m + 1)) n c S := M.2.1
          have e1 := m_noPartT M1 hn hp
          have e2 := m_kind M1 Wf hp
          have e3 := m_isFolded M1 Wf hp
          rw [decide_eq_true (by omega)] at e3
          obtain ⟨u2, k1, H2, F2⟩ := m_record M.2.2.1 W.2.2.1 W.2.2.2.1 M1 Wf
          have M2 : mRow (u2.2 (m + 1)) n c S := by rw [(F2.1 (m + 1) (by omega) (by omega)).2]; exact M1
          have low : ∀ q, q < p → gOn S p q = false := fun q hq => by
            rcases hg : gOn S p q with _ | _
            · rfl
            · have := gOn_lt Wf hp hg
              omega
          obtain ⟨u3, k2, R5, E1, E2⟩ := m_unfoldLoop M2 Wf hp gFuel p u2 hp (by unfold gFuel; omega) (gOn_self Wf hp) rfl (fun _ _ => rfl) (fun _ _ => rfl) (fun q hq => by
            rw [(M2.2.2.2.1 q hq).2.2.2.2, if_neg]
            intro w
            rw [low q w.1] at w
            exact Bool.false_ne_true w.2)
          have c0 : gCnt (fun q => gOn S p q && decide (S 8 q = 1)) p = 0 := gCnt_no fun q hq hc => by
            rw [low q hq, Bool.false_and] at hc
            exact Bool.false_ne_true hc
          rw [c0, show jI ((0 : Nat) : Int) = 0 from rfl] at k2
          exact ⟨u3, gBs e1 (gIF Bool.false_ne_true (gBs e2 (gIF n4 (gBs e3 (gIT rfl (gBs k1 (gBs k2 rfl))))))), M.act F2 H2 E1 E2 R5, mI.actF F2 E1 E2⟩
  · rw [decide_eq_false hz] at eh
    refine ⟨-1, h, _, gBs eh (gIF Bool.false_ne_true rfl), C, W.up (by omega), gFr.rf, fun h2 M => ⟨h2, ?_, M, gFr.rf⟩⟩
    have e2 := m_noPart (h := h2) (m := m) M.2.1 hn a1 a2
    rw [decide_eq_false hz] at e2
    exact gBs e2 (gIT rfl rfl)
