/-! the class goes down the way -/
/-- what the walk answers -/
def gRs (G : Int × gQ) : Int := if G.1 = 1 ∧ G.2.2 = 0 then 0 else G.1
def sFr (a d : Nat) (h h' : gHp) : Prop := (∀ y, (y < a + 3 ∨ a + 5 ≤ y) → y ≠ d → h'.1 y = h.1 y ∧ h'.2 y = h.2 y) ∧ h'.1 d = h.1 d
theorem sFr.rf {a d : Nat} {h : gHp} : sFr a d h h := ⟨fun _ _ _ => ⟨rfl, rfl⟩, rfl⟩
theorem sFr.tr {a d : Nat} {h h1 h2 : gHp} (p : sFr a d h h1) (q : sFr a d h1 h2) : sFr a d h h2 := ⟨fun y y1 y2 => ⟨(q.1 y y1 y2).1.trans (p.1 y y1 y2).1, (q.1 y y1 y2).2.trans (p.1 y y1 y2).2⟩, q.2.trans p.2⟩
theorem u_s110 {a s t n c : Nat} {S : gTb} (W : gWf t n c S) (hd : s + 13 ≤ a) {d : Nat} (hb : a + 28 ≤ d) {p : Nat} (hp : p < n) {Mk : Nat} (hMk : Mk < 2048) (hbit : ∀ q : Nat, Mk.testBit q = gOn S p q) : ∀ (k : Nat) (f v : Nat) (w : gQ) (M : Nat) (h : gHp), k < f → cNet h (s + 1) n S → (∀ q, q < n → hQ h (a + 6 + 2 * q) (rR S (-1) n q)) → hQ h d w → nG w → 0 < w.2 → w.1 ≤ 9999 * M → w.2 ≤ 9999 * M → M * rW S 100 1000 (-1) n v ≤ 1000000000000 → gOn S p v = true → p + k ≤ v → (∀ j, p + k ≤ j → j < v → gOn S p j = false) → gAb S n p k = false → ∃ (r : Int) (h' : gHp), f_X0_solveFor_110 a (jI p) d (s + 1) (jI Mk) f (jI (((p + k : Nat) : Int) - 1)) h = some (jI r, h') ∧ sFr a d h h' ∧ r = gRs (gWk S n p k w) ∧ (r = 1 → hQ h' d (gWk S n p k w).2) := by
  intro k
  have hn := W.n
  induction k with
  | zero =>
    intro f v w M h hf R T Q gw w2 b1 b2 hM hv hk hno ha
    obtain ⟨f', rfl⟩ : ∃ f', f = f' + 1 := ⟨f - 1, by omega⟩
    refine ⟨1, h, ?_, sFr.rf, ?_, fun _ => Q⟩
    · rw [f_X0_solveFor_110]
      exact gIT (jlt (by omega) (by omega) (by omega) (by omega) (by omega)) rfl
    · unfold gRs gWk
      rw [if_neg (fun x => by have y : w.2 = 0 := x.2; omega)]
  | succ k ih =>
    intro f v w M h hf R T Q gw w2 b1 b2 hM hv hk hno ha
    obtain ⟨f', rfl⟩ : ∃ f', f = f' + 1 := ⟨f - 1, by omega⟩
    have vn := gOn_lt W hp hv
    have ex : ((p + (k + 1) : Nat) : Int) - 1 = ((p + k : Nat) : Int) := by omega
    have en : jI ((p + k : Nat) : Int) + -1 = jI (((p + k : Nat) : Int) - 1) := by
      rw [show (-1 : Int32) = jI (-1) from rfl, jI_add, Int.sub_eq_add_neg]
    have bt := bit_at hMk (q := p + k) (by omega)
    rw [hbit (p + k), ← jl_31, ← jl_1] at bt
    have n1 : ¬ jI ((p + k : Nat) : Int) < jI p := jnlt (by omega) (by omega) (by omega) (by omega) (by omega)
    rw [gAb] at ha
    obtain ⟨a1, a2⟩ := (Bool.or_eq_false_iff).mp ha
    rw [ex, gWk]
    rcases on : gOn S p (p + k) with _ | _
    · rw [if_neg Bool.false_ne_true]
      rw [on] at bt
      obtain ⟨r, h', q1, q2, q3, q4⟩ := ih f' v w M h (by omega) R T Q gw w2 b1 b2 hM hv (by omega) (fun j h1 h2 => by
        by_cases e : j = p + k
        · rw [e]; exact on
        · exact hno j (by omega) h2) a2
      refine ⟨r, h', ?_, q2, q3, q4⟩
      rw [f_X0_solveFor_110, en]
      exact gIF n1 (gIF (by rw [bt]; decide) q1)
    · rw [if_pos rfl]
      rw [on] at bt
      rw [on, Bool.true_and] at a1
      have z := of_decide_eq_false a1
      have h5 := way_par W hp hv on (by omega) (fun i h1 h2 => hno i (by omega) h2)
      have h4 := W.so vn.2 (gOn_lt W hp on).2 h5
      rw [h5, Int.toNat_natCast] at z ⊢
      rw [if_neg z]
      obtain ⟨ok, h1, e1, t1, t2, fr, fd⟩ := u_takeOff R W hd vn.2 (j := p + k) (by omega) h5 h4 T hb Q gw w2 b1 b2 hM z
      have F1 : sFr a d h h1 := ⟨fr, fd⟩
      have z0 := Nat.pos_of_ne_zero z
      cases ok with
      | true =>
        obtain ⟨u, d1, d2, d3⟩ := t1 rfl
        have mm := st_m W vn.2 (j := p + k) (by omega) h5 h4 hM
        have sl := sO_le W (j := p + k) vn.2
        obtain ⟨sb1, sb2, sb3, sb4⟩ := st_b b1 b2 sl
        have bb : (gVw S v u).1 ≤ 9999 * (M * gPro (rW S 100 1000 (-1) n) (gBut (gSon S v) (p + k)) v) ∧ (gVw S v u).2 ≤ 9999 * (M * gPro (rW S 100 1000 (-1) n) (gBut (gSon S v) (p + k)) v) := by
          by_cases c2 : S 4 v = 2
          · rw [gVw_2 c2] at d1 d2 ⊢
            by_cases w1 : w.1 = 0
            · have ds : dS (iInv w) (sO S n v (p + k)) = some (1, 0) := if_pos w1
              rw [ds] at d1
              rw [← Option.some.inj d1]
              have p1 : 1 ≤ gPro (rW S 100 1000 (-1) n) (gBut (gSon S v) (p + k)) v := gPro_one fun q hq _ => rW_pos (by omega) (by omega) n q (by omega) (by omega)
              have m1 : 1 ≤ M := by omega
              have := Nat.mul_pos m1 p1
              exact ⟨Nat.zero_le _, by show 1 ≤ _; omega⟩
            · have dp := dS_pos (q := iInv w) (Nat.pos_of_ne_zero w1) z0 d1
              have l1 : u.1 ≤ w.2 * (sO S n v (p + k)).2 := dp.2.1
              have l2 : u.2 ≤ w.1 * (sO S n v (p + k)).2 := dp.2.2
              exact ⟨by show u.2 ≤ _; omega, by show u.1 ≤ _; omega⟩
          · rw [gVw_1 c2] at d1 d2 ⊢
            have dp := dS_pos w2 z0 d1
            exact ⟨by omega, by omega⟩
        obtain ⟨r, h', q1, q2, q3, q4⟩ := ih f' (p + k) (gVw S v u) (M * gPro (rW S 100 1000 (-1) n) (gBut (gSon S v) (p + k)) v) h1 (by omega) (R.mv (fun y y1 y2 => fr y (by omega) (by omega))) (fun q hq => (T q hq).mv (fr _ (by omega) (by omega)).2) d3 (gVw_G (dS_G z0 d1)) d2 bb.1 bb.2 mm.1 on (by omega) (fun j x1 x2 => absurd x2 (by omega)) a2
        refine ⟨r, h', ?_, F1.tr q2, ?_, ?_⟩
        · rw [f_X0_solveFor_110, en]
          exact gIF n1 (gIT (by rw [bt]; decide) (gBs e1 (gIT rfl q1)))
        · rw [d1]; exact q3
        · rw [d1]; exact q4
      | false =>
        refine ⟨0, h1, ?_, F1, ?_, fun x => absurd x (by decide)⟩
        · rw [f_X0_solveFor_110, en]
          exact gIF n1 (gIT (by rw [bt]; decide) (gBs e1 (gIF Bool.false_ne_true rfl)))
        · rcases t2 rfl with d1 | ⟨u, d1, d2⟩
          · rw [d1]; rfl
          · rw [d1]
            show 0 = gRs (gWk S n p k (gVw S v u))
            rw [d2]
            rcases gWk_inf k a2 with e | e
            · unfold gRs
              rw [e]; rfl
            · rw [e]; rfl
theorem u_s35 {a s t n c : Nat} {S : gTb} (W : gWf t n c S) (hd : s + 13 ≤ a) {d : Nat} (hb : a + 28 ≤ d) {p : Nat} (hp : p < n) {Mk : Nat} (hMk : Mk < 2048) (hbit : ∀ q : Nat, Mk.testBit q = gOn S p q) {w : gQ} (w1 : w.1 < 9223372036854775808) (w2 : w.2 < 9223372036854775808) : ∀ (k : Nat) (f : Nat) (h : gHp), k < f → p + k < n → cNet h (s + 1) n S → (∀ q, q < n → hQ h (a + 6 + 2 * q) (rR S (-1) n q)) → hQ h d w → ∃ h', sFr a d h h' ∧ hQ h' d w ∧ (gAb S n p k = true → f_X0_solveFor_35 a (jI p) d (s + 1) (jI Mk) (jI ((n - 1 : Nat) : Int)) f (jI (((p + k : Nat) : Int) - 1)) h = some (jI (if w = rR S (-1) n (n - 1) then 2 else 0), h')) ∧ (gAb S n p k = false → f_X0_solveFor_35 a (jI p) d (s + 1) (jI Mk) (jI ((n - 1 : Nat) : Int)) f (jI (((p + k : Nat) : Int) - 1)) h = f_X0_solveFor_110 a (jI p) d (s + 1) (jI Mk) gFuel (jI ((n - 1 : Nat) : Int) - 1) h') := by
  intro k
  have hn := W.n
  induction k with
  | zero =>
    intro f h hf hk R T Q
    obtain ⟨f', rfl⟩ : ∃ f', f = f' + 1 := ⟨f - 1, by omega⟩
    refine ⟨h, sFr.rf, Q, fun x => absurd x Bool.false_ne_true, fun _ => ?_⟩
    rw [f_X0_solveFor_35]
    exact gIT (jlt (by omega) (by omega) (by omega) (by omega) (by omega)) rfl
  | succ k ih =>
    intro f h hf hk R T Q
    obtain ⟨f', rfl⟩ : ∃ f', f = f' + 1 := ⟨f - 1, by omega⟩
    have ex : ((p + (k + 1) : Nat) : Int) - 1 = ((p + k : Nat) : Int) := by omega
    have en : jI ((p + k : Nat) : Int) + -1 = jI (((p + k : Nat) : Int) - 1) := by
      rw [show (-1 : Int32) = jI (-1) from rfl, jI_add, Int.sub_eq_add_neg]
    have bt := bit_at hMk (q := p + k) (by omega)
    rw [hbit (p + k), ← jl_31, ← jl_1] at bt
    have n1 : ¬ jI ((p + k : Nat) : Int) < jI p := jnlt (by omega) (by omega) (by omega) (by omega) (by omega)
    rw [ex, gAb, f_X0_solveFor_35, en]
    rcases on : gOn S p (p + k) with _ | _
    · rw [on] at bt
      rw [Bool.false_and, Bool.false_or]
      obtain ⟨h', q1, q2, q3, q4⟩ := ih f' h (by omega) (by omega) R T Q
      exact ⟨h', q1, q2, fun x => gIF n1 (gIF (by rw [bt]; decide) (q3 x)), fun x => gIF n1 (gIF (by rw [bt]; decide) (q4 x))⟩
    · rw [on] at bt
      rw [Bool.true_and]
      rcases W.ar (show p + k < n by omega) with ⟨x1, x2, x3⟩ | ⟨x1, x2⟩
      · obtain ⟨v, h5⟩ : ∃ v : Nat, S 5 (p + k) = v := ⟨(S 5 (p + k)).toNat, by omega⟩
        have h4 := W.so (p := v) (q := p + k) (by omega) (by omega) h5
        have r5 : h.1 (s + 1 + 2) (p + k) = jI v := by rw [← h5]; exact R.2.2.1 (p + k) (by omega)
        obtain ⟨h1, e1, Q1, G1⟩ := u_beside R W hd (v := v) (j := p + k) (by omega) (by omega) h4 T
        have F1 : sFr a d h h1 := ⟨fun y y1 y2 => G1 y (by omega), (G1 d (by omega)).1⟩
        have g11 : gIn (jI ((p + k : Nat) : Int)) 11 := jin (by omega) (by omega) (by omega)
        have gr11 : gIn (jI ((n - 1 : Nat) : Int)) 11 := jin (by omega) (by omega) (by omega)
        have sl := sO_le W (v := v) (j := p + k) (by omega)
        have sw := rW_12 W (p := v) (by omega)
        have sle : (sO S n v (p + k)).2 < 9223372036854775808 := by
          have := rW_up (S := S) (b := 100) (y := 1000) (x := -1) (n := n) (u := v) (p := p + k) (by omega) (by omega) h5 h4 (by omega)
          have r1 : 1 ≤ rW S 100 1000 (-1) n (p + k) := rW_pos (by omega) (by omega) n (p + k) (by omega) (by omega)
          have := Nat.le_mul_of_pos_right (gPro (rW S 100 1000 (-1) n) (gBut (gSon S v) (p + k)) v) r1
          omega
        have ei := k_isInf Q1 sle
        have Q' : hQ h1 d w := Q.fr G1 (by omega)
        have T' : ∀ q, q < n → hQ h1 (a + 6 + 2 * q) (rR S (-1) n q) := fun q hq => (T q hq).fr G1 (by omega)
        have r9 := rR_9 W (x := -1) (p := n - 1) (by omega)
        have es := k_isSame Q' (T' (n - 1) (by omega)) w1 w2 (by omega) (by omega)
        rw [h5, Int.toNat_natCast, gNp (by omega), gNp (by omega), r5]
        by_cases z : (sO S n v (p + k)).2 = 0
        · rw [decide_eq_true z] at ei ⊢
          rw [Bool.true_or]
          refine ⟨h1, F1, Q', fun _ => ?_, fun x => absurd x.symm Bool.false_ne_true⟩
          refine gIF n1 (gIT (by rw [bt]; decide) (gIT g11 (gBs e1 (gBs ei (gIT rfl (gIT gr11 (gBs es ?_)))))))
          by_cases e : w = rR S (-1) n (n - 1)
          · rw [if_pos e]
            exact gIT (decide_eq_true e) rfl
          · rw [if_neg e]
            exact gIF (fun x => e (of_decide_eq_true x)) rfl
        · rw [decide_eq_false z] at ei ⊢
          rw [Bool.false_or]
          obtain ⟨h', q1, q2, q3, q4⟩ := ih f' h1 (by omega) (by omega) (R.mv (G1.sa (by omega))) T' Q'
          exact ⟨h', F1.tr q1, q2, fun x => gIF n1 (gIT (by rw [bt]; decide) (gIT g11 (gBs e1 (gBs ei (gIF Bool.false_ne_true (q3 x)))))), fun x => gIF n1 (gIT (by rw [bt]; decide) (gIT g11 (gBs e1 (gBs ei (gIF Bool.false_ne_true (q4 x))))))⟩
      · omega
theorem u_solveFor {h : gHp} {a s t n c : Nat} {S : gTb} (R : cSt h s n c S) (W : gWf t n c S) (hd : s + 13 ≤ a) {d : Nat} (hb : a + 28 ≤ d) {p : Nat} (hp : p < n) {w : gQ} (Q : hQ h d w) (gw : nG w) (w2 : 0 < w.2) (b1 : w.1 ≤ 9999) (b2 : w.2 ≤ 99) : ∃ (r : Int) (h' : gHp), f_X0_solveFor a s (jI p) d h = some (jI r, h') ∧ r = gRs (gWk S n p (n - 1 - p) w) ∧ (r = 1 → hQ h' d (gWk S n p (n - 1 - p) w).2) ∧ (∀ y, (y < a + 3 ∨ a + 28 ≤ y) → y ≠ d → h'.1 y = h.1 y ∧ h'.2 y = h.2 y) ∧ h'.1 d = h.1 d := by
  have hn := W.n
  obtain ⟨h1, e1, T1, G1, _⟩ := u_findOhms R W hd (x := -1) (by omega)
  have R1 : cNet h1 (s + 1) n S := R.1.mv (G1.sa (by omega))
  have Q1 : hQ h1 d w := Q.fr G1 (by omega)
  obtain ⟨Mk, hMk, eM, hbit⟩ := u_findWayUp R1 W hp
  have on := gOn_root W n p hp (by omega)
  obtain ⟨h2, F2, Q2, t1, t2⟩ := u_s35 W hd hb hp hMk hbit (w := w) (by omega) (by omega) (n - 1 - p) gFuel h1 (by unfold gFuel; omega) (by omega) R1 T1 Q1
  have eN : h1.1 (s + 1) 4 - 1 = jI ((n - 1 : Nat) : Int) := by
    rw [show h1.1 (s + 1) 4 = jI n from R1.1, jl_1, jI_sub]
    congr 1
    omega
  have eN2 : jI ((n - 1 : Nat) : Int) - 1 = jI (((p + (n - 1 - p) : Nat) : Int) - 1) := by
    rw [jl_1, jI_sub]
    congr 1
    omega
  have F12 : ∀ h3, sFr a d h2 h3 → (∀ y, (y < a + 3 ∨ a + 28 ≤ y) → y ≠ d → h3.1 y = h.1 y ∧ h3.2 y = h.2 y) ∧ h3.1 d = h.1 d := fun h3 F3 => ⟨fun y y1 y2 => by
    have q := (F2.tr F3).1 y (by omega) y2
    have g := G1 y (by omega)
    exact ⟨q.1.trans g.1, q.2.trans g.2⟩, (F2.tr F3).2.trans (G1 d (by omega)).1⟩
  cases ha : gAb S n p (n - 1 - p) with
  | true =>
    have e35 := t1 ha
    have ab := gWk_ab W hp (n - 1 - p) (n - 1) w gw on (by omega) (fun j x1 x2 => absurd x2 (by omega)) ha
    refine ⟨if w = rR S (-1) n (n - 1) then 2 else 0, h2, ?_, ?_, fun x => ?_, F12 h2 sFr.rf⟩
    · rw [f_X0_solveFor]
      refine gBs e1 (gBs eM ?_)
      rw [eN, eN2]
      exact e35
    · unfold gRs
      rw [ab]
      split <;> rfl
    · split at x
      · exact absurd x (by decide)
      · exact absurd x (by decide)
  | false =>
    have e35 := t2 ha
    obtain ⟨r, h3, q1, q2, q3, q4⟩ := u_s110 W hd hb hp hMk hbit (n - 1 - p) gFuel (n - 1) w 1 h2 (by unfold gFuel; omega) (R1.mv (fun y y1 y2 => F2.1 y (by omega) (by omega))) (fun q hq => (T1 q hq).mv (F2.1 _ (by omega) (by omega)).2) Q2 gw w2 (by omega) (by omega) (by rw [Nat.one_mul]; exact rW_12 W (by omega)) on (by omega) (fun j x1 x2 => absurd x2 (by omega)) ha
    refine ⟨r, h3, ?_, q3, q4, F12 h3 q2⟩
    rw [f_X0_solveFor]
    refine gBs e1 (gBs eM ?_)
    rw [eN, eN2, e35, eN2]
    exact q1
