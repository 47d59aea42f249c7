/-! the class builds a network -/
theorem u_addPart {h : gHp} {w n : Nat} {S : gTb} (R : cNet h w n S) (hn : n < 11) (k : Int) : ∃ h', f_X5_addPart w (jI k) h = some (jI ((2 ^ n : Nat) : Int), h') ∧ cNet h' w (n + 1) (gPut S n k (-1) []) ∧ gFr w 5 h h' := by
  obtain ⟨R1, R2, R3, R4, R5⟩ := R
  have e1 : jI (n : Int) + 1 = jI ((n + 1 : Nat) : Int) := by rw [jl_1, jI_add]; rfl
  have e2 : jI ((n + 1 : Nat) : Int) - 1 = jI n := by
    rw [jl_1, jI_sub]
    exact congrArg jI (by omega)
  have g11 : gIn (jI (n : Int)) 11 := jin (by omega) (by omega) (by omega)
  have b1 := bit_one (q := n) hn
  rw [← jl_31, ← jl_1] at b1
  obtain ⟨h1, d1⟩ : ∃ h1, h1 = gsI h (w + 1) n (jI k) := ⟨_, rfl⟩
  have a1 : h1.1 w 4 = jI n := by rw [d1, rI_n (by omega)]; exact R1
  obtain ⟨h2, d2⟩ : ∃ h2, h2 = gsI h1 (w + 2) n (-1) := ⟨_, rfl⟩
  have a2 : h2.1 w 4 = jI n := by rw [d2, rI_n (by omega)]; exact a1
  obtain ⟨h3, d3⟩ : ∃ h3, h3 = gsI h2 (w + 3) n (-1) := ⟨_, rfl⟩
  have a3 : h3.1 w 4 = jI n := by rw [d3, rI_n (by omega)]; exact a2
  obtain ⟨h4, d4⟩ : ∃ h4, h4 = gsI h3 w 4 (jI ((n + 1 : Nat) : Int)) := ⟨_, rfl⟩
  have a4 : h4.1 w 4 = jI ((n + 1 : Nat) : Int) := by rw [d4, rI_e]
  have E1 : ∀ p, h4.1 (w + 1) p = if p = n then jI k else h.1 (w + 1) p := fun p => by
    rw [d4, rI_n (by omega), d3, rI_n (by omega), d2, rI_n (by omega), d1]
    by_cases e : p = n
    · rw [if_pos e, e, rI_e]
    · rw [if_neg e, rI_k e]
  have E2 : ∀ p, h4.1 (w + 2) p = if p = n then jI (-1) else h.1 (w + 2) p := fun p => by
    rw [d4, rI_n (by omega), d3, rI_n (by omega), d2]
    by_cases e : p = n
    · rw [if_pos e, e, rI_e]; rfl
    · rw [if_neg e, rI_k e, d1, rI_n (by omega)]
  have E3 : ∀ p, h4.1 (w + 3) p = if p = n then jI (-1) else h.1 (w + 3) p := fun p => by
    rw [d4, rI_n (by omega), d3]
    by_cases e : p = n
    · rw [if_pos e, e, rI_e]; rfl
    · rw [if_neg e, rI_k e, d2, rI_n (by omega), d1, rI_n (by omega)]
  have E4 : h4.1 (w + 4) = h.1 (w + 4) := by rw [d4, rI_n (by omega), d3, rI_n (by omega), d2, rI_n (by omega), d1, rI_n (by omega)]
  refine ⟨h4, ?_, ⟨a4, fun p hp => ?_, fun p hp => ?_, fun p hp => ?_, fun l hl => ?_⟩, ?_⟩
  · rw [f_X5_addPart, R1, gNp (by omega), ← d1, a1, gNp (by omega), ← d2, a2, gNp (by omega), ← d3, a3, e1, ← d4, a4, e2, b1]
    exact gIT (jlt (b := 11) (by omega) (by omega) (by omega) (by omega) (by omega)) (gIT g11 (gIT g11 (gIT g11 rfl)))
  · rw [E1, gPut_4]
    by_cases e : p = n
    · rw [if_pos e, if_pos e]
    · rw [if_neg e, if_neg e]; exact R2 p (by omega)
  · rw [E2, gPut_5]
    by_cases e : p = n
    · rw [if_pos e, if_pos e]
    · rw [if_neg e, if_neg e, if_neg List.not_mem_nil]; exact R3 p (by omega)
  · rw [E3, gPut_6]
    by_cases e : p = n
    · rw [if_pos e, if_pos e]
    · rw [if_neg e, if_neg e]; exact R4 p (by omega)
  · rw [E4, gPut_3, if_neg (fun x => by omega)]
    exact R5 l hl
  · rw [d4, d3, d2, d1]
    exact (((gFr.rf.I (by omega) (by omega)).I (by omega) (by omega)).I (by omega) (by omega)).I (by omega) (by omega)
/-- a set of parts as bits -/
def bMk (v : Int32) (X : List Nat) : Prop := ∃ M : Nat, M < 2048 ∧ v = jI M ∧ ∀ q : Nat, M.testBit q = decide (q ∈ X)
theorem bMk_nil : bMk 0 [] := ⟨0, by omega, rfl, fun q => by rw [Nat.zero_testBit, decide_eq_false List.not_mem_nil]⟩
theorem bMk_one {n : Nat} (hn : n < 11) : bMk (jI ((2 ^ n : Nat) : Int)) [n] := ⟨2 ^ n, two_lt hn, rfl, fun q => by
  rw [Nat.testBit_two_pow]
  exact decide_eq_decide.mpr ⟨fun e => by rw [e]; exact List.mem_singleton.mpr rfl, fun e => (List.mem_singleton.mp e).symm⟩⟩
theorem bMk_or {u v : Int32} {X Y : List Nat} (hu : bMk u X) (hv : bMk v Y) : bMk (u ||| v) (Y ++ X) := by
  obtain ⟨M, m1, rfl, m3⟩ := hu
  obtain ⟨N, n1, rfl, n3⟩ := hv
  refine ⟨M ||| N, or_lt m1 n1, bit_or M N, fun q => ?_⟩
  rw [Nat.testBit_or, m3, n3]
  by_cases c1 : q ∈ X
  · rw [decide_eq_true c1, Bool.true_or, decide_eq_true (List.mem_append_right Y c1)]
  · rw [decide_eq_false c1, Bool.false_or]
    exact decide_eq_decide.mpr ⟨fun w => List.mem_append_left X w, fun w => by
      rcases List.mem_append.mp w with w | w
      · exact w
      · exact absurd w c1⟩
theorem u_join19 {h : gHp} {w n M : Nat} {X : List Nat} (hn : n < 11) (hM : M < 2048) (hb : ∀ q : Nat, M.testBit q = decide (q ∈ X)) (R1 : h.1 w 4 = jI ((n + 1 : Nat) : Int)) (x3 : Int32) : ∃ h', f_X5_join_19 w (jI M) x3 gFuel 0 h = some h' ∧ gFr (w + 2) 1 h h' ∧ ∀ p, h'.1 (w + 2) p = if p < n ∧ p ∈ X then jI n else h.1 (w + 2) p := by
  have e2 : jI ((n + 1 : Nat) : Int) - 1 = jI n := by
    rw [jl_1, jI_sub]
    exact congrArg jI (by omega)
  obtain ⟨o, eo, o1, o2⟩ := gUp (fun k i s => f_X5_join_19 w (jI M) x3 k (jI i) s) n (fun i s => gFr (w + 2) 1 h s ∧ ∀ p, s.1 (w + 2) p = if p < i ∧ p ∈ X then jI n else h.1 (w + 2) p) (fun s => gFr (w + 2) 1 h s ∧ ∀ p, s.1 (w + 2) p = if p < n ∧ p ∈ X then jI n else h.1 (w + 2) p) (by
    intro k s hI
    refine ⟨s, ?_, hI⟩
    rw [f_X5_join_19, hI.1.i1 (by omega), R1, e2]
    exact gIT (jle (by omega) (by omega) (by omega) (by omega) (by omega)) rfl) (by
    intro k i s hi hI
    left
    obtain ⟨G, I⟩ := hI
    have ei : jI (i : Int) + 1 = jI ((i + 1 : Nat) : Int) := by rw [jl_1, jI_add]; rfl
    have eb := bit_at hM (q := i) (by omega)
    rw [hb, ← jl_31, ← jl_1] at eb
    have g11 : gIn (jI (i : Int)) 11 := jin (by omega) (by omega) (by omega)
    have nle : ¬ jI (n : Int) ≤ jI i := jnle (by omega) (by omega) (by omega) (by omega) (by omega)
    by_cases c : i ∈ X
    · rw [decide_eq_true c] at eb
      refine ⟨gsI s (w + 2) i (jI n), ?_, G.I (by omega) (by omega), fun p => ?_⟩
      · rw [f_X5_join_19, G.i1 (by omega), R1, e2, gNp (by omega), ei]
        exact gIF nle (gIT (by rw [eb]; rfl) (gIT g11 rfl))
      · by_cases e : p = i
        · rw [e, rI_e, if_pos ⟨by omega, c⟩]
        · rw [rI_k e, I]
          by_cases c2 : p < i ∧ p ∈ X
          · rw [if_pos c2, if_pos ⟨by omega, c2.2⟩]
          · rw [if_neg c2, if_neg (fun x => c2 ⟨by omega, x.2⟩)]
    · rw [decide_eq_false c] at eb
      refine ⟨s, ?_, G, fun p => ?_⟩
      · rw [f_X5_join_19, G.i1 (by omega), R1, e2, ei]
        exact gIF nle (gIF (by rw [eb]; decide) rfl)
      · rw [I]
        by_cases c2 : p < i ∧ p ∈ X
        · rw [if_pos c2, if_pos ⟨by omega, c2.2⟩]
        · rw [if_neg c2, if_neg (fun x => ?_)]
          by_cases e : p = i
          · rw [e] at x
            exact c x.2
          · exact c2 ⟨by omega, x.2⟩) gFuel 0 h (by omega) (by unfold gFuel; omega) ⟨gFr.rf, fun p => by rw [if_neg (by omega)]⟩
  exact ⟨o, eo, o1, o2⟩
theorem u_join {h : gHp} {w n : Nat} {S : gTb} {X : List Nat} {v : Int32} {k : Int} (R : cNet h w n S) (V : bMk v X) (hX : X.Nodup) (hm : ∀ q, q ∈ X → q < n) (h11 : n ≤ 11) (hn : 2 ≤ X.length → n < 11) (hk : 1 ≤ k) : ∃ (v' : Int32) (h' : gHp), f_X5_join w v (jI k) h = some (v', h') ∧ bMk v' (bdJ n S k X).2.2 ∧ cNet h' w (bdJ n S k X).1 (bdJ n S k X).2.1 ∧ gFr w 5 h h' := by
  obtain ⟨M, hM, rfl, hb⟩ := V
  have ec := bit_cnt h hM
  have lx : X.length ≤ 11 := by
    have e := bd_cnt X 11 hX (fun q hq => by have := hm q hq; omega)
    have := gCnt_le (fun q => decide (q ∈ X)) 11
    omega
  rw [gCnt_congr (P := fun q => M.testBit q) (Q := fun q => decide (q ∈ X)) (fun q _ => hb q), bd_cnt X 11 hX (fun q hq => by have := hm q hq; omega)] at ec
  by_cases c : X.length ≤ 1
  · rw [bdJ_a c]
    refine ⟨jI M, h, ?_, ⟨M, hM, rfl, hb⟩, R, gFr.rf⟩
    rw [f_X5_join]
    exact gBs ec (gIF (jnle (a := 2) (by omega) (by omega) (by omega) (by omega) (by omega)) rfl)
  · rw [bdJ_b c]
    obtain ⟨h1, q1, R1, G1⟩ := u_addPart R (hn (by omega)) k
    obtain ⟨h2, q2, G2, E2⟩ := u_join19 (h := h1) (w := w) (X := X) (hn (by omega)) hM hb R1.1 (jI ((2 ^ n : Nat) : Int))
    refine ⟨jI ((2 ^ n : Nat) : Int), h2, ?_, bMk_one (hn (by omega)), ?_, G1.tr (G2.mono (by omega) (by omega))⟩
    · rw [f_X5_join]
      exact gBs ec (gIT (jle (a := 2) (by omega) (by omega) (by omega) (by omega) (by omega)) (gBs q1 (gBs q2 rfl)))
    · obtain ⟨r1, r2, r3, r4, r5⟩ := R1
      refine ⟨?_, fun p hp => ?_, fun p hp => ?_, fun p hp => ?_, fun l hl => ?_⟩
      · rw [G2.i1 (by omega)]; exact r1
      · rw [G2.i1 (by omega)]; exact r2 p hp
      · have o := r3 p hp
        rw [gPut_5] at o
        show h2.1 (w + 2) p = jI (gPut S n k (-1) X 5 p)
        rw [E2, gPut_5]
        by_cases e : p = n
        · rw [if_neg (by omega), if_pos e, o, if_pos e]
        · rw [if_neg e, if_neg List.not_mem_nil] at o
          rw [if_neg e]
          by_cases cx : p ∈ X
          · rw [if_pos ⟨by omega, cx⟩, if_pos cx]
          · rw [if_neg (fun x => cx x.2), if_neg cx]; exact o
      · rw [G2.i1 (by omega)]; exact r4 p hp
      · rw [G2.i1 (by omega)]; exact r5 l hl
theorem u_addArm {h : gHp} {w n l : Nat} {S : gTb} (R : cNet h w n S) (hn : n < 11) (hl : l < 6) : ∃ h', f_X5_addArm w (jI l) h = some (jI ((2 ^ n : Nat) : Int), h') ∧ cNet h' w (n + 1) (gPut S n 0 l []) ∧ gFr w 5 h h' := by
  obtain ⟨h1, q1, ⟨r1, r2, r3, r4, r5⟩, G1⟩ := u_addPart R hn 0
  have e2 : jI ((n + 1 : Nat) : Int) - 1 = jI n := by
    rw [jl_1, jI_sub]
    exact congrArg jI (by omega)
  obtain ⟨h2, d2⟩ : ∃ h2, h2 = gsI h1 (w + 4) l (jI n) := ⟨_, rfl⟩
  have a2 : h2.1 w 4 = jI ((n + 1 : Nat) : Int) := by rw [d2, rI_n (by omega)]; exact r1
  have hp2 := two_lt hn
  have hp1 : 0 < 2 ^ n := Nat.two_pow_pos n
  refine ⟨gsI h2 (w + 3) n (jI l), ?_, ⟨?_, fun p hp => ?_, fun p hp => ?_, fun p hp => ?_, fun j hj => ?_⟩, ?_⟩
  · rw [f_X5_addArm]
    refine gBs q1 (gIF (jne (b := 0) (by omega) (by omega) (by omega) (by omega) (by omega)) (gIF (jnlt (b := 0) (by omega) (by omega) (by omega) (by omega) (by omega)) (gIF (jnle (a := 6) (by omega) (by omega) (by omega) (by omega) (by omega)) (gIT (jin (by omega) (by omega) (by omega)) ?_))))
    show (if gIn ((gsI h1 (w + 4) (gN (jI l)) (h1.1 w 4 - 1)).1 w 4 - 1) 11 then some (jI ((2 ^ n : Nat) : Int), gsI (gsI h1 (w + 4) (gN (jI l)) (h1.1 w 4 - 1)) (w + 3) (gN ((gsI h1 (w + 4) (gN (jI l)) (h1.1 w 4 - 1)).1 w 4 - 1)) (jI l)) else none) = _
    rw [r1, e2, gNp (by omega), ← d2, a2, e2, gNp (by omega)]
    exact gIT (jin (by omega) (by omega) (by omega)) rfl
  · rw [rI_n (by omega)]; exact a2
  · rw [rI_n (by omega), d2, rI_n (by omega)]; exact r2 p hp
  · rw [rI_n (by omega), d2, rI_n (by omega)]; exact r3 p hp
  · rw [gPut_6]
    by_cases e : p = n
    · rw [if_pos e, e, rI_e]
    · have o := r4 p hp
      rw [gPut_6, if_neg e] at o
      rw [if_neg e, rI_k e, d2, rI_n (by omega)]
      exact o
  · have o := r5 j hj
    rw [gPut_3, if_neg (fun x => by omega)] at o
    rw [gPut_3, rI_n (by omega), d2]
    by_cases e : j = l
    · rw [if_pos ⟨rfl, by omega⟩, e, rI_e]
      exact congrArg jI (by omega)
    · rw [if_neg (fun x => e (by omega)), rI_k e]
      exact o
  · rw [d2]
    exact (G1.I (by omega) (by omega)).I (by omega) (by omega)
/-- the sets of the depths: the links and pieces of a depth, the deepest first -/
def cSk (h : gHp) (a : Nat) : List (List Nat × List Nat) → Prop
  | [] => True
  | f :: r => bMk (h.1 (a + 1) r.length) f.2 ∧ bMk (h.1 (a + 2) r.length) f.1 ∧ cSk h a r
theorem cSk.mv {h h' : gHp} {a : Nat} : ∀ {F : List (List Nat × List Nat)}, cSk h a F → (∀ k, k < F.length → h'.1 (a + 1) k = h.1 (a + 1) k ∧ h'.1 (a + 2) k = h.1 (a + 2) k) → cSk h' a F := by
  intro F
  induction F with
  | nil => intro _ _; trivial
  | cons f r ih =>
    intro K E
    have l : (f :: r).length = r.length + 1 := List.length_cons
    refine ⟨?_, ?_, ih K.2.2 (fun k hk => E k (by omega))⟩
    · rw [(E r.length (by omega)).1]; exact K.1
    · rw [(E r.length (by omega)).2]; exact K.2.1
def cBd (h : gHp) (a w n : Nat) (S : gTb) (F : List (List Nat × List Nat)) : Prop := cNet h w n S ∧ h.1 a 2 = jI ((F.length : Int) - 1) ∧ cSk h a F
/-- what building writes -/
def cBf (a w : Nat) (h h' : gHp) : Prop := ∀ y, (y < a ∨ a + 3 ≤ y) → (y < w ∨ w + 5 ≤ y) → h'.1 y = h.1 y ∧ h'.2 y = h.2 y
theorem cBf.rf {a w : Nat} {h : gHp} : cBf a w h h := fun _ _ _ => ⟨rfl, rfl⟩
theorem cBf.tr {a w : Nat} {h h1 h2 : gHp} (F : cBf a w h h1) (G : cBf a w h1 h2) : cBf a w h h2 := fun y q1 q2 => ⟨(G y q1 q2).1.trans (F y q1 q2).1, (G y q1 q2).2.trans (F y q1 q2).2⟩
theorem cBf.a {a w : Nat} {h h1 : gHp} (G : gFr a 3 h h1) : cBf a w h h1 := fun y q1 _ => G y q1
theorem cBf.w {a w : Nat} {h h1 : gHp} (G : gFr w 5 h h1) : cBf a w h h1 := fun y _ q2 => G y q2
theorem u_endLink {h : gHp} {a w n : Nat} {S : gTb} {L P : List Nat} {r : List (List Nat × List Nat)} (C : cBd h a w n S ((L, P) :: r)) (B : gB0 n S (bdA ((L, P) :: r))) (hr : r.length < 41) (d : a + 3 ≤ w ∨ w + 5 ≤ a) : ∃ h', f_X6_endLink a w h = some h' ∧ cBd h' a w (bdJ n S 2 P).1 (bdJ n S 2 P).2.1 (((bdJ n S 2 P).2.2 ++ L, []) :: r) ∧ cBf a w h h' := by
  obtain ⟨R, D, K1, K2, K3⟩ := C
  rw [bdA_c] at B
  have h11 := bd_11 B
  have lim := bd_lim B
  rw [List.length_append] at lim
  have D' : h.1 a 2 = jI (r.length : Nat) := by
    rw [D, List.length_cons]
    exact congrArg jI (by omega)
  have g41 : gIn (jI (r.length : Int)) 41 := jin (by omega) (by omega) (by omega)
  have sb := bd_sub (X := P) B
  obtain ⟨v', h1, q1, V1, R1, G1⟩ := u_join (X := P) (k := 2) (v := h.1 (a + 1) r.length) R K1 sb.1 sb.2 h11 (fun hx => by
    have : P.length = (L, P).2.length := rfl
    omega) (by omega)
  obtain ⟨h2, d2⟩ : ∃ h2, h2 = gsI h1 (a + 2) r.length (h.1 (a + 2) r.length ||| v') := ⟨_, rfl⟩
  have a2 : h2.1 a 2 = jI (r.length : Nat) := by rw [d2, rI_n (by omega), G1.i1 (by omega)]; exact D'
  have E : ∀ y, (y < w ∨ w + 5 ≤ y) → y ≠ a + 1 → y ≠ a + 2 → (gsI h2 (a + 1) r.length 0).1 y = h.1 y := fun y y1 y2 y3 => by rw [rI_n y2, d2, rI_n y3, G1.i1 y1]
  refine ⟨gsI h2 (a + 1) r.length 0, ?_, ⟨?_, ?_, ?_, ?_, ?_⟩, ?_⟩
  · rw [f_X6_endLink, D', gNp (by omega)]
    refine gIT g41 (gIT g41 (gBs q1 ?_))
    show (if gIn (jI (r.length : Int)) 41 then if gIn ((gsI h1 (a + 2) r.length (h.1 (a + 2) r.length ||| v')).1 a 2) 41 then some (gsI (gsI h1 (a + 2) r.length (h.1 (a + 2) r.length ||| v')) (a + 1) (gN ((gsI h1 (a + 2) r.length (h.1 (a + 2) r.length ||| v')).1 a 2)) 0) else none else none) = _
    rw [← d2, a2, gNp (by omega)]
    exact gIT g41 (gIT g41 rfl)
  · refine R1.mv (fun y y1 y2 => ⟨?_, ?_⟩)
    · rw [rI_n (by omega), d2, rI_n (by omega)]
    · rw [d2]; rfl
  · rw [rI_n (by omega), a2, List.length_cons]
    exact congrArg jI (by omega)
  · show bMk ((gsI h2 (a + 1) r.length 0).1 (a + 1) r.length) []
    rw [rI_e]
    exact bMk_nil
  · show bMk ((gsI h2 (a + 1) r.length 0).1 (a + 2) r.length) ((bdJ n S 2 P).2.2 ++ L)
    rw [rI_n (by omega), d2, rI_e]
    exact bMk_or K2 V1
  · refine K3.mv (fun k hk => ⟨?_, ?_⟩)
    · rw [rI_k (by omega), d2, rI_n (by omega), G1.i1 (by omega)]
    · rw [rI_n (by omega), d2, rI_k (by omega), G1.i1 (by omega)]
  · refine (cBf.w G1).tr (cBf.a ?_)
    rw [d2]
    exact (gFr.rf.I (by omega) (by omega)).I (by omega) (by omega)
theorem u_endChain {h : gHp} {a w n : Nat} {S : gTb} {L P : List Nat} {r : List (List Nat × List Nat)} (C : cBd h a w n S ((L, P) :: r)) (B : gB0 n S (bdA ((L, P) :: r))) (hr : r.length < 41) (d : a + 3 ≤ w ∨ w + 5 ≤ a) : ∃ (v' : Int32) (h' : gHp), f_X6_endChain a w h = some (v', h') ∧ bMk v' (bdC n S L P).2.2 ∧ cNet h' w (bdC n S L P).1 (bdC n S L P).2.1 ∧ h'.1 a 2 = jI (r.length : Nat) ∧ cSk h' a r ∧ cBf a w h h' := by
  obtain ⟨h1, q1, ⟨R, D, K1, K2, K3⟩, G1⟩ := u_endLink C B hr d
  have B1 := bdL_w B
  have h11 := bd_11 B1
  have lim := bd_lim B1
  rw [List.length_append] at lim
  have D' : h1.1 a 2 = jI (r.length : Nat) := by
    rw [D, List.length_cons]
    exact congrArg jI (by omega)
  have sb := bd_sub B1
  obtain ⟨v', h2, q2, V2, R2, G2⟩ := u_join (X := (bdJ n S 2 P).2.2 ++ L) (k := 1) (v := h1.1 (a + 2) r.length) R K2 sb.1 sb.2 h11 (fun hx => by
    have hx2 : 2 ≤ ((bdJ n S 2 P).2.2 ++ L).length := hx
    omega) (by omega)
  refine ⟨v', h2, ?_, V2, R2, ?_, K3.mv (fun k hk => ⟨?_, ?_⟩), G1.tr (cBf.w G2)⟩
  · rw [f_X6_endChain]
    refine gBs q1 ?_
    rw [D', gNp (by omega)]
    exact gIT (jin (by omega) (by omega) (by omega)) (gBs q2 rfl)
  · rw [G2.i1 (by omega)]; exact D'
  · rw [G2.i1 (by omega)]
  · rw [G2.i1 (by omega)]
theorem u_takeOpen {h : gHp} {a w n : Nat} {S : gTb} {f : List Nat × List Nat} {r : List (List Nat × List Nat)} (C : cBd h a w n S (f :: r)) (hr : r.length < 40) (d : a + 3 ≤ w ∨ w + 5 ≤ a) : ∃ h', f_X6_take a 40 w h = some h' ∧ cBd h' a w n S (([], []) :: f :: r) ∧ cBf a w h h' := by
  obtain ⟨R, D, K⟩ := C
  have D' : h.1 a 2 = jI (r.length : Nat) := by
    rw [D, List.length_cons]
    exact congrArg jI (by omega)
  have e1 : jI (r.length : Int) + 1 = jI ((r.length + 1 : Nat) : Int) := by rw [jl_1, jI_add]; rfl
  have g41 : gIn (jI ((r.length + 1 : Nat) : Int)) 41 := jin (by omega) (by omega) (by omega)
  obtain ⟨h1, d1⟩ : ∃ h1, h1 = gsI h a 2 (jI ((r.length + 1 : Nat) : Int)) := ⟨_, rfl⟩
  have a1 : h1.1 a 2 = jI ((r.length + 1 : Nat) : Int) := by rw [d1, rI_e]
  obtain ⟨h2, d2⟩ : ∃ h2, h2 = gsI h1 (a + 1) (r.length + 1) 0 := ⟨_, rfl⟩
  have a2 : h2.1 a 2 = jI ((r.length + 1 : Nat) : Int) := by rw [d2, rI_n (by omega)]; exact a1
  have qc : f_X6_clearDepth a h1 = some (gsI h2 (a + 2) (r.length + 1) 0) := by
    rw [f_X6_clearDepth, a1, gNp (by omega), ← d2, a2, gNp (by omega)]
    exact gIT g41 (gIT g41 rfl)
  refine ⟨gsI h2 (a + 2) (r.length + 1) 0, ?_, ⟨?_, ?_, ?_, ?_, ?_⟩, ?_⟩
  · rw [f_X6_take, D', e1, ← d1]
    exact gIT rfl (gIF (jnle (a := 40) (by omega) (by omega) (by omega) (by omega) (by omega)) (gBs qc rfl))
  · refine R.mv (fun y y1 y2 => ⟨?_, ?_⟩)
    · rw [rI_n (by omega), d2, rI_n (by omega), d1, rI_n (by omega)]
    · rw [d2, d1]; rfl
  · rw [rI_n (by omega), a2, List.length_cons, List.length_cons]
    exact congrArg jI (by omega)
  · show bMk ((gsI h2 (a + 2) (r.length + 1) 0).1 (a + 1) (f :: r).length) []
    rw [List.length_cons, rI_n (by omega), d2, rI_e]
    exact bMk_nil
  · show bMk ((gsI h2 (a + 2) (r.length + 1) 0).1 (a + 2) (f :: r).length) []
    rw [List.length_cons, rI_e]
    exact bMk_nil
  · refine cSk.mv K (fun k hk => ⟨?_, ?_⟩)
    · rw [List.length_cons] at hk
      rw [rI_n (by omega), d2, rI_k (by omega), d1, rI_n (by omega)]
    · rw [List.length_cons] at hk
      rw [rI_k (by omega), d2, rI_n (by omega), d1, rI_n (by omega)]
  · refine cBf.a ?_
    rw [d2, d1]
    exact ((gFr.rf.I (by omega) (by omega)).I (by omega) (by omega)).I (by omega) (by omega)
theorem u_takePlus {h : gHp} {a w n : Nat} {S : gTb} {L P : List Nat} {r : List (List Nat × List Nat)} (C : cBd h a w n S ((L, P) :: r)) (B : gB0 n S (bdA ((L, P) :: r))) (hr : r.length < 41) (d : a + 3 ≤ w ∨ w + 5 ≤ a) : ∃ h', f_X6_take a 43 w h = some h' ∧ cBd h' a w (bdJ n S 2 P).1 (bdJ n S 2 P).2.1 (((bdJ n S 2 P).2.2 ++ L, []) :: r) ∧ cBf a w h h' := by
  obtain ⟨h1, q1, C1, G1⟩ := u_endLink C B hr d
  refine ⟨h1, ?_, C1, G1⟩
  rw [f_X6_take]
  exact gIF (by decide) (gIF (by decide) (gIT rfl (gBs q1 rfl)))
theorem u_takeBar (h : gHp) (a w : Nat) : f_X6_take a 124 w h = some h := by
  rw [f_X6_take]
  exact gIF (by decide) (gIF (by decide) (gIF (by decide) (gIT rfl rfl)))
theorem u_takeClose {h : gHp} {a w n : Nat} {S : gTb} {L P L2 P2 : List Nat} {r : List (List Nat × List Nat)} (C : cBd h a w n S ((L, P) :: (L2, P2) :: r)) (B : gB0 n S (bdA ((L, P) :: (L2, P2) :: r))) (hr : r.length < 40) (d : a + 3 ≤ w ∨ w + 5 ≤ a) : ∃ h', f_X6_take a 41 w h = some h' ∧ cBd h' a w (bdC n S L P).1 (bdC n S L P).2.1 ((L2, (bdC n S L P).2.2 ++ P2) :: r) ∧ cBf a w h h' := by
  have lr : ((L2, P2) :: r).length = r.length + 1 := List.length_cons
  obtain ⟨v', h1, q1, V1, R1, D1, K1, G1⟩ := u_endChain C B (by omega) d
  rw [lr] at D1
  have e1 : jI ((r.length + 1 : Nat) : Int) - 1 = jI (r.length : Nat) := by
    rw [jl_1, jI_sub]
    exact congrArg jI (by omega)
  have g41 : gIn (jI (r.length : Int)) 41 := jin (by omega) (by omega) (by omega)
  obtain ⟨h2, d2⟩ : ∃ h2, h2 = gsI h1 a 2 (jI (r.length : Nat)) := ⟨_, rfl⟩
  have a2 : h2.1 a 2 = jI (r.length : Nat) := by rw [d2, rI_e]
  refine ⟨gsI h2 (a + 1) r.length (h2.1 (a + 1) r.length ||| v'), ?_, ⟨?_, ?_, ?_, ?_, ?_⟩, ?_⟩
  · rw [f_X6_take]
    refine gIF (by decide) (gIT rfl (gBs q1 ?_))
    show (if h1.1 a 2 ≤ 0 then some h1 else if gIn ((gsI h1 a 2 (h1.1 a 2 - 1)).1 a 2) 41 then if gIn ((gsI h1 a 2 (h1.1 a 2 - 1)).1 a 2) 41 then some (gsI (gsI h1 a 2 (h1.1 a 2 - 1)) (a + 1) (gN ((gsI h1 a 2 (h1.1 a 2 - 1)).1 a 2)) ((gsI h1 a 2 (h1.1 a 2 - 1)).1 (a + 1) (gN ((gsI h1 a 2 (h1.1 a 2 - 1)).1 a 2)) ||| v')) else none else none) = _
    rw [D1, e1, ← d2, a2, gNp (by omega)]
    exact gIF (jnle (b := 0) (by omega) (by omega) (by omega) (by omega) (by omega)) (gIT g41 (gIT g41 rfl))
  · refine R1.mv (fun y y1 y2 => ⟨?_, ?_⟩)
    · rw [rI_n (by omega), d2, rI_n (by omega)]
    · rw [d2]; rfl
  · rw [rI_n (by omega), a2, List.length_cons]
    exact congrArg jI (by omega)
  · show bMk ((gsI h2 (a + 1) r.length (h2.1 (a + 1) r.length ||| v')).1 (a + 1) r.length) ((bdC n S L P).2.2 ++ P2)
    rw [rI_e, d2, rI_n (by omega)]
    exact bMk_or K1.1 V1
  · show bMk ((gsI h2 (a + 1) r.length (h2.1 (a + 1) r.length ||| v')).1 (a + 2) r.length) L2
    rw [rI_n (by omega), d2, rI_n (by omega)]
    exact K1.2.1
  · refine cSk.mv K1.2.2 (fun k hk => ⟨?_, ?_⟩)
    · rw [rI_k (by omega), d2, rI_n (by omega)]
    · rw [rI_n (by omega), d2, rI_n (by omega)]
  · refine G1.tr (cBf.a ?_)
    rw [d2]
    exact (gFr.rf.I (by omega) (by omega)).I (by omega) (by omega)
theorem u_takeArm {h : gHp} {a w n l : Nat} {S : gTb} {L P : List Nat} {r : List (List Nat × List Nat)} {x : Int32} (C : cBd h a w n S ((L, P) :: r)) (hn : n < 11) (hl : l < 6) (hx : x = jI ((97 + l : Nat) : Int)) (hr : r.length < 41) (d : a + 3 ≤ w ∨ w + 5 ≤ a) : ∃ h', f_X6_take a x w h = some h' ∧ cBd h' a w (n + 1) (gPut S n 0 l []) ((L, n :: P) :: r) ∧ cBf a w h h' := by
  obtain ⟨R, D, K1, K2, K3⟩ := C
  have D' : h.1 a 2 = jI (r.length : Nat) := by
    rw [D, List.length_cons]
    exact congrArg jI (by omega)
  have g41 : gIn (jI (r.length : Int)) 41 := jin (by omega) (by omega) (by omega)
  obtain ⟨h1, q1, R1, G1⟩ := u_addArm R hn hl
  have ex := u_index h (z := ((97 + l : Nat) : Int)) (by omega) (by omega)
  rw [if_pos (by omega), show ((97 + l : Nat) : Int) - 97 = (l : Nat) by omega] at ex
  refine ⟨gsI h1 (a + 1) r.length (h.1 (a + 1) r.length ||| jI ((2 ^ n : Nat) : Int)), ?_, ⟨?_, ?_, ?_, ?_, ?_⟩, ?_⟩
  · rw [hx, f_X6_take, D', gNp (by omega)]
    exact gIF (jne (b := 40) (by omega) (by omega) (by omega) (by omega) (by omega)) (gIF (jne (b := 41) (by omega) (by omega) (by omega) (by omega) (by omega)) (gIF (jne (b := 43) (by omega) (by omega) (by omega) (by omega) (by omega)) (gIF (jne (b := 124) (by omega) (by omega) (by omega) (by omega) (by omega)) (gIT g41 (gBs ex (gBs q1 (gIT g41 rfl)))))))
  · refine R1.mv (fun y y1 y2 => ⟨?_, rfl⟩)
    rw [rI_n (by omega)]
  · rw [rI_n (by omega), G1.i1 (by omega), D', List.length_cons]
    exact congrArg jI (by omega)
  · show bMk ((gsI h1 (a + 1) r.length (h.1 (a + 1) r.length ||| jI ((2 ^ n : Nat) : Int))).1 (a + 1) r.length) (n :: P)
    rw [rI_e]
    exact bMk_or K1 (bMk_one hn)
  · show bMk ((gsI h1 (a + 1) r.length (h.1 (a + 1) r.length ||| jI ((2 ^ n : Nat) : Int))).1 (a + 2) r.length) L
    rw [rI_n (by omega), G1.i1 (by omega)]
    exact K2
  · refine cSk.mv K3 (fun k hk => ⟨?_, ?_⟩)
    · rw [rI_k (by omega), G1.i1 (by omega)]
    · rw [rI_n (by omega), G1.i1 (by omega)]
  · refine (cBf.w G1).tr (cBf.a ?_)
    exact gFr.rf.I (by omega) (by omega)
