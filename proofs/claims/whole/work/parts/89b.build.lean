/-! a network is built: parts that stand open, the latest first -/
def gPut (S : gTb) (n : Nat) (k l : Int) (X : List Nat) : gTb := fun w x => if w = 3 then (if k = 0 ∧ (x : Int) = l then (n : Int) + 1 else S 3 x) else if w = 4 then (if x = n then k else S 4 x) else if w = 5 then (if x = n then -1 else if x ∈ X then (n : Int) else S 5 x) else if w = 6 then (if x = n then l else S 6 x) else if w = 7 then (if x = n then (X.length : Int) else S 7 x) else if w = 8 then (if x = n then (if k = 0 then 1 else 0) else S 8 x) else S w x
theorem gPut_3 (S : gTb) (n : Nat) (k l : Int) (X : List Nat) (x : Nat) : gPut S n k l X 3 x = if k = 0 ∧ (x : Int) = l then (n : Int) + 1 else S 3 x := rfl
theorem gPut_4 (S : gTb) (n : Nat) (k l : Int) (X : List Nat) (x : Nat) : gPut S n k l X 4 x = if x = n then k else S 4 x := rfl
theorem gPut_5 (S : gTb) (n : Nat) (k l : Int) (X : List Nat) (x : Nat) : gPut S n k l X 5 x = if x = n then -1 else if x ∈ X then (n : Int) else S 5 x := rfl
theorem gPut_6 (S : gTb) (n : Nat) (k l : Int) (X : List Nat) (x : Nat) : gPut S n k l X 6 x = if x = n then l else S 6 x := rfl
theorem gPut_7 (S : gTb) (n : Nat) (k l : Int) (X : List Nat) (x : Nat) : gPut S n k l X 7 x = if x = n then (X.length : Int) else S 7 x := rfl
theorem gPut_8 (S : gTb) (n : Nat) (k l : Int) (X : List Nat) (x : Nat) : gPut S n k l X 8 x = if x = n then (if k = 0 then 1 else 0) else S 8 x := rfl
theorem gPut_o {S : gTb} {n : Nat} {k l : Int} {X : List Nat} {w x : Nat} (h : w < 3 ∨ 8 < w) : gPut S n k l X w x = S w x := by
  unfold gPut
  rw [if_neg (by omega), if_neg (by omega), if_neg (by omega), if_neg (by omega), if_neg (by omega), if_neg (by omega)]
theorem bd_ins {P Q : Nat → Bool} {N x : Nat} (hx : x < N) (h0 : P x = false) (h1 : Q x = true) (h : ∀ q, q ≠ x → Q q = P q) : gCnt Q N = gCnt P N + 1 := by
  have e1 := gCnt_one (B := fun q => decide (q = x)) (n := N) hx (decide_eq_true rfl) (fun q _ hq w => hq (of_decide_eq_true w))
  have e2 := gCnt_add (A := Q) (B := P) (C := fun q => decide (q = x)) (n := N) (fun q _ => by
    by_cases e : q = x
    · show Q q = (P q || decide (q = x))
      rw [decide_eq_true e, Bool.or_true, e]; exact h1
    · show Q q = (P q || decide (q = x))
      rw [decide_eq_false e, Bool.or_false]; exact h q e) (fun q _ w => by
    have e : q = x := of_decide_eq_true w.2
    have w1 := w.1
    rw [e, h0] at w1
    exact Bool.false_ne_true w1)
  rw [e2, e1]
theorem bd_cnt : ∀ (X : List Nat) (N : Nat), X.Nodup → (∀ q, q ∈ X → q < N) → gCnt (fun q => decide (q ∈ X)) N = X.length := by
  intro X
  induction X with
  | nil => intro N _ _; exact gCnt_no (fun q _ w => absurd (of_decide_eq_true w) List.not_mem_nil)
  | cons x X ih =>
    intro N h1 h2
    rw [List.nodup_cons] at h1
    have e := bd_ins (P := fun q => decide (q ∈ X)) (Q := fun q => decide (q ∈ x :: X)) (x := x) (N := N) (h2 x List.mem_cons_self) (decide_eq_false h1.1) (decide_eq_true List.mem_cons_self) (fun q hq => by
      show decide (q ∈ x :: X) = decide (q ∈ X)
      exact decide_eq_decide.mpr ⟨fun w => by
        rcases List.mem_cons.mp w with e | w
        · exact absurd e hq
        · exact w, fun w => List.mem_cons_of_mem x w⟩)
    rw [e, ih N h1.2 (fun q hq => h2 q (List.mem_cons_of_mem x hq)), List.length_cons]
/-- what holds of parts that are built: A stands open -/
def gB0 (n : Nat) (S : gTb) (A : List Nat) : Prop := (n + A.length ≤ 2 * gCnt (fun l => decide (S 3 l ≠ 0)) 6 ∧ A.Nodup ∧ (∀ q : Nat, q ∈ A → q < n ∧ S 5 q = -1) ∧ (∀ q : Nat, q < n → ¬ q ∈ A → (q : Int) < S 5 q ∧ S 5 q < n) ∧ (0 < n → ∃ B, A = (n - 1) :: B)) ∧ (∀ p : Nat, p < n → 0 ≤ S 4 p ∧ S 4 p ≤ 2) ∧ (∀ p : Nat, p < n → S 4 p = 0 → ∃ l : Nat, l < 6 ∧ S 6 p = l ∧ S 3 l = p + 1) ∧ (∀ p : Nat, p < n → S 4 p ≠ 0 → S 6 p = -1 ∧ ∃ q : Nat, q < p ∧ S 5 q = p) ∧ (∀ p q : Nat, p < n → q < n → S 5 q = p → S 4 p ≠ 0) ∧ (∀ p : Nat, p < n → S 7 p = gCnt (fun q => decide (S 5 q = p)) p) ∧ (∀ l : Nat, l < 6 → 0 ≤ S 3 l ∧ S 3 l ≤ n) ∧ (∀ l : Nat, l < 6 → S 3 l ≠ 0 → S 4 (S 3 l - 1).toNat = 0 ∧ S 6 (S 3 l - 1).toNat = l) ∧ (∀ p : Nat, p < n → S 8 p = if S 4 p = 0 then 1 else 0)
theorem bd_put {n : Nat} {S : gTb} {X A : List Nat} {k l : Int} (B : gB0 n S (X ++ A)) (K : (k = 0 ∧ X = [] ∧ ∃ l' : Nat, l' < 6 ∧ l = l' ∧ S 3 l' = 0) ∨ (1 ≤ k ∧ k ≤ 2 ∧ l = -1 ∧ 2 ≤ X.length)) : gB0 (n + 1) (gPut S n k l X) (n :: A) := by
  obtain ⟨⟨b1, b2, b3, b4, b5⟩, b6, b7, b8, b9, b10, b11, b12, b13⟩ := B
  rw [List.length_append] at b1
  rw [List.nodup_append] at b2
  obtain ⟨nX, nA, dXA⟩ := b2
  have mX : ∀ q, q ∈ X → q < n ∧ S 5 q = -1 := fun q hq => b3 q (List.mem_append_left A hq)
  have mA : ∀ q, q ∈ A → q < n ∧ S 5 q = -1 := fun q hq => b3 q (List.mem_append_right X hq)
  have xA : ∀ q, q ∈ A → ¬ q ∈ X := fun q h1 h2 => dXA q h2 q h1 rfl
  have ar : ∀ q, q < n → -1 ≤ S 5 q ∧ S 5 q < n := fun q hq => by
    by_cases c : q ∈ X ++ A
    · have := (b3 q c).2; omega
    · have := b4 q hq c; omega
  have p4 : ∀ p, p < n → gPut S n k l X 4 p = S 4 p := fun p hp => by rw [gPut_4, if_neg (by omega)]
  have p5 : ∀ p, p < n → gPut S n k l X 5 p = if p ∈ X then (n : Int) else S 5 p := fun p hp => by rw [gPut_5, if_neg (by omega)]
  have p6 : ∀ p, p < n → gPut S n k l X 6 p = S 6 p := fun p hp => by rw [gPut_6, if_neg (by omega)]
  have p7 : ∀ p, p < n → gPut S n k l X 7 p = S 7 p := fun p hp => by rw [gPut_7, if_neg (by omega)]
  have p8 : ∀ p, p < n → gPut S n k l X 8 p = S 8 p := fun p hp => by rw [gPut_8, if_neg (by omega)]
  have p4n : gPut S n k l X 4 n = k := by rw [gPut_4, if_pos rfl]
  have p5n : gPut S n k l X 5 n = -1 := by rw [gPut_5, if_pos rfl]
  have p6n : gPut S n k l X 6 n = l := by rw [gPut_6, if_pos rfl]
  have p7n : gPut S n k l X 7 n = X.length := by rw [gPut_7, if_pos rfl]
  have p8n : gPut S n k l X 8 n = if k = 0 then 1 else 0 := by rw [gPut_8, if_pos rfl]
  have p5s : ∀ p q : Nat, p < n → q < n → (gPut S n k l X 5 q = p ↔ S 5 q = p) := fun p q hp hq => by
    rw [p5 q hq]
    by_cases c : q ∈ X
    · rw [if_pos c, (mX q c).2]
      constructor
      · intro w; omega
      · intro w; omega
    · rw [if_neg c]
  have p3 : ∀ j : Nat, S 3 j ≠ 0 → gPut S n k l X 3 j = S 3 j := fun j h3 => by
    rw [gPut_3]
    refine if_neg ?_
    rintro ⟨w1, w2⟩
    rcases K with ⟨k0, x0, l', hl, el, h0⟩ | ⟨k1, _⟩
    · have e : j = l' := by omega
      rw [e] at h3
      exact h3 h0
    · omega
  refine ⟨⟨?_, ?_, ?_, ?_, ?_⟩, ?_, ?_, ?_, ?_, ?_, ?_, ?_, ?_⟩
  · rw [List.length_cons]
    rcases K with ⟨k0, x0, l', hl, el, h0⟩ | ⟨k1, k2, el, k4⟩
    · rw [bd_ins (P := fun j => decide (S 3 j ≠ 0)) (Q := fun j => decide (gPut S n k l X 3 j ≠ 0)) (x := l') (N := 6) hl (decide_eq_false (fun w => w h0)) (decide_eq_true (by rw [gPut_3, if_pos ⟨k0, el.symm⟩]; omega)) (fun q hq => by
        show decide (gPut S n k l X 3 q ≠ 0) = decide (S 3 q ≠ 0)
        rw [gPut_3, if_neg (fun w => hq (by omega))])]
      omega
    · rw [gCnt_congr (P := fun j => decide (gPut S n k l X 3 j ≠ 0)) (Q := fun j => decide (S 3 j ≠ 0)) (fun q _ => by
        show decide (gPut S n k l X 3 q ≠ 0) = decide (S 3 q ≠ 0)
        rw [gPut_3, if_neg (fun w => by omega)])]
      omega
  · rw [List.nodup_cons]
    exact ⟨fun w => by have := (mA n w).1; omega, nA⟩
  · intro q hq
    rcases List.mem_cons.mp hq with e | hq
    · rw [e, p5n]
      exact ⟨by omega, rfl⟩
    · have := mA q hq
      rw [p5 q this.1, if_neg (xA q hq)]
      exact ⟨by omega, this.2⟩
  · intro q hq hn'
    have e1 : q ≠ n := fun w => hn' (by rw [w]; exact List.mem_cons_self)
    have e2 : ¬ q ∈ A := fun w => hn' (List.mem_cons_of_mem n w)
    rw [p5 q (by omega)]
    by_cases c : q ∈ X
    · rw [if_pos c]
      have := (mX q c).1
      omega
    · rw [if_neg c]
      have := b4 q (by omega) (fun w => by
        rcases List.mem_append.mp w with w | w
        · exact c w
        · exact e2 w)
      omega
  · intro _
    exact ⟨A, rfl⟩
  · intro p hp
    by_cases e : p = n
    · rw [e, p4n]
      rcases K with ⟨k0, _⟩ | ⟨k1, k2, _⟩
      · omega
      · omega
    · rw [p4 p (by omega)]
      exact b6 p (by omega)
  · intro p hp h0
    by_cases e : p = n
    · rw [e, p4n] at h0
      rcases K with ⟨k0, x0, l', hl, el, h3⟩ | ⟨k1, _⟩
      · refine ⟨l', hl, ?_, ?_⟩
        · rw [e, p6n]; exact el
        · rw [gPut_3, if_pos ⟨k0, el.symm⟩, e]
      · omega
    · rw [p4 p (by omega)] at h0
      obtain ⟨j, j1, j2, j3⟩ := b7 p (by omega) h0
      exact ⟨j, j1, by rw [p6 p (by omega)]; exact j2, by rw [p3 j (by omega)]; exact j3⟩
  · intro p hp h4
    by_cases e : p = n
    · rw [e, p4n] at h4
      rcases K with ⟨k0, _⟩ | ⟨k1, k2, el, k4⟩
      · exact absurd k0 h4
      · refine ⟨by rw [e, p6n]; exact el, ?_⟩
        obtain ⟨x, X', eX⟩ : ∃ x X', X = x :: X' := by
          cases X with
          | nil => exact absurd k4 (by decide)
          | cons x X' => exact ⟨x, X', rfl⟩
        have hx : x ∈ X := by rw [eX]; exact List.mem_cons_self
        exact ⟨x, by have := (mX x hx).1; omega, by rw [p5 x (mX x hx).1, if_pos hx, e]⟩
    · rw [p4 p (by omega)] at h4
      obtain ⟨j1, q, q1, q2⟩ := b8 p (by omega) h4
      exact ⟨by rw [p6 p (by omega)]; exact j1, q, q1, (p5s p q (by omega) (by omega)).mpr q2⟩
  · intro p q hp hq h5
    by_cases e : q = n
    · rw [e, p5n] at h5; omega
    · have hq2 : q < n := by omega
      by_cases ep : p = n
      · rw [ep, p4n]
        rcases K with ⟨k0, x0, _⟩ | ⟨k1, _⟩
        · rw [p5 q hq2, if_neg (by rw [x0]; exact List.not_mem_nil)] at h5
          have := ar q hq2
          omega
        · omega
      · rw [p4 p (by omega)]
        exact b9 p q (by omega) hq2 ((p5s p q (by omega) hq2).mp h5)
  · intro p hp
    by_cases e : p = n
    · rw [e, p7n, gCnt_congr (P := fun q => decide (gPut S n k l X 5 q = (n : Int))) (Q := fun q => decide (q ∈ X)) (fun q hq => by
        show decide (gPut S n k l X 5 q = (n : Int)) = decide (q ∈ X)
        refine decide_eq_decide.mpr ?_
        rw [p5 q hq]
        by_cases c : q ∈ X
        · rw [if_pos c]
          exact ⟨fun _ => c, fun _ => rfl⟩
        · have := ar q hq
          rw [if_neg c]
          exact ⟨fun w => by omega, fun w => absurd w c⟩), bd_cnt X n nX (fun q hq => (mX q hq).1)]
    · rw [p7 p (by omega), b10 p (by omega), gCnt_congr (P := fun q => decide (gPut S n k l X 5 q = (p : Int))) (Q := fun q => decide (S 5 q = (p : Int))) (fun q hq => by
        show decide (gPut S n k l X 5 q = (p : Int)) = decide (S 5 q = (p : Int))
        exact decide_eq_decide.mpr (p5s p q (by omega) (by omega)))]
  · intro j hj
    have := b11 j hj
    rw [gPut_3]
    split
    · omega
    · omega
  · intro j hj h3
    by_cases w : k = 0 ∧ (j : Int) = l
    · have e3 : gPut S n k l X 3 j = (n : Int) + 1 := (gPut_3 S n k l X j).trans (if_pos w)
      rw [e3, show ((n : Int) + 1 - 1).toNat = n by omega, p4n, p6n]
      exact ⟨w.1, w.2.symm⟩
    · have e3 : gPut S n k l X 3 j = S 3 j := (gPut_3 S n k l X j).trans (if_neg w)
      rw [e3] at h3 ⊢
      have b := b11 j hj
      have r := b12 j hj h3
      obtain ⟨v, hv⟩ : ∃ v : Nat, S 3 j - 1 = v := ⟨(S 3 j - 1).toNat, by omega⟩
      rw [hv, Int.toNat_natCast] at r ⊢
      rw [p4 v (by omega), p6 v (by omega)]
      exact r
  · intro p hp
    by_cases e : p = n
    · rw [e, p8n, p4n]
    · rw [p8 p (by omega), p4 p (by omega)]
      exact b13 p (by omega)
theorem bd_lim {n : Nat} {S : gTb} {A : List Nat} (B : gB0 n S A) : n + A.length ≤ 12 := by
  have := B.1.1
  have := gCnt_le (fun l => decide (S 3 l ≠ 0)) 6
  omega
theorem bd_11 {n : Nat} {S : gTb} {A : List Nat} (B : gB0 n S A) : n ≤ 11 := by
  have lim := bd_lim B
  by_cases c : 0 < n
  · obtain ⟨A', e⟩ := B.1.2.2.2.2 c
    have l : A.length = A'.length + 1 := by rw [e]; exact List.length_cons
    omega
  · omega
theorem bd_limL {n : Nat} {S : gTb} {A : List Nat} {l : Nat} (B : gB0 n S A) (hl : l < 6) (h0 : S 3 l = 0) : n + A.length ≤ 10 := by
  have := bd_lim (bd_put (X := []) (A := A) (k := 0) (l := (l : Int)) B (Or.inl ⟨rfl, rfl, l, hl, rfl, h0⟩))
  rw [List.length_cons] at this
  omega
theorem bd_arm {n : Nat} {S : gTb} {A : List Nat} {l : Nat} (B : gB0 n S A) (hl : l < 6) (h0 : S 3 l = 0) : gB0 (n + 1) (gPut S n 0 l []) (n :: A) := bd_put (X := []) (A := A) (k := 0) (l := (l : Int)) B (Or.inl ⟨rfl, rfl, l, hl, rfl, h0⟩)
/-- parts are joined -/
def bdJ (n : Nat) (S : gTb) (k : Int) (X : List Nat) : Nat × gTb × List Nat := if X.length ≤ 1 then (n, S, X) else (n + 1, gPut S n k (-1) X, [n])
theorem bdJ_a {n : Nat} {S : gTb} {k : Int} {X : List Nat} (h : X.length ≤ 1) : bdJ n S k X = (n, S, X) := if_pos h
theorem bdJ_b {n : Nat} {S : gTb} {k : Int} {X : List Nat} (h : ¬ X.length ≤ 1) : bdJ n S k X = (n + 1, gPut S n k (-1) X, [n]) := if_neg h
theorem bdJ_w {n : Nat} {S : gTb} {k : Int} {X A : List Nat} (B : gB0 n S (X ++ A)) (hk : 1 ≤ k ∧ k ≤ 2) : gB0 (bdJ n S k X).1 (bdJ n S k X).2.1 ((bdJ n S k X).2.2 ++ A) := by
  by_cases c : X.length ≤ 1
  · rw [bdJ_a c]; exact B
  · rw [bdJ_b c]; exact bd_put B (Or.inr ⟨hk.1, hk.2, rfl, by omega⟩)
theorem bdJ_l {n : Nat} {S : gTb} {k : Int} {X : List Nat} (h : X ≠ []) : (bdJ n S k X).2.2.length = 1 := by
  by_cases c : X.length ≤ 1
  · rw [bdJ_a c]
    cases X with
    | nil => exact absurd rfl h
    | cons x X' =>
      have e : (x :: X').length = X'.length + 1 := List.length_cons
      show (x :: X').length = 1
      omega
  · rw [bdJ_b c]; rfl
theorem bdJ_3 {n : Nat} {S : gTb} {k : Int} {X : List Nat} (hk : 1 ≤ k) (j : Nat) : (bdJ n S k X).2.1 3 j = S 3 j := by
  by_cases c : X.length ≤ 1
  · rw [bdJ_a c]
  · rw [bdJ_b c]
    show gPut S n k (-1) X 3 j = S 3 j
    rw [gPut_3]
    exact if_neg (fun w => by omega)
theorem bdJ_o {n : Nat} {S : gTb} {k : Int} {X : List Nat} {w x : Nat} (h : w < 3 ∨ 8 < w) : (bdJ n S k X).2.1 w x = S w x := by
  by_cases c : X.length ≤ 1
  · rw [bdJ_a c]
  · rw [bdJ_b c]
    exact gPut_o h
/-- parts that stand open, by their depths: links and pieces of a depth, the deepest first -/
def bdA : List (List Nat × List Nat) → List Nat
  | [] => []
  | f :: r => f.2 ++ (f.1 ++ bdA r)
theorem bdA_c (f : List Nat × List Nat) (r : List (List Nat × List Nat)) : bdA (f :: r) = f.2 ++ (f.1 ++ bdA r) := rfl
theorem bd_sub {n : Nat} {S : gTb} {X A : List Nat} (B : gB0 n S (X ++ A)) : X.Nodup ∧ ∀ q, q ∈ X → q < n := by
  have b := B.1.2.1
  rw [List.nodup_append] at b
  exact ⟨b.1, fun q hq => (B.1.2.2.1 q (List.mem_append_left A hq)).1⟩
theorem bdL_w {n : Nat} {S : gTb} {L P : List Nat} {r : List (List Nat × List Nat)} (B : gB0 n S (bdA ((L, P) :: r))) : gB0 (bdJ n S 2 P).1 (bdJ n S 2 P).2.1 (((bdJ n S 2 P).2.2 ++ L) ++ bdA r) := by
  rw [List.append_assoc]
  exact bdJ_w (k := 2) (X := P) (A := L ++ bdA r) B (by omega)
theorem bdL_w' {n : Nat} {S : gTb} {L P : List Nat} {r : List (List Nat × List Nat)} (B : gB0 n S (bdA ((L, P) :: r))) : gB0 (bdJ n S 2 P).1 (bdJ n S 2 P).2.1 (bdA (((bdJ n S 2 P).2.2 ++ L, []) :: r)) := by
  show gB0 _ _ (([] : List Nat) ++ (((bdJ n S 2 P).2.2 ++ L) ++ bdA r))
  rw [List.nil_append]
  exact bdL_w B
/-- the chain of a depth ends -/
def bdC (n : Nat) (S : gTb) (L P : List Nat) : Nat × gTb × List Nat := bdJ (bdJ n S 2 P).1 (bdJ n S 2 P).2.1 1 ((bdJ n S 2 P).2.2 ++ L)
theorem bdC_w {n : Nat} {S : gTb} {L P : List Nat} {r : List (List Nat × List Nat)} (B : gB0 n S (bdA ((L, P) :: r))) : gB0 (bdC n S L P).1 (bdC n S L P).2.1 ((bdC n S L P).2.2 ++ bdA r) := bdJ_w (k := 1) (bdL_w B) (by omega)
theorem bdC_l {n : Nat} {S : gTb} {L P : List Nat} (h : P ≠ []) : (bdC n S L P).2.2.length = 1 := by
  refine bdJ_l (fun w => ?_)
  have l := bdJ_l (n := n) (S := S) (k := 2) h
  have l2 : ((bdJ n S 2 P).2.2 ++ L).length = 0 := by rw [w]; rfl
  rw [List.length_append] at l2
  omega
theorem bdC_3 {n : Nat} {S : gTb} {L P : List Nat} (j : Nat) : (bdC n S L P).2.1 3 j = S 3 j := (bdJ_3 (by omega) j).trans (bdJ_3 (by omega) j)
theorem bdC_o {n : Nat} {S : gTb} {L P : List Nat} {w x : Nat} (h : w < 3 ∨ 8 < w) : (bdC n S L P).2.1 w x = S w x := (bdJ_o h).trans (bdJ_o h)
/-- a network that is whole -/
theorem bd_wf {t n n0 c : Nat} {S S0 : gTb} {A : List Nat} (W : gWf t n0 c S0) (B : gB0 n S A) (hA : A.length ≤ 1) (h0 : 0 < n) (o : ∀ w x, w = 0 ∨ 8 < w → S w x = S0 w x) (o1 : ∀ l, S 1 l = 10) (o2 : ∀ l, S 2 l = 0) : gWf t n c S := by
  have lim := bd_lim B
  obtain ⟨⟨b1, b2, b3, b4, b5⟩, b6, b7, b8, b9, b10, b11, b12, b13⟩ := B
  obtain ⟨A', eA⟩ := b5 h0
  have lA : A.length = A'.length + 1 := by rw [eA]; exact List.length_cons
  have eA' : A' = [] := List.eq_nil_of_length_eq_zero (by omega)
  have mA : ∀ q, q ∈ A ↔ q = n - 1 := fun q => by rw [eA, eA']; exact List.mem_singleton
  obtain ⟨⟨w1, w2, w3, w4, w5, w6, w7, w8⟩, _⟩ := id W
  refine ⟨⟨by omega, w2, ?_, ?_, ?_, ?_, ?_, ?_⟩, b6, ?_, ?_, b7, b8, b9, b10, b11, ?_, ?_, ?_⟩
  · rw [o 0 1 (by omega)]; exact w3
  · rw [o 0 1 (by omega)]; exact w4
  · rw [o 0 2 (by omega)]; exact w5
  · rw [o 0 2 (by omega)]; exact w6
  · rw [o 0 3 (by omega)]; exact w7
  · rw [o 0 3 (by omega)]; exact w8
  · intro p hp
    exact b4 p (by omega) (fun w => by have := (mA p).mp w; omega)
  · intro p hp
    exact (b3 p ((mA p).mpr (by omega))).2
  · intro l hl h3
    have r := b12 l hl h3
    exact ⟨r.1, r.2, by rw [o1]; omega, by rw [o1]; omega, by rw [o2]; omega, by rw [o2]; omega⟩
  · intro p hp
    rw [b13 p hp]
    split
    · exact Or.inr rfl
    · exact Or.inl rfl
  · intro j hj
    rw [o 11 j (by omega)]
    exact W.ti hj
