/-! folds over the parts of a part -/
def gFo {α β : Type} (op : α → β → α) (e : α) (f : Nat → β) (P : Nat → Bool) : Nat → α
  | 0 => e
  | q + 1 => if P q = true then op (gFo op e f P q) (f q) else gFo op e f P q
theorem gFo_T {α β : Type} {op : α → β → α} {e : α} {f : Nat → β} {P : Nat → Bool} {q : Nat} (h : P q = true) : gFo op e f P (q + 1) = op (gFo op e f P q) (f q) := by rw [gFo, if_pos h]
theorem gFo_F {α β : Type} {op : α → β → α} {e : α} {f : Nat → β} {P : Nat → Bool} {q : Nat} (h : ¬ P q = true) : gFo op e f P (q + 1) = gFo op e f P q := by rw [gFo, if_neg h]
theorem gFo_congr {α β : Type} {op : α → β → α} {e : α} {f g : Nat → β} {P Q : Nat → Bool} {n : Nat} (h : ∀ q, q < n → P q = Q q ∧ (P q = true → f q = g q)) : gFo op e f P n = gFo op e g Q n := by
  induction n with
  | zero => rfl
  | succ n ih =>
    have h1 := h n (by omega)
    rw [gFo, gFo, ih (fun q hq => h q (by omega)), ← h1.1]
    by_cases c : P n = true
    · rw [if_pos c, if_pos c, h1.2 c]
    · rw [if_neg c, if_neg c]
/-- all but p -/
def gBut (P : Nat → Bool) (p : Nat) : Nat → Bool := fun q => P q && !decide (q = p)
theorem gFo_but {α β : Type} {op : α → β → α} {e : α} {f : Nat → β} {P : Nat → Bool} (rc : ∀ a b c, op (op a b) c = op (op a c) b) {p : Nat} (hp : P p = true) : ∀ n, p < n → gFo op e f P n = op (gFo op e f (gBut P p) n) (f p) := by
  intro n
  induction n with
  | zero => intro h; omega
  | succ n ih =>
    intro h
    by_cases c : p = n
    · subst c
      have e1 : ¬ gBut P p p = true := by simp [gBut]
      rw [gFo_T hp, gFo_F e1]
      congr 1
      refine gFo_congr fun q hq => ⟨?_, fun _ => rfl⟩
      have : decide (q = p) = false := decide_eq_false (by omega)
      simp [gBut, this]
    · have e0 : gBut P p n = P n := by
        have : decide (n = p) = false := decide_eq_false (by omega)
        simp [gBut, this]
      by_cases c2 : P n = true
      · rw [gFo_T c2, gFo_T (by rw [e0]; exact c2), ih (by omega), rc]
      · rw [gFo_F c2, gFo_F (by rw [e0]; exact c2), ih (by omega)]
/-- a sum of fractions, cancelled -/
def gSum (f : Nat → gQ) (P : Nat → Bool) : Nat → gQ := gFo iAdd (0, 1) f P
/-- the same, not cancelled -/
def gCb (a x : gQ) : gQ := (a.1 * x.2 + x.1 * a.2, a.2 * x.2)
def gAcc (f : Nat → gQ) (P : Nat → Bool) : Nat → gQ := gFo gCb (0, 1) f P
theorem gCb_rc (a b c : gQ) : gCb (gCb a b) c = gCb (gCb a c) b := by
  refine Prod.ext ?_ ?_
  · show (a.1 * b.2 + b.1 * a.2) * c.2 + c.1 * (a.2 * b.2) = (a.1 * c.2 + c.1 * a.2) * b.2 + b.1 * (a.2 * c.2)
    rw [Nat.add_mul, Nat.add_mul, Nat.add_right_comm]
    congr 1
    · congr 1 <;> ac_rfl
    · ac_rfl
  · show a.2 * b.2 * c.2 = a.2 * c.2 * b.2
    ac_rfl
theorem iAdd_rc (a b c : gQ) : iAdd (iAdd a b) c = iAdd (iAdd a c) b := by
  rw [iAdd_assoc, iAdd_comm b c, ← iAdd_assoc]
/-- the products of weights -/
def gPro (f : Nat → Nat) (P : Nat → Bool) : Nat → Nat := gFo (fun a b => a * b) 1 f P
theorem gSum_0 {f : Nat → gQ} {P : Nat → Bool} : gSum f P 0 = (0, 1) := rfl
theorem gSum_T {f : Nat → gQ} {P : Nat → Bool} {q : Nat} (h : P q = true) : gSum f P (q + 1) = iAdd (gSum f P q) (f q) := gFo_T h
theorem gSum_F {f : Nat → gQ} {P : Nat → Bool} {q : Nat} (h : ¬ P q = true) : gSum f P (q + 1) = gSum f P q := gFo_F h
theorem gSum_congr {f g : Nat → gQ} {P Q : Nat → Bool} {n : Nat} (h : ∀ q, q < n → P q = Q q ∧ (P q = true → f q = g q)) : gSum f P n = gSum g Q n := gFo_congr h
theorem gSum_but {f : Nat → gQ} {P : Nat → Bool} {p : Nat} (hp : P p = true) (n : Nat) (h : p < n) : gSum f P n = iAdd (gSum f (gBut P p) n) (f p) := gFo_but iAdd_rc hp n h
theorem gAcc_0 {f : Nat → gQ} {P : Nat → Bool} : gAcc f P 0 = (0, 1) := rfl
theorem gAcc_T {f : Nat → gQ} {P : Nat → Bool} {q : Nat} (h : P q = true) : gAcc f P (q + 1) = gCb (gAcc f P q) (f q) := gFo_T h
theorem gAcc_F {f : Nat → gQ} {P : Nat → Bool} {q : Nat} (h : ¬ P q = true) : gAcc f P (q + 1) = gAcc f P q := gFo_F h
theorem gAcc_congr {f g : Nat → gQ} {P Q : Nat → Bool} {n : Nat} (h : ∀ q, q < n → P q = Q q ∧ (P q = true → f q = g q)) : gAcc f P n = gAcc g Q n := gFo_congr h
theorem gAcc_but {f : Nat → gQ} {P : Nat → Bool} {p : Nat} (hp : P p = true) (n : Nat) (h : p < n) : gAcc f P n = gCb (gAcc f (gBut P p) n) (f p) := gFo_but gCb_rc hp n h
theorem gPro_0 {f : Nat → Nat} {P : Nat → Bool} : gPro f P 0 = 1 := rfl
theorem gPro_T {f : Nat → Nat} {P : Nat → Bool} {q : Nat} (h : P q = true) : gPro f P (q + 1) = gPro f P q * f q := gFo_T h
theorem gPro_F {f : Nat → Nat} {P : Nat → Bool} {q : Nat} (h : ¬ P q = true) : gPro f P (q + 1) = gPro f P q := gFo_F h
theorem gPro_congr {f g : Nat → Nat} {P Q : Nat → Bool} {n : Nat} (h : ∀ q, q < n → P q = Q q ∧ (P q = true → f q = g q)) : gPro f P n = gPro g Q n := gFo_congr h
theorem gPro_but {f : Nat → Nat} {P : Nat → Bool} {p : Nat} (hp : P p = true) (n : Nat) (h : p < n) : gPro f P n = gPro f (gBut P p) n * f p := gFo_but (fun a b c => Nat.mul_right_comm a b c) hp n h
theorem gSum_G {f : Nat → gQ} {P : Nat → Bool} (n : Nat) : nG (gSum f P n) := by
  induction n with
  | zero => exact nG_one' 0
  | succ n ih =>
    by_cases c : P n = true
    · rw [gSum_T c]; exact iAdd_G
    · rw [gSum_F c]; exact ih
/-- the sum is what the sum that is not cancelled says -/
theorem gSum_V {f g : Nat → gQ} {P : Nat → Bool} : ∀ (n : Nat), (∀ q, q < n → P q = true → nV (f q) (g q).1 (g q).2) → ((gAcc g P n).2 = 0 ∧ gSum f P n = (1, 0)) ∨ (0 < (gAcc g P n).2 ∧ nV (gSum f P n) (gAcc g P n).1 (gAcc g P n).2) := by
  intro n
  induction n with
  | zero => intro _; exact Or.inr ⟨Nat.zero_lt_one, nV_self (0, 1)⟩
  | succ n ih =>
    intro h
    have h1 := ih (fun q hq => h q (by omega))
    by_cases c : P n = true
    · rw [gAcc_T c, gSum_T c]
      have hv := h n (by omega) c
      have hz := (nV_z hv).2
      show ((gAcc g P n).2 * (g n).2 = 0 ∧ _) ∨ (0 < (gAcc g P n).2 * (g n).2 ∧ nV _ ((gAcc g P n).1 * (g n).2 + (g n).1 * (gAcc g P n).2) ((gAcc g P n).2 * (g n).2))
      rcases h1 with ⟨a, b⟩ | ⟨a, b⟩
      · left
        rw [a, Nat.zero_mul, b]
        exact ⟨rfl, iAdd_inf (Or.inl rfl)⟩
      · by_cases d : (g n).2 = 0
        · left
          rw [d, Nat.mul_zero]
          exact ⟨rfl, iAdd_inf (Or.inr (hz.mpr d))⟩
        · right
          have d0 : 0 < (g n).2 := by omega
          exact ⟨Nat.mul_pos a d0, nV_add b hv a d0⟩
    · rw [gAcc_F c, gSum_F c]
      exact h1
/-- a bound -/
theorem gAcc_le {g : Nat → gQ} {w : Nat → Nat} {P : Nat → Bool} : ∀ (n : Nat), (∀ q, q < n → P q = true → (g q).1 + (g q).2 ≤ w q) → (gAcc g P n).1 + (gAcc g P n).2 ≤ gPro w P n := by
  intro n
  induction n with
  | zero => intro _; exact Nat.le_refl _
  | succ n ih =>
    intro h
    have h1 := ih (fun q hq => h q (by omega))
    by_cases c : P n = true
    · rw [gAcc_T c, gPro_T c]
      have hv := h n (by omega) c
      have h2 := Nat.mul_le_mul h1 hv
      refine Nat.le_trans ?_ h2
      show (gAcc g P n).1 * (g n).2 + (g n).1 * (gAcc g P n).2 + (gAcc g P n).2 * (g n).2 ≤ _
      generalize (gAcc g P n).1 = a
      generalize (gAcc g P n).2 = b
      generalize (g n).1 = x
      generalize (g n).2 = y
      rw [Nat.add_mul, Nat.mul_add, Nat.mul_add, Nat.mul_comm x b]
      omega
    · rw [gAcc_F c, gPro_F c]
      exact h1
/-! tables that are made from the first part on -/
def gTab {α : Type} (d : α) (step : (Nat → α) → Nat → α) : Nat → (Nat → α)
  | 0 => fun _ => d
  | i + 1 => fun p => if p = i then step (gTab d step i) i else gTab d step i p
theorem gTab_lt {α : Type} {d : α} {step : (Nat → α) → Nat → α} {p : Nat} : ∀ i, p < i → gTab d step i p = gTab d step (p + 1) p := by
  intro i
  induction i with
  | zero => intro h; omega
  | succ i ih =>
    intro h
    by_cases c : p = i
    · rw [c]
    · show (if p = i then step (gTab d step i) i else gTab d step i p) = _
      rw [if_neg c, ih (by omega)]
theorem gTab_e {α : Type} {d : α} {step : (Nat → α) → Nat → α} (hs : ∀ (T T' : Nat → α) (p : Nat), (∀ q, q < p → T q = T' q) → step T p = step T' p) {p n : Nat} (h : p < n) : gTab d step n p = step (gTab d step n) p := by
  rw [gTab_lt n h]
  show (if p = p then step (gTab d step p) p else _) = _
  rw [if_pos rfl]
  refine hs _ _ _ fun q hq => ?_
  rw [gTab_lt p hq, gTab_lt n (by omega)]
/-! resistances; x is the part at which the meter is (-1: none) -/
def gSon (S : gTb) (p : Nat) : Nat → Bool := fun q => decide (S 5 q = p)
def bArm (S : gTb) (p : Nat) : gQ := if S 2 (S 6 p).toNat = 0 then ((S 1 (S 6 p).toNat).toNat, 1) else if S 2 (S 6 p).toNat = 1 then (1, 0) else (0, 1)
def bRaw (S : gTb) (T : Nat → gQ) (p : Nat) : gQ := if S 4 p = 0 then bArm S p else if S 4 p = 1 then gSum T (gSon S p) p else iInv (gSum (fun q => iInv (T q)) (gSon S p) p)
def bMet (S : gTb) (r : gQ) : gQ := iInv (iAdd (iInv r) (1, (S 0 2).toNat))
def bPart (S : gTb) (x : Int) (T : Nat → gQ) (p : Nat) : gQ := if (p : Int) = x then bMet S (bRaw S T p) else bRaw S T p
theorem bRaw_congr {S : gTb} {T T' : Nat → gQ} {p : Nat} (h : ∀ q, q < p → gSon S p q = true → T q = T' q) : bRaw S T p = bRaw S T' p := by
  unfold bRaw
  rw [gSum_congr (f := T) (g := T') (P := gSon S p) (Q := gSon S p) fun q hq => ⟨rfl, fun c => h q hq c⟩, gSum_congr (f := fun q => iInv (T q)) (g := fun q => iInv (T' q)) (P := gSon S p) (Q := gSon S p) fun q hq => ⟨rfl, fun c => by rw [h q hq c]⟩]
theorem bPart_congr {S : gTb} {x : Int} (T T' : Nat → gQ) (p : Nat) (h : ∀ q, q < p → T q = T' q) : bPart S x T p = bPart S x T' p := by
  unfold bPart
  rw [bRaw_congr (fun q hq _ => h q hq)]
def rR (S : gTb) (x : Int) (n : Nat) : Nat → gQ := gTab (0, 1) (bPart S x) n
theorem rR_e {S : gTb} {x : Int} {n p : Nat} (h : p < n) : rR S x n p = bPart S x (rR S x n) p := gTab_e bPart_congr h
/-- not cancelled -/
def uRaw (S : gTb) (T : Nat → gQ) (p : Nat) : gQ := if S 4 p = 0 then bArm S p else if S 4 p = 1 then (if (gAcc T (gSon S p) p).2 = 0 then (1, 0) else gAcc T (gSon S p) p) else (if (gAcc (fun q => iInv (T q)) (gSon S p) p).2 = 0 then (0, 1) else iInv (gAcc (fun q => iInv (T q)) (gSon S p) p))
def uMet (S : gTb) (r : gQ) : gQ := (r.1 * (S 0 2).toNat, r.2 * (S 0 2).toNat + r.1)
def uPart (S : gTb) (x : Int) (T : Nat → gQ) (p : Nat) : gQ := if (p : Int) = x then uMet S (uRaw S T p) else uRaw S T p
theorem uRaw_congr {S : gTb} {T T' : Nat → gQ} {p : Nat} (h : ∀ q, q < p → gSon S p q = true → T q = T' q) : uRaw S T p = uRaw S T' p := by
  unfold uRaw
  rw [gAcc_congr (f := T) (g := T') (P := gSon S p) (Q := gSon S p) fun q hq => ⟨rfl, fun c => h q hq c⟩, gAcc_congr (f := fun q => iInv (T q)) (g := fun q => iInv (T' q)) (P := gSon S p) (Q := gSon S p) fun q hq => ⟨rfl, fun c => by rw [h q hq c]⟩]
theorem uPart_congr {S : gTb} {x : Int} (T T' : Nat → gQ) (p : Nat) (h : ∀ q, q < p → T q = T' q) : uPart S x T p = uPart S x T' p := by
  unfold uPart
  rw [uRaw_congr (fun q hq _ => h q hq)]
def rU (S : gTb) (x : Int) (n : Nat) : Nat → gQ := gTab (0, 1) (uPart S x) n
theorem rU_e {S : gTb} {x : Int} {n p : Nat} (h : p < n) : rU S x n p = uPart S x (rU S x n) p := gTab_e uPart_congr h
/-- weights: b an arm, multiplied by y where the meter is -/
def wPart (S : gTb) (b y : Nat) (x : Int) (T : Nat → Nat) (p : Nat) : Nat := (if S 4 p = 0 then b else gPro T (gSon S p) p) * (if (p : Int) = x then y else 1)
theorem wPart_congr {S : gTb} {b y : Nat} {x : Int} (T T' : Nat → Nat) (p : Nat) (h : ∀ q, q < p → T q = T' q) : wPart S b y x T p = wPart S b y x T' p := by
  unfold wPart
  rw [gPro_congr (f := T) (g := T') (P := gSon S p) (Q := gSon S p) fun q hq => ⟨rfl, fun c => h q hq⟩]
def rW (S : gTb) (b y : Nat) (x : Int) (n : Nat) : Nat → Nat := gTab 1 (wPart S b y x) n
theorem rW_e {S : gTb} {b y : Nat} {x : Int} {n p : Nat} (h : p < n) : rW S b y x n p = wPart S b y x (rW S b y x n) p := gTab_e wPart_congr h
theorem bArm_G (S : gTb) (p : Nat) : nG (bArm S p) := by
  unfold bArm
  split
  · exact nG_one' _
  · split
    · exact nG_one 0
    · exact nG_one' 0
theorem bRaw_G (S : gTb) (T : Nat → gQ) (p : Nat) : nG (bRaw S T p) := by
  unfold bRaw
  split
  · exact bArm_G S p
  · split
    · exact gSum_G p
    · exact iInv_G (gSum_G p)
theorem rR_G {S : gTb} {x : Int} {n p : Nat} (h : p < n) : nG (rR S x n p) := by
  rw [rR_e h]
  unfold bPart
  split
  · exact iInv_G iAdd_G
  · exact bRaw_G S _ p
theorem nV_inv {x : gQ} {N D : Nat} (h : nV x N D) : nV (iInv x) D N := by
  obtain ⟨k, hk, a, b⟩ := h
  exact ⟨k, hk, b, a⟩
/-- the meter -/
theorem met_V {r : gQ} {P Q m : Nat} (hm : 0 < m) (hr : nG r) (h : nV r P Q) : nV (iInv (iAdd (iInv r) (1, m))) (P * m) (Q * m + P) := by
  by_cases c : P = 0
  · have h1 : r.1 = 0 := (nV_z h).1.mpr c
    have h2 := nG_zero hr h1
    rw [h2, c, iAdd_inf (Or.inl rfl)]
    have hq := nV_ne hr h
    exact nV_inv ⟨Q * m, Nat.mul_pos (by omega) hm, by simp, by simp⟩
  · have h1 := nV_add (nV_inv h) (nV_self (1, m)) (by omega) hm
    try dsimp only at h1
    rw [Nat.one_mul] at h1
    exact nV_inv h1
/-- every resistance is what the fraction that is not cancelled says -/
theorem rR_V {t n c : Nat} {S : gTb} (W : gWf t n c S) {x : Int} : ∀ (k p : Nat), p < k → p < n → nV (rR S x n p) (rU S x n p).1 (rU S x n p).2 := by
  intro k
  induction k with
  | zero => intro p h; omega
  | succ k ih =>
    intro p hk hp
    have hm : 0 < (S 0 2).toNat := by have := W.1; omega
    have hI : ∀ q, q < p → gSon S p q = true → nV (rR S x n q) (rU S x n q).1 (rU S x n q).2 := fun q hq _ => ih q (by omega) (by omega)
    have key : nV (bRaw S (rR S x n) p) (uRaw S (rU S x n) p).1 (uRaw S (rU S x n) p).2 := by
      unfold bRaw uRaw
      by_cases c0 : S 4 p = 0
      · rw [if_pos c0, if_pos c0]; exact nV_self _
      · rw [if_neg c0, if_neg c0]
        by_cases c1 : S 4 p = 1
        · rw [if_pos c1, if_pos c1]
          rcases gSum_V p hI with ⟨a, b⟩ | ⟨a, b⟩
          · rw [if_pos a, b]; exact nV_self (1, 0)
          · rw [if_neg (by omega)]; exact b
        · rw [if_neg c1, if_neg c1]
          rcases gSum_V (f := fun q => iInv (rR S x n q)) (g := fun q => iInv (rU S x n q)) p (fun q hq c => nV_inv (hI q hq c)) with ⟨a, b⟩ | ⟨a, b⟩
          · rw [if_pos a, b]; exact nV_self (0, 1)
          · rw [if_neg (by omega)]; exact nV_inv b
    rw [rR_e hp, rU_e hp]
    unfold bPart uPart
    by_cases cx : (p : Int) = x
    · rw [if_pos cx, if_pos cx]
      exact met_V hm (bRaw_G S _ p) key
    · rw [if_neg cx, if_neg cx]
      exact key
theorem bArm_le {t n c : Nat} {S : gTb} (W : gWf t n c S) {p : Nat} (hp : p < n) (h0 : S 4 p = 0) : (bArm S p).1 + (bArm S p).2 ≤ 100 := by
  obtain ⟨l, h1, h2, h3⟩ := W.am hp h0
  have b := W.lt h1 (by omega)
  have e : (S 6 p).toNat = l := by omega
  unfold bArm
  rw [e]
  split
  · show (S 1 l).toNat + 1 ≤ 100
    omega
  · split <;> decide
/-- and they are small -/
theorem rU_le {t n c : Nat} {S : gTb} (W : gWf t n c S) {x : Int} : ∀ (k p : Nat), p < k → p < n → (rU S x n p).1 + (rU S x n p).2 ≤ rW S 100 1000 x n p := by
  intro k
  induction k with
  | zero => intro p h; omega
  | succ k ih =>
    intro p hk hp
    have hm : (S 0 2).toNat ≤ 999 := by have := W.1; omega
    have hI : ∀ q, q < p → gSon S p q = true → (rU S x n q).1 + (rU S x n q).2 ≤ rW S 100 1000 x n q := fun q hq _ => ih q (by omega) (by omega)
    have hI2 : ∀ q, q < p → gSon S p q = true → (iInv (rU S x n q)).1 + (iInv (rU S x n q)).2 ≤ rW S 100 1000 x n q := fun q hq c => by
      have := hI q hq c
      show (rU S x n q).2 + (rU S x n q).1 ≤ _
      omega
    have w1 : ∀ q, q < p → gSon S p q = true → 1 ≤ rW S 100 1000 x n q := fun q hq c => by
      have h1 := hI q hq c
      have h2 := nV_ne (rR_G (by omega)) (rR_V W n q (by omega) (by omega) (x := x))
      omega
    have pp : 1 ≤ gPro (rW S 100 1000 x n) (gSon S p) p := by
      have : ∀ i, i ≤ p → 1 ≤ gPro (rW S 100 1000 x n) (gSon S p) i := by
        intro i
        induction i with
        | zero => intro _; exact Nat.le_refl _
        | succ i ih2 =>
          intro hi
          by_cases c : gSon S p i = true
          · rw [gPro_T c]
            exact Nat.mul_pos (ih2 (by omega)) (w1 i (by omega) c)
          · rw [gPro_F c]; exact ih2 (by omega)
      exact this p (Nat.le_refl _)
    have key : (uRaw S (rU S x n) p).1 + (uRaw S (rU S x n) p).2 ≤ (if S 4 p = 0 then 100 else gPro (rW S 100 1000 x n) (gSon S p) p) := by
      unfold uRaw
      by_cases c0 : S 4 p = 0
      · rw [if_pos c0, if_pos c0]; exact bArm_le W hp c0
      · rw [if_neg c0, if_neg c0]
        by_cases c1 : S 4 p = 1
        · rw [if_pos c1]
          have h1 := gAcc_le p hI
          split
          · exact pp
          · exact h1
        · rw [if_neg c1]
          have h1 := gAcc_le p hI2
          split
          · exact pp
          · show (gAcc (fun q => iInv (rU S x n q)) (gSon S p) p).2 + (gAcc (fun q => iInv (rU S x n q)) (gSon S p) p).1 ≤ _
            omega
    rw [rU_e hp, rW_e hp]
    unfold uPart wPart
    by_cases cx : (p : Int) = x
    · rw [if_pos cx, if_pos cx]
      refine Nat.le_trans ?_ (Nat.mul_le_mul_right 1000 key)
      generalize uRaw S (rU S x n) p = u
      show u.1 * (S 0 2).toNat + (u.2 * (S 0 2).toNat + u.1) ≤ _
      have h1 := Nat.mul_le_mul_left u.1 hm
      have h2 := Nat.mul_le_mul_left u.2 hm
      omega
    · rw [if_neg cx, if_neg cx, Nat.mul_one]
      exact key
