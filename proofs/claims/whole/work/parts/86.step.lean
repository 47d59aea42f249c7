/-! what is wanted of an arm, level by level -/
/-- what is left of t when s is taken off (none: less than nothing) -/
def dS (t s : gQ) : Option gQ := if t.2 = 0 then some (1, 0) else if t.1 * s.2 < s.1 * t.2 then none else some (nRed (t.1 * s.2 - s.1 * t.2) (t.2 * s.2))
theorem dS_G {t s u : gQ} (hs : 0 < s.2) (h : dS t s = some u) : nG u := by
  unfold dS at h
  by_cases c : t.2 = 0
  · rw [if_pos c] at h
    rw [← Option.some.inj h]
    exact nG_one 0
  · rw [if_neg c] at h
    by_cases d : t.1 * s.2 < s.1 * t.2
    · rw [if_pos d] at h; cases h
    · rw [if_neg d] at h
      rw [← Option.some.inj h]
      exact nRed_G (fun w => by have := Nat.mul_pos (Nat.pos_of_ne_zero c) hs; omega)
theorem dS_eq {t s r : gQ} (gt : nG t) (gr : nG r) (hs : 0 < s.2) : t = iAdd s r ↔ dS t s = some r := by
  unfold dS
  by_cases c : t.2 = 0
  · rw [if_pos c]
    have t1 := nG_inf gt c
    constructor
    · intro e
      have z : (iAdd s r).2 = 0 := by rw [← e]; exact c
      rw [iAdd_z] at z
      have r0 : r.2 = 0 := by omega
      rw [nG_inf gr r0]
    · intro e
      have e := Option.some.inj e
      rw [t1, iAdd_inf (Or.inr (by rw [← e]))]
  · rw [if_neg c]
    have c0 := Nat.pos_of_ne_zero c
    have yp := Nat.mul_pos c0 hs
    have ne : ¬ (t.1 * s.2 - s.1 * t.2 = 0 ∧ t.2 * s.2 = 0) := fun w => by omega
    by_cases r0 : r.2 = 0
    · constructor
      · intro e
        rw [iAdd_inf (Or.inr r0)] at e
        rw [e] at c
        exact absurd rfl c
      · intro e
        by_cases d : t.1 * s.2 < s.1 * t.2
        · rw [if_pos d] at e; cases e
        · rw [if_neg d] at e
          have e := Option.some.inj e
          have z := (nV_z (nRed_V ne)).2
          rw [e] at z
          have := z.mp r0
          omega
    · have rp := Nat.pos_of_ne_zero r0
      have iv := iAdd_V (x := s) (y := r) hs rp
      constructor
      · intro e
        rw [← e] at iv
        have cr := nV_cross iv
        have k1 : t.1 * s.2 * r.2 = s.1 * t.2 * r.2 + r.1 * (t.2 * s.2) := by
          have a1 : t.1 * s.2 * r.2 = s.2 * r.2 * t.1 := by rw [Nat.mul_assoc, Nat.mul_comm]
          rw [a1, ← cr, Nat.add_mul, Nat.mul_right_comm s.1 r.2 t.2, Nat.mul_assoc r.1 s.2 t.2, Nat.mul_comm s.2 t.2]
        have d : ¬ t.1 * s.2 < s.1 * t.2 := fun w => by
          have := Nat.mul_lt_mul_of_pos_right w rp
          omega
        rw [if_neg d]
        congr 1
        refine nV_uniq (nRed_G ne) gr (nRed_V ne) (nV_mk gr ne ?_)
        rw [Nat.sub_mul, k1, Nat.add_sub_cancel_left, Nat.mul_comm]
      · intro e
        by_cases d : t.1 * s.2 < s.1 * t.2
        · rw [if_pos d] at e; cases e
        · rw [if_neg d] at e
          have e := Option.some.inj e
          have v := nRed_V ne
          rw [e] at v
          have cr := nV_cross v
          rw [Nat.sub_mul] at cr
          have le : s.1 * t.2 * r.2 ≤ t.1 * s.2 * r.2 := Nat.mul_le_mul_right r.2 (by omega)
          have sp := Nat.mul_pos hs rp
          refine nV_uniq gt iAdd_G (nV_mk gt (fun w => by omega) ?_) iv
          have k1 : t.1 * s.2 * r.2 = s.1 * t.2 * r.2 + t.2 * s.2 * r.1 := by omega
          have a1 : s.2 * r.2 * t.1 = t.1 * s.2 * r.2 := by rw [Nat.mul_comm, Nat.mul_assoc]
          rw [a1, k1, Nat.add_mul, Nat.mul_right_comm s.1 r.2 t.2]
          congr 1
          rw [Nat.mul_comm (t.2 * s.2) r.1, Nat.mul_assoc, Nat.mul_comm s.2 t.2]
/-- conductance in place of resistance, where the combination is a parallel one -/
def gVw (S : gTb) (v : Nat) (q : gQ) : gQ := if decide (S 4 v = 2) = true then iInv q else q
theorem gVw_2 {S : gTb} {v : Nat} (h : S 4 v = 2) (q : gQ) : gVw S v q = iInv q := if_pos (decide_eq_true h)
theorem gVw_1 {S : gTb} {v : Nat} (h : S 4 v ≠ 2) (q : gQ) : gVw S v q = q := if_neg (fun w => h (of_decide_eq_true w))
theorem gVw_G {S : gTb} {v : Nat} {q : gQ} (h : nG q) : nG (gVw S v q) := by
  by_cases c : S 4 v = 2
  · rw [gVw_2 c]; exact iInv_G h
  · rw [gVw_1 c]; exact h
theorem gVw_vw (S : gTb) (v : Nat) (q : gQ) : gVw S v (gVw S v q) = q := by
  by_cases c : S 4 v = 2
  · rw [gVw_2 c, gVw_2 c, iInv_iInv]
  · rw [gVw_1 c, gVw_1 c]
theorem gVw_inj {S : gTb} {v : Nat} {q r : gQ} (h : gVw S v q = gVw S v r) : q = r := by
  have := congrArg (gVw S v) h
  rw [gVw_vw, gVw_vw] at this
  exact this
/-- what stands beside j in v -/
def sO (S : gTb) (n v j : Nat) : gQ := gSum (fun q => gVw S v (rR S (-1) n q)) (gBut (gSon S v) j) v
theorem sO_G (S : gTb) (n v j : Nat) : nG (sO S n v j) := gSum_G v
theorem sO_lv {t n c : Nat} {S : gTb} (W : gWf t n c S) {v j : Nat} (hv : v < n) (hj : j < v) (h5 : S 5 j = v) (h4 : S 4 v ≠ 0) : gVw S v (rR S (-1) n v) = iAdd (sO S n v j) (gVw S v (rR S (-1) n j)) := by
  have hp : gSon S v j = true := decide_eq_true h5
  have hb := gSum_but (f := fun q => gVw S v (rR S (-1) n q)) hp v hj
  have kd := W.kd hv
  unfold sO
  rw [← hb, rR_e hv]
  have e : bPart S (-1) (rR S (-1) n) v = bRaw S (rR S (-1) n) v := if_neg (by omega)
  rw [e]
  by_cases c2 : S 4 v = 2
  · have e2 : bRaw S (rR S (-1) n) v = iInv (gSum (fun q => iInv (rR S (-1) n q)) (gSon S v) v) := by
      unfold bRaw
      rw [if_neg h4, if_neg (by omega)]
    rw [e2, gVw_2 c2, iInv_iInv]
    exact gSum_congr fun q hq => ⟨rfl, fun _ => (gVw_2 c2 _).symm⟩
  · have e1 : bRaw S (rR S (-1) n) v = gSum (rR S (-1) n) (gSon S v) v := by
      unfold bRaw
      rw [if_neg h4, if_pos (by omega)]
    rw [e1, gVw_1 c2]
    exact gSum_congr fun q hq => ⟨rfl, fun _ => (gVw_1 c2 _).symm⟩
/-- the next one down the way has this one around it -/
theorem way_par {t n c : Nat} {S : gTb} (W : gWf t n c S) {p v j : Nat} (hp : p < n) (hv : gOn S p v = true) (hj : gOn S p j = true) (hlt : j < v) (hno : ∀ i, j < i → i < v → gOn S p i = false) : S 5 j = v := by
  have vn := gOn_lt W hp hv
  have jn := gOn_lt W hp hj
  rcases W.ar jn.2 with ⟨a1, a2, a3⟩ | ⟨a1, a2⟩
  · obtain ⟨u, hu⟩ : ∃ u : Nat, S 5 j = u := ⟨(S 5 j).toNat, by omega⟩
    have on := gOn_up W hu n p hp (by omega) hj
    have c1 := gOn_ch W n p hp (by omega) hj hv (by omega)
    rw [gOn_nx W jn.2 hu, decide_eq_false (by omega), Bool.false_or] at c1
    have un : u < n := by omega
    have le := gOn_lt W un c1
    by_cases e : u < v
    · have := hno u (by omega) e
      rw [on] at this
      exact absurd this (by decide)
    · rw [hu]; omega
  · omega
/-- down the way from what is wanted: 1 and what the arm must be; 0 no way; 2 all the same -/
def gWk (S : gTb) (n p : Nat) : Nat → gQ → Int × gQ
  | 0, t => (1, t)
  | k + 1, t => if gOn S p (p + k) = true then (if (sO S n (S 5 (p + k)).toNat (p + k)).2 = 0 then (if (gVw S (S 5 (p + k)).toNat t).2 = 0 then (2, t) else (0, t)) else ((dS (gVw S (S 5 (p + k)).toNat t) (sO S n (S 5 (p + k)).toNat (p + k))).elim (0, t) fun u => gWk S n p k (gVw S (S 5 (p + k)).toNat u))) else gWk S n p k t
/-- the arm does not matter -/
def gAb (S : gTb) (n p : Nat) : Nat → Bool
  | 0 => false
  | k + 1 => (gOn S p (p + k) && decide ((sO S n (S 5 (p + k)).toNat (p + k)).2 = 0)) || gAb S n p k
theorem gWk_ab {t n c : Nat} {S : gTb} (W : gWf t n c S) {p : Nat} (hp : p < n) : ∀ (k v : Nat) (w : gQ), nG w → gOn S p v = true → p + k ≤ v → (∀ j, p + k ≤ j → j < v → gOn S p j = false) → gAb S n p k = true → (gWk S n p k w).1 = if w = rR S (-1) n v then 2 else 0 := by
  intro k
  induction k with
  | zero => intro v w gw hv hk hno ha; exact absurd ha Bool.false_ne_true
  | succ k ih =>
    intro v w gw hv hk hno ha
    have vn := gOn_lt W hp hv
    rw [gWk]
    rw [gAb] at ha
    by_cases on : gOn S p (p + k) = true
    · have h5 := way_par W hp hv on (by omega) (fun i h1 h2 => hno i (by omega) h2)
      have h4 := W.so vn.2 (gOn_lt W hp on).2 h5
      have lv := sO_lv W vn.2 (j := p + k) (by omega) h5 h4
      rw [if_pos on, h5, Int.toNat_natCast]
      rw [on, Bool.true_and, h5, Int.toNat_natCast] at ha
      by_cases z : (sO S n v (p + k)).2 = 0
      · rw [if_pos z]
        rw [iAdd_inf (Or.inl z)] at lv
        by_cases e : (gVw S v w).2 = 0
        · have : w = rR S (-1) n v := gVw_inj ((nG_inf (gVw_G gw) e).trans lv.symm)
          rw [if_pos e, if_pos this]
        · have : ¬ w = rR S (-1) n v := fun x => by rw [x, lv] at e; exact e rfl
          rw [if_neg e, if_neg this]
      · rw [if_neg z]
        rw [decide_eq_false z, Bool.false_or] at ha
        have sp := Nat.pos_of_ne_zero z
        have gR : nG (rR S (-1) n (p + k)) := rR_G (gOn_lt W hp on).2
        have key := dS_eq (t := gVw S v w) (s := sO S n v (p + k)) (r := gVw S v (rR S (-1) n (p + k))) (gVw_G gw) (gVw_G gR) sp
        rw [← lv] at key
        cases hd : dS (gVw S v w) (sO S n v (p + k)) with
        | none =>
          have : ¬ w = rR S (-1) n v := fun x => by
            have := key.mp (by rw [x])
            rw [hd] at this
            cases this
          rw [if_neg this]
          rfl
        | some u =>
          show (gWk S n p k (gVw S v u)).1 = _
          rw [ih (p + k) (gVw S v u) (gVw_G (dS_G sp hd)) on (by omega) (fun j h1 h2 => absurd h2 (by omega)) ha]
          rw [hd] at key
          by_cases e : w = rR S (-1) n v
          · have q := key.mp (by rw [e])
            have q := Option.some.inj q
            rw [if_pos e, if_pos (by rw [q, gVw_vw])]
          · rw [if_neg e, if_neg]
            intro x
            refine e (gVw_inj (key.mpr ?_))
            rw [← x, gVw_vw]
    · have off : gOn S p (p + k) = false := by
        cases hh : gOn S p (p + k) with
        | true => exact absurd hh on
        | false => rfl
      rw [if_neg on]
      rw [off, Bool.false_and, Bool.false_or] at ha
      exact ih v w gw hv (by omega) (fun j h1 h2 => by
        by_cases e : j = p + k
        · rw [e]; exact off
        · exact hno j (by omega) h2) ha
/-- from an infinite one: no way, or infinite still -/
theorem gWk_inf {n p : Nat} {S : gTb} : ∀ (k : Nat), gAb S n p k = false → (gWk S n p k (1, 0)).1 = 0 ∨ gWk S n p k (1, 0) = (1, (1, 0)) := by
  intro k
  induction k with
  | zero => intro _; exact Or.inr rfl
  | succ k ih =>
    intro ha
    rw [gAb] at ha
    obtain ⟨a1, a2⟩ := (Bool.or_eq_false_iff).mp ha
    rw [gWk]
    by_cases on : gOn S p (p + k) = true
    · rw [on, Bool.true_and] at a1
      have z := of_decide_eq_false a1
      rw [if_pos on, if_neg z]
      have sp := Nat.pos_of_ne_zero z
      by_cases c2 : S 4 (S 5 (p + k)).toNat = 2
      · rw [gVw_2 c2]
        by_cases d : (iInv ((1, 0) : gQ)).1 * (sO S n (S 5 (p + k)).toNat (p + k)).2 < (sO S n (S 5 (p + k)).toNat (p + k)).1 * (iInv ((1, 0) : gQ)).2
        · have e : dS (iInv (1, 0)) (sO S n (S 5 (p + k)).toNat (p + k)) = none := by
            unfold dS
            rw [if_neg (show ¬ (iInv ((1, 0) : gQ)).2 = 0 from fun w => absurd w (by decide)), if_pos d]
          rw [e]
          exact Or.inl rfl
        · have sz : (sO S n (S 5 (p + k)).toNat (p + k)).1 = 0 := by
            have d' : ¬ 0 * (sO S n (S 5 (p + k)).toNat (p + k)).2 < (sO S n (S 5 (p + k)).toNat (p + k)).1 * 1 := d
            omega
          have e : dS (iInv (1, 0)) (sO S n (S 5 (p + k)).toNat (p + k)) = some (0, 1) := by
            refine (dS_eq (nG_one' 0 : nG (0, 1)) (nG_one' 0 : nG (0, 1)) sp).mp ?_
            rw [nG_zero (sO_G S n _ _) sz]
            exact (iAdd_zero (nG_one' 0 : nG (0, 1))).symm
          rw [e]
          show (gWk S n p k (gVw S (S 5 (p + k)).toNat (0, 1))).1 = 0 ∨ gWk S n p k (gVw S (S 5 (p + k)).toNat (0, 1)) = (1, (1, 0))
          rw [gVw_2 c2]
          exact ih a2
      · rw [gVw_1 c2]
        have e : dS (1, 0) (sO S n (S 5 (p + k)).toNat (p + k)) = some (1, 0) := if_pos rfl
        rw [e]
        show (gWk S n p k (gVw S (S 5 (p + k)).toNat (1, 0))).1 = 0 ∨ gWk S n p k (gVw S (S 5 (p + k)).toNat (1, 0)) = (1, (1, 0))
        rw [gVw_1 c2]
        exact ih a2
    · rw [if_neg on]
      have off : gOn S p (p + k) = false := by
        cases hh : gOn S p (p + k) with
        | true => exact absurd hh on
        | false => rfl
      exact ih a2
