/-! history and snapshot -/
def gRec (H : Nat × (Nat → gA3)) (X : gA3) : Nat × (Nat → gA3) := if H.1 = 5 then (5, fun i => if i = 4 then X else H.2 (i + 1)) else (H.1 + 1, fun i => if i = H.1 then X else H.2 i)
theorem gRec_w {t : Nat} {H : Nat × (Nat → gA3)} {X : gA3} (h1 : H.1 ≤ 5) (h2 : ∀ i : Nat, i < H.1 → wA t (H.2 i)) (h3 : wA t X) : (gRec H X).1 ≤ 5 ∧ ∀ i : Nat, i < (gRec H X).1 → wA t ((gRec H X).2 i) := by
  unfold gRec
  by_cases c : H.1 = 5
  · rw [if_pos c]
    refine ⟨Nat.le_refl _, fun i hi => ?_⟩
    show wA t (if i = 4 then X else H.2 (i + 1))
    by_cases e : i = 4
    · rw [if_pos e]; exact h3
    · rw [if_neg e]
      have hi5 : i < 5 := hi
      exact h2 _ (by omega)
  · rw [if_neg c]
    refine ⟨by show H.1 + 1 ≤ 5; omega, fun i hi => ?_⟩
    show wA t (if i = H.1 then X else H.2 i)
    have hi5 : i < H.1 + 1 := hi
    by_cases e : i = H.1
    · rw [if_pos e]; exact h3
    · rw [if_neg e]
      exact h2 _ (by omega)
theorem jI_mod5 {x : Nat} (hx : x < 2147483648) : jI x - jI x / 5 * 5 = jI ((x % 5 : Nat) : Int) := by
  rw [show (5 : Int32) = jI ((5 : Nat) : Int) from rfl, jI_div hx (by omega), jI_mul, jI_sub]
  congr 1
  have := Nat.div_add_mod x 5
  omega
theorem u_record {h : gHp} {a s t n c : Nat} {S : gTb} {H : Nat × (Nat → gA3)} (C : cHi h a H) (hH : H.1 ≤ 5) (R : cSt h s n c S) (W : gWf t n c S) (hd : s + 13 ≤ a ∨ a + 67 ≤ s) : ∃ h', f_X3_record a s h = some h' ∧ cHi h' a (gRec H (n, c, S)) ∧ gFr a 67 h h' := by
  obtain ⟨o, o1, o2, o3, o4⟩ := C
  rw [f_X3_record, o3, o2]
  unfold gRec
  by_cases c5 : H.1 = 5
  · rw [if_pos c5]
    have e1 : jI (o : Int) + 1 = jI ((o + 1 : Nat) : Int) := by rw [jl_1, jI_add]; rfl
    have hm := Nat.mod_lt (o + 1) (show 0 < 5 by omega)
    have g0 : gFr a 67 h (gsI h a 1 (jI (((o + 1) % 5 : Nat) : Int))) := gFr.rf.I (by omega) (by omega)
    have a1 : (gsI h a 1 (jI (((o + 1) % 5 : Nat) : Int))).1 a 1 = jI (((o + 1) % 5 : Nat) : Int) := rI_e _ _ _ _
    have a2 : (gsI h a 1 (jI (((o + 1) % 5 : Nat) : Int))).1 a 2 = jI ((5 : Nat) : Int) := by rw [rI_k (by decide), o3, c5]
    have a3 : ∀ x, x ≠ a → (gsI h a 1 (jI (((o + 1) % 5 : Nat) : Int))).1 x = h.1 x ∧ (gsI h a 1 (jI (((o + 1) % 5 : Nat) : Int))).2 x = h.2 x := fun x hx => ⟨rI_n hx, rfl⟩
    rw [e1, jI_mod5 (by omega)]
    generalize gsI h a 1 (jI (((o + 1) % 5 : Nat) : Int)) = v1 at *
    have Rv := R.mv (h' := v1) (fun x q1 q2 => a3 x (by omega))
    obtain ⟨h', e2, R', G'⟩ := u_copy (a0 := a + 2 + 13 * o) Rv W (by omega)
    have e3 : jI (((o + 1) % 5 : Nat) : Int) + jI ((5 : Nat) : Int) - 1 = jI (((o + 1) % 5 + 4 : Nat) : Int) := by
      rw [jl_1, jI_add, jI_sub]
      congr 1
      omega
    have e4 : ((o + 1) % 5 + 4) % 5 = o := by omega
    refine ⟨h', ?_, ⟨(o + 1) % 5, hm, ?_, ?_, fun i hi => ?_⟩, g0.tr (G'.mono (by omega) (by omega))⟩
    · refine gBs (v := v1) (gIT (by rw [c5]; exact jle (a := 5) (by omega) (by omega) (by omega) (by omega) (by omega)) rfl) ?_
      rw [a1, a2, e3, jI_mod5 (by omega), e4, gNp (by omega)]
      exact gIT (jin (by omega) (by omega) (by omega)) (gBs e2 rfl)
    · rw [G'.i1 (by omega)]; exact a1
    · rw [G'.i1 (by omega)]; exact a2
    · have hi5 : i < 5 := hi
      by_cases e : i = 4
      · subst e
        rw [show ((o + 1) % 5 + 4) % 5 = o from e4]
        exact R'
      · have n1 : ((o + 1) % 5 + i) % 5 ≠ o := by omega
        have e5 : ((o + 1) % 5 + i) % 5 = (o + (i + 1)) % 5 := by omega
        have m5 := Nat.mod_lt (o + (i + 1)) (show 0 < 5 by omega)
        have hold := o4 (i + 1) (by omega)
        show cSt h' _ (if i = 4 then (n, c, S) else H.2 (i + 1)).1 (if i = 4 then (n, c, S) else H.2 (i + 1)).2.1 (if i = 4 then (n, c, S) else H.2 (i + 1)).2.2
        rw [if_neg e, e5]
        rw [e5] at n1
        exact (hold.mv (h' := v1) (fun x q1 q2 => a3 x (by omega))).mv (G'.sa (by omega))
  · rw [if_neg c5]
    have e1 : jI (H.1 : Int) + 1 = jI ((H.1 + 1 : Nat) : Int) := by rw [jl_1, jI_add]; rfl
    have g0 : gFr a 67 h (gsI h a 2 (jI ((H.1 + 1 : Nat) : Int))) := gFr.rf.I (by omega) (by omega)
    have a1 : (gsI h a 2 (jI ((H.1 + 1 : Nat) : Int))).1 a 1 = jI o := by rw [rI_k (by decide)]; exact o2
    have a2 : (gsI h a 2 (jI ((H.1 + 1 : Nat) : Int))).1 a 2 = jI ((H.1 + 1 : Nat) : Int) := rI_e _ _ _ _
    have a3 : ∀ x, x ≠ a → (gsI h a 2 (jI ((H.1 + 1 : Nat) : Int))).1 x = h.1 x ∧ (gsI h a 2 (jI ((H.1 + 1 : Nat) : Int))).2 x = h.2 x := fun x hx => ⟨rI_n hx, rfl⟩
    rw [e1]
    generalize gsI h a 2 (jI ((H.1 + 1 : Nat) : Int)) = v1 at *
    have Rv := R.mv (h' := v1) (fun x q1 q2 => a3 x (by omega))
    have hm := Nat.mod_lt (o + H.1) (show 0 < 5 by omega)
    obtain ⟨h', e2, R', G'⟩ := u_copy (a0 := a + 2 + 13 * ((o + H.1) % 5)) Rv W (by omega)
    have e3 : jI (o : Int) + jI ((H.1 + 1 : Nat) : Int) - 1 = jI ((o + H.1 : Nat) : Int) := by
      rw [jl_1, jI_add, jI_sub]
      congr 1
      omega
    refine ⟨h', ?_, ⟨o, o1, ?_, ?_, fun i hi => ?_⟩, g0.tr (G'.mono (by omega) (by omega))⟩
    · refine gBs (v := v1) (gIF (jnle (a := 5) (by omega) (by omega) (by omega) (by omega) (by omega)) rfl) ?_
      rw [a1, a2, e3, jI_mod5 (by omega), gNp (by omega)]
      exact gIT (jin (by omega) (by omega) (by omega)) (gBs e2 rfl)
    · rw [G'.i1 (by omega)]; exact a1
    · rw [G'.i1 (by omega)]; exact a2
    · have hi5 : i < H.1 + 1 := hi
      by_cases e : i = H.1
      · subst e
        show cSt h' _ (if H.1 = H.1 then (n, c, S) else H.2 H.1).1 (if H.1 = H.1 then (n, c, S) else H.2 H.1).2.1 (if H.1 = H.1 then (n, c, S) else H.2 H.1).2.2
        rw [if_pos rfl]
        exact R'
      · have n1 : (o + i) % 5 ≠ (o + H.1) % 5 := by omega
        have m5 := Nat.mod_lt (o + i) (show 0 < 5 by omega)
        have hold := o4 i (by omega)
        show cSt h' _ (if i = H.1 then (n, c, S) else H.2 i).1 (if i = H.1 then (n, c, S) else H.2 i).2.1 (if i = H.1 then (n, c, S) else H.2 i).2.2
        rw [if_neg e]
        exact (hold.mv (h' := v1) (fun x q1 q2 => a3 x (by omega))).mv (G'.sa (by omega))
theorem u_giveBack {h : gHp} {a s t : Nat} {H : Nat × (Nat → gA3)} (C : cHi h a H) (hH : H.1 ≤ 5) (h0 : 0 < H.1) (W : wA t (H.2 (H.1 - 1))) (hd : s + 13 ≤ a ∨ a + 67 ≤ s) : ∃ h', f_X3_giveBack a s h = some h' ∧ cSt h' s (H.2 (H.1 - 1)).1 (H.2 (H.1 - 1)).2.1 (H.2 (H.1 - 1)).2.2 ∧ cHi h' a (H.1 - 1, H.2) ∧ (∀ x, x ≠ a → (x < s ∨ s + 13 ≤ x) → h'.1 x = h.1 x ∧ h'.2 x = h.2 x) ∧ h'.1 a 2 = jI ((H.1 - 1 : Nat) : Int) := by
  obtain ⟨o, o1, o2, o3, o4⟩ := C
  have hm := Nat.mod_lt (o + (H.1 - 1)) (show 0 < 5 by omega)
  have hold := o4 (H.1 - 1) (by omega)
  obtain ⟨h', e2, R', G'⟩ := u_copy (a0 := s) hold W (by omega)
  have e3 : jI (o : Int) + jI (H.1 : Int) - 1 = jI ((o + (H.1 - 1) : Nat) : Int) := by
    rw [jl_1, jI_add, jI_sub]
    congr 1
    omega
  have e4 : h'.1 a 2 - 1 = jI ((H.1 - 1 : Nat) : Int) := by
    rw [G'.i1 (by omega), o3, jl_1, jI_sub]
    congr 1
    omega
  refine ⟨gsI h' a 2 (jI ((H.1 - 1 : Nat) : Int)), ?_, R'.mv (fun x q1 q2 => ⟨rI_n (by omega), rfl⟩), ⟨o, o1, ?_, rI_e _ _ _ _, fun i hi => ?_⟩, fun x h1 h2 => ⟨(rI_n h1).trans (G' x h2).1, (G' x h2).2⟩, rI_e _ _ _ _⟩
  · rw [f_X3_giveBack, o2, o3, e3, jI_mod5 (by omega), gNp (by omega)]
    refine gIF (jnle (b := 0) (by omega) (by omega) (by omega) (by omega) (by omega)) (gIT (jin (by omega) (by omega) (by omega)) (gBs e2 ?_))
    rw [e4]
  · rw [rI_k (by decide), G'.i1 (by omega)]; exact o2
  · have hi5 : i < H.1 - 1 := hi
    have m5 := Nat.mod_lt (o + i) (show 0 < 5 by omega)
    exact ((o4 i (by omega)).mv (G'.sa (by omega))).mv (fun x q1 q2 => ⟨rI_n (by omega), rfl⟩)
/-- what the reference's history changes -/
def mFh (m : Nat) (h h' : gHp) : Prop := (∀ x, x ≠ m → x ≠ m + 2 → h'.1 x = h.1 x ∧ h'.2 x = h.2 x) ∧ h'.1 (m + 2) = h.1 (m + 2) ∧ h'.2 m = h.2 m ∧ ∀ k, k ≠ 2 → h'.1 m k = h.1 m k
theorem mFh.fr {m : Nat} {h h' : gHp} (F : mFh m h h') : gFr m 13 h h' := fun x q => F.1 x (by omega) (by omega)
theorem m_record {h : gHp} {m t n c : Nat} {S : gTb} {H : Nat × (Nat → gA3)} (M : mHi h m H) (hH : H.1 ≤ 5) (wH : ∀ i : Nat, i < H.1 → wA t (H.2 i)) (R : mRow (h.2 (m + 1)) n c S) (W : gWf t n c S) : ∃ h', f_X10_record m h = some h' ∧ mHi h' m (gRec H (n, c, S)) ∧ mFh m h h' := by
  obtain ⟨k0, k1⟩ := M
  -- behind the shift: k rows stand
  have A : ∃ (v1 : gHp) (k : Nat), (if h.1 m 2 = 5 then (f_X10_record_10 m gFuel 0 h).bind fun v11 => some (gsI v11 m 2 (v11.1 m 2 - 1)) else some h : Option gHp) = some v1 ∧ k < 5 ∧ v1.1 m 2 = jI k ∧ (gRec H (n, c, S)).1 = k + 1 ∧ (gRec H (n, c, S)).2 k = (n, c, S) ∧ mFh m h v1 ∧ ∀ i, i < k → mRow (fun x => v1.2 (m + 2) (141 * i + x)) ((gRec H (n, c, S)).2 i).1 ((gRec H (n, c, S)).2 i).2.1 ((gRec H (n, c, S)).2 i).2.2 := by
    by_cases c5 : H.1 = 5
    · obtain ⟨o, eo, o1, o2, o3⟩ := gUp (fun k i s1 => f_X10_record_10 m k (jI i) s1) 564 (fun i s1 => s1.1 = h.1 ∧ (∀ y, y ≠ m + 2 → s1.2 y = h.2 y) ∧ (∀ x, s1.2 (m + 2) x = if x < i then h.2 (m + 2) (x + 141) else h.2 (m + 2) x)) (fun s1 => s1.1 = h.1 ∧ (∀ y, y ≠ m + 2 → s1.2 y = h.2 y) ∧ (∀ x, s1.2 (m + 2) x = if x < 564 then h.2 (m + 2) (x + 141) else h.2 (m + 2) x)) (by
        intro k s1 hI
        refine ⟨s1, ?_, hI⟩
        rw [f_X10_record_10]
        exact gIT (jle (a := 564) (by omega) (by omega) (by omega) (by omega) (by omega)) rfl) (by
        intro k i s1 hi hI
        left
        obtain ⟨i1, i2, i3⟩ := hI
        have e1 : jI (i : Int) + 141 = jI ((i + 141 : Nat) : Int) := by rw [jl_141, jI_add]; rfl
        have e2 : jI (i : Int) + 1 = jI ((i + 1 : Nat) : Int) := by rw [jl_1, jI_add]; rfl
        refine ⟨gsL s1 (m + 2) i (s1.2 (m + 2) (i + 141)), ?_, i1, fun y hy => (rL_n hy).trans (i2 y hy), fun x => ?_⟩
        · rw [f_X10_record_10, e1, e2, gNp (by omega), gNp (by omega)]
          exact gIF (jnle (a := 564) (by omega) (by omega) (by omega) (by omega) (by omega)) (gIT (jin (by omega) (by omega) (by omega)) (gIT (jin (by omega) (by omega) (by omega)) rfl))
        · by_cases ex : x = i
          · subst ex
            rw [rL_e, i3, if_neg (by omega), if_pos (by omega)]
          · rw [rL_k ex, i3]
            by_cases e : x < i
            · rw [if_pos e, if_pos (by omega)]
            · rw [if_neg e, if_neg (by omega)]) gFuel 0 h (by omega) (by unfold gFuel; omega) ⟨rfl, fun _ _ => rfl, fun x => by rw [if_neg (by omega)]⟩
      have e5 : o.1 m 2 - 1 = jI ((4 : Nat) : Int) := by
        rw [o1, k0, c5]; rfl
      have eR : gRec H (n, c, S) = (5, fun i => if i = 4 then (n, c, S) else H.2 (i + 1)) := if_pos c5
      refine ⟨gsI o m 2 (jI ((4 : Nat) : Int)), 4, ?_, by omega, rI_e _ _ _ _, by rw [eR], by rw [eR]; rfl, ⟨fun x h1 h2 => ⟨(rI_n h1).trans (by rw [o1]), o2 x h2⟩, (rI_n (by omega)).trans (by rw [o1]), o2 m (by omega), fun k hk => (rI_k hk).trans (by rw [o1])⟩, fun i hi => ?_⟩
      · refine gIT (by rw [k0, c5]; rfl) (gBs eo ?_)
        rw [e5]
      · rw [eR]
        show mRow _ (if i = 4 then (n, c, S) else H.2 (i + 1)).1 (if i = 4 then (n, c, S) else H.2 (i + 1)).2.1 (if i = 4 then (n, c, S) else H.2 (i + 1)).2.2
        rw [if_neg (by omega)]
        have wi := wH (i + 1) (by omega)
        refine mRow.mv wi.n wi.c (k1 (i + 1) (by omega)) fun x hx => ?_
        show o.2 (m + 2) (141 * i + x) = h.2 (m + 2) (141 * (i + 1) + x)
        rw [o3, if_pos (by omega), show 141 * i + x + 141 = 141 * (i + 1) + x by omega]
    · have eR : gRec H (n, c, S) = (H.1 + 1, fun i => if i = H.1 then (n, c, S) else H.2 i) := if_neg c5
      refine ⟨h, H.1, gIF (by rw [k0]; exact jne (b := 5) (by omega) (by omega) (by omega) (by omega) (by omega)) rfl, by omega, k0, by rw [eR], by rw [eR]; exact if_pos rfl, ⟨fun _ _ _ => ⟨rfl, rfl⟩, rfl, rfl, fun _ _ => rfl⟩, fun i hi => ?_⟩
      rw [eR]
      show mRow _ (if i = H.1 then (n, c, S) else H.2 i).1 (if i = H.1 then (n, c, S) else H.2 i).2.1 (if i = H.1 then (n, c, S) else H.2 i).2.2
      rw [if_neg (by omega)]
      exact k1 i hi
  obtain ⟨v1, k, e1, hk, ek, r1, r2, F1, rows⟩ := A
  have row1 : v1.2 (m + 1) = h.2 (m + 1) := (F1.1 (m + 1) (by omega) (by omega)).2
  obtain ⟨o, eo, o1, o2, o3⟩ := gUp (fun k i s1 => f_X10_record_51 m k (jI i) s1) 141 (fun i s1 => s1.1 = v1.1 ∧ (∀ y, y ≠ m + 2 → s1.2 y = v1.2 y) ∧ (∀ x, s1.2 (m + 2) x = if 141 * k ≤ x ∧ x < 141 * k + i then h.2 (m + 1) (x - 141 * k) else v1.2 (m + 2) x)) (fun s1 => s1.1 = v1.1 ∧ (∀ y, y ≠ m + 2 → s1.2 y = v1.2 y) ∧ (∀ x, s1.2 (m + 2) x = if 141 * k ≤ x ∧ x < 141 * k + 141 then h.2 (m + 1) (x - 141 * k) else v1.2 (m + 2) x)) (by
    intro k s1 hI
    refine ⟨s1, ?_, hI⟩
    rw [f_X10_record_51]
    exact gIT (jle (a := 141) (by omega) (by omega) (by omega) (by omega) (by omega)) rfl) (by
    intro kk i s1 hi hI
    left
    obtain ⟨i1, i2, i3⟩ := hI
    have e3 : (141 : Int32) * s1.1 m 2 + jI (i : Int) = jI ((141 * k + i : Nat) : Int) := by
      rw [i1, ek, jl_141, jI_mul, jI_add]
      congr 1
    have e2 : jI (i : Int) + 1 = jI ((i + 1 : Nat) : Int) := by rw [jl_1, jI_add]; rfl
    refine ⟨gsL s1 (m + 2) (141 * k + i) (h.2 (m + 1) i), ?_, i1, fun y hy => (rL_n hy).trans (i2 y hy), fun x => ?_⟩
    · rw [f_X10_record_51, e2, e3, gNp (by omega), gNp (by omega), i2 _ (by omega), row1]
      exact gIF (jnle (a := 141) (by omega) (by omega) (by omega) (by omega) (by omega)) (gIT (jin (by omega) (by omega) (by omega)) (gIT (jin (by omega) (by omega) (by omega)) rfl))
    · by_cases ex : x = 141 * k + i
      · subst ex
        rw [rL_e, if_pos (by omega), Nat.add_sub_cancel_left]
      · rw [rL_k ex, i3]
        by_cases e : 141 * k ≤ x ∧ x < 141 * k + i
        · rw [if_pos e, if_pos (by omega)]
        · rw [if_neg e, if_neg (by omega)]) gFuel 0 v1 (by omega) (by unfold gFuel; omega) ⟨rfl, fun _ _ => rfl, fun x => by rw [if_neg (by omega)]⟩
  have e5 : o.1 m 2 + 1 = jI ((k + 1 : Nat) : Int) := by
    rw [o1, ek, jl_1, jI_add]; rfl
  refine ⟨gsI o m 2 (jI ((k + 1 : Nat) : Int)), ?_, ⟨by rw [rI_e, r1], fun i hi => ?_⟩, ⟨fun x h1 h2 => ⟨(rI_n h1).trans (by rw [o1]; exact (F1.1 x h1 h2).1), (o2 x h2).trans (F1.1 x h1 h2).2⟩, (rI_n (by omega)).trans (by rw [o1]; exact F1.2.1), (o2 m (by omega)).trans F1.2.2.1, fun j hj => (rI_k hj).trans (by rw [o1]; exact F1.2.2.2 j hj)⟩⟩
  · rw [f_X10_record]
    refine gBs e1 (gBs eo ?_)
    rw [e5]
  · rw [r1] at hi
    by_cases e : i = k
    · subst e
      rw [r2]
      refine mRow.mv W.n W.c R fun x hx => ?_
      show o.2 (m + 2) (141 * i + x) = h.2 (m + 1) x
      rw [o3, if_pos (by omega), Nat.add_sub_cancel_left]
    · have wi := (gRec_w hH wH (X := (n, c, S)) W).2 i (by rw [r1]; exact hi)
      refine mRow.mv wi.n wi.c (rows i (by omega)) fun x hx => ?_
      show o.2 (m + 2) (141 * i + x) = v1.2 (m + 2) (141 * i + x)
      rw [o3, if_neg (by omega)]
