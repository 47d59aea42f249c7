/-! THE TWO TABLES: h.1 a k is the int, h.2 a k the long that place k of the cell a holds; what a cell is (its class or kind of array, which of its places are ints, longs, or which cell they point at) never changes: 'sh'. -/
abbrev gHp : Type := (Nat → Nat → Int32) × (Nat → Nat → Int64)
abbrev gSl : Type := Nat ⊕ Nat
abbrev gSh : Type := (Nat × List gSl) ⊕ (Nat × Nat × (Nat → Nat))
def gV (I : Nat → Int32) (L : Nat → Int64) (k : Nat) : gSl → Value
  | .inl 0 => .int (I k)
  | .inl _ => .long (L k)
  | .inr b => .ref b
def gVs (I : Nat → Int32) (L : Nat → Int64) : Nat → List gSl → List Value
  | _, [] => []
  | k, x :: r => gV I L k x :: gVs I L (k + 1) r
theorem gVs_get (I : Nat → Int32) (L : Nat → Int64) : ∀ (ks : List gSl) (k j : Nat), (gVs I L k ks)[j]? = (ks[j]?).map (gV I L (k + j)) := by
  intro ks
  induction ks with
  | nil => intro k j; simp [gVs]
  | cons x r ih =>
    intro k j
    cases j with
    | zero => simp [gVs]
    | succ j => simp [gVs, ih (k + 1) j, Nat.add_assoc, Nat.add_comm 1 j]
theorem gVs_len (I : Nat → Int32) (L : Nat → Int64) : ∀ (ks : List gSl) (k : Nat), (gVs I L k ks).length = ks.length := by
  intro ks
  induction ks with
  | nil => intro k; rfl
  | cons x r ih => intro k; simp [gVs, ih (k + 1)]
/-- one place of one cell is written -/
def gU {α : Type} (f : Nat → Nat → α) (a k : Nat) (v : α) : Nat → Nat → α := fun x j => if x = a then (if j = k then v else f x j) else f x j
theorem gU_eq {α : Type} (f : Nat → Nat → α) (a k : Nat) (v : α) : gU f a k v a k = v := by simp [gU]
theorem gU_ne {α : Type} {f : Nat → Nat → α} {a k x : Nat} {v : α} (h : x ≠ a) : gU f a k v x = f x := by funext j; simp [gU, h]
theorem gU_ne2 {α : Type} {f : Nat → Nat → α} {a k x j : Nat} {v : α} (h : x ≠ a ∨ j ≠ k) : gU f a k v x j = f x j := by
  by_cases hx : x = a
  · by_cases hj : j = k
    · exact absurd h (by simp [hx, hj])
    · simp [gU, hj]
  · simp [gU, hx]
theorem gVs_out {I I' : Nat → Int32} {L L' : Nat → Int64} : ∀ (ks : List gSl) (k : Nat), (∀ j, k ≤ j → I' j = I j) → (∀ j, k ≤ j → L' j = L j) → gVs I' L' k ks = gVs I L k ks := by
  intro ks
  induction ks with
  | nil => intro k _ _; rfl
  | cons x r ih =>
    intro k h1 h2
    have e : gV I' L' k x = gV I L k x := by
      rcases x with x | b
      · rcases x with _ | x
        · show Value.int (I' k) = Value.int (I k)
          rw [h1 k (Nat.le_refl k)]
        · show Value.long (L' k) = Value.long (L k)
          rw [h2 k (Nat.le_refl k)]
      · rfl
    simp only [gVs]
    rw [e, ih (k + 1) (fun j hj => h1 j (by omega)) (fun j hj => h2 j (by omega))]
theorem gVs_setI (I : Nat → Int32) (L : Nat → Int64) (v : Int32) : ∀ (ks : List gSl) (k j : Nat), ks[j]? = some (.inl 0) → (gVs I L k ks).set j (.int v) = gVs (fun i => if i = k + j then v else I i) L k ks := by
  intro ks
  induction ks with
  | nil => intro k j h; simp at h
  | cons x r ih =>
    intro k j h
    cases j with
    | zero =>
      have hx : x = .inl 0 := by simpa using h
      subst hx
      simp only [gVs, List.set_cons_zero]
      rw [gVs_out (I := I) (L := L) (I' := fun i => if i = k + 0 then v else I i) (L' := L) r (k + 1) (fun i hi => by simp; omega) (fun _ _ => rfl)]
      simp [gV]
    | succ j =>
      have h2 : r[j]? = some (.inl 0) := by simpa using h
      simp only [gVs, List.set_cons_succ]
      rw [ih (k + 1) j h2]
      have e : gV (fun i => if i = k + (j + 1) then v else I i) L k x = gV I L k x := by
        rcases x with x | b
        · rcases x with _ | x
          · show Value.int (if k = k + (j + 1) then v else I k) = Value.int (I k)
            rw [if_neg (by omega)]
          · rfl
        · rfl
      rw [e, show k + 1 + j = k + (j + 1) by omega]
theorem gVs_setL (I : Nat → Int32) (L : Nat → Int64) (v : Int64) : ∀ (ks : List gSl) (k j : Nat), ks[j]? = some (.inl 1) → (gVs I L k ks).set j (.long v) = gVs I (fun i => if i = k + j then v else L i) k ks := by
  intro ks
  induction ks with
  | nil => intro k j h; simp at h
  | cons x r ih =>
    intro k j h
    cases j with
    | zero =>
      have hx : x = .inl 1 := by simpa using h
      subst hx
      simp only [gVs, List.set_cons_zero]
      rw [gVs_out (I := I) (L := L) (I' := I) (L' := fun i => if i = k + 0 then v else L i) r (k + 1) (fun _ _ => rfl) (fun i hi => by simp; omega)]
      simp [gV]
    | succ j =>
      have h2 : r[j]? = some (.inl 1) := by simpa using h
      simp only [gVs, List.set_cons_succ]
      rw [ih (k + 1) j h2]
      have e : gV I (fun i => if i = k + (j + 1) then v else L i) k x = gV I L k x := by
        rcases x with x | b
        · rcases x with _ | x
          · rfl
          · show Value.long (if k = k + (j + 1) then v else L k) = Value.long (L k)
            rw [if_neg (by omega)]
        · rfl
      rw [e, show k + 1 + j = k + (j + 1) by omega]
/-- what a cell holds -/
def gE (cA : Nat → ClassId) (I : Nat → Int32) (L : Nat → Int64) : gSh → va_E
  | .inl (ci, ks) => .inr (ci, gVs I L 0 ks)
  | .inr (0, n, _) => .inl (cA 0, n, .inl I)
  | .inr (1, n, _) => .inl (cA 1, n, .inr (.inl L))
  | .inr (2, n, _) => .inl (cA 2, n, .inl I)
  | .inr (3, n, _) => .inl (cA 3, n, .inl I)
  | .inr (t, n, f) => .inl (cA t, n, .inr (.inr (.inr (.inr (fun j => some (f j))))))
def gR (D : va_G) (cA : Nat → ClassId) (sh : Nat → Option gSh) (h : gHp) (H : Heap) : Prop := ∀ (a : Nat) (x : gSh), sh a = some x → va_at D vwCl (a, gE cA (h.1 a) (h.2 a) x) H
abbrev gT (cA : Nat → ClassId) : List (ClassId × FieldType) := [(cA 0, .int), (cA 1, .long), (cA 2, .char), (cA 3, .boolean), (cA 4, .object "LadderBench$Fraction"), (cA 5, .object "LadderBench$State")]

def gSidx : List Nat := [58, 64, 66, 68, 70, 72]
def gStxt : List String := ["set", "open", "short", "mend", "source", "meter"]
def gSlen : List Nat := [3, 4, 5, 4, 6, 5]
def gSbyt : List (List Int32) := [[115, 101, 116], [111, 112, 101, 110], [115, 104, 111, 114, 116], [109, 101, 110, 100], [115, 111, 117, 114, 99, 101], [109, 101, 116, 101, 114]]
/-- the links to private members of nest mates -/
def gNestL : List Cond := [.methodLinkNest RX9 18 yX8_init "LadderBench", .methodLinkNest RX9 38 yX6_init "LadderBench", .methodLinkNest RX9 45 yX1_init "LadderBench", .methodLinkNest RX9 59 yX2_init "LadderBench", .methodLinkNest RX9 9 yX4_init "LadderBench", .methodLinkNest RX0 20 yX2_init "LadderBench", .methodLinkNest RX1 48 yX9_indexOfLetter "LadderBench", .methodLinkNest RX3 24 yX8_init "LadderBench", .methodLinkNest RX6 31 yX9_indexOfLetter "LadderBench", .methodLinkNest RX8 20 yX7_init "LadderBench"]
def gNs (U : State) : Prop := ∀ w ∈ gNestL, va_Nw w U
theorem gNs.warm {s U : State} (hW : s.WarmedH U.vm) (h : gNs s) : gNs U := by
  intro w hw
  have h1 := h w hw
  simp only [gNestL, List.mem_cons, List.not_mem_nil, or_false] at hw
  rcases hw with rfl | rfl | rfl | rfl | rfl | rfl | rfl | rfl | rfl | rfl <;> exact va_Nw.warmM hW h1
theorem gNs.same {u U : State} (hv : u.vm = U.vm) (h : gNs u) : gNs U := by
  intro w hw
  have h1 := h w hw
  simp only [gNestL, List.mem_cons, List.not_mem_nil, or_false] at hw
  rcases hw with rfl | rfl | rfl | rfl | rfl | rfl | rfl | rfl | rfl | rfl <;> exact va_Nw.same rfl hv h1
/-- what stays the same all through: launch, classes, arrays' classes, what the cells are, the first address -/
abbrev gWd : Type := Launch × va_G × (Nat → ClassId) × (Nat → Option gSh) × Nat × (Nat → Nat) × (Nat → Nat) × Value
abbrev gsh (w : gWd) : Nat → Option gSh := w.2.2.2.1
def gSt (b0 : Nat) (adK adV : Nat → Nat) (fz : Value) (U : State) : Prop := vk_S 6 gSlen gSbyt adK adV (fun q => b0 ≤ q) U U.heap ∧ (∀ i : Nat, i < 6 → vk_R RX1 (gSidx.getD i 0) (gStxt.getD i "") (adK i) U) ∧ va_Z "java/lang/String" "COMPACT_STRINGS" "Z" (.int 1) (fun q => b0 ≤ q) U U.heap ∧ va_Z "jdk/internal/util/Preconditions" "SIOOBE_FORMATTER" "Ljava/util/function/BiFunction;" fz (fun q => b0 ≤ q) U U.heap ∧ (fz = .null ∨ ∃ t : Nat, fz = .ref t)
theorem gSt.same {b0 : Nat} {adK adV : Nat → Nat} {fz : Value} {u U : State} (hv : U.vm = u.vm) (hh : U.heap = u.heap) (h : gSt b0 adK adV fz u) : gSt b0 adK adV fz U := by
  have hal : u.vm.Alike U.vm := by rw [hv]; exact Vm.Alike.refl u.vm
  refine ⟨?_, fun i hi => vk_R.same hv (h.2.1 i hi), ?_, ?_, h.2.2.2.2⟩
  · rw [hh]; exact vk_S.moved hal h.1
  · rw [hh]; exact va_Z.moved hal h.2.2.1
  · rw [hh]; exact va_Z.moved hal h.2.2.2.1
theorem gSt.warm {b0 : Nat} {adK adV : Nat → Nat} {fz : Value} {s U : State} (hW : s.WarmedH U.vm) (hh : ∀ q : Nat, q < s.heap.size → ¬ b0 ≤ q → U.heap[q]? = s.heap[q]?) (h : gSt b0 adK adV fz s) : gSt b0 adK adV fz U :=
  ⟨vk_S.moved hW.alike (vk_S.kept h.1 hh), fun i hi => vk_R.warm hW (h.2.1 i hi), va_Z.moved hW.alike (va_Z.kept h.2.2.1 hh), va_Z.moved hW.alike (va_Z.kept h.2.2.2.1 hh), h.2.2.2.2⟩
def gPre (w : gWd) (h : gHp) (U : State) : Prop := gR w.2.1 w.2.2.1 w.2.2.2.1 h U.heap ∧ va_K w.2.1 vwCl (gT w.2.2.1) U ∧ gNs U ∧ w.2.2.2.2.1 ≤ U.heap.size ∧ (∀ (a : Nat) (x : gSh), w.2.2.2.1 a = some x → w.2.2.2.2.1 ≤ a) ∧ gSt w.2.2.2.2.1 w.2.2.2.2.2.1 w.2.2.2.2.2.2.1 w.2.2.2.2.2.2.2 U
def gQc (w : gWd) (v : Option Value) (h' : gHp) : State → Outcome → State → Prop := fun st oc t => oc = .returned v ∧ gR w.2.1 w.2.2.1 w.2.2.2.1 h' t.heap ∧ va_F (fun q => w.2.2.2.2.1 ≤ q) st t
def gMet (w : gWd) (y : MethodName) (ws : List Cond) (rm : Room) (av : List Value) (h : gHp) (v : Option Value) (h' : gHp) : Prop :=
  Met w.1 y ws rm (va_Pc av (gPre w h)) (fun _ st oc t => gQc w v h' st oc t) 0 0 (fun q => w.2.2.2.2.1 ≤ q)
/-- what is fixed in one activation -/
abbrev gCx : Type := Program × Env × Room × State × MethodId × Array Value × List Frame × Method × Code × Nat × Nat × (State → Prop)
def gC (w : gWd) (g : gCx) (cc : ByteArray) (Ts : List Cond) (own : String) (nL fr lo : Nat) : Prop := match w, g with
  | (_, D, cA, sh, b0, adK, adV, fz), (p, _, R, s, m, args, _, _, c, ce, sl, _) => p.tables.exec = Jvm.exec ∧ c.code = cc ∧ c.maxLocals = nL ∧ s.vm.findClass own = some m.cls ∧ (∀ x ∈ Ts, x.before args s = true) ∧ va_K D vwCl (gT cA) s ∧ gNs s ∧ b0 ≤ s.heap.size ∧ (∀ (a : Nat) (x : gSh), sh a = some x → b0 ≤ a) ∧ fr ≤ R.frames ∧ lo ≤ R.locals ∧ ce ≤ R.cells ∧ sl ≤ R.slots ∧ gSt b0 adK adV fz s
def gX (w : gWd) (g : gCx) (nL : Nat) (h : gHp) (pc : Nat) (lv : List (Nat × Value)) (st : List Value) : Prop := match w, g with
  | (l, D, cA, sh, b0, _, _, _), (p, e, R, s, m, args, below, meth, c, ce, sl, Q) => ∀ (ls : Array Slot) (H : Heap) (locs : List Loc), lv_has ls nL lv → gR D cA sh h H → va_S (fun q => b0 ≤ q) s.heap H locs → W p l e R s m args below meth c H locs ce sl Q (F0 m pc ls st)
def gEn (w : gWd) (g : gCx) (ret : Option FieldType) (v : Option Value) (h' : gHp) : Prop := match w, g with
  | (_, _, _, _, b0, _, _, _), (_, _, _, s, _, args, below, meth, _, ce, sl, Q) => meth.sig.returnType = ret ∧ meth.locks = false ∧ Q = MQ below (fun _ st oc t => gQc w v h' st oc t) args s ce sl (fun q => b0 ≤ q)
abbrev gZ (b : Bool) : Int32 := if b then 1 else 0
abbrev gIn (i : Int32) (n : Nat) : Prop := ¬ (i < 0 ∨ n ≤ i.toNatClampNeg)
abbrev gN (i : Int32) : Nat := i.toNatClampNeg
def gFuel : Nat := 4096
theorem gBind {α β : Type} {o : Option α} {f : α → Option β} {r : β} (h : o.bind f = some r) : ∃ v, o = some v ∧ f v = some r := by
  cases o with
  | none => cases h
  | some v => exact ⟨v, rfl, h⟩
theorem gGd {α : Type} {c : Prop} {_ : Decidable c} {o : Option α} {r : α} (h : (if c then o else none) = some r) : c ∧ o = some r := by
  by_cases hc : c
  · rw [if_pos hc] at h; exact ⟨hc, h⟩
  · rw [if_neg hc] at h; cases h
theorem gGn {α : Type} {c : Prop} {_ : Decidable c} {o : Option α} {r : α} (h : (if c then none else o) = some r) : ¬ c ∧ o = some r := by
  by_cases hc : c
  · rw [if_pos hc] at h; cases h
  · rw [if_neg hc] at h; exact ⟨hc, h⟩
theorem gPos {α : Type} {c : Prop} {_ : Decidable c} {a b r : α} (hc : c) (h : (if c then a else b) = r) : a = r := by rw [if_pos hc] at h; exact h
theorem gNeg {α : Type} {c : Prop} {_ : Decidable c} {a b r : α} (hc : ¬ c) (h : (if c then a else b) = r) : b = r := by rw [if_neg hc] at h; exact h

def gDec (c : ByteArray) (l : List (Nat × (Instr × Nat))) : Bool := l.all fun q => decide (decode c q.1 = .ok q.2)
theorem gDec_at {c : ByteArray} {l : List (Nat × (Instr × Nat))} (h : gDec c l = true) (k : Nat) {pc n : Nat} {i : Instr} (hk : l[k]? = some (pc, (i, n))) : decode c pc = .ok (i, n) :=
  by
  unfold gDec at h
  have h1 := List.all_eq_true.mp h (pc, (i, n)) (List.mem_of_getElem? hk)
  dsimp only at h1
  exact of_decide_eq_true h1
theorem gSw (x : Int32) (n : Nat) (hn : n < 100) (h : ∀ k : Nat, k ≤ n → ¬ x = Int32.ofNat k) : x.toInt < 0 ∨ (n : Int) < x.toInt := by
  by_cases h1 : x.toInt < 0
  · exact Or.inl h1
  · by_cases h2 : (n : Int) < x.toInt
    · exact Or.inr h2
    · refine absurd ?_ (h x.toInt.toNat (by omega))
      refine Int32.toInt_inj.mp ?_
      rw [Int32.toInt_ofNat_of_lt (by omega)]
      omega
theorem gx_iconst {w : gWd} {g : gCx} {cc : ByteArray} {Ts : List Cond} {own : String} {nL fr lo : Nat} (C : gC w g cc Ts own nL fr lo) {h : gHp} {pc : Nat} {lv : List (Nat × Value)} {st : List Value} {n : Int} {v : Int32} (hd : decode cc pc = .ok (.iconst n, 1)) (hv : Int32.ofInt n = v) (k : gX w g nL h (pc + 1) lv (.int v :: st)) : gX w g nL h pc lv (st) := by
  obtain ⟨l, D, cA, sh, b0, adK, adV, fz⟩ := w
  obtain ⟨p, e, R, s, m, args, below, meth, c, ce, sl, Q⟩ := g
  intro ls H locs hl hR hS
  exact lv_iconst C.1 C.2.1 hd hv (k ls H locs hl hR hS)
theorem gx_bipush {w : gWd} {g : gCx} {cc : ByteArray} {Ts : List Cond} {own : String} {nL fr lo : Nat} (C : gC w g cc Ts own nL fr lo) {h : gHp} {pc : Nat} {lv : List (Nat × Value)} {st : List Value} {n : Int} {v : Int32} (hd : decode cc pc = .ok (.bipush n, 2)) (hv : (Int8.ofInt n).toInt32 = v) (k : gX w g nL h (pc + 2) lv (.int v :: st)) : gX w g nL h pc lv (st) := by
  obtain ⟨l, D, cA, sh, b0, adK, adV, fz⟩ := w
  obtain ⟨p, e, R, s, m, args, below, meth, c, ce, sl, Q⟩ := g
  intro ls H locs hl hR hS
  exact lv_bipush C.1 C.2.1 hd hv (k ls H locs hl hR hS)
theorem gx_sipush {w : gWd} {g : gCx} {cc : ByteArray} {Ts : List Cond} {own : String} {nL fr lo : Nat} (C : gC w g cc Ts own nL fr lo) {h : gHp} {pc : Nat} {lv : List (Nat × Value)} {st : List Value} {n : Int} {v : Int32} (hd : decode cc pc = .ok (.sipush n, 3)) (hv : (Int16.ofInt n).toInt32 = v) (k : gX w g nL h (pc + 3) lv (.int v :: st)) : gX w g nL h pc lv (st) := by
  obtain ⟨l, D, cA, sh, b0, adK, adV, fz⟩ := w
  obtain ⟨p, e, R, s, m, args, below, meth, c, ce, sl, Q⟩ := g
  intro ls H locs hl hR hS
  exact lv_sipush C.1 C.2.1 hd hv (k ls H locs hl hR hS)
theorem gx_lconst {w : gWd} {g : gCx} {cc : ByteArray} {Ts : List Cond} {own : String} {nL fr lo : Nat} (C : gC w g cc Ts own nL fr lo) {h : gHp} {pc : Nat} {lv : List (Nat × Value)} {st : List Value} {n : Fin 2} {v : Int64} (hd : decode cc pc = .ok (.lconst n, 1)) (hv : Int64.ofNat (n : Nat) = v) (k : gX w g nL h (pc + 1) lv (.long v :: st)) : gX w g nL h pc lv (st) := by
  obtain ⟨l, D, cA, sh, b0, adK, adV, fz⟩ := w
  obtain ⟨p, e, R, s, m, args, below, meth, c, ce, sl, Q⟩ := g
  intro ls H locs hl hR hS
  exact lv_lconst C.1 C.2.1 hd hv (k ls H locs hl hR hS)
theorem gx_ldc2 {w : gWd} {g : gCx} {cc : ByteArray} {Ts : List Cond} {own : String} {nL fr lo : Nat} (C : gC w g cc Ts own nL fr lo) {h : gHp} {pc : Nat} {lv : List (Nat × Value)} {st : List Value} {index : Nat} {v : Int64} (hc : Jvm.Cond.constantLong own index v ∈ Ts) (hd : decode cc pc = .ok (.ldc2_w index, 3)) (k : gX w g nL h (pc + 3) lv (.long v :: st)) : gX w g nL h pc lv (st) := by
  obtain ⟨l, D, cA, sh, b0, adK, adV, fz⟩ := w
  obtain ⟨p, e, R, s, m, args, below, meth, c, ce, sl, Q⟩ := g
  intro ls H locs hl hR hS
  exact lv_ldc2 C.1 C.2.1 C.2.2.2.1 (C.2.2.2.2.1 _ hc) hd (k ls H locs hl hR hS)
theorem gx_iload {w : gWd} {g : gCx} {cc : ByteArray} {Ts : List Cond} {own : String} {nL fr lo : Nat} (C : gC w g cc Ts own nL fr lo) {h : gHp} {pc : Nat} {lv : List (Nat × Value)} {st : List Value} {i : Nat} {x : Int32} (j : Nat) (hd : decode cc pc = .ok (.iload i, 2)) (hj : lv[j]? = some (i, .int x)) (k : gX w g nL h (pc + 2) lv (.int x :: st)) : gX w g nL h pc lv (st) := by
  obtain ⟨l, D, cA, sh, b0, adK, adV, fz⟩ := w
  obtain ⟨p, e, R, s, m, args, below, meth, c, ce, sl, Q⟩ := g
  intro ls H locs hl hR hS
  exact lv_iload C.1 C.2.1 hd (lv_at hl j hj) (k ls H locs hl hR hS)
theorem gx_iload_n {w : gWd} {g : gCx} {cc : ByteArray} {Ts : List Cond} {own : String} {nL fr lo : Nat} (C : gC w g cc Ts own nL fr lo) {h : gHp} {pc : Nat} {lv : List (Nat × Value)} {st : List Value} {f : Fin 4} {i : Nat} {x : Int32} (j : Nat) (hd : decode cc pc = .ok (.iload_n f, 1)) (hi : (f : Nat) = i) (hj : lv[j]? = some (i, .int x)) (k : gX w g nL h (pc + 1) lv (.int x :: st)) : gX w g nL h pc lv (st) := by
  obtain ⟨l, D, cA, sh, b0, adK, adV, fz⟩ := w
  obtain ⟨p, e, R, s, m, args, below, meth, c, ce, sl, Q⟩ := g
  intro ls H locs hl hR hS
  exact lv_iload_n C.1 C.2.1 hd hi (lv_at hl j hj) (k ls H locs hl hR hS)
theorem gx_lload {w : gWd} {g : gCx} {cc : ByteArray} {Ts : List Cond} {own : String} {nL fr lo : Nat} (C : gC w g cc Ts own nL fr lo) {h : gHp} {pc : Nat} {lv : List (Nat × Value)} {st : List Value} {i : Nat} {x : Int64} (j : Nat) (hd : decode cc pc = .ok (.lload i, 2)) (hj : lv[j]? = some (i, .long x)) (k : gX w g nL h (pc + 2) lv (.long x :: st)) : gX w g nL h pc lv (st) := by
  obtain ⟨l, D, cA, sh, b0, adK, adV, fz⟩ := w
  obtain ⟨p, e, R, s, m, args, below, meth, c, ce, sl, Q⟩ := g
  intro ls H locs hl hR hS
  exact lv_lload C.1 C.2.1 hd (lv_at hl j hj) (k ls H locs hl hR hS)
theorem gx_lload_n {w : gWd} {g : gCx} {cc : ByteArray} {Ts : List Cond} {own : String} {nL fr lo : Nat} (C : gC w g cc Ts own nL fr lo) {h : gHp} {pc : Nat} {lv : List (Nat × Value)} {st : List Value} {f : Fin 4} {i : Nat} {x : Int64} (j : Nat) (hd : decode cc pc = .ok (.lload_n f, 1)) (hi : (f : Nat) = i) (hj : lv[j]? = some (i, .long x)) (k : gX w g nL h (pc + 1) lv (.long x :: st)) : gX w g nL h pc lv (st) := by
  obtain ⟨l, D, cA, sh, b0, adK, adV, fz⟩ := w
  obtain ⟨p, e, R, s, m, args, below, meth, c, ce, sl, Q⟩ := g
  intro ls H locs hl hR hS
  exact lv_lload_n C.1 C.2.1 hd hi (lv_at hl j hj) (k ls H locs hl hR hS)
theorem gx_aload {w : gWd} {g : gCx} {cc : ByteArray} {Ts : List Cond} {own : String} {nL fr lo : Nat} (C : gC w g cc Ts own nL fr lo) {h : gHp} {pc : Nat} {lv : List (Nat × Value)} {st : List Value} {i : Nat} {x : Nat} (j : Nat) (hd : decode cc pc = .ok (.aload i, 2)) (hj : lv[j]? = some (i, .ref x)) (k : gX w g nL h (pc + 2) lv (.ref x :: st)) : gX w g nL h pc lv (st) := by
  obtain ⟨l, D, cA, sh, b0, adK, adV, fz⟩ := w
  obtain ⟨p, e, R, s, m, args, below, meth, c, ce, sl, Q⟩ := g
  intro ls H locs hl hR hS
  exact lv_aload C.1 C.2.1 hd (lv_at hl j hj) (k ls H locs hl hR hS)
theorem gx_aload_n {w : gWd} {g : gCx} {cc : ByteArray} {Ts : List Cond} {own : String} {nL fr lo : Nat} (C : gC w g cc Ts own nL fr lo) {h : gHp} {pc : Nat} {lv : List (Nat × Value)} {st : List Value} {f : Fin 4} {i : Nat} {x : Nat} (j : Nat) (hd : decode cc pc = .ok (.aload_n f, 1)) (hi : (f : Nat) = i) (hj : lv[j]? = some (i, .ref x)) (k : gX w g nL h (pc + 1) lv (.ref x :: st)) : gX w g nL h pc lv (st) := by
  obtain ⟨l, D, cA, sh, b0, adK, adV, fz⟩ := w
  obtain ⟨p, e, R, s, m, args, below, meth, c, ce, sl, Q⟩ := g
  intro ls H locs hl hR hS
  exact lv_aload_n C.1 C.2.1 hd hi (lv_at hl j hj) (k ls H locs hl hR hS)
theorem gx_istore {w : gWd} {g : gCx} {cc : ByteArray} {Ts : List Cond} {own : String} {nL fr lo : Nat} (C : gC w g cc Ts own nL fr lo) {h : gHp} {pc : Nat} {lv : List (Nat × Value)} {st : List Value} {i : Nat} {x : Int32} {lv' : List (Nat × Value)} (hd : decode cc pc = .ok (.istore i, 2))  (hn : i < nL) (hv : (i, Value.int x) :: lv.filter (fun q => !(q.1 == i) && !(q.1 + 1 == i && q.2.category == 2)) = lv') (k : gX w g nL h (pc + 2) lv' st) : gX w g nL h pc lv (.int x :: st) := by
  obtain ⟨l, D, cA, sh, b0, adK, adV, fz⟩ := w
  obtain ⟨p, e, R, s, m, args, below, meth, c, ce, sl, Q⟩ := g
  intro ls H locs hl hR hS
  exact lv_istore C.1 C.2.1 hd  hl hn hv (fun ls hl => k ls H locs hl hR hS)
theorem gx_istore_n {w : gWd} {g : gCx} {cc : ByteArray} {Ts : List Cond} {own : String} {nL fr lo : Nat} (C : gC w g cc Ts own nL fr lo) {h : gHp} {pc : Nat} {lv : List (Nat × Value)} {st : List Value} {i : Nat} {f : Fin 4} {x : Int32} {lv' : List (Nat × Value)} (hd : decode cc pc = .ok (.istore_n f, 1)) (hi : (f : Nat) = i) (hn : i < nL) (hv : (i, Value.int x) :: lv.filter (fun q => !(q.1 == i) && !(q.1 + 1 == i && q.2.category == 2)) = lv') (k : gX w g nL h (pc + 1) lv' st) : gX w g nL h pc lv (.int x :: st) := by
  obtain ⟨l, D, cA, sh, b0, adK, adV, fz⟩ := w
  obtain ⟨p, e, R, s, m, args, below, meth, c, ce, sl, Q⟩ := g
  intro ls H locs hl hR hS
  exact lv_istore_n C.1 C.2.1 hd hi hl hn hv (fun ls hl => k ls H locs hl hR hS)
theorem gx_astore {w : gWd} {g : gCx} {cc : ByteArray} {Ts : List Cond} {own : String} {nL fr lo : Nat} (C : gC w g cc Ts own nL fr lo) {h : gHp} {pc : Nat} {lv : List (Nat × Value)} {st : List Value} {i : Nat} {x : Nat} {lv' : List (Nat × Value)} (hd : decode cc pc = .ok (.astore i, 2))  (hn : i < nL) (hv : (i, Value.ref x) :: lv.filter (fun q => !(q.1 == i) && !(q.1 + 1 == i && q.2.category == 2)) = lv') (k : gX w g nL h (pc + 2) lv' st) : gX w g nL h pc lv (.ref x :: st) := by
  obtain ⟨l, D, cA, sh, b0, adK, adV, fz⟩ := w
  obtain ⟨p, e, R, s, m, args, below, meth, c, ce, sl, Q⟩ := g
  intro ls H locs hl hR hS
  exact lv_astore C.1 C.2.1 hd  hl hn hv (fun ls hl => k ls H locs hl hR hS)
theorem gx_astore_n {w : gWd} {g : gCx} {cc : ByteArray} {Ts : List Cond} {own : String} {nL fr lo : Nat} (C : gC w g cc Ts own nL fr lo) {h : gHp} {pc : Nat} {lv : List (Nat × Value)} {st : List Value} {i : Nat} {f : Fin 4} {x : Nat} {lv' : List (Nat × Value)} (hd : decode cc pc = .ok (.astore_n f, 1)) (hi : (f : Nat) = i) (hn : i < nL) (hv : (i, Value.ref x) :: lv.filter (fun q => !(q.1 == i) && !(q.1 + 1 == i && q.2.category == 2)) = lv') (k : gX w g nL h (pc + 1) lv' st) : gX w g nL h pc lv (.ref x :: st) := by
  obtain ⟨l, D, cA, sh, b0, adK, adV, fz⟩ := w
  obtain ⟨p, e, R, s, m, args, below, meth, c, ce, sl, Q⟩ := g
  intro ls H locs hl hR hS
  exact lv_astore_n C.1 C.2.1 hd hi hl hn hv (fun ls hl => k ls H locs hl hR hS)
theorem gx_lstore {w : gWd} {g : gCx} {cc : ByteArray} {Ts : List Cond} {own : String} {nL fr lo : Nat} (C : gC w g cc Ts own nL fr lo) {h : gHp} {pc : Nat} {lv : List (Nat × Value)} {st : List Value} {i : Nat} {x : Int64} {lv' : List (Nat × Value)} (hd : decode cc pc = .ok (.lstore i, 2))  (hn : i + 1 < nL) (hv : (i, Value.long x) :: lv.filter (fun q => !(q.1 == i) && (!(q.1 == i + 1) && !(q.1 + 1 == i && q.2.category == 2))) = lv') (k : gX w g nL h (pc + 2) lv' st) : gX w g nL h pc lv (.long x :: st) := by
  obtain ⟨l, D, cA, sh, b0, adK, adV, fz⟩ := w
  obtain ⟨p, e, R, s, m, args, below, meth, c, ce, sl, Q⟩ := g
  intro ls H locs hl hR hS
  exact lv_lstore C.1 C.2.1 hd  hl hn hv (fun ls hl => k ls H locs hl hR hS)
theorem gx_lstore_n {w : gWd} {g : gCx} {cc : ByteArray} {Ts : List Cond} {own : String} {nL fr lo : Nat} (C : gC w g cc Ts own nL fr lo) {h : gHp} {pc : Nat} {lv : List (Nat × Value)} {st : List Value} {i : Nat} {f : Fin 4} {x : Int64} {lv' : List (Nat × Value)} (hd : decode cc pc = .ok (.lstore_n f, 1)) (hi : (f : Nat) = i) (hn : i + 1 < nL) (hv : (i, Value.long x) :: lv.filter (fun q => !(q.1 == i) && (!(q.1 == i + 1) && !(q.1 + 1 == i && q.2.category == 2))) = lv') (k : gX w g nL h (pc + 1) lv' st) : gX w g nL h pc lv (.long x :: st) := by
  obtain ⟨l, D, cA, sh, b0, adK, adV, fz⟩ := w
  obtain ⟨p, e, R, s, m, args, below, meth, c, ce, sl, Q⟩ := g
  intro ls H locs hl hR hS
  exact lv_lstore_n C.1 C.2.1 hd hi hl hn hv (fun ls hl => k ls H locs hl hR hS)
theorem gx_iinc {w : gWd} {g : gCx} {cc : ByteArray} {Ts : List Cond} {own : String} {nL fr lo : Nat} (C : gC w g cc Ts own nL fr lo) {h : gHp} {pc : Nat} {lv : List (Nat × Value)} {st : List Value} {i j : Nat} {n : Int} {x v : Int32} {lv' : List (Nat × Value)} (hd : decode cc pc = .ok (.iinc i n, 3)) (hj : lv[j]? = some (i, .int x)) (hv : x + Int32.ofInt n = v) (hn : i < nL) (hf : (i, Value.int v) :: lv.filter (fun q => !(q.1 == i) && !(q.1 + 1 == i && q.2.category == 2)) = lv') (k : gX w g nL h (pc + 3) lv' st) : gX w g nL h pc lv st := by
  obtain ⟨l, D, cA, sh, b0, adK, adV, fz⟩ := w
  obtain ⟨p, e, R, s, m, args, below, meth, c, ce, sl, Q⟩ := g
  intro ls H locs hl hR hS
  exact lv_iinc C.1 C.2.1 hd hl hj hv hn hf (fun ls hl => k ls H locs hl hR hS)
theorem gx_iadd {w : gWd} {g : gCx} {cc : ByteArray} {Ts : List Cond} {own : String} {nL fr lo : Nat} (C : gC w g cc Ts own nL fr lo) {h : gHp} {pc : Nat} {lv : List (Nat × Value)} {st : List Value} {x y : Int32} (hd : decode cc pc = .ok (.iadd, 1)) (k : gX w g nL h (pc + 1) lv (.int (x + y) :: st)) : gX w g nL h pc lv (.int y :: .int x :: st) := by
  obtain ⟨l, D, cA, sh, b0, adK, adV, fz⟩ := w
  obtain ⟨p, e, R, s, m, args, below, meth, c, ce, sl, Q⟩ := g
  intro ls H locs hl hR hS
  exact lv_iadd C.1 C.2.1 hd (k ls H locs hl hR hS)
theorem gx_isub {w : gWd} {g : gCx} {cc : ByteArray} {Ts : List Cond} {own : String} {nL fr lo : Nat} (C : gC w g cc Ts own nL fr lo) {h : gHp} {pc : Nat} {lv : List (Nat × Value)} {st : List Value} {x y : Int32} (hd : decode cc pc = .ok (.isub, 1)) (k : gX w g nL h (pc + 1) lv (.int (x - y) :: st)) : gX w g nL h pc lv (.int y :: .int x :: st) := by
  obtain ⟨l, D, cA, sh, b0, adK, adV, fz⟩ := w
  obtain ⟨p, e, R, s, m, args, below, meth, c, ce, sl, Q⟩ := g
  intro ls H locs hl hR hS
  exact lv_isub C.1 C.2.1 hd (k ls H locs hl hR hS)
theorem gx_imul {w : gWd} {g : gCx} {cc : ByteArray} {Ts : List Cond} {own : String} {nL fr lo : Nat} (C : gC w g cc Ts own nL fr lo) {h : gHp} {pc : Nat} {lv : List (Nat × Value)} {st : List Value} {x y : Int32} (hd : decode cc pc = .ok (.imul, 1)) (k : gX w g nL h (pc + 1) lv (.int (x * y) :: st)) : gX w g nL h pc lv (.int y :: .int x :: st) := by
  obtain ⟨l, D, cA, sh, b0, adK, adV, fz⟩ := w
  obtain ⟨p, e, R, s, m, args, below, meth, c, ce, sl, Q⟩ := g
  intro ls H locs hl hR hS
  exact lv_imul C.1 C.2.1 hd (k ls H locs hl hR hS)
theorem gx_iand {w : gWd} {g : gCx} {cc : ByteArray} {Ts : List Cond} {own : String} {nL fr lo : Nat} (C : gC w g cc Ts own nL fr lo) {h : gHp} {pc : Nat} {lv : List (Nat × Value)} {st : List Value} {x y : Int32} (hd : decode cc pc = .ok (.iand, 1)) (k : gX w g nL h (pc + 1) lv (.int (x &&& y) :: st)) : gX w g nL h pc lv (.int y :: .int x :: st) := by
  obtain ⟨l, D, cA, sh, b0, adK, adV, fz⟩ := w
  obtain ⟨p, e, R, s, m, args, below, meth, c, ce, sl, Q⟩ := g
  intro ls H locs hl hR hS
  exact lv_iand C.1 C.2.1 hd (k ls H locs hl hR hS)
theorem gx_ior {w : gWd} {g : gCx} {cc : ByteArray} {Ts : List Cond} {own : String} {nL fr lo : Nat} (C : gC w g cc Ts own nL fr lo) {h : gHp} {pc : Nat} {lv : List (Nat × Value)} {st : List Value} {x y : Int32} (hd : decode cc pc = .ok (.ior, 1)) (k : gX w g nL h (pc + 1) lv (.int (x ||| y) :: st)) : gX w g nL h pc lv (.int y :: .int x :: st) := by
  obtain ⟨l, D, cA, sh, b0, adK, adV, fz⟩ := w
  obtain ⟨p, e, R, s, m, args, below, meth, c, ce, sl, Q⟩ := g
  intro ls H locs hl hR hS
  exact lv_ior C.1 C.2.1 hd (k ls H locs hl hR hS)
theorem gx_ishl {w : gWd} {g : gCx} {cc : ByteArray} {Ts : List Cond} {own : String} {nL fr lo : Nat} (C : gC w g cc Ts own nL fr lo) {h : gHp} {pc : Nat} {lv : List (Nat × Value)} {st : List Value} {x y : Int32} (hd : decode cc pc = .ok (.ishl, 1)) (k : gX w g nL h (pc + 1) lv (.int (x <<< (y &&& 31)) :: st)) : gX w g nL h pc lv (.int y :: .int x :: st) := by
  obtain ⟨l, D, cA, sh, b0, adK, adV, fz⟩ := w
  obtain ⟨p, e, R, s, m, args, below, meth, c, ce, sl, Q⟩ := g
  intro ls H locs hl hR hS
  exact lv_ishl C.1 C.2.1 hd (k ls H locs hl hR hS)
theorem gx_ishr {w : gWd} {g : gCx} {cc : ByteArray} {Ts : List Cond} {own : String} {nL fr lo : Nat} (C : gC w g cc Ts own nL fr lo) {h : gHp} {pc : Nat} {lv : List (Nat × Value)} {st : List Value} {x y : Int32} (hd : decode cc pc = .ok (.ishr, 1)) (k : gX w g nL h (pc + 1) lv (.int (x >>> (y &&& 31)) :: st)) : gX w g nL h pc lv (.int y :: .int x :: st) := by
  obtain ⟨l, D, cA, sh, b0, adK, adV, fz⟩ := w
  obtain ⟨p, e, R, s, m, args, below, meth, c, ce, sl, Q⟩ := g
  intro ls H locs hl hR hS
  exact lv_ishr C.1 C.2.1 hd (k ls H locs hl hR hS)
theorem gx_iushr {w : gWd} {g : gCx} {cc : ByteArray} {Ts : List Cond} {own : String} {nL fr lo : Nat} (C : gC w g cc Ts own nL fr lo) {h : gHp} {pc : Nat} {lv : List (Nat × Value)} {st : List Value} {x y : Int32} (hd : decode cc pc = .ok (.iushr, 1)) (k : gX w g nL h (pc + 1) lv (.int ((x.toUInt32 >>> (y.toUInt32 &&& Int32.toUInt32 31)).toInt32) :: st)) : gX w g nL h pc lv (.int y :: .int x :: st) := by
  obtain ⟨l, D, cA, sh, b0, adK, adV, fz⟩ := w
  obtain ⟨p, e, R, s, m, args, below, meth, c, ce, sl, Q⟩ := g
  intro ls H locs hl hR hS
  exact lv_iushr C.1 C.2.1 hd rfl (k ls H locs hl hR hS)
theorem gx_ladd {w : gWd} {g : gCx} {cc : ByteArray} {Ts : List Cond} {own : String} {nL fr lo : Nat} (C : gC w g cc Ts own nL fr lo) {h : gHp} {pc : Nat} {lv : List (Nat × Value)} {st : List Value} {x y : Int64} (hd : decode cc pc = .ok (.ladd, 1)) (k : gX w g nL h (pc + 1) lv (.long (x + y) :: st)) : gX w g nL h pc lv (.long y :: .long x :: st) := by
  obtain ⟨l, D, cA, sh, b0, adK, adV, fz⟩ := w
  obtain ⟨p, e, R, s, m, args, below, meth, c, ce, sl, Q⟩ := g
  intro ls H locs hl hR hS
  exact lv_ladd C.1 C.2.1 hd (k ls H locs hl hR hS)
theorem gx_lsub {w : gWd} {g : gCx} {cc : ByteArray} {Ts : List Cond} {own : String} {nL fr lo : Nat} (C : gC w g cc Ts own nL fr lo) {h : gHp} {pc : Nat} {lv : List (Nat × Value)} {st : List Value} {x y : Int64} (hd : decode cc pc = .ok (.lsub, 1)) (k : gX w g nL h (pc + 1) lv (.long (x - y) :: st)) : gX w g nL h pc lv (.long y :: .long x :: st) := by
  obtain ⟨l, D, cA, sh, b0, adK, adV, fz⟩ := w
  obtain ⟨p, e, R, s, m, args, below, meth, c, ce, sl, Q⟩ := g
  intro ls H locs hl hR hS
  exact lv_lsub C.1 C.2.1 hd (k ls H locs hl hR hS)
theorem gx_lmul {w : gWd} {g : gCx} {cc : ByteArray} {Ts : List Cond} {own : String} {nL fr lo : Nat} (C : gC w g cc Ts own nL fr lo) {h : gHp} {pc : Nat} {lv : List (Nat × Value)} {st : List Value} {x y : Int64} (hd : decode cc pc = .ok (.lmul, 1)) (k : gX w g nL h (pc + 1) lv (.long (x * y) :: st)) : gX w g nL h pc lv (.long y :: .long x :: st) := by
  obtain ⟨l, D, cA, sh, b0, adK, adV, fz⟩ := w
  obtain ⟨p, e, R, s, m, args, below, meth, c, ce, sl, Q⟩ := g
  intro ls H locs hl hR hS
  exact lv_lmul C.1 C.2.1 hd (k ls H locs hl hR hS)
theorem gx_lxor {w : gWd} {g : gCx} {cc : ByteArray} {Ts : List Cond} {own : String} {nL fr lo : Nat} (C : gC w g cc Ts own nL fr lo) {h : gHp} {pc : Nat} {lv : List (Nat × Value)} {st : List Value} {x y : Int64} (hd : decode cc pc = .ok (.lxor, 1)) (k : gX w g nL h (pc + 1) lv (.long (x ^^^ y) :: st)) : gX w g nL h pc lv (.long y :: .long x :: st) := by
  obtain ⟨l, D, cA, sh, b0, adK, adV, fz⟩ := w
  obtain ⟨p, e, R, s, m, args, below, meth, c, ce, sl, Q⟩ := g
  intro ls H locs hl hR hS
  exact lv_lxor C.1 C.2.1 hd (k ls H locs hl hR hS)
theorem gx_idiv {w : gWd} {g : gCx} {cc : ByteArray} {Ts : List Cond} {own : String} {nL fr lo : Nat} (C : gC w g cc Ts own nL fr lo) {h : gHp} {pc : Nat} {lv : List (Nat × Value)} {st : List Value} {x y : Int32} (hd : decode cc pc = .ok (.idiv, 1)) (hne : ¬ y = 0) (k : gX w g nL h (pc + 1) lv (.int (x / y) :: st)) : gX w g nL h pc lv (.int y :: .int x :: st) := by
  obtain ⟨l, D, cA, sh, b0, adK, adV, fz⟩ := w
  obtain ⟨p, e, R, s, m, args, below, meth, c, ce, sl, Q⟩ := g
  intro ls H locs hl hR hS
  exact lv_idiv C.1 C.2.1 hd hne (k ls H locs hl hR hS)
theorem gx_irem {w : gWd} {g : gCx} {cc : ByteArray} {Ts : List Cond} {own : String} {nL fr lo : Nat} (C : gC w g cc Ts own nL fr lo) {h : gHp} {pc : Nat} {lv : List (Nat × Value)} {st : List Value} {x y : Int32} (hd : decode cc pc = .ok (.irem, 1)) (hne : ¬ y = 0) (k : gX w g nL h (pc + 1) lv (.int (x - x / y * y) :: st)) : gX w g nL h pc lv (.int y :: .int x :: st) := by
  obtain ⟨l, D, cA, sh, b0, adK, adV, fz⟩ := w
  obtain ⟨p, e, R, s, m, args, below, meth, c, ce, sl, Q⟩ := g
  intro ls H locs hl hR hS
  exact lv_irem C.1 C.2.1 hd hne (k ls H locs hl hR hS)
theorem gx_ldiv {w : gWd} {g : gCx} {cc : ByteArray} {Ts : List Cond} {own : String} {nL fr lo : Nat} (C : gC w g cc Ts own nL fr lo) {h : gHp} {pc : Nat} {lv : List (Nat × Value)} {st : List Value} {x y : Int64} (hd : decode cc pc = .ok (.ldiv, 1)) (hne : ¬ y = 0) (k : gX w g nL h (pc + 1) lv (.long (x / y) :: st)) : gX w g nL h pc lv (.long y :: .long x :: st) := by
  obtain ⟨l, D, cA, sh, b0, adK, adV, fz⟩ := w
  obtain ⟨p, e, R, s, m, args, below, meth, c, ce, sl, Q⟩ := g
  intro ls H locs hl hR hS
  exact lv_ldiv C.1 C.2.1 hd hne (k ls H locs hl hR hS)
theorem gx_lrem {w : gWd} {g : gCx} {cc : ByteArray} {Ts : List Cond} {own : String} {nL fr lo : Nat} (C : gC w g cc Ts own nL fr lo) {h : gHp} {pc : Nat} {lv : List (Nat × Value)} {st : List Value} {x y : Int64} (hd : decode cc pc = .ok (.lrem, 1)) (hne : ¬ y = 0) (k : gX w g nL h (pc + 1) lv (.long (x - x / y * y) :: st)) : gX w g nL h pc lv (.long y :: .long x :: st) := by
  obtain ⟨l, D, cA, sh, b0, adK, adV, fz⟩ := w
  obtain ⟨p, e, R, s, m, args, below, meth, c, ce, sl, Q⟩ := g
  intro ls H locs hl hR hS
  exact lv_lrem C.1 C.2.1 hd hne (k ls H locs hl hR hS)
theorem gx_lneg {w : gWd} {g : gCx} {cc : ByteArray} {Ts : List Cond} {own : String} {nL fr lo : Nat} (C : gC w g cc Ts own nL fr lo) {h : gHp} {pc : Nat} {lv : List (Nat × Value)} {st : List Value} {x : Int64} (hd : decode cc pc = .ok (.lneg, 1)) (k : gX w g nL h (pc + 1) lv (.long (-x) :: st)) : gX w g nL h pc lv (.long x :: st) := by
  obtain ⟨l, D, cA, sh, b0, adK, adV, fz⟩ := w
  obtain ⟨p, e, R, s, m, args, below, meth, c, ce, sl, Q⟩ := g
  intro ls H locs hl hR hS
  exact lv_lneg C.1 C.2.1 hd (k ls H locs hl hR hS)
theorem gx_i2l {w : gWd} {g : gCx} {cc : ByteArray} {Ts : List Cond} {own : String} {nL fr lo : Nat} (C : gC w g cc Ts own nL fr lo) {h : gHp} {pc : Nat} {lv : List (Nat × Value)} {st : List Value} {x : Int32} (hd : decode cc pc = .ok (.i2l, 1)) (k : gX w g nL h (pc + 1) lv (.long x.toInt64 :: st)) : gX w g nL h pc lv (.int x :: st) := by
  obtain ⟨l, D, cA, sh, b0, adK, adV, fz⟩ := w
  obtain ⟨p, e, R, s, m, args, below, meth, c, ce, sl, Q⟩ := g
  intro ls H locs hl hR hS
  exact lv_i2l C.1 C.2.1 hd rfl (k ls H locs hl hR hS)
theorem gx_l2i {w : gWd} {g : gCx} {cc : ByteArray} {Ts : List Cond} {own : String} {nL fr lo : Nat} (C : gC w g cc Ts own nL fr lo) {h : gHp} {pc : Nat} {lv : List (Nat × Value)} {st : List Value} {x : Int64} (hd : decode cc pc = .ok (.l2i, 1)) (k : gX w g nL h (pc + 1) lv (.int x.toInt32 :: st)) : gX w g nL h pc lv (.long x :: st) := by
  obtain ⟨l, D, cA, sh, b0, adK, adV, fz⟩ := w
  obtain ⟨p, e, R, s, m, args, below, meth, c, ce, sl, Q⟩ := g
  intro ls H locs hl hR hS
  exact lv_l2i C.1 C.2.1 hd rfl (k ls H locs hl hR hS)
theorem gx_i2c {w : gWd} {g : gCx} {cc : ByteArray} {Ts : List Cond} {own : String} {nL fr lo : Nat} (C : gC w g cc Ts own nL fr lo) {h : gHp} {pc : Nat} {lv : List (Nat × Value)} {st : List Value} {x : Int32} (hd : decode cc pc = .ok (.i2c, 1)) (k : gX w g nL h (pc + 1) lv (.int (x.toUInt32 % 65536).toInt32 :: st)) : gX w g nL h pc lv (.int x :: st) := by
  obtain ⟨l, D, cA, sh, b0, adK, adV, fz⟩ := w
  obtain ⟨p, e, R, s, m, args, below, meth, c, ce, sl, Q⟩ := g
  intro ls H locs hl hR hS
  exact lv_i2c C.1 C.2.1 hd rfl (k ls H locs hl hR hS)
theorem gx_dup {w : gWd} {g : gCx} {cc : ByteArray} {Ts : List Cond} {own : String} {nL fr lo : Nat} (C : gC w g cc Ts own nL fr lo) {h : gHp} {pc : Nat} {lv : List (Nat × Value)} {st : List Value} {v : Value} (hd : decode cc pc = .ok (.dup, 1)) (hv : v.category = 1) (k : gX w g nL h (pc + 1) lv (v :: v :: st)) : gX w g nL h pc lv (v :: st) := by
  obtain ⟨l, D, cA, sh, b0, adK, adV, fz⟩ := w
  obtain ⟨p, e, R, s, m, args, below, meth, c, ce, sl, Q⟩ := g
  intro ls H locs hl hR hS
  exact lv_dup C.1 C.2.1 hd hv (k ls H locs hl hR hS)
theorem gx_pop {w : gWd} {g : gCx} {cc : ByteArray} {Ts : List Cond} {own : String} {nL fr lo : Nat} (C : gC w g cc Ts own nL fr lo) {h : gHp} {pc : Nat} {lv : List (Nat × Value)} {st : List Value} {v : Value} (hd : decode cc pc = .ok (.pop, 1)) (hv : v.category = 1) (k : gX w g nL h (pc + 1) lv (st)) : gX w g nL h pc lv (v :: st) := by
  obtain ⟨l, D, cA, sh, b0, adK, adV, fz⟩ := w
  obtain ⟨p, e, R, s, m, args, below, meth, c, ce, sl, Q⟩ := g
  intro ls H locs hl hR hS
  exact lv_pop C.1 C.2.1 hd hv (k ls H locs hl hR hS)
theorem gx_dup2 {w : gWd} {g : gCx} {cc : ByteArray} {Ts : List Cond} {own : String} {nL fr lo : Nat} (C : gC w g cc Ts own nL fr lo) {h : gHp} {pc : Nat} {lv : List (Nat × Value)} {st : List Value} {v u : Value} (hd : decode cc pc = .ok (.dup2, 1)) (hv : v.category = 1) (hu : u.category = 1) (k : gX w g nL h (pc + 1) lv (v :: u :: v :: u :: st)) : gX w g nL h pc lv (v :: u :: st) := by
  obtain ⟨l, D, cA, sh, b0, adK, adV, fz⟩ := w
  obtain ⟨p, e, R, s, m, args, below, meth, c, ce, sl, Q⟩ := g
  intro ls H locs hl hR hS
  exact lv_dup2_11 C.1 C.2.1 hd hv hu (k ls H locs hl hR hS)
theorem gx_icmp_eq {w : gWd} {g : gCx} {cc : ByteArray} {Ts : List Cond} {own : String} {nL fr lo : Nat} (C : gC w g cc Ts own nL fr lo) {h : gHp} {pc : Nat} {lv : List (Nat × Value)} {st : List Value} {x y : Int32} {off : Int} (tgt : Nat) (hd : decode cc pc = .ok (.if_icmp .eq off, 3)) (ht : (pc : Int) + off = (tgt : Int)) (kt : x = y → gX w g nL h tgt lv st) (kf : ¬ x = y → gX w g nL h (pc + 3) lv st) : gX w g nL h pc lv (.int y :: .int x :: st) := by
  obtain ⟨l, D, cA, sh, b0, adK, adV, fz⟩ := w
  obtain ⟨p, e, R, s, m, args, below, meth, c, ce, sl, Q⟩ := g
  intro ls H locs hl hR hS
  exact lv_icmp_eq C.1 C.2.1 hd ht (fun c => kt c ls H locs hl hR hS) (fun c => kf c ls H locs hl hR hS)
theorem gx_if_eq {w : gWd} {g : gCx} {cc : ByteArray} {Ts : List Cond} {own : String} {nL fr lo : Nat} (C : gC w g cc Ts own nL fr lo) {h : gHp} {pc : Nat} {lv : List (Nat × Value)} {st : List Value} {x : Int32} {off : Int} (tgt : Nat) (hd : decode cc pc = .ok (.ifCond .eq off, 3)) (ht : (pc : Int) + off = (tgt : Int)) (kt : x = 0 → gX w g nL h tgt lv st) (kf : ¬ x = 0 → gX w g nL h (pc + 3) lv st) : gX w g nL h pc lv (.int x :: st) := by
  obtain ⟨l, D, cA, sh, b0, adK, adV, fz⟩ := w
  obtain ⟨p, e, R, s, m, args, below, meth, c, ce, sl, Q⟩ := g
  intro ls H locs hl hR hS
  exact lv_if_eq C.1 C.2.1 hd ht (fun c => kt c ls H locs hl hR hS) (fun c => kf c ls H locs hl hR hS)
theorem gx_icmp_ne {w : gWd} {g : gCx} {cc : ByteArray} {Ts : List Cond} {own : String} {nL fr lo : Nat} (C : gC w g cc Ts own nL fr lo) {h : gHp} {pc : Nat} {lv : List (Nat × Value)} {st : List Value} {x y : Int32} {off : Int} (tgt : Nat) (hd : decode cc pc = .ok (.if_icmp .ne off, 3)) (ht : (pc : Int) + off = (tgt : Int)) (kt : ¬ x = y → gX w g nL h tgt lv st) (kf : x = y → gX w g nL h (pc + 3) lv st) : gX w g nL h pc lv (.int y :: .int x :: st) := by
  obtain ⟨l, D, cA, sh, b0, adK, adV, fz⟩ := w
  obtain ⟨p, e, R, s, m, args, below, meth, c, ce, sl, Q⟩ := g
  intro ls H locs hl hR hS
  exact lv_icmp_ne C.1 C.2.1 hd ht (fun c => kt c ls H locs hl hR hS) (fun c => kf c ls H locs hl hR hS)
theorem gx_if_ne {w : gWd} {g : gCx} {cc : ByteArray} {Ts : List Cond} {own : String} {nL fr lo : Nat} (C : gC w g cc Ts own nL fr lo) {h : gHp} {pc : Nat} {lv : List (Nat × Value)} {st : List Value} {x : Int32} {off : Int} (tgt : Nat) (hd : decode cc pc = .ok (.ifCond .ne off, 3)) (ht : (pc : Int) + off = (tgt : Int)) (kt : ¬ x = 0 → gX w g nL h tgt lv st) (kf : x = 0 → gX w g nL h (pc + 3) lv st) : gX w g nL h pc lv (.int x :: st) := by
  obtain ⟨l, D, cA, sh, b0, adK, adV, fz⟩ := w
  obtain ⟨p, e, R, s, m, args, below, meth, c, ce, sl, Q⟩ := g
  intro ls H locs hl hR hS
  exact lv_if_ne C.1 C.2.1 hd ht (fun c => kt c ls H locs hl hR hS) (fun c => kf c ls H locs hl hR hS)
theorem gx_icmp_lt {w : gWd} {g : gCx} {cc : ByteArray} {Ts : List Cond} {own : String} {nL fr lo : Nat} (C : gC w g cc Ts own nL fr lo) {h : gHp} {pc : Nat} {lv : List (Nat × Value)} {st : List Value} {x y : Int32} {off : Int} (tgt : Nat) (hd : decode cc pc = .ok (.if_icmp .lt off, 3)) (ht : (pc : Int) + off = (tgt : Int)) (kt : x < y → gX w g nL h tgt lv st) (kf : ¬ x < y → gX w g nL h (pc + 3) lv st) : gX w g nL h pc lv (.int y :: .int x :: st) := by
  obtain ⟨l, D, cA, sh, b0, adK, adV, fz⟩ := w
  obtain ⟨p, e, R, s, m, args, below, meth, c, ce, sl, Q⟩ := g
  intro ls H locs hl hR hS
  exact lv_icmp_lt C.1 C.2.1 hd ht (fun c => kt c ls H locs hl hR hS) (fun c => kf c ls H locs hl hR hS)
theorem gx_if_lt {w : gWd} {g : gCx} {cc : ByteArray} {Ts : List Cond} {own : String} {nL fr lo : Nat} (C : gC w g cc Ts own nL fr lo) {h : gHp} {pc : Nat} {lv : List (Nat × Value)} {st : List Value} {x : Int32} {off : Int} (tgt : Nat) (hd : decode cc pc = .ok (.ifCond .lt off, 3)) (ht : (pc : Int) + off = (tgt : Int)) (kt : x < 0 → gX w g nL h tgt lv st) (kf : ¬ x < 0 → gX w g nL h (pc + 3) lv st) : gX w g nL h pc lv (.int x :: st) := by
  obtain ⟨l, D, cA, sh, b0, adK, adV, fz⟩ := w
  obtain ⟨p, e, R, s, m, args, below, meth, c, ce, sl, Q⟩ := g
  intro ls H locs hl hR hS
  exact lv_if_lt C.1 C.2.1 hd ht (fun c => kt c ls H locs hl hR hS) (fun c => kf c ls H locs hl hR hS)
theorem gx_icmp_ge {w : gWd} {g : gCx} {cc : ByteArray} {Ts : List Cond} {own : String} {nL fr lo : Nat} (C : gC w g cc Ts own nL fr lo) {h : gHp} {pc : Nat} {lv : List (Nat × Value)} {st : List Value} {x y : Int32} {off : Int} (tgt : Nat) (hd : decode cc pc = .ok (.if_icmp .ge off, 3)) (ht : (pc : Int) + off = (tgt : Int)) (kt : y ≤ x → gX w g nL h tgt lv st) (kf : ¬ y ≤ x → gX w g nL h (pc + 3) lv st) : gX w g nL h pc lv (.int y :: .int x :: st) := by
  obtain ⟨l, D, cA, sh, b0, adK, adV, fz⟩ := w
  obtain ⟨p, e, R, s, m, args, below, meth, c, ce, sl, Q⟩ := g
  intro ls H locs hl hR hS
  exact lv_icmp_ge C.1 C.2.1 hd ht (fun c => kt c ls H locs hl hR hS) (fun c => kf c ls H locs hl hR hS)
theorem gx_if_ge {w : gWd} {g : gCx} {cc : ByteArray} {Ts : List Cond} {own : String} {nL fr lo : Nat} (C : gC w g cc Ts own nL fr lo) {h : gHp} {pc : Nat} {lv : List (Nat × Value)} {st : List Value} {x : Int32} {off : Int} (tgt : Nat) (hd : decode cc pc = .ok (.ifCond .ge off, 3)) (ht : (pc : Int) + off = (tgt : Int)) (kt : 0 ≤ x → gX w g nL h tgt lv st) (kf : ¬ 0 ≤ x → gX w g nL h (pc + 3) lv st) : gX w g nL h pc lv (.int x :: st) := by
  obtain ⟨l, D, cA, sh, b0, adK, adV, fz⟩ := w
  obtain ⟨p, e, R, s, m, args, below, meth, c, ce, sl, Q⟩ := g
  intro ls H locs hl hR hS
  exact lv_if_ge C.1 C.2.1 hd ht (fun c => kt c ls H locs hl hR hS) (fun c => kf c ls H locs hl hR hS)
theorem gx_icmp_gt {w : gWd} {g : gCx} {cc : ByteArray} {Ts : List Cond} {own : String} {nL fr lo : Nat} (C : gC w g cc Ts own nL fr lo) {h : gHp} {pc : Nat} {lv : List (Nat × Value)} {st : List Value} {x y : Int32} {off : Int} (tgt : Nat) (hd : decode cc pc = .ok (.if_icmp .gt off, 3)) (ht : (pc : Int) + off = (tgt : Int)) (kt : y < x → gX w g nL h tgt lv st) (kf : ¬ y < x → gX w g nL h (pc + 3) lv st) : gX w g nL h pc lv (.int y :: .int x :: st) := by
  obtain ⟨l, D, cA, sh, b0, adK, adV, fz⟩ := w
  obtain ⟨p, e, R, s, m, args, below, meth, c, ce, sl, Q⟩ := g
  intro ls H locs hl hR hS
  exact lv_icmp_gt C.1 C.2.1 hd ht (fun c => kt c ls H locs hl hR hS) (fun c => kf c ls H locs hl hR hS)
theorem gx_if_gt {w : gWd} {g : gCx} {cc : ByteArray} {Ts : List Cond} {own : String} {nL fr lo : Nat} (C : gC w g cc Ts own nL fr lo) {h : gHp} {pc : Nat} {lv : List (Nat × Value)} {st : List Value} {x : Int32} {off : Int} (tgt : Nat) (hd : decode cc pc = .ok (.ifCond .gt off, 3)) (ht : (pc : Int) + off = (tgt : Int)) (kt : 0 < x → gX w g nL h tgt lv st) (kf : ¬ 0 < x → gX w g nL h (pc + 3) lv st) : gX w g nL h pc lv (.int x :: st) := by
  obtain ⟨l, D, cA, sh, b0, adK, adV, fz⟩ := w
  obtain ⟨p, e, R, s, m, args, below, meth, c, ce, sl, Q⟩ := g
  intro ls H locs hl hR hS
  exact lv_if_gt C.1 C.2.1 hd ht (fun c => kt c ls H locs hl hR hS) (fun c => kf c ls H locs hl hR hS)
theorem gx_icmp_le {w : gWd} {g : gCx} {cc : ByteArray} {Ts : List Cond} {own : String} {nL fr lo : Nat} (C : gC w g cc Ts own nL fr lo) {h : gHp} {pc : Nat} {lv : List (Nat × Value)} {st : List Value} {x y : Int32} {off : Int} (tgt : Nat) (hd : decode cc pc = .ok (.if_icmp .le off, 3)) (ht : (pc : Int) + off = (tgt : Int)) (kt : x ≤ y → gX w g nL h tgt lv st) (kf : ¬ x ≤ y → gX w g nL h (pc + 3) lv st) : gX w g nL h pc lv (.int y :: .int x :: st) := by
  obtain ⟨l, D, cA, sh, b0, adK, adV, fz⟩ := w
  obtain ⟨p, e, R, s, m, args, below, meth, c, ce, sl, Q⟩ := g
  intro ls H locs hl hR hS
  exact lv_icmp_le C.1 C.2.1 hd ht (fun c => kt c ls H locs hl hR hS) (fun c => kf c ls H locs hl hR hS)
theorem gx_if_le {w : gWd} {g : gCx} {cc : ByteArray} {Ts : List Cond} {own : String} {nL fr lo : Nat} (C : gC w g cc Ts own nL fr lo) {h : gHp} {pc : Nat} {lv : List (Nat × Value)} {st : List Value} {x : Int32} {off : Int} (tgt : Nat) (hd : decode cc pc = .ok (.ifCond .le off, 3)) (ht : (pc : Int) + off = (tgt : Int)) (kt : x ≤ 0 → gX w g nL h tgt lv st) (kf : ¬ x ≤ 0 → gX w g nL h (pc + 3) lv st) : gX w g nL h pc lv (.int x :: st) := by
  obtain ⟨l, D, cA, sh, b0, adK, adV, fz⟩ := w
  obtain ⟨p, e, R, s, m, args, below, meth, c, ce, sl, Q⟩ := g
  intro ls H locs hl hR hS
  exact lv_if_le C.1 C.2.1 hd ht (fun c => kt c ls H locs hl hR hS) (fun c => kf c ls H locs hl hR hS)
theorem gx_goto {w : gWd} {g : gCx} {cc : ByteArray} {Ts : List Cond} {own : String} {nL fr lo : Nat} (C : gC w g cc Ts own nL fr lo) {h : gHp} {pc : Nat} {lv : List (Nat × Value)} {st : List Value} {off : Int} (tgt : Nat) (hd : decode cc pc = .ok (.goto off, 3)) (ht : (pc : Int) + off = (tgt : Int)) (k : gX w g nL h tgt lv st) : gX w g nL h pc lv st := by
  obtain ⟨l, D, cA, sh, b0, adK, adV, fz⟩ := w
  obtain ⟨p, e, R, s, m, args, below, meth, c, ce, sl, Q⟩ := g
  intro ls H locs hl hR hS
  exact lv_goto C.1 C.2.1 hd ht (k ls H locs hl hR hS)
theorem gZ_0 (b : Bool) : gZ b = 0 ↔ ¬ b = true := by cases b <;> decide

theorem gx_ifz_eq {w : gWd} {g : gCx} {cc : ByteArray} {Ts : List Cond} {own : String} {nL fr lo : Nat} (C : gC w g cc Ts own nL fr lo) {h : gHp} {pc : Nat} {lv : List (Nat × Value)} {st : List Value} {b : Bool} {off : Int} (tgt : Nat) (hd : decode cc pc = .ok (.ifCond .eq off, 3)) (ht : (pc : Int) + off = (tgt : Int)) (kt : ¬ b = true → gX w g nL h tgt lv st) (kf : b = true → gX w g nL h (pc + 3) lv st) : gX w g nL h pc lv (.int (gZ b) :: st) := gx_if_eq C tgt hd ht (fun c => kt ((gZ_0 b).mp c)) (fun c => kf (Classical.not_not.mp (fun q => c ((gZ_0 b).mpr q))))
theorem gx_ifz_ne {w : gWd} {g : gCx} {cc : ByteArray} {Ts : List Cond} {own : String} {nL fr lo : Nat} (C : gC w g cc Ts own nL fr lo) {h : gHp} {pc : Nat} {lv : List (Nat × Value)} {st : List Value} {b : Bool} {off : Int} (tgt : Nat) (hd : decode cc pc = .ok (.ifCond .ne off, 3)) (ht : (pc : Int) + off = (tgt : Int)) (kt : b = true → gX w g nL h tgt lv st) (kf : ¬ b = true → gX w g nL h (pc + 3) lv st) : gX w g nL h pc lv (.int (gZ b) :: st) := gx_if_ne C tgt hd ht (fun c => kt (Classical.not_not.mp (fun q => c ((gZ_0 b).mpr q)))) (fun c => kf ((gZ_0 b).mp c))
theorem gI_irr (x : Int64) : ¬ x < x := by
  rw [Int64.lt_iff_toInt_lt]; omega
theorem gI_asy {x y : Int64} (h : x < y) : ¬ y < x := by
  rw [Int64.lt_iff_toInt_lt] at h ⊢; omega
theorem gI_ne {x y : Int64} (h : x < y) : ¬ x = y := fun e => by subst e; exact gI_irr x h
theorem gI_tri {x y : Int64} (h1 : ¬ x < y) (h2 : ¬ x = y) : y < x := by
  rw [Int64.lt_iff_toInt_lt] at h1 ⊢
  have h3 : ¬ x.toInt = y.toInt := fun e => h2 (Int64.toInt_inj.mp e)
  omega
theorem gLc_eq (x y : Int64) : (lg_cmp x y = 0) ↔ x = y := by
  unfold lg_cmp
  by_cases h2 : x = y
  · subst h2; simp [gI_irr]
  · by_cases h1 : y < x
    · simp [h1, h2]
    · simp [h1, h2]
theorem gLc_lt (x y : Int64) : (lg_cmp x y < 0) ↔ x < y := by
  unfold lg_cmp
  by_cases h1 : y < x
  · simp [h1, gI_asy h1]
  · by_cases h2 : x = y
    · subst h2; simp [gI_irr]
    · simp [h1, h2, gI_tri h1 (fun e => h2 e.symm)]
theorem gLc_gt (x y : Int64) : (0 < lg_cmp x y) ↔ y < x := by
  unfold lg_cmp
  by_cases h1 : y < x
  · simp [h1]
  · by_cases h2 : x = y
    · subst h2; simp [gI_irr]
    · simp [h1, h2]

theorem gLc_ge (x y : Int64) : (0 ≤ lg_cmp x y) ↔ y ≤ x := by
  rw [← Int64.not_lt, ← Int32.not_lt]
  exact not_congr (gLc_lt x y)
theorem gLc_le (x y : Int64) : (lg_cmp x y ≤ 0) ↔ x ≤ y := by
  rw [← Int64.not_lt, ← Int32.not_lt]
  exact not_congr (gLc_gt x y)

theorem gx_lcmp_eq {w : gWd} {g : gCx} {cc : ByteArray} {Ts : List Cond} {own : String} {nL fr lo : Nat} (C : gC w g cc Ts own nL fr lo) {h : gHp} {pc : Nat} {lv : List (Nat × Value)} {st : List Value} {x y : Int64} {off : Int} (tgt : Nat) (hd1 : decode cc pc = .ok (.lcmp, 1)) (hd : decode cc (pc + 1) = .ok (.ifCond .eq off, 3)) (ht : ((pc + 1 : Nat) : Int) + off = (tgt : Int)) (kt : x = y → gX w g nL h tgt lv st) (kf : ¬ x = y → gX w g nL h (pc + 1 + 3) lv st) : gX w g nL h pc lv (.long y :: .long x :: st) := by
  obtain ⟨l, D, cA, sh, b0, adK, adV, fz⟩ := w
  obtain ⟨p, e, R, s, m, args, below, meth, c, ce, sl, Q⟩ := g
  intro ls H locs hl hR hS
  exact W.lcmp C.1 C.2.1 hd1 (lv_if_eq C.1 C.2.1 hd ht (fun c => (kt ((gLc_eq x y).mp c)) ls H locs hl hR hS) (fun c => (kf (fun q => c ((gLc_eq x y).mpr q))) ls H locs hl hR hS))
theorem gx_lcmp_ne {w : gWd} {g : gCx} {cc : ByteArray} {Ts : List Cond} {own : String} {nL fr lo : Nat} (C : gC w g cc Ts own nL fr lo) {h : gHp} {pc : Nat} {lv : List (Nat × Value)} {st : List Value} {x y : Int64} {off : Int} (tgt : Nat) (hd1 : decode cc pc = .ok (.lcmp, 1)) (hd : decode cc (pc + 1) = .ok (.ifCond .ne off, 3)) (ht : ((pc + 1 : Nat) : Int) + off = (tgt : Int)) (kt : ¬ x = y → gX w g nL h tgt lv st) (kf : x = y → gX w g nL h (pc + 1 + 3) lv st) : gX w g nL h pc lv (.long y :: .long x :: st) := by
  obtain ⟨l, D, cA, sh, b0, adK, adV, fz⟩ := w
  obtain ⟨p, e, R, s, m, args, below, meth, c, ce, sl, Q⟩ := g
  intro ls H locs hl hR hS
  exact W.lcmp C.1 C.2.1 hd1 (lv_if_ne C.1 C.2.1 hd ht (fun c => (kt (fun q => c ((gLc_eq x y).mpr q))) ls H locs hl hR hS) (fun c => (kf ((gLc_eq x y).mp c)) ls H locs hl hR hS))
theorem gx_lcmp_lt {w : gWd} {g : gCx} {cc : ByteArray} {Ts : List Cond} {own : String} {nL fr lo : Nat} (C : gC w g cc Ts own nL fr lo) {h : gHp} {pc : Nat} {lv : List (Nat × Value)} {st : List Value} {x y : Int64} {off : Int} (tgt : Nat) (hd1 : decode cc pc = .ok (.lcmp, 1)) (hd : decode cc (pc + 1) = .ok (.ifCond .lt off, 3)) (ht : ((pc + 1 : Nat) : Int) + off = (tgt : Int)) (kt : x < y → gX w g nL h tgt lv st) (kf : ¬ x < y → gX w g nL h (pc + 1 + 3) lv st) : gX w g nL h pc lv (.long y :: .long x :: st) := by
  obtain ⟨l, D, cA, sh, b0, adK, adV, fz⟩ := w
  obtain ⟨p, e, R, s, m, args, below, meth, c, ce, sl, Q⟩ := g
  intro ls H locs hl hR hS
  exact W.lcmp C.1 C.2.1 hd1 (lv_if_lt C.1 C.2.1 hd ht (fun c => (kt ((gLc_lt x y).mp c)) ls H locs hl hR hS) (fun c => (kf (fun q => c ((gLc_lt x y).mpr q))) ls H locs hl hR hS))
theorem gx_lcmp_ge {w : gWd} {g : gCx} {cc : ByteArray} {Ts : List Cond} {own : String} {nL fr lo : Nat} (C : gC w g cc Ts own nL fr lo) {h : gHp} {pc : Nat} {lv : List (Nat × Value)} {st : List Value} {x y : Int64} {off : Int} (tgt : Nat) (hd1 : decode cc pc = .ok (.lcmp, 1)) (hd : decode cc (pc + 1) = .ok (.ifCond .ge off, 3)) (ht : ((pc + 1 : Nat) : Int) + off = (tgt : Int)) (kt : y ≤ x → gX w g nL h tgt lv st) (kf : ¬ y ≤ x → gX w g nL h (pc + 1 + 3) lv st) : gX w g nL h pc lv (.long y :: .long x :: st) := by
  obtain ⟨l, D, cA, sh, b0, adK, adV, fz⟩ := w
  obtain ⟨p, e, R, s, m, args, below, meth, c, ce, sl, Q⟩ := g
  intro ls H locs hl hR hS
  exact W.lcmp C.1 C.2.1 hd1 (lv_if_ge C.1 C.2.1 hd ht (fun c => (kt ((gLc_ge x y).mp c)) ls H locs hl hR hS) (fun c => (kf (fun q => c ((gLc_ge x y).mpr q))) ls H locs hl hR hS))
theorem gx_lcmp_gt {w : gWd} {g : gCx} {cc : ByteArray} {Ts : List Cond} {own : String} {nL fr lo : Nat} (C : gC w g cc Ts own nL fr lo) {h : gHp} {pc : Nat} {lv : List (Nat × Value)} {st : List Value} {x y : Int64} {off : Int} (tgt : Nat) (hd1 : decode cc pc = .ok (.lcmp, 1)) (hd : decode cc (pc + 1) = .ok (.ifCond .gt off, 3)) (ht : ((pc + 1 : Nat) : Int) + off = (tgt : Int)) (kt : y < x → gX w g nL h tgt lv st) (kf : ¬ y < x → gX w g nL h (pc + 1 + 3) lv st) : gX w g nL h pc lv (.long y :: .long x :: st) := by
  obtain ⟨l, D, cA, sh, b0, adK, adV, fz⟩ := w
  obtain ⟨p, e, R, s, m, args, below, meth, c, ce, sl, Q⟩ := g
  intro ls H locs hl hR hS
  exact W.lcmp C.1 C.2.1 hd1 (lv_if_gt C.1 C.2.1 hd ht (fun c => (kt ((gLc_gt x y).mp c)) ls H locs hl hR hS) (fun c => (kf (fun q => c ((gLc_gt x y).mpr q))) ls H locs hl hR hS))
theorem gx_lcmp_le {w : gWd} {g : gCx} {cc : ByteArray} {Ts : List Cond} {own : String} {nL fr lo : Nat} (C : gC w g cc Ts own nL fr lo) {h : gHp} {pc : Nat} {lv : List (Nat × Value)} {st : List Value} {x y : Int64} {off : Int} (tgt : Nat) (hd1 : decode cc pc = .ok (.lcmp, 1)) (hd : decode cc (pc + 1) = .ok (.ifCond .le off, 3)) (ht : ((pc + 1 : Nat) : Int) + off = (tgt : Int)) (kt : x ≤ y → gX w g nL h tgt lv st) (kf : ¬ x ≤ y → gX w g nL h (pc + 1 + 3) lv st) : gX w g nL h pc lv (.long y :: .long x :: st) := by
  obtain ⟨l, D, cA, sh, b0, adK, adV, fz⟩ := w
  obtain ⟨p, e, R, s, m, args, below, meth, c, ce, sl, Q⟩ := g
  intro ls H locs hl hR hS
  exact W.lcmp C.1 C.2.1 hd1 (lv_if_le C.1 C.2.1 hd ht (fun c => (kt ((gLc_le x y).mp c)) ls H locs hl hR hS) (fun c => (kf (fun q => c ((gLc_le x y).mpr q))) ls H locs hl hR hS))
theorem gx_sub {w : gWd} {g : gCx} {nL : Nat} {h : gHp} {pc : Nat} {lv lv' : List (Nat × Value)} {st : List Value} (ks : List Nat) (hk : lv_pick lv ks = lv') (k : gX w g nL h pc lv' st) : gX w g nL h pc lv st := by
  obtain ⟨l, D, cA, sh, b0, adK, adV, fz⟩ := w
  obtain ⟨p, e, R, s, m, args, below, meth, c, ce, sl, Q⟩ := g
  intro ls H locs hl hR hS
  exact k ls H locs (lv_sub hl ks hk) hR hS
theorem gx_tableIn {w : gWd} {g : gCx} {cc : ByteArray} {Ts : List Cond} {own : String} {nL fr lo : Nat} (C : gC w g cc Ts own nL fr lo) {h : gHp} {pc : Nat} {lv : List (Nat × Value)} {st : List Value} {dflt lo' hi : Int} {offs : Array Int} {len : Nat} {x : Int32} {off : Int} (tgt : Nat) (hd : decode cc pc = .ok (.tableswitch dflt lo' hi offs, len)) (h1 : ¬ x.toInt < lo') (h2 : ¬ hi < x.toInt) (ho : offs[(x.toInt - lo').toNat]? = some off) (ht : (pc : Int) + off = (tgt : Int)) (k : gX w g nL h tgt lv st) : gX w g nL h pc lv (.int x :: st) := by
  obtain ⟨l, D, cA, sh, b0, adK, adV, fz⟩ := w
  obtain ⟨p, e, R, s, m, args, below, meth, c, ce, sl, Q⟩ := g
  intro ls H locs hl hR hS
  exact lv_tableIn C.1 C.2.1 hd h1 h2 ho ht (k ls H locs hl hR hS)
theorem gx_tableOut {w : gWd} {g : gCx} {cc : ByteArray} {Ts : List Cond} {own : String} {nL fr lo : Nat} (C : gC w g cc Ts own nL fr lo) {h : gHp} {pc : Nat} {lv : List (Nat × Value)} {st : List Value} {dflt lo' hi : Int} {offs : Array Int} {len : Nat} {x : Int32} (tgt : Nat) (hd : decode cc pc = .ok (.tableswitch dflt lo' hi offs, len)) (ho : x.toInt < lo' ∨ hi < x.toInt) (ht : (pc : Int) + dflt = (tgt : Int)) (k : gX w g nL h tgt lv st) : gX w g nL h pc lv (.int x :: st) := by
  obtain ⟨l, D, cA, sh, b0, adK, adV, fz⟩ := w
  obtain ⟨p, e, R, s, m, args, below, meth, c, ce, sl, Q⟩ := g
  intro ls H locs hl hR hS
  exact lv_tableOut C.1 C.2.1 hd ho ht (k ls H locs hl hR hS)
/-- a field's link, and which place of which class it is -/
def gF (Ts : List Cond) (own : String) (index ci k : Nat) : Prop := ∃ (Cn : String) (T : u_T) (N : Nat), vwCl[ci]? = some (Cn, T, N) ∧ k < N ∧ (∀ x ∈ u_ws Cn T N, x ∈ Ts) ∧ Cond.fieldLink own index (T k).1 (T k).2.1 (T k).2.2.1 ∈ Ts
def gFw (Ts : List Cond) (own : String) (index ci k : Nat) (ty : FieldType) : Prop := ∃ (Cn : String) (T : u_T) (N : Nat) (ty0 : Nat → FieldType), vwCl[ci]? = some (Cn, T, N) ∧ k < N ∧ (∀ x ∈ u_ws Cn T N, x ∈ Ts) ∧ Cond.fieldLink own index (T k).1 (T k).2.1 (T k).2.2.1 ∈ Ts ∧ (∀ k, k < N → parseFieldDescriptor (T k).2.2.1 = some (ty0 k)) ∧ (∀ a, a < N → ∀ b, b < N → a ≠ b → (T a).2.1 ≠ (T b).2.1) ∧ (T k).2.2.2 = false ∧ parseFieldDescriptor (T k).2.2.1 = some ty
theorem gP1 {D : va_G} {cA : Nat → ClassId} {sh : Nat → Option gSh} {h : gHp} {H : Heap} (hR : gR D cA sh h H) {a : Nat} {x : gSh} (ha : sh a = some x) : va_P D vwCl [(a, gE cA (h.1 a) (h.2 a) x)] H := by
  intro k q hq
  match k, hq with
  | 0, hq => cases hq; exact hR a x ha
  | k + 1, hq => simp at hq
theorem gD1 {A : Nat → Prop} {a : Nat} {e : va_E} (hA : A a) : va_D A [(a, e)] := by
  refine ⟨fun i j p q hi hj _ => ?_, fun k q hq => ?_⟩
  · match i, j, hi, hj with
    | 0, 0, _, _ => rfl
    | i + 1, _, hi, _ => simp at hi
    | 0, j + 1, _, hj => simp at hj
  · match k, hq with
    | 0, hq => cases hq; exact hA
    | k + 1, hq => simp at hq
theorem gx_get {w : gWd} {g : gCx} {cc : ByteArray} {Ts : List Cond} {own : String} {nL fr lo : Nat} (C : gC w g cc Ts own nL fr lo) {h : gHp} {pc : Nat} {lv : List (Nat × Value)} {st : List Value} {a index ci i : Nat} {ks : List gSl} {x : gSl} (F : gF Ts own index ci i) (ha : gsh w a = some (.inl (ci, ks))) (hk : ks[i]? = some x) (hd : decode cc pc = .ok (.getfield index, 3)) (k : gX w g nL h (pc + 3) lv (gV (h.1 a) (h.2 a) i x :: st)) : gX w g nL h pc lv (.ref a :: st) := by
  obtain ⟨l, D, cA, sh, b0, adK, adV, fz⟩ := w
  obtain ⟨p, e, R, s, m, args, below, meth, c, ce, sl, Q⟩ := g
  intro ls H locs hl hR hS
  obtain ⟨Cn, T, N, hc, hi, hin, hlk⟩ := F
  exact va_get C.1 C.2.1 C.2.2.2.2.1 hin C.2.2.2.1 C.2.2.2.2.2.1 (gP1 hR ha) 0 rfl hc i hi (C.2.2.2.2.1 _ hlk) (fun _ q => q) (by rw [gVs_get, hk]; simp) hd (k ls H locs hl hR hS)
theorem gS_in {A : Nat → Prop} {a : Nat} {H0 H H1 : Heap} {locs locs1 : List Loc} (hA : A a) (hS : va_S A H0 H locs) (h1 : va_S (fun q => q = a) H H1 locs1) : va_S A H0 H1 (locs ++ locs1) := by
  refine ⟨Nat.le_trans hS.1 h1.1, fun q h2 h3 => ?_, fun q hq => ?_⟩
  · rw [h1.2.1 q (Nat.lt_of_lt_of_le h2 hS.1) (fun e => h3 (by rw [e]; exact hA))]
    exact hS.2.1 q h2 h3
  · rcases List.mem_append.mp hq with q1 | q1
    · exact hS.2.2 q q1
    · have := h1.2.2 q q1
      show A q.base
      rw [show q.base = a from this]; exact hA
theorem gR_set {D : va_G} {cA : Nat → ClassId} {sh : Nat → Option gSh} {h h2 : gHp} {H H1 : Heap} {a : Nat} {x : gSh} (hR : gR D cA sh h H) (ha : sh a = some x) (hat : va_at D vwCl (a, gE cA (h2.1 a) (h2.2 a) x) H1) (hk : ∀ q : Nat, q ≠ a → H1[q]? = H[q]?) (h1 : ∀ q : Nat, q ≠ a → h2.1 q = h.1 q ∧ h2.2 q = h.2 q) : gR D cA sh h2 H1 := by
  intro q y hq
  by_cases e : q = a
  · subst e
    have e2 : y = x := Option.some.inj (hq.symm.trans ha)
    subst e2
    exact hat
  · rw [(h1 q e).1, (h1 q e).2]
    exact (hR q y hq).kept (hk q e)
/-- an int, a long is written -/
def gsI (h : gHp) (a k : Nat) (v : Int32) : gHp := (gU h.1 a k v, h.2)
def gsL (h : gHp) (a k : Nat) (v : Int64) : gHp := (h.1, gU h.2 a k v)
theorem gsI_a (h : gHp) (a k : Nat) (v : Int32) : (gsI h a k v).1 a = fun j => if j = k then v else h.1 a j := by funext j; simp [gsI, gU]
theorem gsL_a (h : gHp) (a k : Nat) (v : Int64) : (gsL h a k v).2 a = fun j => if j = k then v else h.2 a j := by funext j; simp [gsL, gU]
theorem gsI_n (h : gHp) (a k : Nat) (v : Int32) : ∀ q : Nat, q ≠ a → (gsI h a k v).1 q = h.1 q ∧ (gsI h a k v).2 q = h.2 q := fun q e => ⟨gU_ne e, rfl⟩
theorem gsL_n (h : gHp) (a k : Nat) (v : Int64) : ∀ q : Nat, q ≠ a → (gsL h a k v).1 q = h.1 q ∧ (gsL h a k v).2 q = h.2 q := fun q e => ⟨rfl, gU_ne e⟩
theorem gx_putI {w : gWd} {g : gCx} {cc : ByteArray} {Ts : List Cond} {own : String} {nL fr lo : Nat} (C : gC w g cc Ts own nL fr lo) {h : gHp} {pc : Nat} {lv : List (Nat × Value)} {st : List Value} {a index ci i : Nat} {ks : List gSl} {v : Int32} {ty : FieldType} (F : gFw Ts own index ci i ty) (ha : gsh w a = some (.inl (ci, ks))) (hk : ks[i]? = some (.inl 0)) (hn : narrow ty (.int v) = .int v) (hfit : fits ty (.int v) = true) (hd : decode cc pc = .ok (.putfield index, 3)) (k : gX w g nL (gsI h a i v) (pc + 3) lv st) : gX w g nL h pc lv (.int v :: .ref a :: st) := by
  obtain ⟨l, D, cA, sh, b0, adK, adV, fz⟩ := w
  obtain ⟨p, e, R, s, m, args, below, meth, c, ce, sl, Q⟩ := g
  intro ls H locs hl hR hS
  obtain ⟨Cn, T, N, ty0, hc, hi, hin, hlk, hty, hnm, hfin, hty1⟩ := F
  have hA := C.2.2.2.2.2.2.2.2.1 a _ ha
  have hP := gP1 hR ha
  have hts := C.2.2.2.2.1
  have hK := C.2.2.2.2.2.1
  have hap := va_apart (own := own) hts hin ty0 hty hnm hK hc
  obtain ⟨r, h1, cell, q1, q2, q3, q4⟩ := hP 0 _ rfl
  have hr : r = (Cn, T, N) := Option.some.inj (h1.symm.trans hc)
  subst hr
  obtain ⟨hS9, hfc, kC, hkC, hkind⟩ := hK.1 ci _ hc
  obtain ⟨cf, kf, fi, f, hi9, hsl⟩ := hS9 i hi
  have hlay := hts _ (hin _ (u_in_lay hi))
  unfold u_lay at hlay
  rw [if_neg (by rw [hfin]; decide)] at hlay
  have hst := (u_facts hfc hkC (u_lays hts hin hi) hi9).1
  have h6 := u_store hfc hkC hkind hlay hi9 hty1 hn hfit
  refine W.putK C.1 C.2.1 (f := f) ⟨C.2.2.2.1, hts _ hlk, ⟨_, _, _, hi9⟩, hst⟩ (by rw [q2]; exact h6) q1 q3 (by rw [hsl]; exact k2_hasslot (q4 i hi)) rfl rfl hd fun H' e1 e2 e3 => ?_
  rw [hsl] at e1 ⊢
  refine k ls H' _ hl (gR_set hR ha ?_ e3 (gsI_n h a i v)) (hS.put e2 e3 hA)
  have hlt : i < (gVs (h.1 a) (h.2 a) 0 ks).length := by
    rw [gVs_len]
    exact (List.getElem?_eq_some_iff.mp hk).1
  have e9 : gE cA ((gsI h a i v).1 a) ((gsI h a i v).2 a) (.inl (ci, ks)) = .inr (ci, (gVs (h.1 a) (h.2 a) 0 ks).set i (.int v)) := by
    rw [gVs_setI _ _ v ks 0 i hk]
    show (Sum.inr (ci, _) : va_E) = _
    rw [gsI_a]
    simp only [Nat.zero_add]
    rfl
  rw [e9]
  exact ⟨_, hc, t_OB.to (V := updV (vp_V (gVs (h.1 a) (h.2 a) 0 ks)) i (.int v)) ⟨_, e1, q2, q3, t_set q4 hap hi (.int v)⟩ (fun j _ => vp_updV_set hlt (.int v) j)⟩
theorem gx_putL {w : gWd} {g : gCx} {cc : ByteArray} {Ts : List Cond} {own : String} {nL fr lo : Nat} (C : gC w g cc Ts own nL fr lo) {h : gHp} {pc : Nat} {lv : List (Nat × Value)} {st : List Value} {a index ci i : Nat} {ks : List gSl} {v : Int64} {ty : FieldType} (F : gFw Ts own index ci i ty) (ha : gsh w a = some (.inl (ci, ks))) (hk : ks[i]? = some (.inl 1)) (hn : narrow ty (.long v) = .long v) (hfit : fits ty (.long v) = true) (hd : decode cc pc = .ok (.putfield index, 3)) (k : gX w g nL (gsL h a i v) (pc + 3) lv st) : gX w g nL h pc lv (.long v :: .ref a :: st) := by
  obtain ⟨l, D, cA, sh, b0, adK, adV, fz⟩ := w
  obtain ⟨p, e, R, s, m, args, below, meth, c, ce, sl, Q⟩ := g
  intro ls H locs hl hR hS
  obtain ⟨Cn, T, N, ty0, hc, hi, hin, hlk, hty, hnm, hfin, hty1⟩ := F
  have hA := C.2.2.2.2.2.2.2.2.1 a _ ha
  have hP := gP1 hR ha
  have hts := C.2.2.2.2.1
  have hK := C.2.2.2.2.2.1
  have hap := va_apart (own := own) hts hin ty0 hty hnm hK hc
  obtain ⟨r, h1, cell, q1, q2, q3, q4⟩ := hP 0 _ rfl
  have hr : r = (Cn, T, N) := Option.some.inj (h1.symm.trans hc)
  subst hr
  obtain ⟨hS9, hfc, kC, hkC, hkind⟩ := hK.1 ci _ hc
  obtain ⟨cf, kf, fi, f, hi9, hsl⟩ := hS9 i hi
  have hlay := hts _ (hin _ (u_in_lay hi))
  unfold u_lay at hlay
  rw [if_neg (by rw [hfin]; decide)] at hlay
  have hst := (u_facts hfc hkC (u_lays hts hin hi) hi9).1
  have h6 := u_store hfc hkC hkind hlay hi9 hty1 hn hfit
  refine W.putK C.1 C.2.1 (f := f) ⟨C.2.2.2.1, hts _ hlk, ⟨_, _, _, hi9⟩, hst⟩ (by rw [q2]; exact h6) q1 q3 (by rw [hsl]; exact k2_hasslot (q4 i hi)) rfl rfl hd fun H' e1 e2 e3 => ?_
  rw [hsl] at e1 ⊢
  refine k ls H' _ hl (gR_set hR ha ?_ e3 (gsL_n h a i v)) (hS.put e2 e3 hA)
  have hlt : i < (gVs (h.1 a) (h.2 a) 0 ks).length := by
    rw [gVs_len]
    exact (List.getElem?_eq_some_iff.mp hk).1
  have e9 : gE cA ((gsL h a i v).1 a) ((gsL h a i v).2 a) (.inl (ci, ks)) = .inr (ci, (gVs (h.1 a) (h.2 a) 0 ks).set i (.long v)) := by
    rw [gVs_setL _ _ v ks 0 i hk]
    show (Sum.inr (ci, _) : va_E) = _
    rw [gsL_a]
    simp only [Nat.zero_add]
    rfl
  rw [e9]
  exact ⟨_, hc, t_OB.to (V := updV (vp_V (gVs (h.1 a) (h.2 a) 0 ks)) i (.long v)) ⟨_, e1, q2, q3, t_set q4 hap hi (.long v)⟩ (fun j _ => vp_updV_set hlt (.long v) j)⟩
theorem gx_iaload {w : gWd} {g : gCx} {cc : ByteArray} {Ts : List Cond} {own : String} {nL fr lo : Nat} (C : gC w g cc Ts own nL fr lo) {h : gHp} {pc : Nat} {lv : List (Nat × Value)} {st : List Value} {a n : Nat} {f : Nat → Nat} {i : Int32} (ha : gsh w a = some (.inr (0, n, f))) (hin : gIn i n) (hd : decode cc pc = .ok (.iaload, 1)) (k : gX w g nL h (pc + 1) lv (.int (h.1 a (gN i)) :: st)) : gX w g nL h pc lv (.int i :: .ref a :: st) := by
  obtain ⟨l, D, cA, sh, b0, adK, adV, fz⟩ := w
  obtain ⟨p, e, R, s, m, args, below, meth, c, ce, sl, Q⟩ := g
  intro ls H locs hl hR hS
  exact va_iald C.1 C.2.1 C.2.2.2.2.2.1 (gP1 hR ha) 0 0 rfl rfl hin hd (k ls H locs hl hR hS)
theorem gx_laload {w : gWd} {g : gCx} {cc : ByteArray} {Ts : List Cond} {own : String} {nL fr lo : Nat} (C : gC w g cc Ts own nL fr lo) {h : gHp} {pc : Nat} {lv : List (Nat × Value)} {st : List Value} {a n : Nat} {f : Nat → Nat} {i : Int32} (ha : gsh w a = some (.inr (1, n, f))) (hin : gIn i n) (hd : decode cc pc = .ok (.laload, 1)) (k : gX w g nL h (pc + 1) lv (.long (h.2 a (gN i)) :: st)) : gX w g nL h pc lv (.int i :: .ref a :: st) := by
  obtain ⟨l, D, cA, sh, b0, adK, adV, fz⟩ := w
  obtain ⟨p, e, R, s, m, args, below, meth, c, ce, sl, Q⟩ := g
  intro ls H locs hl hR hS
  exact va_lald C.1 C.2.1 C.2.2.2.2.2.1 (gP1 hR ha) 0 1 rfl rfl hin hd (k ls H locs hl hR hS)
theorem gx_caload {w : gWd} {g : gCx} {cc : ByteArray} {Ts : List Cond} {own : String} {nL fr lo : Nat} (C : gC w g cc Ts own nL fr lo) {h : gHp} {pc : Nat} {lv : List (Nat × Value)} {st : List Value} {a n : Nat} {f : Nat → Nat} {i : Int32} (ha : gsh w a = some (.inr (2, n, f))) (hin : gIn i n) (hd : decode cc pc = .ok (.caload, 1)) (k : gX w g nL h (pc + 1) lv (.int (h.1 a (gN i)) :: st)) : gX w g nL h pc lv (.int i :: .ref a :: st) := by
  obtain ⟨l, D, cA, sh, b0, adK, adV, fz⟩ := w
  obtain ⟨p, e, R, s, m, args, below, meth, c, ce, sl, Q⟩ := g
  intro ls H locs hl hR hS
  exact va_cald C.1 C.2.1 C.2.2.2.2.2.1 (gP1 hR ha) 0 2 rfl rfl hin hd (k ls H locs hl hR hS)
theorem gx_zaload {w : gWd} {g : gCx} {cc : ByteArray} {Ts : List Cond} {own : String} {nL fr lo : Nat} (C : gC w g cc Ts own nL fr lo) {h : gHp} {pc : Nat} {lv : List (Nat × Value)} {st : List Value} {a n : Nat} {f : Nat → Nat} {i : Int32} (ha : gsh w a = some (.inr (3, n, f))) (hin : gIn i n) (hd : decode cc pc = .ok (.baload, 1)) (k : gX w g nL h (pc + 1) lv (.int (h.1 a (gN i)) :: st)) : gX w g nL h pc lv (.int i :: .ref a :: st) := by
  obtain ⟨l, D, cA, sh, b0, adK, adV, fz⟩ := w
  obtain ⟨p, e, R, s, m, args, below, meth, c, ce, sl, Q⟩ := g
  intro ls H locs hl hR hS
  exact va_zald C.1 C.2.1 C.2.2.2.2.2.1 (gP1 hR ha) 0 3 rfl rfl hin hd (k ls H locs hl hR hS)
theorem gx_aaloadFr {w : gWd} {g : gCx} {cc : ByteArray} {Ts : List Cond} {own : String} {nL fr lo : Nat} (C : gC w g cc Ts own nL fr lo) {h : gHp} {pc : Nat} {lv : List (Nat × Value)} {st : List Value} {a n : Nat} {f : Nat → Nat} {i : Int32} (ha : gsh w a = some (.inr (4, n, f))) (hin : gIn i n) (hd : decode cc pc = .ok (.aaload, 1)) (k : gX w g nL h (pc + 1) lv (.ref (f (gN i)) :: st)) : gX w g nL h pc lv (.int i :: .ref a :: st) := by
  obtain ⟨l, D, cA, sh, b0, adK, adV, fz⟩ := w
  obtain ⟨p, e, R, s, m, args, below, meth, c, ce, sl, Q⟩ := g
  intro ls H locs hl hR hS
  exact va_aldq C.1 C.2.1 C.2.2.2.2.2.1 (gP1 hR ha) 0 4 rfl rfl hin hd (k ls H locs hl hR hS)
theorem gx_aaloadSt {w : gWd} {g : gCx} {cc : ByteArray} {Ts : List Cond} {own : String} {nL fr lo : Nat} (C : gC w g cc Ts own nL fr lo) {h : gHp} {pc : Nat} {lv : List (Nat × Value)} {st : List Value} {a n : Nat} {f : Nat → Nat} {i : Int32} (ha : gsh w a = some (.inr (5, n, f))) (hin : gIn i n) (hd : decode cc pc = .ok (.aaload, 1)) (k : gX w g nL h (pc + 1) lv (.ref (f (gN i)) :: st)) : gX w g nL h pc lv (.int i :: .ref a :: st) := by
  obtain ⟨l, D, cA, sh, b0, adK, adV, fz⟩ := w
  obtain ⟨p, e, R, s, m, args, below, meth, c, ce, sl, Q⟩ := g
  intro ls H locs hl hR hS
  exact va_aldq C.1 C.2.1 C.2.2.2.2.2.1 (gP1 hR ha) 0 5 rfl rfl hin hd (k ls H locs hl hR hS)
theorem gx_iastore {w : gWd} {g : gCx} {cc : ByteArray} {Ts : List Cond} {own : String} {nL fr lo : Nat} (C : gC w g cc Ts own nL fr lo) {h : gHp} {pc : Nat} {lv : List (Nat × Value)} {st : List Value} {a n : Nat} {f : Nat → Nat} {i : Int32} {x : Int32} (ha : gsh w a = some (.inr (0, n, f))) (hin : gIn i n) (hd : decode cc pc = .ok (.iastore, 1)) (k : gX w g nL (gsI h a (gN i) x) (pc + 1) lv st) : gX w g nL h pc lv (.int x :: .int i :: .ref a :: st) := by
  obtain ⟨l, D, cA, sh, b0, adK, adV, fz⟩ := w
  obtain ⟨p, e, R, s, m, args, below, meth, c, ce, sl, Q⟩ := g
  intro ls H locs hl hR hS
  have hA := C.2.2.2.2.2.2.2.2.1 a _ ha
  have hK := C.2.2.2.2.2.1
  have hP := gP1 hR ha
  refine W.iast C.1 C.2.1 (hP 0 _ rfl) ((hK.2 0 _ rfl).1 n (fun j => .int (h.1 a j))) (fun q => by cases q) (by show ¬ (i < 0 ∨ (arrV _ _ _).slots.size ≤ _); rw [arrV_size]; exact hin) rfl rfl hd fun H1 e z oq => ?_
  refine k ls H1 _ hl (gR_set hR ha ?_ oq (gsI_n h a _ _)) (hS.put z oq hA)
  show H1[a]? = some (vp_cell (cA 0) (n, .inl ((gsI h a (gN i) x).1 a)))
  rw [e, gsI_a]
  show some ((arrV (cA 0) n (fun j => .int (h.1 a j))).setSlot _ _) = some (arrV (cA 0) n (fun j => .int (if j = gN i then x else h.1 a j)))
  rw [arrV_store]
  congr 2
  funext q
  by_cases hq : q = i.toNatClampNeg
  · subst hq
    simp [updV, vp_nar]
    try rfl
  · simp [updV, hq]
theorem gx_lastore {w : gWd} {g : gCx} {cc : ByteArray} {Ts : List Cond} {own : String} {nL fr lo : Nat} (C : gC w g cc Ts own nL fr lo) {h : gHp} {pc : Nat} {lv : List (Nat × Value)} {st : List Value} {a n : Nat} {f : Nat → Nat} {i : Int32} {x : Int64} (ha : gsh w a = some (.inr (1, n, f))) (hin : gIn i n) (hd : decode cc pc = .ok (.lastore, 1)) (k : gX w g nL (gsL h a (gN i) x) (pc + 1) lv st) : gX w g nL h pc lv (.long x :: .int i :: .ref a :: st) := by
  obtain ⟨l, D, cA, sh, b0, adK, adV, fz⟩ := w
  obtain ⟨p, e, R, s, m, args, below, meth, c, ce, sl, Q⟩ := g
  intro ls H locs hl hR hS
  have hA := C.2.2.2.2.2.2.2.2.1 a _ ha
  have hK := C.2.2.2.2.2.1
  have hP := gP1 hR ha
  refine W.last C.1 C.2.1 (hP 0 _ rfl) ((hK.2 1 _ rfl).1 n (fun j => .long (h.2 a j))) (fun q => by cases q) (by show ¬ (i < 0 ∨ (arrV _ _ _).slots.size ≤ _); rw [arrV_size]; exact hin) rfl rfl hd fun H1 e z oq => ?_
  refine k ls H1 _ hl (gR_set hR ha ?_ oq (gsL_n h a _ _)) (hS.put z oq hA)
  show H1[a]? = some (vp_cell (cA 1) (n, .inr (.inl ((gsL h a (gN i) x).2 a))))
  rw [e, gsL_a]
  show some ((arrV (cA 1) n (fun j => .long (h.2 a j))).setSlot _ _) = some (arrV (cA 1) n (fun j => .long (if j = gN i then x else h.2 a j)))
  rw [arrV_store]
  congr 2
  funext q
  by_cases hq : q = i.toNatClampNeg
  · subst hq
    simp [updV, vp_nar]
    try rfl
  · simp [updV, hq]
theorem gx_castore {w : gWd} {g : gCx} {cc : ByteArray} {Ts : List Cond} {own : String} {nL fr lo : Nat} (C : gC w g cc Ts own nL fr lo) {h : gHp} {pc : Nat} {lv : List (Nat × Value)} {st : List Value} {a n : Nat} {f : Nat → Nat} {i : Int32} {x : Int32} (ha : gsh w a = some (.inr (2, n, f))) (hin : gIn i n) (hd : decode cc pc = .ok (.castore, 1)) (k : gX w g nL (gsI h a (gN i) (vp_nar .char x)) (pc + 1) lv st) : gX w g nL h pc lv (.int x :: .int i :: .ref a :: st) := by
  obtain ⟨l, D, cA, sh, b0, adK, adV, fz⟩ := w
  obtain ⟨p, e, R, s, m, args, below, meth, c, ce, sl, Q⟩ := g
  intro ls H locs hl hR hS
  have hA := C.2.2.2.2.2.2.2.2.1 a _ ha
  have hK := C.2.2.2.2.2.1
  have hP := gP1 hR ha
  refine W.cast C.1 C.2.1 (hP 0 _ rfl) ((hK.2 2 _ rfl).1 n (fun j => .int (h.1 a j))) (fun q => by cases q) (by show ¬ (i < 0 ∨ (arrV _ _ _).slots.size ≤ _); rw [arrV_size]; exact hin) rfl rfl hd fun H1 e z oq => ?_
  refine k ls H1 _ hl (gR_set hR ha ?_ oq (gsI_n h a _ _)) (hS.put z oq hA)
  show H1[a]? = some (vp_cell (cA 2) (n, .inl ((gsI h a (gN i) (vp_nar .char x)).1 a)))
  rw [e, gsI_a]
  show some ((arrV (cA 2) n (fun j => .int (h.1 a j))).setSlot _ _) = some (arrV (cA 2) n (fun j => .int (if j = gN i then (vp_nar .char x) else h.1 a j)))
  rw [arrV_store]
  congr 2
  funext q
  by_cases hq : q = i.toNatClampNeg
  · subst hq
    simp [updV, vp_nar]
    try rfl
  · simp [updV, hq]
theorem gx_zastore {w : gWd} {g : gCx} {cc : ByteArray} {Ts : List Cond} {own : String} {nL fr lo : Nat} (C : gC w g cc Ts own nL fr lo) {h : gHp} {pc : Nat} {lv : List (Nat × Value)} {st : List Value} {a n : Nat} {f : Nat → Nat} {i : Int32} {x : Int32} (ha : gsh w a = some (.inr (3, n, f))) (hin : gIn i n) (hd : decode cc pc = .ok (.bastore, 1)) (k : gX w g nL (gsI h a (gN i) (vp_nar .boolean x)) (pc + 1) lv st) : gX w g nL h pc lv (.int x :: .int i :: .ref a :: st) := by
  obtain ⟨l, D, cA, sh, b0, adK, adV, fz⟩ := w
  obtain ⟨p, e, R, s, m, args, below, meth, c, ce, sl, Q⟩ := g
  intro ls H locs hl hR hS
  have hA := C.2.2.2.2.2.2.2.2.1 a _ ha
  have hK := C.2.2.2.2.2.1
  have hP := gP1 hR ha
  refine W.zast C.1 C.2.1 (hP 0 _ rfl) ((hK.2 3 _ rfl).1 n (fun j => .int (h.1 a j))) (fun q => by cases q) (by show ¬ (i < 0 ∨ (arrV _ _ _).slots.size ≤ _); rw [arrV_size]; exact hin) rfl rfl hd fun H1 e z oq => ?_
  refine k ls H1 _ hl (gR_set hR ha ?_ oq (gsI_n h a _ _)) (hS.put z oq hA)
  show H1[a]? = some (vp_cell (cA 3) (n, .inl ((gsI h a (gN i) (vp_nar .boolean x)).1 a)))
  rw [e, gsI_a]
  show some ((arrV (cA 3) n (fun j => .int (h.1 a j))).setSlot _ _) = some (arrV (cA 3) n (fun j => .int (if j = gN i then (vp_nar .boolean x) else h.1 a j)))
  rw [arrV_store]
  congr 2
  funext q
  by_cases hq : q = i.toNatClampNeg
  · subst hq
    simp [updV, vp_nar]
    try rfl
  · simp [updV, hq]
theorem gx_iret {w : gWd} {g : gCx} {cc : ByteArray} {Ts : List Cond} {own : String} {nL fr lo : Nat} (C : gC w g cc Ts own nL fr lo) {h : gHp} {pc : Nat} {lv : List (Nat × Value)} {x : Int32} (E : gEn w g (some .int) (some (.int x)) h) (hd : decode cc pc = .ok (.ireturn, 1)) : gX w g nL h pc lv [.int x] := by
  obtain ⟨l, D, cA, sh, b0, adK, adV, fz⟩ := w
  obtain ⟨p, e, R, s, m, args, below, meth, c, ce, sl, Q⟩ := g
  intro ls H locs hl hR hS
  obtain ⟨hr, hlk, rfl⟩ := E
  exact W.iret (v := x) C.1 C.2.1 hr (fun t ht hW => ⟨rfl, by rw [ht]; exact hR, hS.F ht⟩) hS.2.2 hd hlk
theorem gx_lret {w : gWd} {g : gCx} {cc : ByteArray} {Ts : List Cond} {own : String} {nL fr lo : Nat} (C : gC w g cc Ts own nL fr lo) {h : gHp} {pc : Nat} {lv : List (Nat × Value)} {x : Int64} (E : gEn w g (some .long) (some (.long x)) h) (hd : decode cc pc = .ok (.lreturn, 1)) : gX w g nL h pc lv [.long x] := by
  obtain ⟨l, D, cA, sh, b0, adK, adV, fz⟩ := w
  obtain ⟨p, e, R, s, m, args, below, meth, c, ce, sl, Q⟩ := g
  intro ls H locs hl hR hS
  obtain ⟨hr, hlk, rfl⟩ := E
  exact W.lret (v := x) C.1 C.2.1 hr (fun t ht hW => ⟨rfl, by rw [ht]; exact hR, hS.F ht⟩) hS.2.2 hd hlk
theorem gx_zret {w : gWd} {g : gCx} {cc : ByteArray} {Ts : List Cond} {own : String} {nL fr lo : Nat} (C : gC w g cc Ts own nL fr lo) {h : gHp} {pc : Nat} {lv : List (Nat × Value)} {b : Bool} (E : gEn w g (some .boolean) (some (.int (gZ b))) h) (hd : decode cc pc = .ok (.ireturn, 1)) : gX w g nL h pc lv [.int (gZ b)] := by
  obtain ⟨l, D, cA, sh, b0, adK, adV, fz⟩ := w
  obtain ⟨p, e, R, s, m, args, below, meth, c, ce, sl, Q⟩ := g
  intro ls H locs hl hR hS
  obtain ⟨hr, hlk, rfl⟩ := E
  exact W.zret (v := gZ b) C.1 C.2.1 hr (by cases b <;> rfl) (fun t ht hW => ⟨rfl, by rw [ht]; exact hR, hS.F ht⟩) hS.2.2 hd hlk
theorem gx_vret {w : gWd} {g : gCx} {cc : ByteArray} {Ts : List Cond} {own : String} {nL fr lo : Nat} (C : gC w g cc Ts own nL fr lo) {h : gHp} {pc : Nat} {lv : List (Nat × Value)} (E : gEn w g none none h) (hd : decode cc pc = .ok (.return_, 1)) : gX w g nL h pc lv [] := by
  obtain ⟨l, D, cA, sh, b0, adK, adV, fz⟩ := w
  obtain ⟨p, e, R, s, m, args, below, meth, c, ce, sl, Q⟩ := g
  intro ls H locs hl hR hS
  obtain ⟨hr, hlk, rfl⟩ := E
  exact W.vret C.1 C.2.1 hr (fun t ht hW => ⟨rfl, by rw [ht]; exact hR, hS.F ht⟩) hS.2.2 hd hlk
theorem gx_aret {w : gWd} {g : gCx} {cc : ByteArray} {Ts : List Cond} {own : String} {nL fr lo : Nat} (C : gC w g cc Ts own nL fr lo) {h : gHp} {pc : Nat} {lv : List (Nat × Value)} {a : Nat} {rt : FieldType} (hrt : (∃ n, rt = FieldType.object n) ∨ ∃ t, rt = FieldType.array t) (E : gEn w g (some rt) (some (.ref a)) h) (hd : decode cc pc = .ok (.areturn, 1)) : gX w g nL h pc lv [.ref a] := by
  obtain ⟨l, D, cA, sh, b0, adK, adV, fz⟩ := w
  obtain ⟨p, e, R, s, m, args, below, meth, c, ce, sl, Q⟩ := g
  intro ls H locs hl hR hS
  obtain ⟨hr, hlk, rfl⟩ := E
  exact W.aret (v := .ref a) C.1 C.2.1 hr hrt (Or.inr ⟨a, rfl⟩) (fun t ht hW => ⟨rfl, by rw [ht]; exact hR, hS.F ht⟩) hS.2.2 hd hlk
theorem gPre_blind (w : gWd) (h : gHp) (av : List Value) : FrameBlind (va_Pc av (gPre w h)) := fun a U g mk q => by
  obtain ⟨q0, q1, q2, q3, q4, q5, q6⟩ := q
  exact ⟨q0, q1, va_K.moved (u := U) (U := U.calling g mk a) (Vm.Alike.refl U.vm) q2, gNs.same (u := U) (U := U.calling g mk a) rfl q3, q4, q5, gSt.same (u := U) (U := U.calling g mk a) rfl rfl q6⟩
/-- a method's contract out of the walk of its body -/
theorem gMet_of {w : gWd} {y : MethodName} {ws ws' : List Cond} {rm : Room} {av : List Value} {h h' : gHp} {v : Option Value} {cc : ByteArray} {maxL : Nat} {ret : Option FieldType} {fr lo : Nat} {own : String} (lv : List (Nat × Value))
    (hy : plainName y.cls = true) (hw : ws = Cond.code y cc maxL ret :: ws') (howny : y.cls = own) (hlen : (lg_sl av).length ≤ maxL) (hlv : lv_args 0 av = lv) (hfr : fr ≤ rm.frames) (hlo : lo ≤ rm.locals)
    (body : ∀ g : gCx, gC w g cc ws own maxL fr lo → gEn w g ret v h' → gX w g maxL h 0 lv []) : gMet w y ws rm av h v h' := by
  obtain ⟨l, D, cA, sh, b0, adK, adV, fz⟩ := w
  refine Met.ofW (cc := cc) (maxL := maxL) (ret := ret) hy hw ?_
  intro p e s m args below meth c s₁ B hml hv
  obtain ⟨rfl, hR, hK, hN, hb0, hsh, hst⟩ := hv
  have hts := atoms_spec (ws := ws) B.pre
  have hown : s.vm.findClass own = some m.cls := by rw [← howny]; exact findClass_of_methodNamed B.named
  have hl := lv_entry av (n := maxL) hlen
  rw [lg_entry_eq]
  generalize (lg_sl av ++ List.replicate (maxL - (lg_sl av).length) Slot.unset).toArray = ls at hl ⊢
  rw [hlv] at hl
  exact body (p, e, (headSpec ws rm).room, s, m, av.toArray, below, meth, c, 0, 0, _) ⟨B.exec, B.bytes, hml, hown, hts, hK, hN, hb0, hsh, hfr, hlo, Nat.zero_le _, Nat.zero_le _, hst⟩ ⟨B.returns, B.notSynchronized, rfl⟩ ls s.heap [] hl hR va_S.rf
theorem gMet_ofWF {l : Launch} {y : MethodName} {ws ws' : List Cond} {rm : Room} {Pc : Array Value → State → Prop} {Qc : Array Value → State → Outcome → State → Prop} {mc ms : Nat} {free : Addr → Prop} {cc : ByteArray} {maxL : Nat} {ret : Option FieldType}
    (hy : plainFor y = true) (hw : ws = Cond.code y cc maxL ret :: ws')
    (body : ∀ p e s m args below meth c s₁, BodyLoose p l y (headSpec ws rm) cc maxL ret e s m args below meth c s₁ → c.maxLocals = maxL → Pc args s →
      W p l e (headSpec ws rm).room s m args below meth c s.heap [] 0 0 (MQ below Qc args s mc ms free) (entryFrame m args maxL)) : Met l y ws rm Pc Qc mc ms free := by
  refine MetFree.of_bodySF (code := cc) (maxLocals := maxL) (ret := ret) hy ?_ ?_
  · intro args s m h hn
    obtain ⟨meth, c, h1, h2, h3, h4, h5, h6, -, -⟩ := Cond.code_spec hn (atoms_spec (ws := ws) h _ (by rw [hw]; exact List.mem_cons_self))
    exact ⟨meth, c, h1, h2, h3, h4, h5, h6⟩
  · intro p e s m args below meth c s₁ B hml hP _
    have hh0 : s₁.heap = s.heap := by rw [B.state]; rfl
    obtain ⟨t, a1, o, b1, b2, b3⟩ := body p e s m args below meth c s₁ B hml hP s₁ hh0 (Stand.of_body B)
    exact ⟨t, o, a1, b1, b2, ⟨b3.1, b3.2⟩⟩
/-- the same for a method of a class some of whose methods the machine runs by an entry of its own -/
theorem gMet_ofF {w : gWd} {y : MethodName} {ws ws' : List Cond} {rm : Room} {av : List Value} {h h' : gHp} {v : Option Value} {cc : ByteArray} {maxL : Nat} {ret : Option FieldType} {fr lo : Nat} {own : String} (lv : List (Nat × Value))
    (hy : plainFor y = true) (hw : ws = Cond.code y cc maxL ret :: ws') (howny : y.cls = own) (hlen : (lg_sl av).length ≤ maxL) (hlv : lv_args 0 av = lv) (hfr : fr ≤ rm.frames) (hlo : lo ≤ rm.locals)
    (body : ∀ g : gCx, gC w g cc ws own maxL fr lo → gEn w g ret v h' → gX w g maxL h 0 lv []) : gMet w y ws rm av h v h' := by
  obtain ⟨l, D, cA, sh, b0, adK, adV, fz⟩ := w
  refine gMet_ofWF (cc := cc) (maxL := maxL) (ret := ret) hy hw ?_
  intro p e s m args below meth c s₁ B hml hv
  obtain ⟨rfl, hR, hK, hN, hb0, hsh, hst⟩ := hv
  have hts := atoms_spec (ws := ws) B.pre
  have hown : s.vm.findClass own = some m.cls := by rw [← howny]; exact findClass_of_methodNamed B.named
  have hl := lv_entry av (n := maxL) hlen
  rw [lg_entry_eq]
  generalize (lg_sl av ++ List.replicate (maxL - (lg_sl av).length) Slot.unset).toArray = ls at hl ⊢
  rw [hlv] at hl
  exact body (p, e, (headSpec ws rm).room, s, m, av.toArray, below, meth, c, 0, 0, _) ⟨B.exec, B.bytes, hml, hown, hts, hK, hN, hb0, hsh, hfr, hlo, Nat.zero_le _, Nat.zero_le _, hst⟩ ⟨B.returns, B.notSynchronized, rfl⟩ ls s.heap [] hl hR va_S.rf
theorem gx_callV {w : gWd} {g : gCx} {cc : ByteArray} {Ts : List Cond} {own : String} {nL fr lo : Nat} (C : gC w g cc Ts own nL fr lo) {h : gHp} {pc : Nat} {lv : List (Nat × Value)} {st : List Value} {y : MethodName} {bytes : ByteArray} {maxL index : Nat} {ret : Option FieldType} {ws ws' : List Cond} {rm : Room} {Cn : String} {b ci : Nat} {T : u_T} {N : Nat} {ks : List gSl} (n : Nat) (As : List Value) {v : Option Value} {h' : gHp} (hM : gMet w y ws rm (.ref b :: As) h v h') (hG : GoodIn Ts (wsV own index Cn y ws)) (hw : ws = Cond.code y bytes maxL ret :: ws') (hrc : rm.cells = 0) (hrs : rm.slots = 0) (hy : y.cls = Cn ∧ y.cls ≠ "java/lang/invoke/MethodHandle" ∧ y.cls ≠ "java/lang/invoke/VarHandle" ∧ (parseMethodDescriptor y.desc).map (fun d => d.parameters.length) = some n) (hr1 : rm.frames + 1 ≤ fr) (hr2 : 8 + (maxL + 11) + rm.locals ≤ lo)
    (hb : gsh w b = some (.inl (ci, ks))) (hci : vwCl[ci]? = some (Cn, T, N)) (hn : As.length = n) {stk : List Value} (hstk : stk = As.reverse ++ .ref b :: st) (hW : (st.map fun v => v.category).sum ≤ 8) (hd : decode cc pc = .ok (.invokevirtual index, 3)) (k : gX w g nL h' (pc + 3) lv (v.toList ++ st)) : gX w g nL h pc lv stk := by
  obtain ⟨l, D, cA, sh, b0, adK, adV, fz⟩ := w
  obtain ⟨p, e, R, s, m, args, below, meth, c, ce, sl, Q⟩ := g
  intro ls H locs hl hR hS
  have hS0 := C.2.2.2.2.2.2.2.1
  have hr : va_Run p l e R s m args below meth c H locs ce sl 0 0 (F0 m pc ls stk) st ((fun _ st oc t => gQc (l, D, cA, sh, b0, adK, adV, fz) v h' st oc t) (.ref b :: As).toArray) (fun q => b0 ≤ q) :=
    va_runV (C := Cn) (b := b) (As := As) (rest := st) ⟨C.1, C.2.1, C.2.2.1, C.2.2.2.1, C.2.2.2.2.1⟩ hM (cwV n C.2.2.2.2.1 hG hw hrc hrs hy ⟨Nat.le_trans hr1 C.2.2.2.2.2.2.2.2.2.1, Nat.le_trans hr2 C.2.2.2.2.2.2.2.2.2.2.1⟩) ⟨gPre_blind _ h _, va_recv (ci := ci) (q0 := 0) C.2.2.2.2.2.1 (gP1 hR hb) hci rfl, fun U hU hW => ⟨rfl, by rw [hU]; exact hR, va_K.moved hW.alike C.2.2.2.2.2.1, gNs.warm hW C.2.2.2.2.2.2.1, by rw [hU]; exact Nat.le_trans hS0 hS.1, C.2.2.2.2.2.2.2.2.1, gSt.warm hW (fun q h1 h2 => by rw [hU]; exact hS.2.1 q h1 h2) C.2.2.2.2.2.2.2.2.2.2.2.2.2⟩⟩ rfl hn hl.1 hstk (lv_room hW) hd ⟨C.2.2.2.2.2.2.2.2.2.2.2.1, C.2.2.2.2.2.2.2.2.2.2.2.2.1⟩
  intro T hT X
  obtain ⟨v1, st₀, t, T', L, h0, X', hL, e1, e2, ⟨hv, hR1, hF1⟩, hgo⟩ := hr T hT X
  cases hv
  rw [← e1] at hR1
  have hz : H.size ≤ T'.heap.size := by rw [e1, ← h0]; exact hF1.1
  have hu : ∀ q : Nat, q < H.size → ¬ b0 ≤ q → T'.heap[q]? = H[q]? := fun q h1 h2 => by rw [e1, ← h0]; exact hF1.2 q (by rw [h0]; exact h1) h2
  obtain ⟨t2, a1, b1⟩ := k ls T'.heap (locs ++ L) hl hR1 ⟨Nat.le_trans hS.1 hz, fun q h1 h2 => by rw [hu q (Nat.lt_of_lt_of_le h1 hS.1) h2]; exact hS.2.1 q h1 h2, fun q hq => by
    rcases List.mem_append.mp hq with q1 | q1
    · exact hS.2.2 q q1
    · exact hL q q1⟩ T' rfl X'
  exact ⟨t2, hgo t2 a1, b1⟩
theorem gx_callS {w : gWd} {g : gCx} {cc : ByteArray} {Ts : List Cond} {own : String} {nL fr lo : Nat} (C : gC w g cc Ts own nL fr lo) {h : gHp} {pc : Nat} {lv : List (Nat × Value)} {st : List Value} {y : MethodName} {bytes : ByteArray} {maxL index : Nat} {ret : Option FieldType} {ws ws' : List Cond} {rm : Room} (n : Nat) (As : List Value) {v : Option Value} {h' : gHp} (hM : gMet w y ws rm (As) h v h') (hG : GoodIn Ts (va_wsS own index y ws)) (hw : ws = Cond.code y bytes maxL ret :: ws') (hrc : rm.cells = 0) (hrs : rm.slots = 0) (hy :  y.cls ≠ "java/lang/invoke/MethodHandle" ∧ y.cls ≠ "java/lang/invoke/VarHandle" ∧ (parseMethodDescriptor y.desc).map (fun d => d.parameters.length) = some n) (hr1 : rm.frames + 1 ≤ fr) (hr2 : 8 + (maxL + 11) + rm.locals ≤ lo)
    (hn : As.length = n) {stk : List Value} (hstk : stk = As.reverse ++ st) (hW : (st.map fun v => v.category).sum ≤ 8) (hd : decode cc pc = .ok (.invokestatic index, 3)) (k : gX w g nL h' (pc + 3) lv (v.toList ++ st)) : gX w g nL h pc lv stk := by
  obtain ⟨l, D, cA, sh, b0, adK, adV, fz⟩ := w
  obtain ⟨p, e, R, s, m, args, below, meth, c, ce, sl, Q⟩ := g
  intro ls H locs hl hR hS
  have hS0 := C.2.2.2.2.2.2.2.1
  have hr : va_Run p l e R s m args below meth c H locs ce sl 0 0 (F0 m pc ls stk) st ((fun _ st oc t => gQc (l, D, cA, sh, b0, adK, adV, fz) v h' st oc t) (As).toArray) (fun q => b0 ≤ q) :=
    va_runS (As := As) (rest := st) ⟨C.1, C.2.1, C.2.2.1, C.2.2.2.1, C.2.2.2.2.1⟩ hM (va_cwS n C.2.2.2.2.1 hG hw hrc hrs hy ⟨Nat.le_trans hr1 C.2.2.2.2.2.2.2.2.2.1, Nat.le_trans hr2 C.2.2.2.2.2.2.2.2.2.2.1⟩) ⟨gPre_blind _ h _, fun U hU hW => ⟨rfl, by rw [hU]; exact hR, va_K.moved hW.alike C.2.2.2.2.2.1, gNs.warm hW C.2.2.2.2.2.2.1, by rw [hU]; exact Nat.le_trans hS0 hS.1, C.2.2.2.2.2.2.2.2.1, gSt.warm hW (fun q h1 h2 => by rw [hU]; exact hS.2.1 q h1 h2) C.2.2.2.2.2.2.2.2.2.2.2.2.2⟩⟩ rfl hn hl.1 hstk (lv_room hW) hd ⟨C.2.2.2.2.2.2.2.2.2.2.2.1, C.2.2.2.2.2.2.2.2.2.2.2.2.1⟩
  intro T hT X
  obtain ⟨v1, st₀, t, T', L, h0, X', hL, e1, e2, ⟨hv, hR1, hF1⟩, hgo⟩ := hr T hT X
  cases hv
  rw [← e1] at hR1
  have hz : H.size ≤ T'.heap.size := by rw [e1, ← h0]; exact hF1.1
  have hu : ∀ q : Nat, q < H.size → ¬ b0 ≤ q → T'.heap[q]? = H[q]? := fun q h1 h2 => by rw [e1, ← h0]; exact hF1.2 q (by rw [h0]; exact h1) h2
  obtain ⟨t2, a1, b1⟩ := k ls T'.heap (locs ++ L) hl hR1 ⟨Nat.le_trans hS.1 hz, fun q h1 h2 => by rw [hu q (Nat.lt_of_lt_of_le h1 hS.1) h2]; exact hS.2.1 q h1 h2, fun q hq => by
    rcases List.mem_append.mp hq with q1 | q1
    · exact hS.2.2 q q1
    · exact hL q q1⟩ T' rfl X'
  exact ⟨t2, hgo t2 a1, b1⟩
theorem gx_callSN {w : gWd} {g : gCx} {cc : ByteArray} {Ts : List Cond} {own : String} {nL fr lo : Nat} (C : gC w g cc Ts own nL fr lo) {h : gHp} {pc : Nat} {lv : List (Nat × Value)} {st : List Value} {y : MethodName} {bytes : ByteArray} {maxL index : Nat} {ret : Option FieldType} {ws ws' : List Cond} {rm : Room} {host : String} (n : Nat) (As : List Value) {v : Option Value} {h' : gHp} (hM : gMet w y ws rm (As) h v h') (hG : GoodIn Ts ws) (hlk : Cond.methodLinkNest own index y host ∈ gNestL) (hini : Cond.initialized y.cls ∈ Ts) (hst : Cond.static y ∈ Ts) (hw : ws = Cond.code y bytes maxL ret :: ws') (hrc : rm.cells = 0) (hrs : rm.slots = 0) (hy :  y.cls ≠ "java/lang/invoke/MethodHandle" ∧ y.cls ≠ "java/lang/invoke/VarHandle" ∧ (parseMethodDescriptor y.desc).map (fun d => d.parameters.length) = some n) (hr1 : rm.frames + 1 ≤ fr) (hr2 : 8 + (maxL + 11) + rm.locals ≤ lo)
    (hn : As.length = n) {stk : List Value} (hstk : stk = As.reverse ++ st) (hW : (st.map fun v => v.category).sum ≤ 8) (hd : decode cc pc = .ok (.invokestatic index, 3)) (k : gX w g nL h' (pc + 3) lv (v.toList ++ st)) : gX w g nL h pc lv stk := by
  obtain ⟨l, D, cA, sh, b0, adK, adV, fz⟩ := w
  obtain ⟨p, e, R, s, m, args, below, meth, c, ce, sl, Q⟩ := g
  intro ls H locs hl hR hS
  have hS0 := C.2.2.2.2.2.2.2.1
  have hr : va_Run p l e R s m args below meth c H locs ce sl 0 0 (F0 m pc ls stk) st ((fun _ st oc t => gQc (l, D, cA, sh, b0, adK, adV, fz) v h' st oc t) (As).toArray) (fun q => b0 ≤ q) :=
    va_runSN (As := As) (rest := st) ⟨C.1, C.2.1, C.2.2.1, C.2.2.2.1, C.2.2.2.2.1⟩ hM (⟨va_cnB n C.2.2.2.2.1 hG hw hrc hrs (C.2.2.2.2.2.2.1 _ hlk) (C.2.2.2.2.1 _ hini) hy ⟨Nat.le_trans hr1 C.2.2.2.2.2.2.2.2.2.1, Nat.le_trans hr2 C.2.2.2.2.2.2.2.2.2.2.1⟩, C.2.2.2.2.1 _ hst, trivial⟩) ⟨gPre_blind _ h _, fun U hU hW => ⟨rfl, by rw [hU]; exact hR, va_K.moved hW.alike C.2.2.2.2.2.1, gNs.warm hW C.2.2.2.2.2.2.1, by rw [hU]; exact Nat.le_trans hS0 hS.1, C.2.2.2.2.2.2.2.2.1, gSt.warm hW (fun q h1 h2 => by rw [hU]; exact hS.2.1 q h1 h2) C.2.2.2.2.2.2.2.2.2.2.2.2.2⟩⟩ rfl hn hl.1 hstk (lv_room hW) hd ⟨C.2.2.2.2.2.2.2.2.2.2.2.1, C.2.2.2.2.2.2.2.2.2.2.2.2.1⟩
  intro T hT X
  obtain ⟨v1, st₀, t, T', L, h0, X', hL, e1, e2, ⟨hv, hR1, hF1⟩, hgo⟩ := hr T hT X
  cases hv
  rw [← e1] at hR1
  have hz : H.size ≤ T'.heap.size := by rw [e1, ← h0]; exact hF1.1
  have hu : ∀ q : Nat, q < H.size → ¬ b0 ≤ q → T'.heap[q]? = H[q]? := fun q h1 h2 => by rw [e1, ← h0]; exact hF1.2 q (by rw [h0]; exact h1) h2
  obtain ⟨t2, a1, b1⟩ := k ls T'.heap (locs ++ L) hl hR1 ⟨Nat.le_trans hS.1 hz, fun q h1 h2 => by rw [hu q (Nat.lt_of_lt_of_le h1 hS.1) h2]; exact hS.2.1 q h1 h2, fun q hq => by
    rcases List.mem_append.mp hq with q1 | q1
    · exact hS.2.2 q q1
    · exact hL q q1⟩ T' rfl X'
  exact ⟨t2, hgo t2 a1, b1⟩
theorem gx_geti {w : gWd} {g : gCx} {cc : ByteArray} {Ts : List Cond} {own : String} {nL fr lo : Nat} (C : gC w g cc Ts own nL fr lo) {h : gHp} {pc : Nat} {lv : List (Nat × Value)} {st : List Value} {a index ci i : Nat} {ks : List gSl} (F : gF Ts own index ci i) (ha : gsh w a = some (.inl (ci, ks))) (hk : ks[i]? = some (.inl 0)) (hd : decode cc pc = .ok (.getfield index, 3)) (k : gX w g nL h (pc + 3) lv (.int (h.1 a i) :: st)) : gX w g nL h pc lv (.ref a :: st) := gx_get C F ha hk hd k
theorem gx_getl {w : gWd} {g : gCx} {cc : ByteArray} {Ts : List Cond} {own : String} {nL fr lo : Nat} (C : gC w g cc Ts own nL fr lo) {h : gHp} {pc : Nat} {lv : List (Nat × Value)} {st : List Value} {a index ci i : Nat} {ks : List gSl} (F : gF Ts own index ci i) (ha : gsh w a = some (.inl (ci, ks))) (hk : ks[i]? = some (.inl 1)) (hd : decode cc pc = .ok (.getfield index, 3)) (k : gX w g nL h (pc + 3) lv (.long (h.2 a i) :: st)) : gX w g nL h pc lv (.ref a :: st) := gx_get C F ha hk hd k
theorem gx_getr {w : gWd} {g : gCx} {cc : ByteArray} {Ts : List Cond} {own : String} {nL fr lo : Nat} (C : gC w g cc Ts own nL fr lo) {h : gHp} {pc : Nat} {lv : List (Nat × Value)} {st : List Value} {a index ci i : Nat} {ks : List gSl} {b : Nat} (F : gF Ts own index ci i) (ha : gsh w a = some (.inl (ci, ks))) (hk : ks[i]? = some (.inr b)) (hd : decode cc pc = .ok (.getfield index, 3)) (k : gX w g nL h (pc + 3) lv (.ref b :: st)) : gX w g nL h pc lv (.ref a :: st) := gx_get C F ha hk hd k
theorem gx_callV0 {w : gWd} {g : gCx} {cc : ByteArray} {Ts : List Cond} {own : String} {nL fr lo : Nat} (C : gC w g cc Ts own nL fr lo) {h : gHp} {pc : Nat} {lv : List (Nat × Value)} {st : List Value} {y : MethodName} {bytes : ByteArray} {maxL index : Nat} {ret : Option FieldType} {ws ws' : List Cond} {rm : Room} {Cn : String} {b ci : Nat} {T : u_T} {N : Nat} {ks : List gSl} (n : Nat) (As : List Value) {h' : gHp} (hM : gMet w y ws rm (.ref b :: As) h none h') (hG : GoodIn Ts (wsV own index Cn y ws)) (hw : ws = Cond.code y bytes maxL ret :: ws') (hrc : rm.cells = 0) (hrs : rm.slots = 0) (hy : y.cls = Cn ∧ y.cls ≠ "java/lang/invoke/MethodHandle" ∧ y.cls ≠ "java/lang/invoke/VarHandle" ∧ (parseMethodDescriptor y.desc).map (fun d => d.parameters.length) = some n) (hr1 : rm.frames + 1 ≤ fr) (hr2 : 8 + (maxL + 11) + rm.locals ≤ lo)
    (hb : gsh w b = some (.inl (ci, ks))) (hci : vwCl[ci]? = some (Cn, T, N)) (hn : As.length = n) {stk : List Value} (hstk : stk = As.reverse ++ .ref b :: st) (hW : (st.map fun v => v.category).sum ≤ 8) (hd : decode cc pc = .ok (.invokevirtual index, 3)) (k : gX w g nL h' (pc + 3) lv st) : gX w g nL h pc lv stk := gx_callV C n As hM hG hw hrc hrs hy hr1 hr2 hb hci hn hstk hW hd k
theorem gx_callV1 {w : gWd} {g : gCx} {cc : ByteArray} {Ts : List Cond} {own : String} {nL fr lo : Nat} (C : gC w g cc Ts own nL fr lo) {h : gHp} {pc : Nat} {lv : List (Nat × Value)} {st : List Value} {y : MethodName} {bytes : ByteArray} {maxL index : Nat} {ret : Option FieldType} {ws ws' : List Cond} {rm : Room} {Cn : String} {b ci : Nat} {T : u_T} {N : Nat} {ks : List gSl} (n : Nat) (As : List Value) {v : Value} {h' : gHp} (hM : gMet w y ws rm (.ref b :: As) h (some v) h') (hG : GoodIn Ts (wsV own index Cn y ws)) (hw : ws = Cond.code y bytes maxL ret :: ws') (hrc : rm.cells = 0) (hrs : rm.slots = 0) (hy : y.cls = Cn ∧ y.cls ≠ "java/lang/invoke/MethodHandle" ∧ y.cls ≠ "java/lang/invoke/VarHandle" ∧ (parseMethodDescriptor y.desc).map (fun d => d.parameters.length) = some n) (hr1 : rm.frames + 1 ≤ fr) (hr2 : 8 + (maxL + 11) + rm.locals ≤ lo)
    (hb : gsh w b = some (.inl (ci, ks))) (hci : vwCl[ci]? = some (Cn, T, N)) (hn : As.length = n) {stk : List Value} (hstk : stk = As.reverse ++ .ref b :: st) (hW : (st.map fun v => v.category).sum ≤ 8) (hd : decode cc pc = .ok (.invokevirtual index, 3)) (k : gX w g nL h' (pc + 3) lv (v :: st)) : gX w g nL h pc lv stk := gx_callV C n As hM hG hw hrc hrs hy hr1 hr2 hb hci hn hstk hW hd k
theorem gx_callS0 {w : gWd} {g : gCx} {cc : ByteArray} {Ts : List Cond} {own : String} {nL fr lo : Nat} (C : gC w g cc Ts own nL fr lo) {h : gHp} {pc : Nat} {lv : List (Nat × Value)} {st : List Value} {y : MethodName} {bytes : ByteArray} {maxL index : Nat} {ret : Option FieldType} {ws ws' : List Cond} {rm : Room} (n : Nat) (As : List Value) {h' : gHp} (hM : gMet w y ws rm (As) h none h') (hG : GoodIn Ts (va_wsS own index y ws)) (hw : ws = Cond.code y bytes maxL ret :: ws') (hrc : rm.cells = 0) (hrs : rm.slots = 0) (hy :  y.cls ≠ "java/lang/invoke/MethodHandle" ∧ y.cls ≠ "java/lang/invoke/VarHandle" ∧ (parseMethodDescriptor y.desc).map (fun d => d.parameters.length) = some n) (hr1 : rm.frames + 1 ≤ fr) (hr2 : 8 + (maxL + 11) + rm.locals ≤ lo)
    (hn : As.length = n) {stk : List Value} (hstk : stk = As.reverse ++ st) (hW : (st.map fun v => v.category).sum ≤ 8) (hd : decode cc pc = .ok (.invokestatic index, 3)) (k : gX w g nL h' (pc + 3) lv st) : gX w g nL h pc lv stk := gx_callS C n As hM hG hw hrc hrs hy hr1 hr2 hn hstk hW hd k
theorem gx_callS1 {w : gWd} {g : gCx} {cc : ByteArray} {Ts : List Cond} {own : String} {nL fr lo : Nat} (C : gC w g cc Ts own nL fr lo) {h : gHp} {pc : Nat} {lv : List (Nat × Value)} {st : List Value} {y : MethodName} {bytes : ByteArray} {maxL index : Nat} {ret : Option FieldType} {ws ws' : List Cond} {rm : Room} (n : Nat) (As : List Value) {v : Value} {h' : gHp} (hM : gMet w y ws rm (As) h (some v) h') (hG : GoodIn Ts (va_wsS own index y ws)) (hw : ws = Cond.code y bytes maxL ret :: ws') (hrc : rm.cells = 0) (hrs : rm.slots = 0) (hy :  y.cls ≠ "java/lang/invoke/MethodHandle" ∧ y.cls ≠ "java/lang/invoke/VarHandle" ∧ (parseMethodDescriptor y.desc).map (fun d => d.parameters.length) = some n) (hr1 : rm.frames + 1 ≤ fr) (hr2 : 8 + (maxL + 11) + rm.locals ≤ lo)
    (hn : As.length = n) {stk : List Value} (hstk : stk = As.reverse ++ st) (hW : (st.map fun v => v.category).sum ≤ 8) (hd : decode cc pc = .ok (.invokestatic index, 3)) (k : gX w g nL h' (pc + 3) lv (v :: st)) : gX w g nL h pc lv stk := gx_callS C n As hM hG hw hrc hrs hy hr1 hr2 hn hstk hW hd k
theorem gx_callSN0 {w : gWd} {g : gCx} {cc : ByteArray} {Ts : List Cond} {own : String} {nL fr lo : Nat} (C : gC w g cc Ts own nL fr lo) {h : gHp} {pc : Nat} {lv : List (Nat × Value)} {st : List Value} {y : MethodName} {bytes : ByteArray} {maxL index : Nat} {ret : Option FieldType} {ws ws' : List Cond} {rm : Room} {host : String} (n : Nat) (As : List Value) {h' : gHp} (hM : gMet w y ws rm (As) h none h') (hG : GoodIn Ts ws) (hlk : Cond.methodLinkNest own index y host ∈ gNestL) (hini : Cond.initialized y.cls ∈ Ts) (hst : Cond.static y ∈ Ts) (hw : ws = Cond.code y bytes maxL ret :: ws') (hrc : rm.cells = 0) (hrs : rm.slots = 0) (hy :  y.cls ≠ "java/lang/invoke/MethodHandle" ∧ y.cls ≠ "java/lang/invoke/VarHandle" ∧ (parseMethodDescriptor y.desc).map (fun d => d.parameters.length) = some n) (hr1 : rm.frames + 1 ≤ fr) (hr2 : 8 + (maxL + 11) + rm.locals ≤ lo)
    (hn : As.length = n) {stk : List Value} (hstk : stk = As.reverse ++ st) (hW : (st.map fun v => v.category).sum ≤ 8) (hd : decode cc pc = .ok (.invokestatic index, 3)) (k : gX w g nL h' (pc + 3) lv st) : gX w g nL h pc lv stk := gx_callSN C n As hM hG hlk hini hst hw hrc hrs hy hr1 hr2 hn hstk hW hd k
theorem gx_callSN1 {w : gWd} {g : gCx} {cc : ByteArray} {Ts : List Cond} {own : String} {nL fr lo : Nat} (C : gC w g cc Ts own nL fr lo) {h : gHp} {pc : Nat} {lv : List (Nat × Value)} {st : List Value} {y : MethodName} {bytes : ByteArray} {maxL index : Nat} {ret : Option FieldType} {ws ws' : List Cond} {rm : Room} {host : String} (n : Nat) (As : List Value) {v : Value} {h' : gHp} (hM : gMet w y ws rm (As) h (some v) h') (hG : GoodIn Ts ws) (hlk : Cond.methodLinkNest own index y host ∈ gNestL) (hini : Cond.initialized y.cls ∈ Ts) (hst : Cond.static y ∈ Ts) (hw : ws = Cond.code y bytes maxL ret :: ws') (hrc : rm.cells = 0) (hrs : rm.slots = 0) (hy :  y.cls ≠ "java/lang/invoke/MethodHandle" ∧ y.cls ≠ "java/lang/invoke/VarHandle" ∧ (parseMethodDescriptor y.desc).map (fun d => d.parameters.length) = some n) (hr1 : rm.frames + 1 ≤ fr) (hr2 : 8 + (maxL + 11) + rm.locals ≤ lo)
    (hn : As.length = n) {stk : List Value} (hstk : stk = As.reverse ++ st) (hW : (st.map fun v => v.category).sum ≤ 8) (hd : decode cc pc = .ok (.invokestatic index, 3)) (k : gX w g nL h' (pc + 3) lv (v :: st)) : gX w g nL h pc lv stk := gx_callSN C n As hM hG hlk hini hst hw hrc hrs hy hr1 hr2 hn hstk hW hd k
def gM4 (Ts : List Cond) (own : String) (index : Nat) (y : MethodName) (code : ByteArray) : Prop := Cond.methodLink own index y ∈ Ts ∧ Cond.static y ∈ Ts ∧ Cond.initialized "java/lang/Math" ∈ Ts ∧ Cond.code y code 2 (some .int) ∈ Ts
theorem gx_mmax {w : gWd} {g : gCx} {cc : ByteArray} {Ts : List Cond} {own : String} {nL fr lo : Nat} (C : gC w g cc Ts own nL fr lo) {h : gHp} {pc : Nat} {lv : List (Nat × Value)} {st : List Value} {x y : Int32} {index : Nat} (hM : gM4 Ts own index Lib.Math.max.name Lib.Math.max.code) (h1 : 1 ≤ fr) (h2 : 21 ≤ lo) (hW : (st.map fun v => v.category).sum ≤ 8) (hd : decode cc pc = .ok (.invokestatic index, 3)) (k : gX w g nL h (pc + 3) lv (.int (if x < y then y else x) :: st)) : gX w g nL h pc lv (.int y :: .int x :: st) := by
  obtain ⟨l, D, cA, sh, b0, adK, adV, fz⟩ := w
  obtain ⟨p, e, R, s, m, args, below, meth, c, ce, sl, Q⟩ := g
  intro ls H locs hl hR hS
  exact va_mmax C.1 C.2.1 (C.2.2.1.trans hl.1.symm) C.2.2.2.1 (C.2.2.2.2.1 _ hM.1) (C.2.2.2.2.1 _ hM.2.1) (C.2.2.2.2.1 _ hM.2.2.1) (C.2.2.2.2.1 _ hM.2.2.2) (Nat.le_trans h1 C.2.2.2.2.2.2.2.2.2.1) (by have := C.2.2.2.2.2.2.2.2.2.2.1; omega) C.2.2.2.2.2.2.2.2.2.2.2.1 C.2.2.2.2.2.2.2.2.2.2.2.2.1 hd (k ls H locs hl hR hS)
theorem gx_mmin {w : gWd} {g : gCx} {cc : ByteArray} {Ts : List Cond} {own : String} {nL fr lo : Nat} (C : gC w g cc Ts own nL fr lo) {h : gHp} {pc : Nat} {lv : List (Nat × Value)} {st : List Value} {x y : Int32} {index : Nat} (hM : gM4 Ts own index Lib.Math.min.name Lib.Math.min.code) (h1 : 1 ≤ fr) (h2 : 21 ≤ lo) (hW : (st.map fun v => v.category).sum ≤ 8) (hd : decode cc pc = .ok (.invokestatic index, 3)) (k : gX w g nL h (pc + 3) lv (.int (if y < x then y else x) :: st)) : gX w g nL h pc lv (.int y :: .int x :: st) := by
  obtain ⟨l, D, cA, sh, b0, adK, adV, fz⟩ := w
  obtain ⟨p, e, R, s, m, args, below, meth, c, ce, sl, Q⟩ := g
  intro ls H locs hl hR hS
  exact va_mmin C.1 C.2.1 (C.2.2.1.trans hl.1.symm) C.2.2.2.1 (C.2.2.2.2.1 _ hM.1) (C.2.2.2.2.1 _ hM.2.1) (C.2.2.2.2.1 _ hM.2.2.1) (C.2.2.2.2.1 _ hM.2.2.2) (Nat.le_trans h1 C.2.2.2.2.2.2.2.2.2.1) (by have := C.2.2.2.2.2.2.2.2.2.2.1; omega) C.2.2.2.2.2.2.2.2.2.2.2.1 C.2.2.2.2.2.2.2.2.2.2.2.2.1 hd (k ls H locs hl hR hS)
theorem gx_ldc {w : gWd} {g : gCx} {cc : ByteArray} {Ts : List Cond} {own : String} {nL fr lo : Nat} (C : gC w g cc Ts own nL fr lo) {h : gHp} {pc : Nat} {lv : List (Nat × Value)} {st : List Value} {index : Nat} {v : Int32} (hc : Jvm.Cond.constant own index v ∈ Ts) (hd : decode cc pc = .ok (.ldc index, 2)) (k : gX w g nL h (pc + 2) lv (.int v :: st)) : gX w g nL h pc lv st := by
  obtain ⟨l, D, cA, sh, b0, adK, adV, fz⟩ := w
  obtain ⟨p, e, R, s, m, args, below, meth, c, ce, sl, Q⟩ := g
  intro ls H locs hl hR hS
  exact lv_ldc C.1 C.2.1 C.2.2.2.1 (C.2.2.2.2.1 _ hc) hd (k ls H locs hl hR hS)
theorem gx_ldc_w {w : gWd} {g : gCx} {cc : ByteArray} {Ts : List Cond} {own : String} {nL fr lo : Nat} (C : gC w g cc Ts own nL fr lo) {h : gHp} {pc : Nat} {lv : List (Nat × Value)} {st : List Value} {index : Nat} {v : Int32} (hc : Jvm.Cond.constant own index v ∈ Ts) (hd : decode cc pc = .ok (.ldc_w index, 3)) (k : gX w g nL h (pc + 3) lv (.int v :: st)) : gX w g nL h pc lv st := by
  obtain ⟨l, D, cA, sh, b0, adK, adV, fz⟩ := w
  obtain ⟨p, e, R, s, m, args, below, meth, c, ce, sl, Q⟩ := g
  intro ls H locs hl hR hS
  exact lv_ldcw C.1 C.2.1 C.2.2.2.1 (C.2.2.2.2.1 _ hc) hd (k ls H locs hl hR hS)
/-- the cell of a String constant, by its place -/
abbrev gAK (w : gWd) : Nat → Nat := w.2.2.2.2.2.1
abbrev gAV (w : gWd) : Nat → Nat := w.2.2.2.2.2.2.1
theorem gx_ldcS {w : gWd} {g : gCx} {cc : ByteArray} {Ts : List Cond} {own : String} {nL fr lo : Nat} (C : gC w g cc Ts own nL fr lo) {h : gHp} {pc : Nat} {lv : List (Nat × Value)} {st : List Value} {index : Nat} (i : Nat) (hi : i < 6) (hown : own = RX1) (hix : gSidx.getD i 0 = index) (hd : decode cc pc = .ok (.ldc index, 2)) (k : gX w g nL h (pc + 2) lv (.ref (gAK w i) :: st)) : gX w g nL h pc lv st := by
  obtain ⟨l, D, cA, sh, b0, adK, adV, fz⟩ := w
  obtain ⟨p, e, R, s, m, args, below, meth, c, ce, sl, Q⟩ := g
  intro ls H locs hl hR hS
  subst hown
  subst hix
  exact va_ldcS C.1 C.2.1 C.2.2.2.1 (C.2.2.2.2.2.2.2.2.2.2.2.2.2.2.1 i hi) hd (k ls H locs hl hR hS)
theorem gx_callVS {w : gWd} {g : gCx} {cc : ByteArray} {Ts : List Cond} {own : String} {nL fr lo : Nat} (C : gC w g cc Ts own nL fr lo) {h : gHp} {pc : Nat} {lv : List (Nat × Value)} {st : List Value} {y : MethodName} {bytes : ByteArray} {maxL index : Nat} {ret : Option FieldType} {ws ws' : List Cond} {rm : Room} {i : Nat} (n : Nat) (As : List Value) {v : Option Value} {h' : gHp} (hM : gMet w y ws rm (.ref (gAK w i) :: As) h v h') (hG : GoodIn Ts (wsV own index RJ0 y ws)) (hw : ws = Cond.code y bytes maxL ret :: ws') (hrc : rm.cells = 0) (hrs : rm.slots = 0) (hy : y.cls = RJ0 ∧ y.cls ≠ "java/lang/invoke/MethodHandle" ∧ y.cls ≠ "java/lang/invoke/VarHandle" ∧ (parseMethodDescriptor y.desc).map (fun d => d.parameters.length) = some n) (hr1 : rm.frames + 1 ≤ fr) (hr2 : 8 + (maxL + 11) + rm.locals ≤ lo)
    (hi : i < 6) (hn : As.length = n) {stk : List Value} (hstk : stk = As.reverse ++ .ref (gAK w i) :: st) (hW : (st.map fun v => v.category).sum ≤ 8) (hd : decode cc pc = .ok (.invokevirtual index, 3)) (k : gX w g nL h' (pc + 3) lv (v.toList ++ st)) : gX w g nL h pc lv stk := by
  obtain ⟨l, D, cA, sh, b0, adK, adV, fz⟩ := w
  obtain ⟨p, e, R, s, m, args, below, meth, c, ce, sl, Q⟩ := g
  intro ls H locs hl hR hS
  have hS0 := C.2.2.2.2.2.2.2.1
  have hr : va_Run p l e R s m args below meth c H locs ce sl 0 0 (F0 m pc ls stk) st ((fun _ st oc t => gQc (l, D, cA, sh, b0, adK, adV, fz) v h' st oc t) (.ref (adK i) :: As).toArray) (fun q => b0 ≤ q) :=
    va_runV (C := RJ0) (b := adK i) (As := As) (rest := st) ⟨C.1, C.2.1, C.2.2.1, C.2.2.2.1, C.2.2.2.2.1⟩ hM (cwV n C.2.2.2.2.1 hG hw hrc hrs hy ⟨Nat.le_trans hr1 C.2.2.2.2.2.2.2.2.2.1, Nat.le_trans hr2 C.2.2.2.2.2.2.2.2.2.2.1⟩) ⟨gPre_blind _ h _, vk_recv C.2.2.2.2.2.2.2.2.2.2.2.2.2.1 hi hS, fun U hU hW => ⟨rfl, by rw [hU]; exact hR, va_K.moved hW.alike C.2.2.2.2.2.1, gNs.warm hW C.2.2.2.2.2.2.1, by rw [hU]; exact Nat.le_trans hS0 hS.1, C.2.2.2.2.2.2.2.2.1, gSt.warm hW (fun q h1 h2 => by rw [hU]; exact hS.2.1 q h1 h2) C.2.2.2.2.2.2.2.2.2.2.2.2.2⟩⟩ rfl hn hl.1 hstk (lv_room hW) hd ⟨C.2.2.2.2.2.2.2.2.2.2.2.1, C.2.2.2.2.2.2.2.2.2.2.2.2.1⟩
  intro T hT X
  obtain ⟨v1, st₀, t, T', L, h0, X', hL, e1, e2, ⟨hv, hR1, hF1⟩, hgo⟩ := hr T hT X
  cases hv
  rw [← e1] at hR1
  have hz : H.size ≤ T'.heap.size := by rw [e1, ← h0]; exact hF1.1
  have hu : ∀ q : Nat, q < H.size → ¬ b0 ≤ q → T'.heap[q]? = H[q]? := fun q h1 h2 => by rw [e1, ← h0]; exact hF1.2 q (by rw [h0]; exact h1) h2
  obtain ⟨t2, a1, b1⟩ := k ls T'.heap (locs ++ L) hl hR1 ⟨Nat.le_trans hS.1 hz, fun q h1 h2 => by rw [hu q (Nat.lt_of_lt_of_le h1 hS.1) h2]; exact hS.2.1 q h1 h2, fun q hq => by
    rcases List.mem_append.mp hq with q1 | q1
    · exact hS.2.2 q q1
    · exact hL q q1⟩ T' rfl X'
  exact ⟨t2, hgo t2 a1, b1⟩
theorem gx_callVS1 {w : gWd} {g : gCx} {cc : ByteArray} {Ts : List Cond} {own : String} {nL fr lo : Nat} (C : gC w g cc Ts own nL fr lo) {h : gHp} {pc : Nat} {lv : List (Nat × Value)} {st : List Value} {y : MethodName} {bytes : ByteArray} {maxL index : Nat} {ret : Option FieldType} {ws ws' : List Cond} {rm : Room} {i : Nat} (n : Nat) (As : List Value) {v : Value} {h' : gHp} (hM : gMet w y ws rm (.ref (gAK w i) :: As) h (some v) h') (hG : GoodIn Ts (wsV own index RJ0 y ws)) (hw : ws = Cond.code y bytes maxL ret :: ws') (hrc : rm.cells = 0) (hrs : rm.slots = 0) (hy : y.cls = RJ0 ∧ y.cls ≠ "java/lang/invoke/MethodHandle" ∧ y.cls ≠ "java/lang/invoke/VarHandle" ∧ (parseMethodDescriptor y.desc).map (fun d => d.parameters.length) = some n) (hr1 : rm.frames + 1 ≤ fr) (hr2 : 8 + (maxL + 11) + rm.locals ≤ lo)
    (hi : i < 6) (hn : As.length = n) {stk : List Value} (hstk : stk = As.reverse ++ .ref (gAK w i) :: st) (hW : (st.map fun v => v.category).sum ≤ 8) (hd : decode cc pc = .ok (.invokevirtual index, 3)) (k : gX w g nL h' (pc + 3) lv (v :: st)) : gX w g nL h pc lv stk := gx_callVS C n As hM hG hw hrc hrs hy hr1 hr2 hi hn hstk hW hd k
