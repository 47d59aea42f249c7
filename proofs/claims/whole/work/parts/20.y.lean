/-! CONSTRUCTORS: the heap's picture, cell by cell; new cells come at its end -/
abbrev gPic : Type := Nat → Option va_E
def gRp (D : va_G) (pic : gPic) (H : Heap) : Prop := ∀ (a : Nat) (e : va_E), pic a = some e → a < H.size ∧ va_at D vwCl (a, e) H
def gPu (pic : gPic) (a : Nat) (e : va_E) : gPic := fun q => if q = a then some e else pic q
def gAO (U : State) : Prop := va_AO "LadderBench$Fraction" U ∧ va_AO "LadderBench$State" U
def gY (w : gWd) (g : gCx) (a0 hi : Nat) (pic : gPic) (ce sl : Nat) (nL pc : Nat) (lv : List (Nat × Value)) (st : List Value) : Prop := match w, g with
  | (l, D, _, _, _, _, _, _), (p, e, R, s, m, args, below, meth, c, _, _, Q) => ∀ (ls : Array Slot) (H : Heap) (locs : List Loc), lv_has ls nL lv → H.size = hi → gRp D pic H → va_S (fun q => a0 ≤ q) s.heap H locs → W p l e R s m args below meth c H locs ce sl Q (F0 m pc ls st)
def gCy (w : gWd) (g : gCx) (a0 Rc Rs : Nat) : Prop := match w, g with
  | (_, _, _, _, b0, _, _, _), (_, _, R, s, _, _, _, _, _, _, _, _) => Rc ≤ R.cells ∧ Rs ≤ R.slots ∧ gAO s ∧ a0 ≤ s.heap.size ∧ b0 ≤ a0
def gIni (g : gCx) : Prop := g.2.2.2.2.2.2.2.1.name = "<init>"
theorem gRp.kept {D : va_G} {pic : gPic} {H H1 : Heap} (h : gRp D pic H) (hz : H.size ≤ H1.size) (hk : ∀ q : Nat, q < H.size → H1[q]? = H[q]?) : gRp D pic H1 := fun a e he => ⟨Nat.lt_of_lt_of_le (h a e he).1 hz, (h a e he).2.kept (hk a (h a e he).1)⟩
theorem gRp.push {D : va_G} {pic : gPic} {H H1 : Heap} {e : va_E} {n : Nat} (h : gRp D pic H) (hn : H.size = n) (hz : H1.size = n + 1) (hk : ∀ q : Nat, q < n → H1[q]? = H[q]?) (ha : va_at D vwCl (n, e) H1) : gRp D (gPu pic n e) H1 := by
  intro a x hx
  unfold gPu at hx
  by_cases q : a = n
  · subst q
    rw [if_pos rfl] at hx
    cases hx
    exact ⟨by omega, ha⟩
  · rw [if_neg q] at hx
    have h1 := h a x hx
    exact ⟨by omega, h1.2.kept (hk a (by have := h1.1; omega))⟩
theorem gRp.put {D : va_G} {pic : gPic} {H H1 : Heap} {e : va_E} {n : Nat} (h : gRp D pic H) (hn : n < H.size) (hz : H1.size = H.size) (hk : ∀ q : Nat, q ≠ n → H1[q]? = H[q]?) (ha : va_at D vwCl (n, e) H1) : gRp D (gPu pic n e) H1 := by
  intro a x hx
  unfold gPu at hx
  by_cases q : a = n
  · subst q
    rw [if_pos rfl] at hx
    cases hx
    exact ⟨by omega, ha⟩
  · rw [if_neg q] at hx
    have h1 := h a x hx
    exact ⟨by omega, h1.2.kept (hk a q)⟩
theorem gRp.one {D : va_G} {pic : gPic} {H : Heap} (h : gRp D pic H) {a : Nat} {e : va_E} (ha : pic a = some e) : va_P D vwCl [(a, e)] H := by
  intro k q hq
  match k, hq with
  | 0, hq => cases hq; exact (h a e ha).2
  | k + 1, hq => simp at hq
theorem gy_iconst {w : gWd} {g : gCx} {cc : ByteArray} {Ts : List Cond} {own : String} {nL fr lo : Nat} (C : gC w g cc Ts own nL fr lo) {a0 hi : Nat} {pic : gPic} {ce sl : Nat} {pc : Nat} {lv : List (Nat × Value)} {st : List Value} {n : Int} {v : Int32} (hd : decode cc pc = .ok (.iconst n, 1)) (hv : Int32.ofInt n = v) (k : gY w g a0 hi pic ce sl nL (pc + 1) lv (.int v :: st)) : gY w g a0 hi pic ce sl nL pc lv (st) := by
  obtain ⟨l, D, cA, sh, b0, adK, adV, fz⟩ := w
  obtain ⟨p, e, R, s, m, args, below, meth, c, ce9, sl9, Q⟩ := g
  intro ls H locs hl hz hR hS
  exact lv_iconst C.1 C.2.1 hd hv (k ls H locs hl hz hR hS)
theorem gy_bipush {w : gWd} {g : gCx} {cc : ByteArray} {Ts : List Cond} {own : String} {nL fr lo : Nat} (C : gC w g cc Ts own nL fr lo) {a0 hi : Nat} {pic : gPic} {ce sl : Nat} {pc : Nat} {lv : List (Nat × Value)} {st : List Value} {n : Int} {v : Int32} (hd : decode cc pc = .ok (.bipush n, 2)) (hv : (Int8.ofInt n).toInt32 = v) (k : gY w g a0 hi pic ce sl nL (pc + 2) lv (.int v :: st)) : gY w g a0 hi pic ce sl nL pc lv (st) := by
  obtain ⟨l, D, cA, sh, b0, adK, adV, fz⟩ := w
  obtain ⟨p, e, R, s, m, args, below, meth, c, ce9, sl9, Q⟩ := g
  intro ls H locs hl hz hR hS
  exact lv_bipush C.1 C.2.1 hd hv (k ls H locs hl hz hR hS)
theorem gy_sipush {w : gWd} {g : gCx} {cc : ByteArray} {Ts : List Cond} {own : String} {nL fr lo : Nat} (C : gC w g cc Ts own nL fr lo) {a0 hi : Nat} {pic : gPic} {ce sl : Nat} {pc : Nat} {lv : List (Nat × Value)} {st : List Value} {n : Int} {v : Int32} (hd : decode cc pc = .ok (.sipush n, 3)) (hv : (Int16.ofInt n).toInt32 = v) (k : gY w g a0 hi pic ce sl nL (pc + 3) lv (.int v :: st)) : gY w g a0 hi pic ce sl nL pc lv (st) := by
  obtain ⟨l, D, cA, sh, b0, adK, adV, fz⟩ := w
  obtain ⟨p, e, R, s, m, args, below, meth, c, ce9, sl9, Q⟩ := g
  intro ls H locs hl hz hR hS
  exact lv_sipush C.1 C.2.1 hd hv (k ls H locs hl hz hR hS)
theorem gy_lconst {w : gWd} {g : gCx} {cc : ByteArray} {Ts : List Cond} {own : String} {nL fr lo : Nat} (C : gC w g cc Ts own nL fr lo) {a0 hi : Nat} {pic : gPic} {ce sl : Nat} {pc : Nat} {lv : List (Nat × Value)} {st : List Value} {n : Fin 2} {v : Int64} (hd : decode cc pc = .ok (.lconst n, 1)) (hv : Int64.ofNat (n : Nat) = v) (k : gY w g a0 hi pic ce sl nL (pc + 1) lv (.long v :: st)) : gY w g a0 hi pic ce sl nL pc lv (st) := by
  obtain ⟨l, D, cA, sh, b0, adK, adV, fz⟩ := w
  obtain ⟨p, e, R, s, m, args, below, meth, c, ce9, sl9, Q⟩ := g
  intro ls H locs hl hz hR hS
  exact lv_lconst C.1 C.2.1 hd hv (k ls H locs hl hz hR hS)
theorem gy_ldc2 {w : gWd} {g : gCx} {cc : ByteArray} {Ts : List Cond} {own : String} {nL fr lo : Nat} (C : gC w g cc Ts own nL fr lo) {a0 hi : Nat} {pic : gPic} {ce sl : Nat} {pc : Nat} {lv : List (Nat × Value)} {st : List Value} {index : Nat} {v : Int64} (hc : Jvm.Cond.constantLong own index v ∈ Ts) (hd : decode cc pc = .ok (.ldc2_w index, 3)) (k : gY w g a0 hi pic ce sl nL (pc + 3) lv (.long v :: st)) : gY w g a0 hi pic ce sl nL pc lv (st) := by
  obtain ⟨l, D, cA, sh, b0, adK, adV, fz⟩ := w
  obtain ⟨p, e, R, s, m, args, below, meth, c, ce9, sl9, Q⟩ := g
  intro ls H locs hl hz hR hS
  exact lv_ldc2 C.1 C.2.1 C.2.2.2.1 (C.2.2.2.2.1 _ hc) hd (k ls H locs hl hz hR hS)
theorem gy_iload {w : gWd} {g : gCx} {cc : ByteArray} {Ts : List Cond} {own : String} {nL fr lo : Nat} (C : gC w g cc Ts own nL fr lo) {a0 hi : Nat} {pic : gPic} {ce sl : Nat} {pc : Nat} {lv : List (Nat × Value)} {st : List Value} {i : Nat} {x : Int32} (j : Nat) (hd : decode cc pc = .ok (.iload i, 2)) (hj : lv[j]? = some (i, .int x)) (k : gY w g a0 hi pic ce sl nL (pc + 2) lv (.int x :: st)) : gY w g a0 hi pic ce sl nL pc lv (st) := by
  obtain ⟨l, D, cA, sh, b0, adK, adV, fz⟩ := w
  obtain ⟨p, e, R, s, m, args, below, meth, c, ce9, sl9, Q⟩ := g
  intro ls H locs hl hz hR hS
  exact lv_iload C.1 C.2.1 hd (lv_at hl j hj) (k ls H locs hl hz hR hS)
theorem gy_iload_n {w : gWd} {g : gCx} {cc : ByteArray} {Ts : List Cond} {own : String} {nL fr lo : Nat} (C : gC w g cc Ts own nL fr lo) {a0 hi : Nat} {pic : gPic} {ce sl : Nat} {pc : Nat} {lv : List (Nat × Value)} {st : List Value} {f : Fin 4} {i : Nat} {x : Int32} (j : Nat) (hd : decode cc pc = .ok (.iload_n f, 1)) (hfi : (f : Nat) = i) (hj : lv[j]? = some (i, .int x)) (k : gY w g a0 hi pic ce sl nL (pc + 1) lv (.int x :: st)) : gY w g a0 hi pic ce sl nL pc lv (st) := by
  obtain ⟨l, D, cA, sh, b0, adK, adV, fz⟩ := w
  obtain ⟨p, e, R, s, m, args, below, meth, c, ce9, sl9, Q⟩ := g
  intro ls H locs hl hz hR hS
  exact lv_iload_n C.1 C.2.1 hd hfi (lv_at hl j hj) (k ls H locs hl hz hR hS)
theorem gy_aload {w : gWd} {g : gCx} {cc : ByteArray} {Ts : List Cond} {own : String} {nL fr lo : Nat} (C : gC w g cc Ts own nL fr lo) {a0 hi : Nat} {pic : gPic} {ce sl : Nat} {pc : Nat} {lv : List (Nat × Value)} {st : List Value} {i : Nat} {x : Nat} (j : Nat) (hd : decode cc pc = .ok (.aload i, 2)) (hj : lv[j]? = some (i, .ref x)) (k : gY w g a0 hi pic ce sl nL (pc + 2) lv (.ref x :: st)) : gY w g a0 hi pic ce sl nL pc lv (st) := by
  obtain ⟨l, D, cA, sh, b0, adK, adV, fz⟩ := w
  obtain ⟨p, e, R, s, m, args, below, meth, c, ce9, sl9, Q⟩ := g
  intro ls H locs hl hz hR hS
  exact lv_aload C.1 C.2.1 hd (lv_at hl j hj) (k ls H locs hl hz hR hS)
theorem gy_aload_n {w : gWd} {g : gCx} {cc : ByteArray} {Ts : List Cond} {own : String} {nL fr lo : Nat} (C : gC w g cc Ts own nL fr lo) {a0 hi : Nat} {pic : gPic} {ce sl : Nat} {pc : Nat} {lv : List (Nat × Value)} {st : List Value} {f : Fin 4} {i : Nat} {x : Nat} (j : Nat) (hd : decode cc pc = .ok (.aload_n f, 1)) (hfi : (f : Nat) = i) (hj : lv[j]? = some (i, .ref x)) (k : gY w g a0 hi pic ce sl nL (pc + 1) lv (.ref x :: st)) : gY w g a0 hi pic ce sl nL pc lv (st) := by
  obtain ⟨l, D, cA, sh, b0, adK, adV, fz⟩ := w
  obtain ⟨p, e, R, s, m, args, below, meth, c, ce9, sl9, Q⟩ := g
  intro ls H locs hl hz hR hS
  exact lv_aload_n C.1 C.2.1 hd hfi (lv_at hl j hj) (k ls H locs hl hz hR hS)
theorem gy_istore {w : gWd} {g : gCx} {cc : ByteArray} {Ts : List Cond} {own : String} {nL fr lo : Nat} (C : gC w g cc Ts own nL fr lo) {a0 hi : Nat} {pic : gPic} {ce sl : Nat} {pc : Nat} {lv : List (Nat × Value)} {st : List Value} {i : Nat} {x : Int32} {lv' : List (Nat × Value)} (hd : decode cc pc = .ok (.istore i, 2))  (hn : i < nL) (hv : (i, Value.int x) :: lv.filter (fun q => !(q.1 == i) && !(q.1 + 1 == i && q.2.category == 2)) = lv') (k : gY w g a0 hi pic ce sl nL (pc + 2) lv' st) : gY w g a0 hi pic ce sl nL pc lv (.int x :: st) := by
  obtain ⟨l, D, cA, sh, b0, adK, adV, fz⟩ := w
  obtain ⟨p, e, R, s, m, args, below, meth, c, ce9, sl9, Q⟩ := g
  intro ls H locs hl hz hR hS
  exact lv_istore C.1 C.2.1 hd  hl hn hv (fun ls hl => k ls H locs hl hz hR hS)
theorem gy_istore_n {w : gWd} {g : gCx} {cc : ByteArray} {Ts : List Cond} {own : String} {nL fr lo : Nat} (C : gC w g cc Ts own nL fr lo) {a0 hi : Nat} {pic : gPic} {ce sl : Nat} {pc : Nat} {lv : List (Nat × Value)} {st : List Value} {i : Nat} {f : Fin 4} {x : Int32} {lv' : List (Nat × Value)} (hd : decode cc pc = .ok (.istore_n f, 1)) (hfi : (f : Nat) = i) (hn : i < nL) (hv : (i, Value.int x) :: lv.filter (fun q => !(q.1 == i) && !(q.1 + 1 == i && q.2.category == 2)) = lv') (k : gY w g a0 hi pic ce sl nL (pc + 1) lv' st) : gY w g a0 hi pic ce sl nL pc lv (.int x :: st) := by
  obtain ⟨l, D, cA, sh, b0, adK, adV, fz⟩ := w
  obtain ⟨p, e, R, s, m, args, below, meth, c, ce9, sl9, Q⟩ := g
  intro ls H locs hl hz hR hS
  exact lv_istore_n C.1 C.2.1 hd hfi hl hn hv (fun ls hl => k ls H locs hl hz hR hS)
theorem gy_astore {w : gWd} {g : gCx} {cc : ByteArray} {Ts : List Cond} {own : String} {nL fr lo : Nat} (C : gC w g cc Ts own nL fr lo) {a0 hi : Nat} {pic : gPic} {ce sl : Nat} {pc : Nat} {lv : List (Nat × Value)} {st : List Value} {i : Nat} {x : Nat} {lv' : List (Nat × Value)} (hd : decode cc pc = .ok (.astore i, 2))  (hn : i < nL) (hv : (i, Value.ref x) :: lv.filter (fun q => !(q.1 == i) && !(q.1 + 1 == i && q.2.category == 2)) = lv') (k : gY w g a0 hi pic ce sl nL (pc + 2) lv' st) : gY w g a0 hi pic ce sl nL pc lv (.ref x :: st) := by
  obtain ⟨l, D, cA, sh, b0, adK, adV, fz⟩ := w
  obtain ⟨p, e, R, s, m, args, below, meth, c, ce9, sl9, Q⟩ := g
  intro ls H locs hl hz hR hS
  exact lv_astore C.1 C.2.1 hd  hl hn hv (fun ls hl => k ls H locs hl hz hR hS)
theorem gy_astore_n {w : gWd} {g : gCx} {cc : ByteArray} {Ts : List Cond} {own : String} {nL fr lo : Nat} (C : gC w g cc Ts own nL fr lo) {a0 hi : Nat} {pic : gPic} {ce sl : Nat} {pc : Nat} {lv : List (Nat × Value)} {st : List Value} {i : Nat} {f : Fin 4} {x : Nat} {lv' : List (Nat × Value)} (hd : decode cc pc = .ok (.astore_n f, 1)) (hfi : (f : Nat) = i) (hn : i < nL) (hv : (i, Value.ref x) :: lv.filter (fun q => !(q.1 == i) && !(q.1 + 1 == i && q.2.category == 2)) = lv') (k : gY w g a0 hi pic ce sl nL (pc + 1) lv' st) : gY w g a0 hi pic ce sl nL pc lv (.ref x :: st) := by
  obtain ⟨l, D, cA, sh, b0, adK, adV, fz⟩ := w
  obtain ⟨p, e, R, s, m, args, below, meth, c, ce9, sl9, Q⟩ := g
  intro ls H locs hl hz hR hS
  exact lv_astore_n C.1 C.2.1 hd hfi hl hn hv (fun ls hl => k ls H locs hl hz hR hS)
theorem gy_iinc {w : gWd} {g : gCx} {cc : ByteArray} {Ts : List Cond} {own : String} {nL fr lo : Nat} (C : gC w g cc Ts own nL fr lo) {a0 hi : Nat} {pic : gPic} {ce sl : Nat} {pc : Nat} {lv : List (Nat × Value)} {st : List Value} {i j : Nat} {n : Int} {x v : Int32} {lv' : List (Nat × Value)} (hd : decode cc pc = .ok (.iinc i n, 3)) (hj : lv[j]? = some (i, .int x)) (hv : x + Int32.ofInt n = v) (hn : i < nL) (hf : (i, Value.int v) :: lv.filter (fun q => !(q.1 == i) && !(q.1 + 1 == i && q.2.category == 2)) = lv') (k : gY w g a0 hi pic ce sl nL (pc + 3) lv' st) : gY w g a0 hi pic ce sl nL pc lv st := by
  obtain ⟨l, D, cA, sh, b0, adK, adV, fz⟩ := w
  obtain ⟨p, e, R, s, m, args, below, meth, c, ce9, sl9, Q⟩ := g
  intro ls H locs hl hz hR hS
  exact lv_iinc C.1 C.2.1 hd hl hj hv hn hf (fun ls hl => k ls H locs hl hz hR hS)
theorem gy_dup {w : gWd} {g : gCx} {cc : ByteArray} {Ts : List Cond} {own : String} {nL fr lo : Nat} (C : gC w g cc Ts own nL fr lo) {a0 hi : Nat} {pic : gPic} {ce sl : Nat} {pc : Nat} {lv : List (Nat × Value)} {st : List Value} {v : Value} (hd : decode cc pc = .ok (.dup, 1)) (hv : v.category = 1) (k : gY w g a0 hi pic ce sl nL (pc + 1) lv (v :: v :: st)) : gY w g a0 hi pic ce sl nL pc lv (v :: st) := by
  obtain ⟨l, D, cA, sh, b0, adK, adV, fz⟩ := w
  obtain ⟨p, e, R, s, m, args, below, meth, c, ce9, sl9, Q⟩ := g
  intro ls H locs hl hz hR hS
  exact lv_dup C.1 C.2.1 hd hv (k ls H locs hl hz hR hS)
theorem gy_icmp_ge {w : gWd} {g : gCx} {cc : ByteArray} {Ts : List Cond} {own : String} {nL fr lo : Nat} (C : gC w g cc Ts own nL fr lo) {a0 hi : Nat} {pic : gPic} {ce sl : Nat} {pc : Nat} {lv : List (Nat × Value)} {st : List Value} {x y : Int32} {off : Int} (tgt : Nat) (hd : decode cc pc = .ok (.if_icmp .ge off, 3)) (ht : (pc : Int) + off = (tgt : Int)) (kt : y ≤ x → gY w g a0 hi pic ce sl nL tgt lv st) (kf : ¬ y ≤ x → gY w g a0 hi pic ce sl nL (pc + 3) lv st) : gY w g a0 hi pic ce sl nL pc lv (.int y :: .int x :: st) := by
  obtain ⟨l, D, cA, sh, b0, adK, adV, fz⟩ := w
  obtain ⟨p, e, R, s, m, args, below, meth, c, ce9, sl9, Q⟩ := g
  intro ls H locs hl hz hR hS
  exact lv_icmp_ge C.1 C.2.1 hd ht (fun c => kt c ls H locs hl hz hR hS) (fun c => kf c ls H locs hl hz hR hS)
theorem gy_icmp_lt {w : gWd} {g : gCx} {cc : ByteArray} {Ts : List Cond} {own : String} {nL fr lo : Nat} (C : gC w g cc Ts own nL fr lo) {a0 hi : Nat} {pic : gPic} {ce sl : Nat} {pc : Nat} {lv : List (Nat × Value)} {st : List Value} {x y : Int32} {off : Int} (tgt : Nat) (hd : decode cc pc = .ok (.if_icmp .lt off, 3)) (ht : (pc : Int) + off = (tgt : Int)) (kt : x < y → gY w g a0 hi pic ce sl nL tgt lv st) (kf : ¬ x < y → gY w g a0 hi pic ce sl nL (pc + 3) lv st) : gY w g a0 hi pic ce sl nL pc lv (.int y :: .int x :: st) := by
  obtain ⟨l, D, cA, sh, b0, adK, adV, fz⟩ := w
  obtain ⟨p, e, R, s, m, args, below, meth, c, ce9, sl9, Q⟩ := g
  intro ls H locs hl hz hR hS
  exact lv_icmp_lt C.1 C.2.1 hd ht (fun c => kt c ls H locs hl hz hR hS) (fun c => kf c ls H locs hl hz hR hS)
theorem gy_goto {w : gWd} {g : gCx} {cc : ByteArray} {Ts : List Cond} {own : String} {nL fr lo : Nat} (C : gC w g cc Ts own nL fr lo) {a0 hi : Nat} {pic : gPic} {ce sl : Nat} {pc : Nat} {lv : List (Nat × Value)} {st : List Value} {off : Int} (tgt : Nat) (hd : decode cc pc = .ok (.goto off, 3)) (ht : (pc : Int) + off = (tgt : Int)) (k : gY w g a0 hi pic ce sl nL tgt lv st) : gY w g a0 hi pic ce sl nL pc lv st := by
  obtain ⟨l, D, cA, sh, b0, adK, adV, fz⟩ := w
  obtain ⟨p, e, R, s, m, args, below, meth, c, ce9, sl9, Q⟩ := g
  intro ls H locs hl hz hR hS
  exact lv_goto C.1 C.2.1 hd ht (k ls H locs hl hz hR hS)
theorem gy_sub {w : gWd} {g : gCx} {nL : Nat} {a0 hi : Nat} {pic : gPic} {ce sl : Nat} {pc : Nat} {lv lv' : List (Nat × Value)} {st : List Value} (ks : List Nat) (hk : lv_pick lv ks = lv') (k : gY w g a0 hi pic ce sl nL pc lv' st) : gY w g a0 hi pic ce sl nL pc lv st := by
  obtain ⟨l, D, cA, sh, b0, adK, adV, fz⟩ := w
  obtain ⟨p, e, R, s, m, args, below, meth, c, ce9, sl9, Q⟩ := g
  intro ls H locs hl hz hR hS
  exact k ls H locs (lv_sub hl ks hk) hz hR hS
theorem gy_iadd {w : gWd} {g : gCx} {cc : ByteArray} {Ts : List Cond} {own : String} {nL fr lo : Nat} (C : gC w g cc Ts own nL fr lo) {a0 hi : Nat} {pic : gPic} {ce sl : Nat} {pc : Nat} {lv : List (Nat × Value)} {st : List Value} {x y : Int32} (hd : decode cc pc = .ok (.iadd, 1)) (k : gY w g a0 hi pic ce sl nL (pc + 1) lv (.int (x + y) :: st)) : gY w g a0 hi pic ce sl nL pc lv (.int y :: .int x :: st) := by
  obtain ⟨l, D, cA, sh, b0, adK, adV, fz⟩ := w
  obtain ⟨p, e, R, s, m, args, below, meth, c, ce9, sl9, Q⟩ := g
  intro ls H locs hl hz hR hS
  exact lv_iadd C.1 C.2.1 hd (k ls H locs hl hz hR hS)
theorem gy_imul {w : gWd} {g : gCx} {cc : ByteArray} {Ts : List Cond} {own : String} {nL fr lo : Nat} (C : gC w g cc Ts own nL fr lo) {a0 hi : Nat} {pic : gPic} {ce sl : Nat} {pc : Nat} {lv : List (Nat × Value)} {st : List Value} {x y : Int32} (hd : decode cc pc = .ok (.imul, 1)) (k : gY w g a0 hi pic ce sl nL (pc + 1) lv (.int (x * y) :: st)) : gY w g a0 hi pic ce sl nL pc lv (.int y :: .int x :: st) := by
  obtain ⟨l, D, cA, sh, b0, adK, adV, fz⟩ := w
  obtain ⟨p, e, R, s, m, args, below, meth, c, ce9, sl9, Q⟩ := g
  intro ls H locs hl hz hR hS
  exact lv_imul C.1 C.2.1 hd (k ls H locs hl hz hR hS)
/-- what a new object holds -/
def gDef (ci : Nat) : List Value := (List.range (((vwCl[ci]?).map fun r => r.2.2).getD 0)).map fun k => match (((vwCl[ci]?).map fun r => (r.2.1 k).2.2.1).getD "") with
  | "I" => .int 0
  | "Z" => .int 0
  | "J" => .long 0
  | _ => .null
theorem gy_new {w : gWd} {g : gCx} {cc : ByteArray} {Ts : List Cond} {own : String} {nL fr lo : Nat} (C : gC w g cc Ts own nL fr lo) {a0 Rc Rs : Nat} (Cy : gCy w g a0 Rc Rs) {hi : Nat} {pic : gPic} {ce sl : Nat} {pc : Nat} {lv : List (Nat × Value)} {st : List Value} {Cn : String} {T : u_T} {N ci index : Nat} {fs : List Value} {ty : Nat → FieldType} (hc : vwCl[ci]? = some (Cn, T, N)) (hin : ∀ x ∈ u_ws Cn T N, x ∈ Ts) (hty : ∀ k, k < N → parseFieldDescriptor (T k).2.2.1 = some (ty k)) (hw : Cond.classLink own index Cn ∈ Ts ∧ Cond.instantiable Cn N ∈ Ts ∧ Cond.initialized Cn ∈ Ts) (hfs : ∀ j, j < N → defaultValue (ty j) = vp_V fs j) (h1 : ce + 1 ≤ Rc) (h2 : sl + N ≤ Rs) (hd : decode cc pc = .ok (.new index, 3)) (k : gY w g a0 (hi + 1) (gPu pic hi (.inr (ci, fs))) (ce + 1) (sl + N) nL (pc + 3) lv (.ref hi :: st)) : gY w g a0 hi pic ce sl nL pc lv st := by
  obtain ⟨l, D, cA, sh, b0, adK, adV, fz⟩ := w
  obtain ⟨p, e, R, s, m, args, below, meth, c, ce9, sl9, Q⟩ := g
  intro ls H locs hl hz hR hS
  have hK := C.2.2.2.2.2.1
  have hKn := hK.1 ci _ hc
  refine W.newcK C.1 C.2.1 C.2.2.2.1 (C.2.2.2.2.1 _ hw.1) (C.2.2.2.2.1 _ hw.2.1) (C.2.2.2.2.1 _ hw.2.2) rfl hd (Nat.le_trans h1 Cy.1) (Nat.le_trans h2 Cy.2.1) hKn.2.1 hz fun H1 kC hkC e1 z1 o1 => ?_
  refine k ls H1 locs hl z1 (hR.push hz z1 o1 ⟨_, hc, (u_born ty C.2.2.2.2.1 hin hKn hkC e1 hty).to hfs⟩) ⟨by have := hS.1; omega, fun x q1 q2 => (o1 x (by have := hS.1; omega)).trans (hS.2.1 x q1 q2), hS.2.2⟩
/-- what a new array holds, by the kind of it -/
def gZero (cA : Nat → ClassId) (t n : Nat) : va_E := match t with
  | 0 => .inl (cA 0, n, .inl fun _ => 0)
  | 1 => .inl (cA 1, n, .inr (.inl fun _ => 0))
  | 2 => .inl (cA 2, n, .inl fun _ => 0)
  | 3 => .inl (cA 3, n, .inl fun _ => 0)
  | t => .inl (cA t, n, .inr (.inr (.inr (.inr fun _ => none))))
theorem gy_newarrI {w : gWd} {g : gCx} {cc : ByteArray} {Ts : List Cond} {own : String} {nL fr lo : Nat} (C : gC w g cc Ts own nL fr lo) {a0 Rc Rs : Nat} (Cy : gCy w g a0 Rc Rs) {hi : Nat} {pic : gPic} {ce sl : Nat} {pc : Nat} {lv : List (Nat × Value)} {st : List Value} {n : Int32} {N : Nat} (harr : Cond.arrayClass .int ∈ Ts) (hn : ¬ n < 0) (hN : n.toNatClampNeg = N) (hN2 : N ≤ 1000) (h1 : ce + 1 ≤ Rc) (h2 : sl + N ≤ Rs) (hd : decode cc pc = .ok (.newarray .int, 2)) (k : gY w g a0 (hi + 1) (gPu pic hi (gZero w.2.2.1 0 N)) (ce + 1) (sl + N) nL (pc + 2) lv (.ref hi :: st)) : gY w g a0 hi pic ce sl nL pc lv (.int n :: st) := by
  obtain ⟨l, D, cA, sh, b0, adK, adV, fz⟩ := w
  obtain ⟨p, e, R, s, m, args, below, meth, c, ce9, sl9, Q⟩ := g
  intro ls H locs hl hz hR hS
  have hK := C.2.2.2.2.2.1
  refine va_newaK (atype := .int) C.1 C.2.1 (C.2.2.2.2.1 _ harr) rfl hd rfl hn hN (Nat.le_trans (Nat.mul_le_mul_right _ hN2) (by decide)) (Nat.le_trans h1 Cy.1) (Nat.le_trans h2 Cy.2.1) hz fun H1 cA9 e1 z1 o1 hAr hNm => ?_
  have hc9 : cA9 = cA 0 := Option.some.inj (hNm.symm.trans (hK.2 0 _ rfl).2)
  subst hc9
  exact k ls H1 locs hl z1 (hR.push hz z1 o1 e1) ⟨by have := hS.1; omega, fun x q1 q2 => (o1 x (by have := hS.1; omega)).trans (hS.2.1 x q1 q2), hS.2.2⟩
theorem gy_newarrJ {w : gWd} {g : gCx} {cc : ByteArray} {Ts : List Cond} {own : String} {nL fr lo : Nat} (C : gC w g cc Ts own nL fr lo) {a0 Rc Rs : Nat} (Cy : gCy w g a0 Rc Rs) {hi : Nat} {pic : gPic} {ce sl : Nat} {pc : Nat} {lv : List (Nat × Value)} {st : List Value} {n : Int32} {N : Nat} (harr : Cond.arrayClass .long ∈ Ts) (hn : ¬ n < 0) (hN : n.toNatClampNeg = N) (hN2 : N ≤ 1000) (h1 : ce + 1 ≤ Rc) (h2 : sl + N ≤ Rs) (hd : decode cc pc = .ok (.newarray .long, 2)) (k : gY w g a0 (hi + 1) (gPu pic hi (gZero w.2.2.1 1 N)) (ce + 1) (sl + N) nL (pc + 2) lv (.ref hi :: st)) : gY w g a0 hi pic ce sl nL pc lv (.int n :: st) := by
  obtain ⟨l, D, cA, sh, b0, adK, adV, fz⟩ := w
  obtain ⟨p, e, R, s, m, args, below, meth, c, ce9, sl9, Q⟩ := g
  intro ls H locs hl hz hR hS
  have hK := C.2.2.2.2.2.1
  refine va_newaK (atype := .long) C.1 C.2.1 (C.2.2.2.2.1 _ harr) rfl hd rfl hn hN (Nat.le_trans (Nat.mul_le_mul_right _ hN2) (by decide)) (Nat.le_trans h1 Cy.1) (Nat.le_trans h2 Cy.2.1) hz fun H1 cA9 e1 z1 o1 hAr hNm => ?_
  have hc9 : cA9 = cA 1 := Option.some.inj (hNm.symm.trans (hK.2 1 _ rfl).2)
  subst hc9
  exact k ls H1 locs hl z1 (hR.push hz z1 o1 e1) ⟨by have := hS.1; omega, fun x q1 q2 => (o1 x (by have := hS.1; omega)).trans (hS.2.1 x q1 q2), hS.2.2⟩
theorem gy_newarrC {w : gWd} {g : gCx} {cc : ByteArray} {Ts : List Cond} {own : String} {nL fr lo : Nat} (C : gC w g cc Ts own nL fr lo) {a0 Rc Rs : Nat} (Cy : gCy w g a0 Rc Rs) {hi : Nat} {pic : gPic} {ce sl : Nat} {pc : Nat} {lv : List (Nat × Value)} {st : List Value} {n : Int32} {N : Nat} (harr : Cond.arrayClass .char ∈ Ts) (hn : ¬ n < 0) (hN : n.toNatClampNeg = N) (hN2 : N ≤ 1000) (h1 : ce + 1 ≤ Rc) (h2 : sl + N ≤ Rs) (hd : decode cc pc = .ok (.newarray .char, 2)) (k : gY w g a0 (hi + 1) (gPu pic hi (gZero w.2.2.1 2 N)) (ce + 1) (sl + N) nL (pc + 2) lv (.ref hi :: st)) : gY w g a0 hi pic ce sl nL pc lv (.int n :: st) := by
  obtain ⟨l, D, cA, sh, b0, adK, adV, fz⟩ := w
  obtain ⟨p, e, R, s, m, args, below, meth, c, ce9, sl9, Q⟩ := g
  intro ls H locs hl hz hR hS
  have hK := C.2.2.2.2.2.1
  refine va_newaK (atype := .char) C.1 C.2.1 (C.2.2.2.2.1 _ harr) rfl hd rfl hn hN (Nat.le_trans (Nat.mul_le_mul_right _ hN2) (by decide)) (Nat.le_trans h1 Cy.1) (Nat.le_trans h2 Cy.2.1) hz fun H1 cA9 e1 z1 o1 hAr hNm => ?_
  have hc9 : cA9 = cA 2 := Option.some.inj (hNm.symm.trans (hK.2 2 _ rfl).2)
  subst hc9
  exact k ls H1 locs hl z1 (hR.push hz z1 o1 e1) ⟨by have := hS.1; omega, fun x q1 q2 => (o1 x (by have := hS.1; omega)).trans (hS.2.1 x q1 q2), hS.2.2⟩
theorem gy_newarrZ {w : gWd} {g : gCx} {cc : ByteArray} {Ts : List Cond} {own : String} {nL fr lo : Nat} (C : gC w g cc Ts own nL fr lo) {a0 Rc Rs : Nat} (Cy : gCy w g a0 Rc Rs) {hi : Nat} {pic : gPic} {ce sl : Nat} {pc : Nat} {lv : List (Nat × Value)} {st : List Value} {n : Int32} {N : Nat} (harr : Cond.arrayClass .boolean ∈ Ts) (hn : ¬ n < 0) (hN : n.toNatClampNeg = N) (hN2 : N ≤ 1000) (h1 : ce + 1 ≤ Rc) (h2 : sl + N ≤ Rs) (hd : decode cc pc = .ok (.newarray .boolean, 2)) (k : gY w g a0 (hi + 1) (gPu pic hi (gZero w.2.2.1 3 N)) (ce + 1) (sl + N) nL (pc + 2) lv (.ref hi :: st)) : gY w g a0 hi pic ce sl nL pc lv (.int n :: st) := by
  obtain ⟨l, D, cA, sh, b0, adK, adV, fz⟩ := w
  obtain ⟨p, e, R, s, m, args, below, meth, c, ce9, sl9, Q⟩ := g
  intro ls H locs hl hz hR hS
  have hK := C.2.2.2.2.2.1
  refine va_newaK (atype := .boolean) C.1 C.2.1 (C.2.2.2.2.1 _ harr) rfl hd rfl hn hN (Nat.le_trans (Nat.mul_le_mul_right _ hN2) (by decide)) (Nat.le_trans h1 Cy.1) (Nat.le_trans h2 Cy.2.1) hz fun H1 cA9 e1 z1 o1 hAr hNm => ?_
  have hc9 : cA9 = cA 3 := Option.some.inj (hNm.symm.trans (hK.2 3 _ rfl).2)
  subst hc9
  exact k ls H1 locs hl z1 (hR.push hz z1 o1 e1) ⟨by have := hS.1; omega, fun x q1 q2 => (o1 x (by have := hS.1; omega)).trans (hS.2.1 x q1 q2), hS.2.2⟩
theorem gy_anewFr {w : gWd} {g : gCx} {cc : ByteArray} {Ts : List Cond} {own : String} {nL fr lo : Nat} (C : gC w g cc Ts own nL fr lo) {a0 Rc Rs : Nat} (Cy : gCy w g a0 Rc Rs) {hi : Nat} {pic : gPic} {ce sl : Nat} {pc : Nat} {lv : List (Nat × Value)} {st : List Value} {index : Nat} {n : Int32} {N : Nat} (hcl : Cond.classLink own index "LadderBench$Fraction" ∈ Ts) (hn : ¬ n < 0) (hN : n.toNatClampNeg = N) (hN2 : N ≤ 1000) (h1 : ce + 1 ≤ Rc) (h2 : sl + N ≤ Rs) (hd : decode cc pc = .ok (.anewarray index, 3)) (k : gY w g a0 (hi + 1) (gPu pic hi (gZero w.2.2.1 4 N)) (ce + 1) (sl + N) nL (pc + 3) lv (.ref hi :: st)) : gY w g a0 hi pic ce sl nL pc lv (.int n :: st) := by
  obtain ⟨l, D, cA, sh, b0, adK, adV, fz⟩ := w
  obtain ⟨p, e, R, s, m, args, below, meth, c, ce9, sl9, Q⟩ := g
  intro ls H locs hl hz hR hS
  have hK := C.2.2.2.2.2.1
  subst hN
  subst hz
  refine W.anew C.1 C.2.1 C.2.2.2.1 (C.2.2.2.2.1 _ hcl) (va_AO.use Cy.2.2.1.1) rfl hd rfl hn (Nat.le_trans (Nat.mul_le_mul_right _ hN2) (by decide)) (Nat.le_trans h1 Cy.1) (Nat.le_trans h2 Cy.2.1) fun cA9 kA comp f1 f2 f3 f4 => ?_
  obtain ⟨kA2, comp2, g1, g2, g3, g4⟩ := (hK.2 4 _ rfl).2
  have hc9 : cA9 = cA 4 := Option.some.inj (f1.symm.trans g4)
  subst hc9
  generalize hH1 : H.push ({ cls := cA 4, slots := Array.replicate n.toNatClampNeg .null, vm := .none } : Cell) = H1
  have z1 : H1.size = H.size + 1 := by rw [← hH1, Array.size_push]
  have e1 : H1[H.size]? = some (arrV (cA 4) n.toNatClampNeg (fun _ => .null)) := by rw [← hH1, Array.getElem?_push_size, ← arrV_new]
  have o1 : ∀ q : Nat, q < H.size → H1[q]? = H[q]? := fun q hq => by rw [← hH1, Array.getElem?_push, if_neg (Nat.ne_of_lt hq)]
  exact k ls H1 locs hl z1 (hR.push rfl z1 o1 e1) ⟨by have := hS.1; omega, fun x q1 q2 => (o1 x (by have := hS.1; omega)).trans (hS.2.1 x q1 q2), hS.2.2⟩
theorem gy_anewSt {w : gWd} {g : gCx} {cc : ByteArray} {Ts : List Cond} {own : String} {nL fr lo : Nat} (C : gC w g cc Ts own nL fr lo) {a0 Rc Rs : Nat} (Cy : gCy w g a0 Rc Rs) {hi : Nat} {pic : gPic} {ce sl : Nat} {pc : Nat} {lv : List (Nat × Value)} {st : List Value} {index : Nat} {n : Int32} {N : Nat} (hcl : Cond.classLink own index "LadderBench$State" ∈ Ts) (hn : ¬ n < 0) (hN : n.toNatClampNeg = N) (hN2 : N ≤ 1000) (h1 : ce + 1 ≤ Rc) (h2 : sl + N ≤ Rs) (hd : decode cc pc = .ok (.anewarray index, 3)) (k : gY w g a0 (hi + 1) (gPu pic hi (gZero w.2.2.1 5 N)) (ce + 1) (sl + N) nL (pc + 3) lv (.ref hi :: st)) : gY w g a0 hi pic ce sl nL pc lv (.int n :: st) := by
  obtain ⟨l, D, cA, sh, b0, adK, adV, fz⟩ := w
  obtain ⟨p, e, R, s, m, args, below, meth, c, ce9, sl9, Q⟩ := g
  intro ls H locs hl hz hR hS
  have hK := C.2.2.2.2.2.1
  subst hN
  subst hz
  refine W.anew C.1 C.2.1 C.2.2.2.1 (C.2.2.2.2.1 _ hcl) (va_AO.use Cy.2.2.1.2) rfl hd rfl hn (Nat.le_trans (Nat.mul_le_mul_right _ hN2) (by decide)) (Nat.le_trans h1 Cy.1) (Nat.le_trans h2 Cy.2.1) fun cA9 kA comp f1 f2 f3 f4 => ?_
  obtain ⟨kA2, comp2, g1, g2, g3, g4⟩ := (hK.2 5 _ rfl).2
  have hc9 : cA9 = cA 5 := Option.some.inj (f1.symm.trans g4)
  subst hc9
  generalize hH1 : H.push ({ cls := cA 5, slots := Array.replicate n.toNatClampNeg .null, vm := .none } : Cell) = H1
  have z1 : H1.size = H.size + 1 := by rw [← hH1, Array.size_push]
  have e1 : H1[H.size]? = some (arrV (cA 5) n.toNatClampNeg (fun _ => .null)) := by rw [← hH1, Array.getElem?_push_size, ← arrV_new]
  have o1 : ∀ q : Nat, q < H.size → H1[q]? = H[q]? := fun q hq => by rw [← hH1, Array.getElem?_push, if_neg (Nat.ne_of_lt hq)]
  exact k ls H1 locs hl z1 (hR.push rfl z1 o1 e1) ⟨by have := hS.1; omega, fun x q1 q2 => (o1 x (by have := hS.1; omega)).trans (hS.2.1 x q1 q2), hS.2.2⟩
theorem gy_put {w : gWd} {g : gCx} {cc : ByteArray} {Ts : List Cond} {own : String} {nL fr lo : Nat} (C : gC w g cc Ts own nL fr lo) {a0 Rc Rs : Nat} (Cy : gCy w g a0 Rc Rs) {hi : Nat} {pic : gPic} {ce sl : Nat} {pc : Nat} {lv : List (Nat × Value)} {st : List Value} {a index ci i : Nat} {fs : List Value} {v : Value} {Cn : String} {T : u_T} {N : Nat} {ty0 : Nat → FieldType} {ty : FieldType} (hc : vwCl[ci]? = some (Cn, T, N)) (hi9 : i < N) (hin : ∀ x ∈ u_ws Cn T N, x ∈ Ts) (hlk : Cond.fieldLink own index (T i).1 (T i).2.1 (T i).2.2.1 ∈ Ts) (hty : ∀ k, k < N → parseFieldDescriptor (T k).2.2.1 = some (ty0 k)) (hnm : ∀ a, a < N → ∀ b, b < N → a ≠ b → (T a).2.1 ≠ (T b).2.1) (hfin : (T i).2.2.2 = false) (hty1 : parseFieldDescriptor (T i).2.2.1 = some ty) (hn : narrow ty v = v) (hfit : fits ty v = true) (ha0 : a0 ≤ a) (hp : pic a = some (.inr (ci, fs))) (hl9 : i < fs.length) (hd : decode cc pc = .ok (.putfield index, 3)) (k : gY w g a0 hi (gPu pic a (.inr (ci, fs.set i v))) ce sl nL (pc + 3) lv st) : gY w g a0 hi pic ce sl nL pc lv (v :: .ref a :: st) := by
  obtain ⟨l, D, cA, sh, b0, adK, adV, fz⟩ := w
  obtain ⟨p, e, R, s, m, args, below, meth, c, ce9, sl9, Q⟩ := g
  intro ls H locs hl hz hR hS
  have hts := C.2.2.2.2.1
  have hK := C.2.2.2.2.2.1
  have hap := va_apart (own := own) hts hin ty0 hty hnm hK hc
  obtain ⟨r, h1, cell, q1, q2, q3, q4⟩ := (hR a _ hp).2
  have hr : r = (Cn, T, N) := Option.some.inj (h1.symm.trans hc)
  subst hr
  obtain ⟨hS9, hfc, kC, hkC, hkind⟩ := hK.1 ci _ hc
  obtain ⟨cf, kf, fi, f, hi8, hsl⟩ := hS9 i hi9
  have hlay := hts _ (hin _ (u_in_lay hi9))
  unfold u_lay at hlay
  rw [if_neg (by rw [hfin]; decide)] at hlay
  have hst := (u_facts hfc hkC (u_lays hts hin hi9) hi8).1
  have h6 := u_store hfc hkC hkind hlay hi8 hty1 hn hfit
  refine W.putK C.1 C.2.1 (f := f) ⟨C.2.2.2.1, hts _ hlk, ⟨_, _, _, hi8⟩, hst⟩ (by rw [q2]; exact h6) q1 q3 (by rw [hsl]; exact k2_hasslot (q4 i hi9)) rfl rfl hd fun H' e1 e2 e3 => ?_
  rw [hsl] at e1 ⊢
  refine k ls H' _ hl (e2.trans hz) (hR.put (hR a _ hp).1 e2 e3 ?_) (hS.put e2 e3 ha0)
  exact ⟨_, hc, t_OB.to (V := updV (vp_V fs) i v) ⟨_, e1, q2, q3, t_set q4 hap hi9 v⟩ (fun j _ => vp_updV_set hl9 v j)⟩
theorem gy_putF {w : gWd} {g : gCx} {cc : ByteArray} {Ts : List Cond} {own : String} {nL fr lo : Nat} (C : gC w g cc Ts own nL fr lo) {a0 Rc Rs : Nat} (Cy : gCy w g a0 Rc Rs) {hi : Nat} {pic : gPic} {ce sl : Nat} {pc : Nat} {lv : List (Nat × Value)} {st : List Value} {a index ci i : Nat} {fs : List Value} {v : Value} {Cn : String} {T : u_T} {N : Nat} {ty0 : Nat → FieldType} {ty : FieldType} (hI : gIni g) (hc : vwCl[ci]? = some (Cn, T, N)) (hi9 : i < N) (hin : ∀ x ∈ u_ws Cn T N, x ∈ Ts) (hlk : Cond.fieldLink own index (T i).1 (T i).2.1 (T i).2.2.1 ∈ Ts) (hty : ∀ k, k < N → parseFieldDescriptor (T k).2.2.1 = some (ty0 k)) (hnm : ∀ a, a < N → ∀ b, b < N → a ≠ b → (T a).2.1 ≠ (T b).2.1) (hfin : (T i).2.2.2 = true) (hty1 : parseFieldDescriptor (T i).2.2.1 = some ty) (hn : narrow ty v = v) (hfit : fits ty v = true) (ha0 : a0 ≤ a) (hp : pic a = some (.inr (ci, fs))) (hl9 : i < fs.length) (hdecl : (T i).1 = own) (hd : decode cc pc = .ok (.putfield index, 3)) (k : gY w g a0 hi (gPu pic a (.inr (ci, fs.set i v))) ce sl nL (pc + 3) lv st) : gY w g a0 hi pic ce sl nL pc lv (v :: .ref a :: st) := by
  obtain ⟨l, D, cA, sh, b0, adK, adV, fz⟩ := w
  obtain ⟨p, e, R, s, m, args, below, meth, c, ce9, sl9, Q⟩ := g
  intro ls H locs hl hz hR hS
  have hts := C.2.2.2.2.1
  have hK := C.2.2.2.2.2.1
  have hap := va_apart (own := own) hts hin ty0 hty hnm hK hc
  obtain ⟨r, h1, cell, q1, q2, q3, q4⟩ := (hR a _ hp).2
  have hr : r = (Cn, T, N) := Option.some.inj (h1.symm.trans hc)
  subst hr
  obtain ⟨hS9, hfc, kC, hkC, hkind⟩ := hK.1 ci _ hc
  obtain ⟨cf, kf, fi, f, hi8, hsl⟩ := hS9 i hi9
  have hlay := hts _ (hin _ (u_in_lay hi9))
  unfold u_lay at hlay
  rw [if_pos (by rw [hfin])] at hlay
  have hst := (u_facts hfc hkC (u_lays hts hin hi9) hi8).1
  have hcf : m.cls = cf := by
    obtain ⟨_, _, c', _, _, _, -, -, hf', -, -, -, hown2, -⟩ := Cond.laysFinal_spec hlay
    have e1 : c' = cf := by have := hi8.symm.trans hf'; simp at this; exact this.1.symm
    rw [hdecl] at hown2
    rw [← e1]; exact Option.some.inj (C.2.2.2.1.symm.trans hown2)
  have h6 := u_fits hfc hkC hkind (Or.inr hlay) hi8 hty1 hn hfit
  refine W.putFinK C.1 C.2.1 C.2.2.2.1 (hts _ hlk) hi8 hst hcf hI (by rw [q2]; exact h6) q1 q3 (by rw [hsl]; exact k2_hasslot (q4 i hi9)) rfl rfl hd fun H' e1 e2 e3 => ?_
  rw [hsl] at e1 ⊢
  refine k ls H' _ hl (e2.trans hz) (hR.put (hR a _ hp).1 e2 e3 ?_) (hS.put e2 e3 ha0)
  exact ⟨_, hc, t_OB.to (V := updV (vp_V fs) i v) ⟨_, e1, q2, q3, t_set q4 hap hi9 v⟩ (fun j _ => vp_updV_set hl9 v j)⟩
theorem gy_get {w : gWd} {g : gCx} {cc : ByteArray} {Ts : List Cond} {own : String} {nL fr lo : Nat} (C : gC w g cc Ts own nL fr lo) {a0 Rc Rs : Nat} (Cy : gCy w g a0 Rc Rs) {hi : Nat} {pic : gPic} {ce sl : Nat} {pc : Nat} {lv : List (Nat × Value)} {st : List Value} {a index ci i : Nat} {fs : List Value} {v : Value} (F : gF Ts own index ci i) (hp : pic a = some (.inr (ci, fs))) (hv : fs[i]? = some v) (hd : decode cc pc = .ok (.getfield index, 3)) (k : gY w g a0 hi pic ce sl nL (pc + 3) lv (v :: st)) : gY w g a0 hi pic ce sl nL pc lv (.ref a :: st) := by
  obtain ⟨l, D, cA, sh, b0, adK, adV, fz⟩ := w
  obtain ⟨p, e, R, s, m, args, below, meth, c, ce9, sl9, Q⟩ := g
  intro ls H locs hl hz hR hS
  obtain ⟨Cn, T, N, hc, hi9, hin, hlk⟩ := F
  exact va_get C.1 C.2.1 C.2.2.2.2.1 hin C.2.2.2.1 C.2.2.2.2.2.1 (hR.one hp) 0 rfl hc i hi9 (C.2.2.2.2.1 _ hlk) (fun _ q => q) hv hd (k ls H locs hl hz hR hS)
theorem gy_iastore {w : gWd} {g : gCx} {cc : ByteArray} {Ts : List Cond} {own : String} {nL fr lo : Nat} (C : gC w g cc Ts own nL fr lo) {a0 Rc Rs : Nat} (Cy : gCy w g a0 Rc Rs) {hi : Nat} {pic : gPic} {ce sl : Nat} {pc : Nat} {lv : List (Nat × Value)} {st : List Value} {a n : Nat} {f : Nat → Int32} {i : Int32} {x : Int32} (ha0 : a0 ≤ a) (hp : pic a = some (.inl (w.2.2.1 0, n, .inl f))) (hin : gIn i n) (hd : decode cc pc = .ok (.iastore, 1)) (k : gY w g a0 hi (gPu pic a (.inl (w.2.2.1 0, n, .inl (fun j => if j = gN i then x else f j)))) ce sl nL (pc + 1) lv st) : gY w g a0 hi pic ce sl nL pc lv (.int x :: .int i :: .ref a :: st) := by
  obtain ⟨l, D, cA, sh, b0, adK, adV, fz⟩ := w
  obtain ⟨p, e, R, s, m, args, below, meth, c, ce9, sl9, Q⟩ := g
  intro ls H locs hl hz hR hS
  have hK := C.2.2.2.2.2.1
  refine W.iast C.1 C.2.1 (hR a _ hp).2 ((hK.2 0 _ rfl).1 n (fun j => .int (f j))) (fun q => by cases q) (by show ¬ (i < 0 ∨ (arrV _ _ _).slots.size ≤ _); rw [arrV_size]; exact hin) rfl rfl hd fun H1 e z oq => ?_
  refine k ls H1 _ hl (z.trans hz) (hR.put (hR a _ hp).1 z oq ?_) (hS.put z oq ha0)
  show H1[a]? = some (arrV (cA 0) n (fun j => .int (if j = gN i then x else f j)))
  rw [e]
  show some ((arrV (cA 0) n (fun j => .int (f j))).setSlot _ _) = _
  rw [arrV_store]
  congr 2
  funext q
  by_cases hq : q = i.toNatClampNeg
  · subst hq
    simp [updV]
    try rfl
  · simp [updV, hq]
theorem gy_lastore {w : gWd} {g : gCx} {cc : ByteArray} {Ts : List Cond} {own : String} {nL fr lo : Nat} (C : gC w g cc Ts own nL fr lo) {a0 Rc Rs : Nat} (Cy : gCy w g a0 Rc Rs) {hi : Nat} {pic : gPic} {ce sl : Nat} {pc : Nat} {lv : List (Nat × Value)} {st : List Value} {a n : Nat} {f : Nat → Int64} {i : Int32} {x : Int64} (ha0 : a0 ≤ a) (hp : pic a = some (.inl (w.2.2.1 1, n, .inr (.inl f)))) (hin : gIn i n) (hd : decode cc pc = .ok (.lastore, 1)) (k : gY w g a0 hi (gPu pic a (.inl (w.2.2.1 1, n, .inr (.inl (fun j => if j = gN i then x else f j))))) ce sl nL (pc + 1) lv st) : gY w g a0 hi pic ce sl nL pc lv (.long x :: .int i :: .ref a :: st) := by
  obtain ⟨l, D, cA, sh, b0, adK, adV, fz⟩ := w
  obtain ⟨p, e, R, s, m, args, below, meth, c, ce9, sl9, Q⟩ := g
  intro ls H locs hl hz hR hS
  have hK := C.2.2.2.2.2.1
  refine W.last C.1 C.2.1 (hR a _ hp).2 ((hK.2 1 _ rfl).1 n (fun j => .long (f j))) (fun q => by cases q) (by show ¬ (i < 0 ∨ (arrV _ _ _).slots.size ≤ _); rw [arrV_size]; exact hin) rfl rfl hd fun H1 e z oq => ?_
  refine k ls H1 _ hl (z.trans hz) (hR.put (hR a _ hp).1 z oq ?_) (hS.put z oq ha0)
  show H1[a]? = some (arrV (cA 1) n (fun j => .long (if j = gN i then x else f j)))
  rw [e]
  show some ((arrV (cA 1) n (fun j => .long (f j))).setSlot _ _) = _
  rw [arrV_store]
  congr 2
  funext q
  by_cases hq : q = i.toNatClampNeg
  · subst hq
    simp [updV]
    try rfl
  · simp [updV, hq]
theorem gy_aastoreFr {w : gWd} {g : gCx} {cc : ByteArray} {Ts : List Cond} {own : String} {nL fr lo : Nat} (C : gC w g cc Ts own nL fr lo) {a0 Rc Rs : Nat} (Cy : gCy w g a0 Rc Rs) {hi : Nat} {pic : gPic} {ce sl : Nat} {pc : Nat} {lv : List (Nat × Value)} {st : List Value} {a n v : Nat} {f : Nat → Option Nat} {i : Int32} {vs : List Value} (ha0 : a0 ≤ a) (hp : pic a = some (.inl (w.2.2.1 4, n, .inr (.inr (.inr (.inr f)))))) (hv : pic v = some (.inr (2, vs))) (hin : gIn i n) (hd : decode cc pc = .ok (.aastore, 1)) (k : gY w g a0 hi (gPu pic a (.inl (w.2.2.1 4, n, .inr (.inr (.inr (.inr (fun j => if j = gN i then some v else f j))))))) ce sl nL (pc + 1) lv st) : gY w g a0 hi pic ce sl nL pc lv (.ref v :: .int i :: .ref a :: st) := by
  obtain ⟨l, D, cA, sh, b0, adK, adV, fz⟩ := w
  obtain ⟨p, e, R, s, m, args, below, meth, c, ce9, sl9, Q⟩ := g
  intro ls H locs hl hz hR hS
  have hK := C.2.2.2.2.2.1
  have hlt : i.toNatClampNeg < n := Nat.not_le.mp fun q => hin (Or.inr q)
  have h0 : ¬ i < 0 := fun q => hin (Or.inl q)
  obtain ⟨r', hr', cellV, g1, g2, g3, -⟩ := (hR v _ hv).2
  have hcls := (hK.1 2 _ rfl).2
  obtain ⟨kA, comp, k1, k2, k3, -⟩ := (hK.2 4 _ rfl).2
  have hcomp : comp = D.1 2 := Option.some.inj (k3.symm.trans hcls.1)
  subst hcomp
  obtain ⟨kC, hkC, -⟩ := hcls.2
  refine W.aast C.1 C.2.1 (hR a _ hp).2 (fun q h => by cases h) (fun h => by cases h) k1 k2 rfl hkC ⟨h0, by show _ < (arrV _ _ _).slots.size; rw [arrV_size]; exact hlt⟩ g1 (fun q h => by rw [g3] at h; cases h) (by rw [g2]; exact hkC) (by rw [g2]; exact va_assign hcls) rfl rfl hd fun H1 e z oq => ?_
  refine k ls H1 _ hl (z.trans hz) (hR.put (hR a _ hp).1 z oq ?_) (hS.put z oq ha0)
  show H1[a]? = some (arrV (cA 4) n (fun j => va_rf (if j = gN i then some v else f j)))
  rw [e]
  show some ((arrV (cA 4) n (fun j => va_rf (f j))).setSlot _ _) = _
  rw [arrV_store]
  congr 2
  funext q
  by_cases hq : q = i.toNatClampNeg
  · subst hq
    simp [updV, va_rf]
  · simp [updV, hq]
theorem gy_aastoreSt {w : gWd} {g : gCx} {cc : ByteArray} {Ts : List Cond} {own : String} {nL fr lo : Nat} (C : gC w g cc Ts own nL fr lo) {a0 Rc Rs : Nat} (Cy : gCy w g a0 Rc Rs) {hi : Nat} {pic : gPic} {ce sl : Nat} {pc : Nat} {lv : List (Nat × Value)} {st : List Value} {a n v : Nat} {f : Nat → Option Nat} {i : Int32} {vs : List Value} (ha0 : a0 ≤ a) (hp : pic a = some (.inl (w.2.2.1 5, n, .inr (.inr (.inr (.inr f)))))) (hv : pic v = some (.inr (8, vs))) (hin : gIn i n) (hd : decode cc pc = .ok (.aastore, 1)) (k : gY w g a0 hi (gPu pic a (.inl (w.2.2.1 5, n, .inr (.inr (.inr (.inr (fun j => if j = gN i then some v else f j))))))) ce sl nL (pc + 1) lv st) : gY w g a0 hi pic ce sl nL pc lv (.ref v :: .int i :: .ref a :: st) := by
  obtain ⟨l, D, cA, sh, b0, adK, adV, fz⟩ := w
  obtain ⟨p, e, R, s, m, args, below, meth, c, ce9, sl9, Q⟩ := g
  intro ls H locs hl hz hR hS
  have hK := C.2.2.2.2.2.1
  have hlt : i.toNatClampNeg < n := Nat.not_le.mp fun q => hin (Or.inr q)
  have h0 : ¬ i < 0 := fun q => hin (Or.inl q)
  obtain ⟨r', hr', cellV, g1, g2, g3, -⟩ := (hR v _ hv).2
  have hcls := (hK.1 8 _ rfl).2
  obtain ⟨kA, comp, k1, k2, k3, -⟩ := (hK.2 5 _ rfl).2
  have hcomp : comp = D.1 8 := Option.some.inj (k3.symm.trans hcls.1)
  subst hcomp
  obtain ⟨kC, hkC, -⟩ := hcls.2
  refine W.aast C.1 C.2.1 (hR a _ hp).2 (fun q h => by cases h) (fun h => by cases h) k1 k2 rfl hkC ⟨h0, by show _ < (arrV _ _ _).slots.size; rw [arrV_size]; exact hlt⟩ g1 (fun q h => by rw [g3] at h; cases h) (by rw [g2]; exact hkC) (by rw [g2]; exact va_assign hcls) rfl rfl hd fun H1 e z oq => ?_
  refine k ls H1 _ hl (z.trans hz) (hR.put (hR a _ hp).1 z oq ?_) (hS.put z oq ha0)
  show H1[a]? = some (arrV (cA 5) n (fun j => va_rf (if j = gN i then some v else f j)))
  rw [e]
  show some ((arrV (cA 5) n (fun j => va_rf (f j))).setSlot _ _) = _
  rw [arrV_store]
  congr 2
  funext q
  by_cases hq : q = i.toNatClampNeg
  · subst hq
    simp [updV, va_rf]
  · simp [updV, hq]
theorem gy_objInit {w : gWd} {g : gCx} {cc : ByteArray} {Ts : List Cond} {own : String} {nL fr lo : Nat} (C : gC w g cc Ts own nL fr lo) {a0 Rc Rs : Nat} (Cy : gCy w g a0 Rc Rs) {hi : Nat} {pic : gPic} {ce sl : Nat} {pc : Nat} {lv : List (Nat × Value)} {st : List Value} {a idx : Nat} (hw : Cond.methodLink own idx objectInit ∈ Ts ∧ Cond.instanceMethod objectInit ∈ Ts ∧ Cond.code objectInit ⟨#[0xb1]⟩ 1 none ∈ Ts) (h1 : 1 ≤ fr) (h2 : 20 ≤ lo) (hW : (st.map fun v => v.category).sum ≤ 8) (hd : decode cc pc = .ok (.invokespecial idx, 3)) (k : gY w g a0 hi pic ce sl nL (pc + 3) lv st) : gY w g a0 hi pic ce sl nL pc lv (.ref a :: st) := by
  obtain ⟨l, D, cA, sh, b0, adK, adV, fz⟩ := w
  obtain ⟨p, e, R, s, m, args, below, meth, c, ce9, sl9, Q⟩ := g
  intro ls H locs hl hz hR hS
  exact W.objInit C.1 C.2.1 C.2.2.2.1 (C.2.2.2.2.1 _ hw.1) (C.2.2.2.2.1 _ hw.2.1) (C.2.2.2.2.1 _ hw.2.2) rfl (by rw [C.2.2.1]; exact hl.1) rfl hd (Nat.le_trans h1 C.2.2.2.2.2.2.2.2.2.1) (by have := C.2.2.2.2.2.2.2.2.2.2.1; show 2 * 0 + _ + 12 ≤ _; omega) (k ls H locs hl hz hR hS)
/-- a constructor's contract: from a new cell at the end, to its whole block -/
def gFin (w : gWd) (hT : gHp) (lo hi : Nat) (pic : gPic) : gPic := fun q => if lo ≤ q ∧ q < hi then (gsh w q).map (gE w.2.2.1 (hT.1 q) (hT.2 q)) else pic q
def gPreI (w : gWd) (a : Nat) (pic : gPic) (U : State) : Prop := U.heap.size = a + 1 ∧ gRp w.2.1 pic U.heap ∧ va_K w.2.1 vwCl (gT w.2.2.1) U ∧ gNs U ∧ gAO U ∧ w.2.2.2.2.1 ≤ a ∧ (∀ (a : Nat) (x : gSh), w.2.2.2.1 a = some x → w.2.2.2.2.1 ≤ a) ∧ gSt w.2.2.2.2.1 w.2.2.2.2.2.1 w.2.2.2.2.2.2.1 w.2.2.2.2.2.2.2 U
def gQcI (w : gWd) (hT : gHp) (a sz : Nat) (pic : gPic) : State → Outcome → State → Prop := fun st oc t => oc = .returned none ∧ t.heap.size = a + sz ∧ gRp w.2.1 (gFin w hT a (a + sz) pic) t.heap ∧ va_F (fun q => a ≤ q) st t
def gMetI (w : gWd) (hT : gHp) (y : MethodName) (ws : List Cond) (rm : Room) (a sz mc ms : Nat) (pic : gPic) : Prop :=
  Met w.1 y ws rm (va_Pc [.ref a] (gPreI w a pic)) (fun _ st oc t => gQcI w hT a sz pic st oc t) mc ms (fun q => a ≤ q)
def gEnI (w : gWd) (hT : gHp) (g : gCx) (a sz mc ms : Nat) (pic : gPic) : Prop := match g with
  | (_, _, _, s, _, args, below, meth, _, _, _, Q) => meth.sig.returnType = none ∧ meth.locks = false ∧ Q = MQ below (fun _ st oc t => gQcI w hT a sz pic st oc t) args s mc ms (fun q => a ≤ q)
theorem gy_vret {w : gWd} {g : gCx} {cc : ByteArray} {Ts : List Cond} {own : String} {nL fr lo : Nat} (C : gC w g cc Ts own nL fr lo) {hT : gHp} {a sz mc ms : Nat} {pic pic0 : gPic} {pc hi : Nat} {lv : List (Nat × Value)} (E : gEnI w hT g a sz mc ms pic0) (hhi : hi = a + sz) (hpic : ∀ H0 : Heap, gRp w.2.1 pic H0 → gRp w.2.1 (gFin w hT a (a + sz) pic0) H0) (hd : decode cc pc = .ok (.return_, 1)) : gY w g a hi pic mc ms nL pc lv [] := by
  obtain ⟨p, e, R, s, m, args, below, meth, c, ce9, sl9, Q⟩ := g
  obtain ⟨hr, hlk, rfl⟩ := E
  obtain ⟨l, D, cA, sh, b0, adK, adV, fz⟩ := w
  intro ls H locs hl hz hR hS
  exact W.vret C.1 C.2.1 hr (fun t ht hW => ⟨rfl, by rw [ht, hz, hhi], by rw [ht]; exact hpic H hR, hS.F ht⟩) hS.2.2 hd hlk
theorem gAO.warm {s U : State} (hW : s.WarmedH U.vm) (h : gAO s) : gAO U := ⟨va_AO.moved hW.alike h.1, va_AO.moved hW.alike h.2⟩
theorem gPreI_blind (w : gWd) (a : Nat) (pic : gPic) (av : List Value) : FrameBlind (va_Pc av (gPreI w a pic)) := fun a U g mk q => by
  obtain ⟨q0, q1, q2, q3, q4, q5, q6, q7, q8⟩ := q
  exact ⟨q0, q1, q2, va_K.moved (u := U) (U := U.calling g mk a) (Vm.Alike.refl U.vm) q3, gNs.same (u := U) (U := U.calling g mk a) rfl q4, ⟨va_AO.moved (u := U) (U := U.calling g mk a) (Vm.Alike.refl U.vm) q5.1, va_AO.moved (u := U) (U := U.calling g mk a) (Vm.Alike.refl U.vm) q5.2⟩, q6, q7, gSt.same (u := U) (U := U.calling g mk a) rfl rfl q8⟩
theorem gMetI_of {w : gWd} {hT : gHp} {y : MethodName} {ws ws' : List Cond} {rm : Room} {a sz mc ms : Nat} {pic : gPic} {cc : ByteArray} {maxL fr lo Rc Rs : Nat} {own : String}
    (hy : plainName y.cls = true) (hyn : y.name = "<init>") (hw : ws = Cond.code y cc maxL none :: ws') (howny : y.cls = own) (hlen : 1 ≤ maxL) (hfr : fr ≤ rm.frames) (hlo : lo ≤ rm.locals) (hRc : Rc ≤ rm.cells) (hRs : Rs ≤ rm.slots)
    (body : ∀ g : gCx, gC w g cc ws own maxL fr lo → gCy w g a Rc Rs → gIni g → gEnI w hT g a sz mc ms pic → gY w g a (a + 1) pic 0 0 maxL 0 [(0, .ref a)] []) : gMetI w hT y ws rm a sz mc ms pic := by
  obtain ⟨l, D, cA, sh, b0, adK, adV, fz⟩ := w
  refine Met.ofW (cc := cc) (maxL := maxL) (ret := none) hy hw ?_
  intro p e s m args below meth c s₁ B hml hv
  obtain ⟨rfl, hz, hR, hK, hN, hAO, hb0, hsh, hst⟩ := hv
  have hts := atoms_spec (ws := ws) B.pre
  have hown : s.vm.findClass own = some m.cls := by rw [← howny]; exact findClass_of_methodNamed B.named
  have hin : meth.name = "<init>" := (name_of_methodNamed B.named B.method).1.trans hyn
  have hl := lv_entry ([.ref a]) (n := maxL) (by show 1 ≤ maxL; exact hlen)
  rw [lg_entry_eq]
  generalize (lg_sl [Value.ref a] ++ List.replicate (maxL - (lg_sl [Value.ref a]).length) Slot.unset).toArray = ls at hl ⊢
  have hl : lv_has ls maxL [(0, .ref a)] := hl
  exact body (p, e, (headSpec ws rm).room, s, m, [Value.ref a].toArray, below, meth, c, 0, 0, _) ⟨B.exec, B.bytes, hml, hown, hts, hK, hN, (Nat.le_trans hb0 (by omega)), hsh, hfr, hlo, Nat.zero_le _, Nat.zero_le _, hst⟩ ⟨hRc, hRs, hAO, (by omega), hb0⟩ hin ⟨B.returns, B.notSynchronized, rfl⟩ ls s.heap [] hl hz hR va_S.rf
theorem gy_callI {w : gWd} {g : gCx} {cc : ByteArray} {Ts : List Cond} {own : String} {nL fr lo : Nat} (C : gC w g cc Ts own nL fr lo) {a0 Rc Rs : Nat} (Cy : gCy w g a0 Rc Rs) {hi : Nat} {pic : gPic} {ce sl : Nat} {pc : Nat} {lv : List (Nat × Value)} {st : List Value} {hT : gHp} {y : MethodName} {bytes : ByteArray} {maxL index : Nat} {ws ws' : List Cond} {rm : Room} {b sz mc ms : Nat} (hM : gMetI w hT y ws rm b sz mc ms pic) (hb : hi = b + 1) (ha0 : a0 ≤ b) (hG : GoodIn Ts ws) (hlk : Cond.methodLink own index y ∈ Ts) (hw : ws = Cond.code y bytes maxL none :: ws') (hrc : rm.cells = mc) (hrs : rm.slots = ms) (hini : Cond.initialized y.cls ∈ Ts) (hin : Cond.instanceMethod y ∈ Ts) (hyn : y.name = "<init>") (hy : y.cls ≠ "java/lang/invoke/MethodHandle" ∧ y.cls ≠ "java/lang/invoke/VarHandle" ∧ (parseMethodDescriptor y.desc).map (fun d => d.parameters.length) = some 0) (hr1 : rm.frames + 1 ≤ fr) (hr2 : 8 + (maxL + 11) + rm.locals ≤ lo) (hr3 : ce + mc ≤ Rc) (hr4 : sl + ms ≤ Rs)
    (hW : (st.map fun v => v.category).sum ≤ 8) (hd : decode cc pc = .ok (.invokespecial index, 3)) (k : gY w g a0 (b + sz) (gFin w hT b (b + sz) pic) (ce + mc) (sl + ms) nL (pc + 3) lv st) : gY w g a0 hi pic ce sl nL pc lv (.ref b :: st) := by
  obtain ⟨l, D, cA, sh, b0, adK, adV, fz⟩ := w
  obtain ⟨p, e, R, s, m, args, below, meth, c, ce9, sl9, Q⟩ := g
  intro ls H locs hl hz hR hS
  have hS0 := C.2.2.2.2.2.2.2.1
  have hr : va_Run p l e R s m args below meth c H locs ce sl mc ms (F0 m pc ls (.ref b :: st)) st ((fun _ st oc t => gQcI (l, D, cA, sh, b0, adK, adV, fz) hT b sz pic st oc t) ([.ref b] : List Value).toArray) (fun q => b ≤ q) :=
    va_runI (As := []) (rest := st) (b := b) (n := 0) ⟨C.1, C.2.1, C.2.2.1, C.2.2.2.1, C.2.2.2.2.1⟩ hM (cwI 0 C.2.2.2.2.1 hG hw hrc hrs (C.2.2.2.2.1 _ hini) (C.2.2.2.2.1 _ hlk) (C.2.2.2.2.1 _ hin) hyn hy ⟨Nat.le_trans hr1 C.2.2.2.2.2.2.2.2.2.1, Nat.le_trans hr2 C.2.2.2.2.2.2.2.2.2.2.1⟩) ⟨gPreI_blind _ _ _ _, fun U hU hW => ⟨rfl, by rw [hU, hz, hb], by rw [hU]; exact hR, va_K.moved hW.alike C.2.2.2.2.2.1, gNs.warm hW C.2.2.2.2.2.2.1, gAO.warm hW Cy.2.2.1, Nat.le_trans Cy.2.2.2.2 ha0, C.2.2.2.2.2.2.2.2.1, gSt.warm hW (fun q h1 h2 => by rw [hU]; exact hS.2.1 q h1 (fun h3 => h2 (Nat.le_trans Cy.2.2.2.2 h3))) C.2.2.2.2.2.2.2.2.2.2.2.2.2⟩⟩ rfl rfl hl.1 rfl (lv_room hW) hd ⟨Nat.le_trans hr3 Cy.1, Nat.le_trans hr4 Cy.2.1⟩
  intro T hT9 X
  obtain ⟨v1, st₀, t, T', L, h0, X', hL, e1, e2, ⟨hv, hz1, hR1, hF1⟩, hgo⟩ := hr T hT9 X
  cases hv
  rw [← e1] at hR1 hz1
  have hu : ∀ q : Nat, q < H.size → ¬ b ≤ q → T'.heap[q]? = H[q]? := fun q h1 h2 => by rw [e1, ← h0]; exact hF1.2 q (by rw [h0]; exact h1) h2
  have hsz : H.size ≤ T'.heap.size := by rw [e1, ← h0]; exact hF1.1
  obtain ⟨t2, a1, b1⟩ := k ls T'.heap (locs ++ L) hl hz1 hR1 ⟨Nat.le_trans hS.1 hsz, fun q h1 h2 => by rw [hu q (Nat.lt_of_lt_of_le h1 hS.1) (fun h3 => h2 (Nat.le_trans ha0 h3))]; exact hS.2.1 q h1 h2, fun q hq => by
    rcases List.mem_append.mp hq with q1 | q1
    · exact hS.2.2 q q1
    · exact Nat.le_trans ha0 (hL q q1)⟩ T' rfl X'
  exact ⟨t2, hgo t2 a1, b1⟩
theorem gy_callIN {w : gWd} {g : gCx} {cc : ByteArray} {Ts : List Cond} {own : String} {nL fr lo : Nat} (C : gC w g cc Ts own nL fr lo) {a0 Rc Rs : Nat} (Cy : gCy w g a0 Rc Rs) {hi : Nat} {pic : gPic} {ce sl : Nat} {pc : Nat} {lv : List (Nat × Value)} {st : List Value} {hT : gHp} {y : MethodName} {bytes : ByteArray} {maxL index : Nat} {ws ws' : List Cond} {rm : Room} {b sz mc ms : Nat} {host : String} (hM : gMetI w hT y ws rm b sz mc ms pic) (hb : hi = b + 1) (ha0 : a0 ≤ b) (hG : GoodIn Ts ws) (hlk : Cond.methodLinkNest own index y host ∈ gNestL) (hw : ws = Cond.code y bytes maxL none :: ws') (hrc : rm.cells = mc) (hrs : rm.slots = ms) (hini : Cond.initialized y.cls ∈ Ts) (hin : Cond.instanceMethod y ∈ Ts) (hyn : y.name = "<init>") (hy : y.cls ≠ "java/lang/invoke/MethodHandle" ∧ y.cls ≠ "java/lang/invoke/VarHandle" ∧ (parseMethodDescriptor y.desc).map (fun d => d.parameters.length) = some 0) (hr1 : rm.frames + 1 ≤ fr) (hr2 : 8 + (maxL + 11) + rm.locals ≤ lo) (hr3 : ce + mc ≤ Rc) (hr4 : sl + ms ≤ Rs)
    (hW : (st.map fun v => v.category).sum ≤ 8) (hd : decode cc pc = .ok (.invokespecial index, 3)) (k : gY w g a0 (b + sz) (gFin w hT b (b + sz) pic) (ce + mc) (sl + ms) nL (pc + 3) lv st) : gY w g a0 hi pic ce sl nL pc lv (.ref b :: st) := by
  obtain ⟨l, D, cA, sh, b0, adK, adV, fz⟩ := w
  obtain ⟨p, e, R, s, m, args, below, meth, c, ce9, sl9, Q⟩ := g
  intro ls H locs hl hz hR hS
  have hS0 := C.2.2.2.2.2.2.2.1
  have hr : va_Run p l e R s m args below meth c H locs ce sl mc ms (F0 m pc ls (.ref b :: st)) st ((fun _ st oc t => gQcI (l, D, cA, sh, b0, adK, adV, fz) hT b sz pic st oc t) ([.ref b] : List Value).toArray) (fun q => b ≤ q) :=
    va_runIN (As := []) (rest := st) (b := b) (n := 0) ⟨C.1, C.2.1, C.2.2.1, C.2.2.2.1, C.2.2.2.2.1⟩ hM (⟨va_cnB 0 C.2.2.2.2.1 hG hw hrc hrs (C.2.2.2.2.2.2.1 _ hlk) (C.2.2.2.2.1 _ hini) hy ⟨Nat.le_trans hr1 C.2.2.2.2.2.2.2.2.2.1, Nat.le_trans hr2 C.2.2.2.2.2.2.2.2.2.2.1⟩, hyn, C.2.2.2.2.1 _ hin⟩) ⟨gPreI_blind _ _ _ _, fun U hU hW => ⟨rfl, by rw [hU, hz, hb], by rw [hU]; exact hR, va_K.moved hW.alike C.2.2.2.2.2.1, gNs.warm hW C.2.2.2.2.2.2.1, gAO.warm hW Cy.2.2.1, Nat.le_trans Cy.2.2.2.2 ha0, C.2.2.2.2.2.2.2.2.1, gSt.warm hW (fun q h1 h2 => by rw [hU]; exact hS.2.1 q h1 (fun h3 => h2 (Nat.le_trans Cy.2.2.2.2 h3))) C.2.2.2.2.2.2.2.2.2.2.2.2.2⟩⟩ rfl rfl hl.1 rfl (lv_room hW) hd ⟨Nat.le_trans hr3 Cy.1, Nat.le_trans hr4 Cy.2.1⟩
  intro T hT9 X
  obtain ⟨v1, st₀, t, T', L, h0, X', hL, e1, e2, ⟨hv, hz1, hR1, hF1⟩, hgo⟩ := hr T hT9 X
  cases hv
  rw [← e1] at hR1 hz1
  have hu : ∀ q : Nat, q < H.size → ¬ b ≤ q → T'.heap[q]? = H[q]? := fun q h1 h2 => by rw [e1, ← h0]; exact hF1.2 q (by rw [h0]; exact h1) h2
  have hsz : H.size ≤ T'.heap.size := by rw [e1, ← h0]; exact hF1.1
  obtain ⟨t2, a1, b1⟩ := k ls T'.heap (locs ++ L) hl hz1 hR1 ⟨Nat.le_trans hS.1 hsz, fun q h1 h2 => by rw [hu q (Nat.lt_of_lt_of_le h1 hS.1) (fun h3 => h2 (Nat.le_trans ha0 h3))]; exact hS.2.1 q h1 h2, fun q hq => by
    rcases List.mem_append.mp hq with q1 | q1
    · exact hS.2.2 q q1
    · exact Nat.le_trans ha0 (hL q q1)⟩ T' rfl X'
  exact ⟨t2, hgo t2 a1, b1⟩
