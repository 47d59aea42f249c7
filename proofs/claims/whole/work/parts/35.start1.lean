set_option maxRecDepth 100000 in
set_option maxHeartbeats 4000000 in
theorem start_K {p : Program} {s : State} {m : MethodId} {meth : Method} {c : Code} {b L : Nat} {xs : Nat → Int32} (C0 : lw_At p s m meth c b L xs) : ∃ (D : va_G) (cA : Nat → ClassId), va_K D vwCl (gT cA) s ∧ gAO s := by
  obtain ⟨hx, hb, hr, hml, hown, hts, hX, hbl, hlocks, hgv⟩ := C0
  obtain ⟨c0, iS0, hKn0⟩ := u_known (C := RX0) (T := TX0) (N := 5) (n := 5) hts inX0 (hts (.instantiable RX0 5) (by decide +kernel))
  obtain ⟨c1, iS1, hKn1⟩ := u_known (C := RX1) (T := TX1) (N := 3) (n := 3) hts inX1 (hts (.instantiable RX1 3) (by decide +kernel))
  obtain ⟨c2, iS2, hKn2⟩ := u_known (C := RX2) (T := TX2) (N := 2) (n := 2) hts inX2 (hts (.instantiable RX2 2) (by decide +kernel))
  obtain ⟨c3, iS3, hKn3⟩ := u_known (C := RX3) (T := TX3) (N := 3) (n := 3) hts inX3 (hts (.instantiable RX3 3) (by decide +kernel))
  obtain ⟨c4, iS4, hKn4⟩ := u_known (C := RX4) (T := TX4) (N := 2) (n := 2) hts inX4 (hts (.instantiable RX4 2) (by decide +kernel))
  obtain ⟨c5, iS5, hKn5⟩ := u_known (C := RX5) (T := TX5) (N := 5) (n := 5) hts inX5 (hts (.instantiable RX5 5) (by decide +kernel))
  obtain ⟨c6, iS6, hKn6⟩ := u_known (C := RX6) (T := TX6) (N := 3) (n := 3) hts inX6 (hts (.instantiable RX6 3) (by decide +kernel))
  obtain ⟨c7, iS7, hKn7⟩ := u_known (C := RX7) (T := TX7) (N := 4) (n := 4) hts inX7 (hts (.instantiable RX7 4) (by decide +kernel))
  obtain ⟨c8, iS8, hKn8⟩ := u_known (C := RX8) (T := TX8) (N := 8) (n := 8) hts inX8 (hts (.instantiable RX8 8) (by decide +kernel))
  obtain ⟨c9, iS9, hKn9⟩ := u_known (C := RX9) (T := TX9) (N := 10) (n := 10) hts inX9 (hts (.instantiable RX9 10) (by decide +kernel))
  obtain ⟨c10, iS10, hKn10⟩ := u_known (C := RX10) (T := TX10) (N := 26) (n := 26) hts inX10 (hts (.instantiable RX10 26) (by decide +kernel))
  obtain ⟨a0, k0, p0, f0, g0, h0⟩ := Cond.arrayClass_spec (hts (.arrayClass .int) (by decide +kernel))
  obtain ⟨a1, k1, p1, f1, g1, h1⟩ := Cond.arrayClass_spec (hts (.arrayClass .long) (by decide +kernel))
  obtain ⟨a2, k2, p2, f2, g2, h2⟩ := Cond.arrayClass_spec (hts (.arrayClass .char) (by decide +kernel))
  obtain ⟨a3, k3, p3, f3, g3, h3⟩ := Cond.arrayClass_spec (hts (.arrayClass .boolean) (by decide +kernel))
  have o4 := hts (.arrayOver (.object "LadderBench$Fraction")) (by decide +kernel)
  obtain ⟨p4, a4, k4, q4, -, g4, h4, f4⟩ := Cond.arrayOver_spec o4
  have o5 := hts (.arrayOver (.object "LadderBench$State")) (by decide +kernel)
  obtain ⟨p5, a5, k5, q5, -, g5, h5, f5⟩ := Cond.arrayOver_spec o5
  refine ⟨(fun k => match k with | 0 => c0 | 1 => c1 | 2 => c2 | 3 => c3 | 4 => c4 | 5 => c5 | 6 => c6 | 7 => c7 | 8 => c8 | 9 => c9 | _ => c10, fun k => match k with | 0 => iS0 | 1 => iS1 | 2 => iS2 | 3 => iS3 | 4 => iS4 | 5 => iS5 | 6 => iS6 | 7 => iS7 | 8 => iS8 | 9 => iS9 | _ => iS10), (fun k => match k with | 0 => a0 | 1 => a1 | 2 => a2 | 3 => a3 | 4 => a4 | _ => a5), ⟨?_, ?_⟩, ⟨va_AO.of o4, va_AO.of o5⟩⟩
  · intro k q hq
    match k, hq with
    | 0, hq => cases hq; exact hKn0
    | 1, hq => cases hq; exact hKn1
    | 2, hq => cases hq; exact hKn2
    | 3, hq => cases hq; exact hKn3
    | 4, hq => cases hq; exact hKn4
    | 5, hq => cases hq; exact hKn5
    | 6, hq => cases hq; exact hKn6
    | 7, hq => cases hq; exact hKn7
    | 8, hq => cases hq; exact hKn8
    | 9, hq => cases hq; exact hKn9
    | 10, hq => cases hq; exact hKn10
    | k + 11, hq => simp [vwCl] at hq
  · intro k q hq
    match k, hq with
    | 0, hq => cases hq; exact ⟨fun n z => ⟨fun k h => (by cases h), k0, g0, p0, h0⟩, f0⟩
    | 1, hq => cases hq; exact ⟨fun n z => ⟨fun k h => (by cases h), k1, g1, p1, h1⟩, f1⟩
    | 2, hq => cases hq; exact ⟨fun n z => ⟨fun k h => (by cases h), k2, g2, p2, h2⟩, f2⟩
    | 3, hq => cases hq; exact ⟨fun n z => ⟨fun k h => (by cases h), k3, g3, p3, h3⟩, f3⟩
    | 4, hq => cases hq; exact ⟨fun n z => ⟨fun k h => (by cases h), k4, g4, p4, h4⟩, k4, p4, g4, h4, q4, f4⟩
    | 5, hq => cases hq; exact ⟨fun n z => ⟨fun k h => (by cases h), k5, g5, p5, h5⟩, k5, p5, g5, h5, q5, f5⟩
    | k + 6, hq => simp at hq
set_option maxRecDepth 100000 in
theorem start_N {p : Program} {s : State} {m : MethodId} {meth : Method} {c : Code} {b L : Nat} {xs : Nat → Int32} (C0 : lw_At p s m meth c b L xs) : gNs s := by
  obtain ⟨hx, hb, hr, hml, hown, hts, hX, hbl, hlocks, hgv⟩ := C0
  have hg : ∀ w ∈ gNestL, w ∈ lw_tbl ∧ w.onTables = true := by decide +kernel
  intro w hw
  exact va_Nw.of (hg w hw).2 (hts w (hg w hw).1)
set_option maxRecDepth 100000 in
set_option maxHeartbeats 4000000 in
theorem start_S {p : Program} {s : State} {m : MethodId} {meth : Method} {c : Code} {b L : Nat} {xs : Nat → Int32} (C0 : lw_At p s m meth c b L xs) : ∃ (adK adV : Nat → Nat) (fz : Value), gSt s.heap.size adK adV fz s := by
  obtain ⟨hx, hb, hr, hml, hown, hts, hX, hbl, hlocks, hgv⟩ := C0
  have hs := flat_of_before _ hgv
  have hA : ∀ a : Nat, a < s.heap.size → ¬ (fun q : Nat => s.heap.size ≤ q) a := fun a h => Nat.not_le.mpr h
  obtain ⟨adK, adV, hS, hev⟩ := vk_Sof (args := #[Value.ref b]) (s := s) (N := 6) (tm := fun i => .string RX1 (gSidx.getD i 0)) (len := gSlen) (byt := gSbyt) (A := fun q => s.heap.size ≤ q)
    (fun i hi => match i, hi with | 0, _ => by decide | 1, _ => by decide | 2, _ => by decide | 3, _ => by decide | 4, _ => by decide | 5, _ => by decide | i + 6, hi => absurd hi (by omega))
    (fun i hi => match i, hi with | 0, _ => hs _ (by decide +kernel) | 1, _ => hs _ (by decide +kernel) | 2, _ => hs _ (by decide +kernel) | 3, _ => hs _ (by decide +kernel) | 4, _ => hs _ (by decide +kernel) | 5, _ => hs _ (by decide +kernel) | i + 6, hi => absurd hi (by omega))
    (fun i hi => match i, hi with | 0, _ => hs _ (by decide +kernel) | 1, _ => hs _ (by decide +kernel) | 2, _ => hs _ (by decide +kernel) | 3, _ => hs _ (by decide +kernel) | 4, _ => hs _ (by decide +kernel) | 5, _ => hs _ (by decide +kernel) | i + 6, hi => absurd hi (by omega))
    (fun i hi => match i, hi with | 0, _ => hs _ (by decide +kernel) | 1, _ => hs _ (by decide +kernel) | 2, _ => hs _ (by decide +kernel) | 3, _ => hs _ (by decide +kernel) | 4, _ => hs _ (by decide +kernel) | 5, _ => hs _ (by decide +kernel) | i + 6, hi => absurd hi (by omega))
    (fun i hi => match i, hi with | 0, _ => hs _ (by decide +kernel) | 1, _ => hs _ (by decide +kernel) | 2, _ => hs _ (by decide +kernel) | 3, _ => hs _ (by decide +kernel) | 4, _ => hs _ (by decide +kernel) | 5, _ => hs _ (by decide +kernel) | i + 6, hi => absurd hi (by omega))
    (fun i hi => match i, hi with | 0, _ => (fun j hj => match j, hj with | 0, _ => hs _ (by decide +kernel) | 1, _ => hs _ (by decide +kernel) | 2, _ => hs _ (by decide +kernel) | j + 3, hj => absurd (show j + 3 < 3 from hj) (by omega)) | 1, _ => (fun j hj => match j, hj with | 0, _ => hs _ (by decide +kernel) | 1, _ => hs _ (by decide +kernel) | 2, _ => hs _ (by decide +kernel) | 3, _ => hs _ (by decide +kernel) | j + 4, hj => absurd (show j + 4 < 4 from hj) (by omega)) | 2, _ => (fun j hj => match j, hj with | 0, _ => hs _ (by decide +kernel) | 1, _ => hs _ (by decide +kernel) | 2, _ => hs _ (by decide +kernel) | 3, _ => hs _ (by decide +kernel) | 4, _ => hs _ (by decide +kernel) | j + 5, hj => absurd (show j + 5 < 5 from hj) (by omega)) | 3, _ => (fun j hj => match j, hj with | 0, _ => hs _ (by decide +kernel) | 1, _ => hs _ (by decide +kernel) | 2, _ => hs _ (by decide +kernel) | 3, _ => hs _ (by decide +kernel) | j + 4, hj => absurd (show j + 4 < 4 from hj) (by omega)) | 4, _ => (fun j hj => match j, hj with | 0, _ => hs _ (by decide +kernel) | 1, _ => hs _ (by decide +kernel) | 2, _ => hs _ (by decide +kernel) | 3, _ => hs _ (by decide +kernel) | 4, _ => hs _ (by decide +kernel) | 5, _ => hs _ (by decide +kernel) | j + 6, hj => absurd (show j + 6 < 6 from hj) (by omega)) | 5, _ => (fun j hj => match j, hj with | 0, _ => hs _ (by decide +kernel) | 1, _ => hs _ (by decide +kernel) | 2, _ => hs _ (by decide +kernel) | 3, _ => hs _ (by decide +kernel) | 4, _ => hs _ (by decide +kernel) | j + 5, hj => absurd (show j + 5 < 5 from hj) (by omega)) | i + 6, hi => absurd hi (by omega))
    (fun i j hi hj hij => match i, hi, j, hj, hij with | 0, _, 0, _, h => absurd rfl h | 0, _, 1, _, _ => Or.inl (hs _ (by decide +kernel)) | 0, _, 2, _, _ => Or.inl (hs _ (by decide +kernel)) | 0, _, 3, _, _ => Or.inl (hs _ (by decide +kernel)) | 0, _, 4, _, _ => Or.inl (hs _ (by decide +kernel)) | 0, _, 5, _, _ => Or.inl (hs _ (by decide +kernel)) | 1, _, 0, _, _ => Or.inr (hs _ (by decide +kernel)) | 1, _, 1, _, h => absurd rfl h | 1, _, 2, _, _ => Or.inl (hs _ (by decide +kernel)) | 1, _, 3, _, _ => Or.inl (hs _ (by decide +kernel)) | 1, _, 4, _, _ => Or.inl (hs _ (by decide +kernel)) | 1, _, 5, _, _ => Or.inl (hs _ (by decide +kernel)) | 2, _, 0, _, _ => Or.inr (hs _ (by decide +kernel)) | 2, _, 1, _, _ => Or.inr (hs _ (by decide +kernel)) | 2, _, 2, _, h => absurd rfl h | 2, _, 3, _, _ => Or.inl (hs _ (by decide +kernel)) | 2, _, 4, _, _ => Or.inl (hs _ (by decide +kernel)) | 2, _, 5, _, _ => Or.inl (hs _ (by decide +kernel)) | 3, _, 0, _, _ => Or.inr (hs _ (by decide +kernel)) | 3, _, 1, _, _ => Or.inr (hs _ (by decide +kernel)) | 3, _, 2, _, _ => Or.inr (hs _ (by decide +kernel)) | 3, _, 3, _, h => absurd rfl h | 3, _, 4, _, _ => Or.inl (hs _ (by decide +kernel)) | 3, _, 5, _, _ => Or.inl (hs _ (by decide +kernel)) | 4, _, 0, _, _ => Or.inr (hs _ (by decide +kernel)) | 4, _, 1, _, _ => Or.inr (hs _ (by decide +kernel)) | 4, _, 2, _, _ => Or.inr (hs _ (by decide +kernel)) | 4, _, 3, _, _ => Or.inr (hs _ (by decide +kernel)) | 4, _, 4, _, h => absurd rfl h | 4, _, 5, _, _ => Or.inl (hs _ (by decide +kernel)) | 5, _, 0, _, _ => Or.inr (hs _ (by decide +kernel)) | 5, _, 1, _, _ => Or.inr (hs _ (by decide +kernel)) | 5, _, 2, _, _ => Or.inr (hs _ (by decide +kernel)) | 5, _, 3, _, _ => Or.inr (hs _ (by decide +kernel)) | 5, _, 4, _, _ => Or.inr (hs _ (by decide +kernel)) | 5, _, 5, _, h => absurd rfl h | i + 6, hi, _, _, _ => absurd hi (by omega) | _, _, j + 6, hj, _ => absurd hj (by omega)) hA
  have hC : va_Z "java/lang/String" "COMPACT_STRINGS" "Z" (.int 1) (fun q => s.heap.size ≤ q) s s.heap := va_Zof (hts _ (by decide +kernel)) (hts _ (by decide +kernel)) (va_eqi (hs _ (by decide +kernel))) hA
  have hR0 : ∀ i : Nat, i < 6 → (Cond.stringRef RX1 (gSidx.getD i 0) (gStxt.getD i "")).before #[Value.ref b] s = true := (fun i hi => match i, hi with | 0, _ => hts (.stringRef RX1 58 "set") (by decide +kernel) | 1, _ => hts (.stringRef RX1 64 "open") (by decide +kernel) | 2, _ => hts (.stringRef RX1 66 "short") (by decide +kernel) | 3, _ => hts (.stringRef RX1 68 "mend") (by decide +kernel) | 4, _ => hts (.stringRef RX1 70 "source") (by decide +kernel) | 5, _ => hts (.stringRef RX1 72 "meter") (by decide +kernel) | i + 6, hi => absurd hi (by omega))
  have hR : ∀ i : Nat, i < 6 → vk_R RX1 (gSidx.getD i 0) (gStxt.getD i "") (adK i) s := fun i hi => vk_R.of (hR0 i hi) (hev i hi)
  rcases va_Zqof (C := "jdk/internal/util/Preconditions") (n := "SIOOBE_FORMATTER") (d := "Ljava/util/function/BiFunction;") (hts _ (by decide +kernel)) (hts _ (by decide +kernel)) (hs _ (by decide +kernel)) hA with hZ | ⟨t, hZ⟩
  · exact ⟨adK, adV, .null, ⟨hS, hR, hC, hZ, Or.inl rfl⟩⟩
  · exact ⟨adK, adV, .ref t, ⟨hS, hR, hC, hZ, Or.inr ⟨t, rfl⟩⟩⟩
