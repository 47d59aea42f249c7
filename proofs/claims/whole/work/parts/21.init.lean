theorem gPu_eq {pic : gPic} {a : Nat} {e : va_E} : gPu pic a e a = some e := if_pos rfl
theorem gPu_at {pic : gPic} {a q : Nat} {e : va_E} {r : Option va_E} (h : q ≠ a) (hr : pic q = r) : gPu pic a e q = r := by unfold gPu; rw [if_neg h]; exact hr
theorem gFin_at {w : gWd} {hT : gHp} {lo hi q : Nat} {pic : gPic} {r : Option va_E} (h : ¬ (lo ≤ q ∧ q < hi)) (hr : pic q = r) : gFin w hT lo hi pic q = r := by unfold gFin; rw [if_neg h]; exact hr
theorem gFin_in {w : gWd} {hT : gHp} {lo hi q : Nat} {pic : gPic} {x : gSh} (h : lo ≤ q ∧ q < hi) (hs : gsh w q = some x) : gFin w hT lo hi pic q = some (gE w.2.2.1 (hT.1 q) (hT.2 q) x) := by unfold gFin; rw [if_pos h, hs]; rfl
theorem gFin_is {w : gWd} {hT : gHp} {lo hi q : Nat} {pic : gPic} {r : Option va_E} (h : lo ≤ q ∧ q < hi) (hr : (gsh w q).map (gE w.2.2.1 (hT.1 q) (hT.2 q)) = r) : gFin w hT lo hi pic q = r := by unfold gFin; rw [if_pos h]; exact hr
theorem gAt_refs {D : va_G} {cA : Nat → ClassId} {I : Nat → Int32} {L : Nat → Int64} {H : Heap} {a t n : Nat} {f : Nat → Nat} {g : Nat → Option Nat} (ht : gE cA I L (.inr (t, n, f)) = .inl (cA t, n, .inr (.inr (.inr (.inr (fun j => some (f j))))))) (h : va_at D vwCl (a, .inl (cA t, n, .inr (.inr (.inr (.inr g))))) H) (hg : ∀ j, j < n → g j = some (f j)) : va_at D vwCl (a, gE cA I L (.inr (t, n, f))) H := by
  rw [ht]
  show H[a]? = some (arrV (cA t) n (fun j => va_rf (some (f j))))
  have h1 : H[a]? = some (arrV (cA t) n (fun j => va_rf (g j))) := h
  rw [h1]
  refine congrArg some ?_
  unfold arrV
  congr 1
  apply Array.ext
  · simp
  · intro i h2 h3
    simp only [Array.getElem_ofFn]
    rw [hg i (by simpa using h2)]
theorem gArm6 : (fun k : Nat => if k < 6 then (-1 : Int32) else 0) = (fun j => if j = gN 5 then -1 else if j = gN 4 then -1 else if j = gN 3 then -1 else if j = gN 2 then -1 else if j = gN 1 then -1 else if j = gN 0 then -1 else 0) := by
  funext k
  match k with
  | 0 => rfl
  | 1 => rfl
  | 2 => rfl
  | 3 => rfl
  | 4 => rfl
  | 5 => rfl
  | k + 6 =>
    have e : ∀ n : Nat, n < 6 → k + 6 ≠ n := fun n hn => by omega
    rw [if_neg (by omega), if_neg (e _ (by decide)), if_neg (e _ (by decide)), if_neg (e _ (by decide)), if_neg (e _ (by decide)), if_neg (e _ (by decide)), if_neg (e _ (by decide))]
def in_X2 (hT : gHp) (a : Nat) : Prop := hT.2 a 0 = 0 ∧ hT.2 a 1 = 1
theorem in_X2_upper {hT : gHp} {a : Nat} (F : in_X2 hT a) : hT.2 a 0 = 0 := F.1
theorem in_X2_lower {hT : gHp} {a : Nat} (F : in_X2 hT a) : hT.2 a 1 = 1 := F.2
def in_X4 (hT : gHp) (a : Nat) : Prop := hT.1 (a + 1) = (fun _ => 0) ∧ hT.1 a 1 = 0
theorem in_X4_characters {hT : gHp} {a : Nat} (F : in_X4 hT a) : hT.1 (a + 1) = (fun _ => 0) := F.1
theorem in_X4_length {hT : gHp} {a : Nat} (F : in_X4 hT a) : hT.1 a 1 = 0 := F.2
def in_X5 (hT : gHp) (a : Nat) : Prop := hT.1 (a + 1) = (fun _ => 0) ∧ hT.1 (a + 2) = (fun _ => 0) ∧ hT.1 (a + 3) = (fun _ => 0) ∧ hT.1 (a + 4) = (fun k => if k < 6 then -1 else 0) ∧ hT.1 a 4 = 0
theorem in_X5_kind {hT : gHp} {a : Nat} (F : in_X5 hT a) : hT.1 (a + 1) = (fun _ => 0) := F.1
theorem in_X5_around {hT : gHp} {a : Nat} (F : in_X5 hT a) : hT.1 (a + 2) = (fun _ => 0) := F.2.1
theorem in_X5_letter {hT : gHp} {a : Nat} (F : in_X5 hT a) : hT.1 (a + 3) = (fun _ => 0) := F.2.2.1
theorem in_X5_partOfArm {hT : gHp} {a : Nat} (F : in_X5 hT a) : hT.1 (a + 4) = (fun k => if k < 6 then -1 else 0) := F.2.2.2.1
theorem in_X5_size {hT : gHp} {a : Nat} (F : in_X5 hT a) : hT.1 a 4 = 0 := F.2.2.2.2
def in_X7 (hT : gHp) (a : Nat) : Prop := hT.2 (a + 1) = (fun _ => 0) ∧ hT.2 (a + 2) = (fun _ => 0) ∧ hT.1 (a + 3) = (fun _ => 0) ∧ hT.1 a 3 = 0
theorem in_X7_upper {hT : gHp} {a : Nat} (F : in_X7 hT a) : hT.2 (a + 1) = (fun _ => 0) := F.1
theorem in_X7_lower {hT : gHp} {a : Nat} (F : in_X7 hT a) : hT.2 (a + 2) = (fun _ => 0) := F.2.1
theorem in_X7_times {hT : gHp} {a : Nat} (F : in_X7 hT a) : hT.1 (a + 3) = (fun _ => 0) := F.2.2.1
theorem in_X7_size {hT : gHp} {a : Nat} (F : in_X7 hT a) : hT.1 a 3 = 0 := F.2.2.2
def in_X8 (hT : gHp) (a : Nat) : Prop := in_X5 hT (a + 1) ∧ in_X7 hT (a + 6) ∧ hT.1 (a + 10) = (fun _ => 0) ∧ hT.1 (a + 11) = (fun _ => 0) ∧ hT.1 (a + 12) = (fun _ => 0) ∧ hT.1 a 5 = 12 ∧ hT.1 a 6 = 100 ∧ hT.1 a 7 = 0
theorem in_X8_network {hT : gHp} {a : Nat} (F : in_X8 hT a) : in_X5 hT (a + 1) := F.1
theorem in_X8_notes {hT : gHp} {a : Nat} (F : in_X8 hT a) : in_X7 hT (a + 6) := F.2.1
theorem in_X8_armValue {hT : gHp} {a : Nat} (F : in_X8 hT a) : hT.1 (a + 10) = (fun _ => 0) := F.2.2.1
theorem in_X8_armState {hT : gHp} {a : Nat} (F : in_X8 hT a) : hT.1 (a + 11) = (fun _ => 0) := F.2.2.2.1
theorem in_X8_isFolded {hT : gHp} {a : Nat} (F : in_X8 hT a) : hT.1 (a + 12) = (fun _ => 0) := F.2.2.2.2.1
theorem in_X8_source {hT : gHp} {a : Nat} (F : in_X8 hT a) : hT.1 a 5 = 12 := F.2.2.2.2.2.1
theorem in_X8_meter {hT : gHp} {a : Nat} (F : in_X8 hT a) : hT.1 a 6 = 100 := F.2.2.2.2.2.2.1
theorem in_X8_folds {hT : gHp} {a : Nat} (F : in_X8 hT a) : hT.1 a 7 = 0 := F.2.2.2.2.2.2.2
def in_X3 (hT : gHp) (a : Nat) : Prop := (∀ i : Nat, i < 5 → in_X8 hT (a + 2 + 13 * i)) ∧ hT.1 a 1 = 0 ∧ hT.1 a 2 = 0
theorem in_X3_states {hT : gHp} {a : Nat} (F : in_X3 hT a) : (∀ i : Nat, i < 5 → in_X8 hT (a + 2 + 13 * i)) := F.1
theorem in_X3_oldest {hT : gHp} {a : Nat} (F : in_X3 hT a) : hT.1 a 1 = 0 := F.2.1
theorem in_X3_size {hT : gHp} {a : Nat} (F : in_X3 hT a) : hT.1 a 2 = 0 := F.2.2
def in_X6 (hT : gHp) (a : Nat) : Prop := hT.1 (a + 1) = (fun _ => 0) ∧ hT.1 (a + 2) = (fun _ => 0) ∧ hT.1 a 2 = 0
theorem in_X6_pieces {hT : gHp} {a : Nat} (F : in_X6 hT a) : hT.1 (a + 1) = (fun _ => 0) := F.1
theorem in_X6_links {hT : gHp} {a : Nat} (F : in_X6 hT a) : hT.1 (a + 2) = (fun _ => 0) := F.2.1
theorem in_X6_depth {hT : gHp} {a : Nat} (F : in_X6 hT a) : hT.1 a 2 = 0 := F.2.2
def in_X1 (hT : gHp) (a : Nat) : Prop := hT.1 a 0 = (-1) ∧ hT.1 a 1 = 0 ∧ hT.1 a 2 = (-1)
theorem in_X1_action {hT : gHp} {a : Nat} (F : in_X1 hT a) : hT.1 a 0 = (-1) := F.1
theorem in_X1_number {hT : gHp} {a : Nat} (F : in_X1 hT a) : hT.1 a 1 = 0 := F.2.1
theorem in_X1_letter {hT : gHp} {a : Nat} (F : in_X1 hT a) : hT.1 a 2 = (-1) := F.2.2
def in_X0 (hT : gHp) (a : Nat) : Prop := (∀ i : Nat, i < 11 → in_X2 hT (a + 6 + 2 * i)) ∧ (∀ i : Nat, i < 11 → in_X2 hT (a + 7 + 2 * i)) ∧ in_X2 hT (a + 3) ∧ in_X2 hT (a + 4) ∧ in_X2 hT (a + 5)
theorem in_X0_ohms {hT : gHp} {a : Nat} (F : in_X0 hT a) : (∀ i : Nat, i < 11 → in_X2 hT (a + 6 + 2 * i)) := F.1
theorem in_X0_volts {hT : gHp} {a : Nat} (F : in_X0 hT a) : (∀ i : Nat, i < 11 → in_X2 hT (a + 7 + 2 * i)) := F.2.1
theorem in_X0_sum {hT : gHp} {a : Nat} (F : in_X0 hT a) : in_X2 hT (a + 3) := F.2.2.1
theorem in_X0_share {hT : gHp} {a : Nat} (F : in_X0 hT a) : in_X2 hT (a + 4) := F.2.2.2.1
theorem in_X0_unloaded {hT : gHp} {a : Nat} (F : in_X0 hT a) : in_X2 hT (a + 5) := F.2.2.2.2
def in_X9 (hT : gHp) (a : Nat) : Prop := in_X4 hT (a + 1) ∧ in_X8 hT (a + 3) ∧ in_X8 hT (a + 16) ∧ in_X8 hT (a + 29) ∧ in_X3 hT (a + 42) ∧ in_X6 hT (a + 109) ∧ in_X1 hT (a + 112) ∧ in_X0 hT (a + 113) ∧ in_X2 hT (a + 141) ∧ hT.1 a 9 = 0
theorem in_X9_text {hT : gHp} {a : Nat} (F : in_X9 hT a) : in_X4 hT (a + 1) := F.1
theorem in_X9_now {hT : gHp} {a : Nat} (F : in_X9 hT a) : in_X8 hT (a + 3) := F.2.1
theorem in_X9_snapshot {hT : gHp} {a : Nat} (F : in_X9 hT a) : in_X8 hT (a + 16) := F.2.2.1
theorem in_X9_trial {hT : gHp} {a : Nat} (F : in_X9 hT a) : in_X8 hT (a + 29) := F.2.2.2.1
theorem in_X9_history {hT : gHp} {a : Nat} (F : in_X9 hT a) : in_X3 hT (a + 42) := F.2.2.2.2.1
theorem in_X9_reader {hT : gHp} {a : Nat} (F : in_X9 hT a) : in_X6 hT (a + 109) := F.2.2.2.2.2.1
theorem in_X9_command {hT : gHp} {a : Nat} (F : in_X9 hT a) : in_X1 hT (a + 112) := F.2.2.2.2.2.2.1
theorem in_X9_circuit {hT : gHp} {a : Nat} (F : in_X9 hT a) : in_X0 hT (a + 113) := F.2.2.2.2.2.2.2.1
theorem in_X9_wanted {hT : gHp} {a : Nat} (F : in_X9 hT a) : in_X2 hT (a + 141) := F.2.2.2.2.2.2.2.2.1
theorem in_X9_hasSnapshot {hT : gHp} {a : Nat} (F : in_X9 hT a) : hT.1 a 9 = 0 := F.2.2.2.2.2.2.2.2.2
def in_X10 (hT : gHp) (a : Nat) : Prop := hT.2 (a + 1) = (fun k => if k = 2 then 100 else if k = 1 then 12 else 0) ∧ hT.2 (a + 2) = (fun _ => 0) ∧ hT.1 a 2 = 0 ∧ hT.2 (a + 3) = (fun _ => 0) ∧ hT.1 a 4 = 0 ∧ hT.1 a 5 = 0 ∧ hT.1 (a + 4) = (fun _ => 0) ∧ hT.1 a 7 = 0 ∧ hT.1 a 8 = 0 ∧ hT.1 (a + 5) = (fun _ => 0) ∧ hT.1 (a + 6) = (fun _ => 0) ∧ hT.1 a 11 = 0 ∧ hT.1 (a + 7) = (fun _ => 0) ∧ hT.1 (a + 8) = (fun _ => 0) ∧ hT.1 a 14 = 0 ∧ hT.1 a 15 = 0 ∧ hT.1 a 16 = 0 ∧ hT.2 a 17 = 0 ∧ hT.2 a 18 = 0 ∧ hT.2 (a + 9) = (fun _ => 0) ∧ hT.2 (a + 10) = (fun _ => 0) ∧ hT.2 a 21 = 0 ∧ hT.2 a 22 = 0 ∧ hT.1 a 23 = 0 ∧ hT.2 (a + 11) = (fun _ => 0) ∧ hT.2 (a + 12) = (fun _ => 0)
theorem in_X10_now {hT : gHp} {a : Nat} (F : in_X10 hT a) : hT.2 (a + 1) = (fun k => if k = 2 then 100 else if k = 1 then 12 else 0) := F.1
theorem in_X10_history {hT : gHp} {a : Nat} (F : in_X10 hT a) : hT.2 (a + 2) = (fun _ => 0) := F.2.1
theorem in_X10_kept {hT : gHp} {a : Nat} (F : in_X10 hT a) : hT.1 a 2 = 0 := F.2.2.1
theorem in_X10_slot {hT : gHp} {a : Nat} (F : in_X10 hT a) : hT.2 (a + 3) = (fun _ => 0) := F.2.2.2.1
theorem in_X10_isFilled {hT : gHp} {a : Nat} (F : in_X10 hT a) : hT.1 a 4 = 0 := F.2.2.2.2.1
theorem in_X10_typed {hT : gHp} {a : Nat} (F : in_X10 hT a) : hT.1 a 5 = 0 := F.2.2.2.2.2.1
theorem in_X10_text {hT : gHp} {a : Nat} (F : in_X10 hT a) : hT.1 (a + 4) = (fun _ => 0) := F.2.2.2.2.2.2.1
theorem in_X10_at {hT : gHp} {a : Nat} (F : in_X10 hT a) : hT.1 a 7 = 0 := F.2.2.2.2.2.2.2.1
theorem in_X10_readParts {hT : gHp} {a : Nat} (F : in_X10 hT a) : hT.1 a 8 = 0 := F.2.2.2.2.2.2.2.2.1
theorem in_X10_read {hT : gHp} {a : Nat} (F : in_X10 hT a) : hT.1 (a + 5) = (fun _ => 0) := F.2.2.2.2.2.2.2.2.2.1
theorem in_X10_pile {hT : gHp} {a : Nat} (F : in_X10 hT a) : hT.1 (a + 6) = (fun _ => 0) := F.2.2.2.2.2.2.2.2.2.2.1
theorem in_X10_piled {hT : gHp} {a : Nat} (F : in_X10 hT a) : hT.1 a 11 = 0 := F.2.2.2.2.2.2.2.2.2.2.2.1
theorem in_X10_pieces {hT : gHp} {a : Nat} (F : in_X10 hT a) : hT.1 (a + 7) = (fun _ => 0) := F.2.2.2.2.2.2.2.2.2.2.2.2.1
theorem in_X10_links {hT : gHp} {a : Nat} (F : in_X10 hT a) : hT.1 (a + 8) = (fun _ => 0) := F.2.2.2.2.2.2.2.2.2.2.2.2.2.1
theorem in_X10_readWord {hT : gHp} {a : Nat} (F : in_X10 hT a) : hT.1 a 14 = 0 := F.2.2.2.2.2.2.2.2.2.2.2.2.2.2.1
theorem in_X10_readArm {hT : gHp} {a : Nat} (F : in_X10 hT a) : hT.1 a 15 = 0 := F.2.2.2.2.2.2.2.2.2.2.2.2.2.2.2.1
theorem in_X10_readNumber {hT : gHp} {a : Nat} (F : in_X10 hT a) : hT.1 a 16 = 0 := F.2.2.2.2.2.2.2.2.2.2.2.2.2.2.2.2.1
theorem in_X10_up {hT : gHp} {a : Nat} (F : in_X10 hT a) : hT.2 a 17 = 0 := F.2.2.2.2.2.2.2.2.2.2.2.2.2.2.2.2.2.1
theorem in_X10_low {hT : gHp} {a : Nat} (F : in_X10 hT a) : hT.2 a 18 = 0 := F.2.2.2.2.2.2.2.2.2.2.2.2.2.2.2.2.2.2.1
theorem in_X10_upper {hT : gHp} {a : Nat} (F : in_X10 hT a) : hT.2 (a + 9) = (fun _ => 0) := F.2.2.2.2.2.2.2.2.2.2.2.2.2.2.2.2.2.2.2.1
theorem in_X10_lower {hT : gHp} {a : Nat} (F : in_X10 hT a) : hT.2 (a + 10) = (fun _ => 0) := F.2.2.2.2.2.2.2.2.2.2.2.2.2.2.2.2.2.2.2.2.1
theorem in_X10_letsUp {hT : gHp} {a : Nat} (F : in_X10 hT a) : hT.2 a 21 = 0 := F.2.2.2.2.2.2.2.2.2.2.2.2.2.2.2.2.2.2.2.2.2.1
theorem in_X10_letsLow {hT : gHp} {a : Nat} (F : in_X10 hT a) : hT.2 a 22 = 0 := F.2.2.2.2.2.2.2.2.2.2.2.2.2.2.2.2.2.2.2.2.2.2.1
theorem in_X10_isShort {hT : gHp} {a : Nat} (F : in_X10 hT a) : hT.1 a 23 = 0 := F.2.2.2.2.2.2.2.2.2.2.2.2.2.2.2.2.2.2.2.2.2.2.2.1
theorem in_X10_voltUp {hT : gHp} {a : Nat} (F : in_X10 hT a) : hT.2 (a + 11) = (fun _ => 0) := F.2.2.2.2.2.2.2.2.2.2.2.2.2.2.2.2.2.2.2.2.2.2.2.2.1
theorem in_X10_voltLow {hT : gHp} {a : Nat} (F : in_X10 hT a) : hT.2 (a + 12) = (fun _ => 0) := F.2.2.2.2.2.2.2.2.2.2.2.2.2.2.2.2.2.2.2.2.2.2.2.2.2
/-! the constructor of LadderBench$Fraction -/
def rm_X2_init : Room := { frames := 1, cells := 0, slots := 0, locals := 20 }
theorem hy_X2_init : yX2_init.cls ≠ "java/lang/invoke/MethodHandle" ∧ yX2_init.cls ≠ "java/lang/invoke/VarHandle" ∧ (parseMethodDescriptor yX2_init.desc).map (fun d => d.parameters.length) = some 0 := by decide +kernel
set_option maxRecDepth 100000 in
theorem D_X2_init : gDec cX2_init [(0, (.aload_n 0, 1)), (1, (.invokespecial 3, 3)), (4, (.aload_n 0, 1)), (5, (.lconst 0, 1)), (6, (.putfield 9, 3)), (9, (.aload_n 0, 1)), (10, (.lconst 1, 1)), (11, (.putfield 15, 3)), (14, (.return_, 1))] = true := by decide +kernel
set_option maxRecDepth 100000 in
theorem in_X2_init_X2 : ∀ x ∈ u_ws RX2 TX2 2, x ∈ wsX2_init := by decide +kernel
theorem ob_X2_init_3 : Cond.methodLink RX2 3 objectInit ∈ wsX2_init ∧ Cond.instanceMethod objectInit ∈ wsX2_init ∧ Cond.code objectInit ⟨#[0xb1]⟩ 1 none ∈ wsX2_init := by decide +kernel
theorem fk_X2_init_9 : Cond.fieldLink RX2 9 (TX2 0).1 (TX2 0).2.1 (TX2 0).2.2.1 ∈ wsX2_init := by decide +kernel
theorem fk_X2_init_15 : Cond.fieldLink RX2 15 (TX2 1).1 (TX2 1).2.1 (TX2 1).2.2.1 ∈ wsX2_init := by decide +kernel
set_option maxRecDepth 100000 in
set_option maxHeartbeats 40000000 in
theorem m_X2_init (w : gWd) (hT : gHp) {a : Nat} (A : is_X2 w a) (I : in_X2 hT a) (pic : gPic) (hp0 : pic a = some (.inr (2, [.long 0, .long 0]))) : gMetI w hT yX2_init wsX2_init rm_X2_init a 1 0 0 pic := by
  refine gMetI_of (cc := cX2_init) (maxL := 1) (fr := 1) (lo := 20) (Rc := 0) (Rs := 0) (own := RX2) (by decide) rfl rfl rfl (by decide) (Nat.le_refl _) (Nat.le_refl _) (Nat.le_refl _) (Nat.le_refl _) (fun g C Cy hI E => ?_)
  refine gy_aload_n C 0 (gDec_at D_X2_init 0 rfl) rfl rfl ?_
  refine gy_objInit C Cy ob_X2_init_3 (by decide) (by decide) (Nat.le_of_ble_eq_true rfl) (gDec_at D_X2_init 1 rfl) ?_
  refine gy_aload_n C 0 (gDec_at D_X2_init 2 rfl) rfl rfl ?_
  refine gy_lconst C (v := 0) (gDec_at D_X2_init 3 rfl) (by decide) ?_
  refine gy_put C Cy (v := .long 0) (ty0 := tyX2) (ty := .long) (i := 0) (Cn := RX2) (T := TX2) (N := 2) rfl (by decide) in_X2_init_X2 fk_X2_init_9 tyX2_ok nmX2 rfl (by decide +kernel) rfl rfl (by omega) (hp0) (Nat.le_of_ble_eq_true rfl) (gDec_at D_X2_init 4 rfl) ?_
  refine gy_aload_n C 0 (gDec_at D_X2_init 5 rfl) rfl rfl ?_
  refine gy_lconst C (v := 1) (gDec_at D_X2_init 6 rfl) (by decide) ?_
  refine gy_put C Cy (v := .long 1) (ty0 := tyX2) (ty := .long) (i := 1) (Cn := RX2) (T := TX2) (N := 2) rfl (by decide) in_X2_init_X2 fk_X2_init_15 tyX2_ok nmX2 rfl (by decide +kernel) rfl rfl (by omega) (gPu_eq) (Nat.le_of_ble_eq_true rfl) (gDec_at D_X2_init 7 rfl) ?_
  refine gy_vret C E rfl (fun H0 hH q e hq => ?_) (gDec_at D_X2_init 8 rfl)
  unfold gFin at hq
  by_cases c : a ≤ q ∧ q < a + 1
  · rw [if_pos c] at hq
    by_cases c0 : q = a
    · subst c0
      rw [is_X2_sh A] at hq
      cases hq
      refine ⟨(hH _ _ (gPu_eq)).1, ?_⟩
      have h9 := (hH _ _ (gPu_eq)).2
      simp only [gE, gVs, gV, in_X2_upper I, in_X2_lower I]
      exact h9
    exact absurd c (by omega)
  · rw [if_neg c] at hq
    exact hH q e (gPu_at (by omega) (gPu_at (by omega) (hq)))
/-! the constructor of LadderBench$Line -/
def rm_X4_init : Room := { frames := 1, cells := 1, slots := 40, locals := 20 }
theorem hy_X4_init : yX4_init.cls ≠ "java/lang/invoke/MethodHandle" ∧ yX4_init.cls ≠ "java/lang/invoke/VarHandle" ∧ (parseMethodDescriptor yX4_init.desc).map (fun d => d.parameters.length) = some 0 := by decide +kernel
set_option maxRecDepth 100000 in
theorem D_X4_init : gDec cX4_init [(0, (.aload_n 0, 1)), (1, (.invokespecial 3, 3)), (4, (.aload_n 0, 1)), (5, (.bipush 40, 2)), (7, (.newarray .char, 2)), (9, (.putfield 9, 3)), (12, (.aload_n 0, 1)), (13, (.iconst 0, 1)), (14, (.putfield 15, 3)), (17, (.return_, 1))] = true := by decide +kernel
set_option maxRecDepth 100000 in
theorem in_X4_init_X4 : ∀ x ∈ u_ws RX4 TX4 2, x ∈ wsX4_init := by decide +kernel
theorem ob_X4_init_3 : Cond.methodLink RX4 3 objectInit ∈ wsX4_init ∧ Cond.instanceMethod objectInit ∈ wsX4_init ∧ Cond.code objectInit ⟨#[0xb1]⟩ 1 none ∈ wsX4_init := by decide +kernel
theorem ac_X4_init_C : Cond.arrayClass .char ∈ wsX4_init := by decide +kernel
theorem fk_X4_init_9 : Cond.fieldLink RX4 9 (TX4 0).1 (TX4 0).2.1 (TX4 0).2.2.1 ∈ wsX4_init := by decide +kernel
theorem fk_X4_init_15 : Cond.fieldLink RX4 15 (TX4 1).1 (TX4 1).2.1 (TX4 1).2.2.1 ∈ wsX4_init := by decide +kernel
set_option maxRecDepth 100000 in
set_option maxHeartbeats 40000000 in
theorem m_X4_init (w : gWd) (hT : gHp) {a : Nat} (A : is_X4 w a) (I : in_X4 hT a) (pic : gPic) (hp0 : pic a = some (.inr (4, [.null, .int 0]))) : gMetI w hT yX4_init wsX4_init rm_X4_init a 2 1 40 pic := by
  refine gMetI_of (cc := cX4_init) (maxL := 1) (fr := 1) (lo := 20) (Rc := 1) (Rs := 40) (own := RX4) (by decide) rfl rfl rfl (by decide) (Nat.le_refl _) (Nat.le_refl _) (Nat.le_refl _) (Nat.le_refl _) (fun g C Cy hI E => ?_)
  refine gy_aload_n C 0 (gDec_at D_X4_init 0 rfl) rfl rfl ?_
  refine gy_objInit C Cy ob_X4_init_3 (by decide) (by decide) (Nat.le_of_ble_eq_true rfl) (gDec_at D_X4_init 1 rfl) ?_
  refine gy_aload_n C 0 (gDec_at D_X4_init 2 rfl) rfl rfl ?_
  refine gy_bipush C (v := 40) (gDec_at D_X4_init 3 rfl) (by decide) ?_
  refine gy_newarrC C Cy (N := 40) ac_X4_init_C (by decide) (by decide) (by decide) (by decide) (by decide) (gDec_at D_X4_init 4 rfl) ?_
  refine gy_putF C Cy hI (v := .ref (a + 1)) (ty0 := tyX4) (ty := (tyX4 0)) (i := 0) (Cn := RX4) (T := TX4) (N := 2) rfl (by decide) in_X4_init_X4 fk_X4_init_9 tyX4_ok nmX4 rfl (by decide +kernel) rfl rfl (by omega) (gPu_at (by omega) (hp0)) (Nat.le_of_ble_eq_true rfl) rfl (gDec_at D_X4_init 5 rfl) ?_
  refine gy_aload_n C 0 (gDec_at D_X4_init 6 rfl) rfl rfl ?_
  refine gy_iconst C (v := 0) (gDec_at D_X4_init 7 rfl) (by decide) ?_
  refine gy_put C Cy (v := .int 0) (ty0 := tyX4) (ty := .int) (i := 1) (Cn := RX4) (T := TX4) (N := 2) rfl (by decide) in_X4_init_X4 fk_X4_init_15 tyX4_ok nmX4 rfl (by decide +kernel) rfl rfl (by omega) (gPu_eq) (Nat.le_of_ble_eq_true rfl) (gDec_at D_X4_init 8 rfl) ?_
  refine gy_vret C E rfl (fun H0 hH q e hq => ?_) (gDec_at D_X4_init 9 rfl)
  unfold gFin at hq
  by_cases c : a ≤ q ∧ q < a + 2
  · rw [if_pos c] at hq
    by_cases c0 : q = a
    · subst c0
      rw [is_X4_sh A] at hq
      cases hq
      refine ⟨(hH _ _ (gPu_eq)).1, ?_⟩
      have h9 := (hH _ _ (gPu_eq)).2
      simp only [gE, gVs, gV, in_X4_length I]
      exact h9
    by_cases c1 : q = a + 1
    · subst c1
      rw [is_X4_characters A] at hq
      cases hq
      refine ⟨(hH _ _ (gPu_at (by omega) (gPu_at (by omega) (gPu_eq)))).1, ?_⟩
      have h9 := (hH _ _ (gPu_at (by omega) (gPu_at (by omega) (gPu_eq)))).2
      simp only [gE]
      rw [in_X4_characters I]
      exact h9
    exact absurd c (by omega)
  · rw [if_neg c] at hq
    exact hH q e (gPu_at (by omega) (gPu_at (by omega) (gPu_at (by omega) (hq))))
/-! the constructor of LadderBench$Network -/
def rm_X5_init : Room := { frames := 1, cells := 4, slots := 39, locals := 20 }
theorem hy_X5_init : yX5_init.cls ≠ "java/lang/invoke/MethodHandle" ∧ yX5_init.cls ≠ "java/lang/invoke/VarHandle" ∧ (parseMethodDescriptor yX5_init.desc).map (fun d => d.parameters.length) = some 0 := by decide +kernel
set_option maxRecDepth 100000 in
theorem D_X5_init : gDec cX5_init [(0, (.aload_n 0, 1)), (1, (.invokespecial 3, 3)), (4, (.aload_n 0, 1)), (5, (.bipush 11, 2)), (7, (.newarray .int, 2)), (9, (.putfield 9, 3)), (12, (.aload_n 0, 1)), (13, (.bipush 11, 2)), (15, (.newarray .int, 2)), (17, (.putfield 15, 3)), (20, (.aload_n 0, 1)), (21, (.bipush 11, 2)), (23, (.newarray .int, 2)), (25, (.putfield 18, 3)), (28, (.aload_n 0, 1)), (29, (.bipush 6, 2)), (31, (.newarray .int, 2)), (33, (.putfield 21, 3)), (36, (.aload_n 0, 1)), (37, (.iconst 0, 1)), (38, (.putfield 24, 3)), (41, (.iconst 0, 1)), (42, (.istore_n 1, 1)), (43, (.iload_n 1, 1)), (44, (.bipush 6, 2)), (46, (.if_icmp .ge 16, 3)), (49, (.aload_n 0, 1)), (50, (.getfield 21, 3)), (53, (.iload_n 1, 1)), (54, (.iconst (-1), 1)), (55, (.iastore, 1)), (56, (.iinc 1 1, 3)), (59, (.goto (-16), 3)), (62, (.return_, 1))] = true := by decide +kernel
set_option maxRecDepth 100000 in
theorem in_X5_init_X5 : ∀ x ∈ u_ws RX5 TX5 5, x ∈ wsX5_init := by decide +kernel
theorem ob_X5_init_3 : Cond.methodLink RX5 3 objectInit ∈ wsX5_init ∧ Cond.instanceMethod objectInit ∈ wsX5_init ∧ Cond.code objectInit ⟨#[0xb1]⟩ 1 none ∈ wsX5_init := by decide +kernel
theorem ac_X5_init_I : Cond.arrayClass .int ∈ wsX5_init := by decide +kernel
theorem fk_X5_init_9 : Cond.fieldLink RX5 9 (TX5 0).1 (TX5 0).2.1 (TX5 0).2.2.1 ∈ wsX5_init := by decide +kernel
theorem fk_X5_init_15 : Cond.fieldLink RX5 15 (TX5 1).1 (TX5 1).2.1 (TX5 1).2.2.1 ∈ wsX5_init := by decide +kernel
theorem fk_X5_init_18 : Cond.fieldLink RX5 18 (TX5 2).1 (TX5 2).2.1 (TX5 2).2.2.1 ∈ wsX5_init := by decide +kernel
theorem fk_X5_init_21 : Cond.fieldLink RX5 21 (TX5 3).1 (TX5 3).2.1 (TX5 3).2.2.1 ∈ wsX5_init := by decide +kernel
theorem fk_X5_init_24 : Cond.fieldLink RX5 24 (TX5 4).1 (TX5 4).2.1 (TX5 4).2.2.1 ∈ wsX5_init := by decide +kernel
theorem fl_X5_init_21 : gF wsX5_init RX5 21 5 3 := ⟨RX5, TX5, 5, rfl, by decide, in_X5_init_X5, by decide +kernel⟩
set_option maxRecDepth 100000 in
set_option maxHeartbeats 40000000 in
theorem m_X5_init (w : gWd) (hT : gHp) {a : Nat} (A : is_X5 w a) (I : in_X5 hT a) (pic : gPic) (hp0 : pic a = some (.inr (5, [.null, .null, .null, .null, .int 0]))) : gMetI w hT yX5_init wsX5_init rm_X5_init a 5 4 39 pic := by
  refine gMetI_of (cc := cX5_init) (maxL := 2) (fr := 1) (lo := 20) (Rc := 4) (Rs := 39) (own := RX5) (by decide) rfl rfl rfl (by decide) (Nat.le_refl _) (Nat.le_refl _) (Nat.le_refl _) (Nat.le_refl _) (fun g C Cy hI E => ?_)
  refine gy_aload_n C 0 (gDec_at D_X5_init 0 rfl) rfl rfl ?_
  refine gy_objInit C Cy ob_X5_init_3 (by decide) (by decide) (Nat.le_of_ble_eq_true rfl) (gDec_at D_X5_init 1 rfl) ?_
  refine gy_aload_n C 0 (gDec_at D_X5_init 2 rfl) rfl rfl ?_
  refine gy_bipush C (v := 11) (gDec_at D_X5_init 3 rfl) (by decide) ?_
  refine gy_newarrI C Cy (N := 11) ac_X5_init_I (by decide) (by decide) (by decide) (by decide) (by decide) (gDec_at D_X5_init 4 rfl) ?_
  refine gy_putF C Cy hI (v := .ref (a + 1)) (ty0 := tyX5) (ty := (tyX5 0)) (i := 0) (Cn := RX5) (T := TX5) (N := 5) rfl (by decide) in_X5_init_X5 fk_X5_init_9 tyX5_ok nmX5 rfl (by decide +kernel) rfl rfl (by omega) (gPu_at (by omega) (hp0)) (Nat.le_of_ble_eq_true rfl) rfl (gDec_at D_X5_init 5 rfl) ?_
  refine gy_aload_n C 0 (gDec_at D_X5_init 6 rfl) rfl rfl ?_
  refine gy_bipush C (v := 11) (gDec_at D_X5_init 7 rfl) (by decide) ?_
  refine gy_newarrI C Cy (N := 11) ac_X5_init_I (by decide) (by decide) (by decide) (by decide) (by decide) (gDec_at D_X5_init 8 rfl) ?_
  refine gy_putF C Cy hI (v := .ref (a + 2)) (ty0 := tyX5) (ty := (tyX5 1)) (i := 1) (Cn := RX5) (T := TX5) (N := 5) rfl (by decide) in_X5_init_X5 fk_X5_init_15 tyX5_ok nmX5 rfl (by decide +kernel) rfl rfl (by omega) (gPu_at (by omega) (gPu_eq)) (Nat.le_of_ble_eq_true rfl) rfl (gDec_at D_X5_init 9 rfl) ?_
  refine gy_aload_n C 0 (gDec_at D_X5_init 10 rfl) rfl rfl ?_
  refine gy_bipush C (v := 11) (gDec_at D_X5_init 11 rfl) (by decide) ?_
  refine gy_newarrI C Cy (N := 11) ac_X5_init_I (by decide) (by decide) (by decide) (by decide) (by decide) (gDec_at D_X5_init 12 rfl) ?_
  refine gy_putF C Cy hI (v := .ref (a + 3)) (ty0 := tyX5) (ty := (tyX5 2)) (i := 2) (Cn := RX5) (T := TX5) (N := 5) rfl (by decide) in_X5_init_X5 fk_X5_init_18 tyX5_ok nmX5 rfl (by decide +kernel) rfl rfl (by omega) (gPu_at (by omega) (gPu_eq)) (Nat.le_of_ble_eq_true rfl) rfl (gDec_at D_X5_init 13 rfl) ?_
  refine gy_aload_n C 0 (gDec_at D_X5_init 14 rfl) rfl rfl ?_
  refine gy_bipush C (v := 6) (gDec_at D_X5_init 15 rfl) (by decide) ?_
  refine gy_newarrI C Cy (N := 6) ac_X5_init_I (by decide) (by decide) (by decide) (by decide) (by decide) (gDec_at D_X5_init 16 rfl) ?_
  refine gy_putF C Cy hI (v := .ref (a + 4)) (ty0 := tyX5) (ty := (tyX5 3)) (i := 3) (Cn := RX5) (T := TX5) (N := 5) rfl (by decide) in_X5_init_X5 fk_X5_init_21 tyX5_ok nmX5 rfl (by decide +kernel) rfl rfl (by omega) (gPu_at (by omega) (gPu_eq)) (Nat.le_of_ble_eq_true rfl) rfl (gDec_at D_X5_init 17 rfl) ?_
  refine gy_aload_n C 0 (gDec_at D_X5_init 18 rfl) rfl rfl ?_
  refine gy_iconst C (v := 0) (gDec_at D_X5_init 19 rfl) (by decide) ?_
  refine gy_put C Cy (v := .int 0) (ty0 := tyX5) (ty := .int) (i := 4) (Cn := RX5) (T := TX5) (N := 5) rfl (by decide) in_X5_init_X5 fk_X5_init_24 tyX5_ok nmX5 rfl (by decide +kernel) rfl rfl (by omega) (gPu_eq) (Nat.le_of_ble_eq_true rfl) (gDec_at D_X5_init 20 rfl) ?_
  refine gy_iconst C (v := 0) (gDec_at D_X5_init 21 rfl) (by decide) ?_
  refine gy_istore_n C (lv' := [(1, .int 0), (0, .ref a)]) (gDec_at D_X5_init 22 rfl) rfl (Nat.le_of_ble_eq_true rfl) rfl ?_
  refine gy_iload_n C 0 (gDec_at D_X5_init 23 rfl) rfl rfl ?_
  refine gy_bipush C (v := 6) (gDec_at D_X5_init 24 rfl) (by decide) ?_
  refine gy_icmp_ge C 62 (gDec_at D_X5_init 25 rfl) (by decide) (fun c => absurd c (by decide)) (fun _ => ?_)
  refine gy_aload_n C 1 (gDec_at D_X5_init 26 rfl) rfl rfl ?_
  refine gy_get C Cy fl_X5_init_21 (gPu_eq) rfl (gDec_at D_X5_init 27 rfl) ?_
  refine gy_iload_n C 0 (gDec_at D_X5_init 28 rfl) rfl rfl ?_
  refine gy_iconst C (v := (-1)) (gDec_at D_X5_init 29 rfl) (by decide) ?_
  refine gy_iastore C Cy (by omega) (gPu_at (by omega) (gPu_at (by omega) (gPu_eq))) (by decide) (gDec_at D_X5_init 30 rfl) ?_
  refine gy_iinc C (j := 0) (v := 1) (lv' := [(1, .int 1), (0, .ref a)]) (gDec_at D_X5_init 31 rfl) rfl (by decide) (Nat.le_of_ble_eq_true rfl) rfl ?_
  refine gy_goto C 43 (gDec_at D_X5_init 32 rfl) (by decide) ?_
  refine gy_iload_n C 0 (gDec_at D_X5_init 23 rfl) rfl rfl ?_
  refine gy_bipush C (v := 6) (gDec_at D_X5_init 24 rfl) (by decide) ?_
  refine gy_icmp_ge C 62 (gDec_at D_X5_init 25 rfl) (by decide) (fun c => absurd c (by decide)) (fun _ => ?_)
  refine gy_aload_n C 1 (gDec_at D_X5_init 26 rfl) rfl rfl ?_
  refine gy_get C Cy fl_X5_init_21 (gPu_at (by omega) (gPu_eq)) rfl (gDec_at D_X5_init 27 rfl) ?_
  refine gy_iload_n C 0 (gDec_at D_X5_init 28 rfl) rfl rfl ?_
  refine gy_iconst C (v := (-1)) (gDec_at D_X5_init 29 rfl) (by decide) ?_
  refine gy_iastore C Cy (by omega) (gPu_eq) (by decide) (gDec_at D_X5_init 30 rfl) ?_
  refine gy_iinc C (j := 0) (v := 2) (lv' := [(1, .int 2), (0, .ref a)]) (gDec_at D_X5_init 31 rfl) rfl (by decide) (Nat.le_of_ble_eq_true rfl) rfl ?_
  refine gy_goto C 43 (gDec_at D_X5_init 32 rfl) (by decide) ?_
  refine gy_iload_n C 0 (gDec_at D_X5_init 23 rfl) rfl rfl ?_
  refine gy_bipush C (v := 6) (gDec_at D_X5_init 24 rfl) (by decide) ?_
  refine gy_icmp_ge C 62 (gDec_at D_X5_init 25 rfl) (by decide) (fun c => absurd c (by decide)) (fun _ => ?_)
  refine gy_aload_n C 1 (gDec_at D_X5_init 26 rfl) rfl rfl ?_
  refine gy_get C Cy fl_X5_init_21 (gPu_at (by omega) (gPu_at (by omega) (gPu_eq))) rfl (gDec_at D_X5_init 27 rfl) ?_
  refine gy_iload_n C 0 (gDec_at D_X5_init 28 rfl) rfl rfl ?_
  refine gy_iconst C (v := (-1)) (gDec_at D_X5_init 29 rfl) (by decide) ?_
  refine gy_iastore C Cy (by omega) (gPu_eq) (by decide) (gDec_at D_X5_init 30 rfl) ?_
  refine gy_iinc C (j := 0) (v := 3) (lv' := [(1, .int 3), (0, .ref a)]) (gDec_at D_X5_init 31 rfl) rfl (by decide) (Nat.le_of_ble_eq_true rfl) rfl ?_
  refine gy_goto C 43 (gDec_at D_X5_init 32 rfl) (by decide) ?_
  refine gy_iload_n C 0 (gDec_at D_X5_init 23 rfl) rfl rfl ?_
  refine gy_bipush C (v := 6) (gDec_at D_X5_init 24 rfl) (by decide) ?_
  refine gy_icmp_ge C 62 (gDec_at D_X5_init 25 rfl) (by decide) (fun c => absurd c (by decide)) (fun _ => ?_)
  refine gy_aload_n C 1 (gDec_at D_X5_init 26 rfl) rfl rfl ?_
  refine gy_get C Cy fl_X5_init_21 (gPu_at (by omega) (gPu_at (by omega) (gPu_at (by omega) (gPu_eq)))) rfl (gDec_at D_X5_init 27 rfl) ?_
  refine gy_iload_n C 0 (gDec_at D_X5_init 28 rfl) rfl rfl ?_
  refine gy_iconst C (v := (-1)) (gDec_at D_X5_init 29 rfl) (by decide) ?_
  refine gy_iastore C Cy (by omega) (gPu_eq) (by decide) (gDec_at D_X5_init 30 rfl) ?_
  refine gy_iinc C (j := 0) (v := 4) (lv' := [(1, .int 4), (0, .ref a)]) (gDec_at D_X5_init 31 rfl) rfl (by decide) (Nat.le_of_ble_eq_true rfl) rfl ?_
  refine gy_goto C 43 (gDec_at D_X5_init 32 rfl) (by decide) ?_
  refine gy_iload_n C 0 (gDec_at D_X5_init 23 rfl) rfl rfl ?_
  refine gy_bipush C (v := 6) (gDec_at D_X5_init 24 rfl) (by decide) ?_
  refine gy_icmp_ge C 62 (gDec_at D_X5_init 25 rfl) (by decide) (fun c => absurd c (by decide)) (fun _ => ?_)
  refine gy_aload_n C 1 (gDec_at D_X5_init 26 rfl) rfl rfl ?_
  refine gy_get C Cy fl_X5_init_21 (gPu_at (by omega) (gPu_at (by omega) (gPu_at (by omega) (gPu_at (by omega) (gPu_eq))))) rfl (gDec_at D_X5_init 27 rfl) ?_
  refine gy_iload_n C 0 (gDec_at D_X5_init 28 rfl) rfl rfl ?_
  refine gy_iconst C (v := (-1)) (gDec_at D_X5_init 29 rfl) (by decide) ?_
  refine gy_iastore C Cy (by omega) (gPu_eq) (by decide) (gDec_at D_X5_init 30 rfl) ?_
  refine gy_iinc C (j := 0) (v := 5) (lv' := [(1, .int 5), (0, .ref a)]) (gDec_at D_X5_init 31 rfl) rfl (by decide) (Nat.le_of_ble_eq_true rfl) rfl ?_
  refine gy_goto C 43 (gDec_at D_X5_init 32 rfl) (by decide) ?_
  refine gy_iload_n C 0 (gDec_at D_X5_init 23 rfl) rfl rfl ?_
  refine gy_bipush C (v := 6) (gDec_at D_X5_init 24 rfl) (by decide) ?_
  refine gy_icmp_ge C 62 (gDec_at D_X5_init 25 rfl) (by decide) (fun c => absurd c (by decide)) (fun _ => ?_)
  refine gy_aload_n C 1 (gDec_at D_X5_init 26 rfl) rfl rfl ?_
  refine gy_get C Cy fl_X5_init_21 (gPu_at (by omega) (gPu_at (by omega) (gPu_at (by omega) (gPu_at (by omega) (gPu_at (by omega) (gPu_eq)))))) rfl (gDec_at D_X5_init 27 rfl) ?_
  refine gy_iload_n C 0 (gDec_at D_X5_init 28 rfl) rfl rfl ?_
  refine gy_iconst C (v := (-1)) (gDec_at D_X5_init 29 rfl) (by decide) ?_
  refine gy_iastore C Cy (by omega) (gPu_eq) (by decide) (gDec_at D_X5_init 30 rfl) ?_
  refine gy_iinc C (j := 0) (v := 6) (lv' := [(1, .int 6), (0, .ref a)]) (gDec_at D_X5_init 31 rfl) rfl (by decide) (Nat.le_of_ble_eq_true rfl) rfl ?_
  refine gy_goto C 43 (gDec_at D_X5_init 32 rfl) (by decide) ?_
  refine gy_iload_n C 0 (gDec_at D_X5_init 23 rfl) rfl rfl ?_
  refine gy_bipush C (v := 6) (gDec_at D_X5_init 24 rfl) (by decide) ?_
  refine gy_icmp_ge C 62 (gDec_at D_X5_init 25 rfl) (by decide) (fun _ => ?_) (fun c => absurd (by decide) c)
  refine gy_vret C E rfl (fun H0 hH q e hq => ?_) (gDec_at D_X5_init 33 rfl)
  unfold gFin at hq
  by_cases c : a ≤ q ∧ q < a + 5
  · rw [if_pos c] at hq
    by_cases c0 : q = a
    · subst c0
      rw [is_X5_sh A] at hq
      cases hq
      refine ⟨(hH _ _ (gPu_at (by omega) (gPu_at (by omega) (gPu_at (by omega) (gPu_at (by omega) (gPu_at (by omega) (gPu_at (by omega) (gPu_eq)))))))).1, ?_⟩
      have h9 := (hH _ _ (gPu_at (by omega) (gPu_at (by omega) (gPu_at (by omega) (gPu_at (by omega) (gPu_at (by omega) (gPu_at (by omega) (gPu_eq)))))))).2
      simp only [gE, gVs, gV, in_X5_size I]
      exact h9
    by_cases c1 : q = a + 1
    · subst c1
      rw [is_X5_kind A] at hq
      cases hq
      refine ⟨(hH _ _ (gPu_at (by omega) (gPu_at (by omega) (gPu_at (by omega) (gPu_at (by omega) (gPu_at (by omega) (gPu_at (by omega) (gPu_at (by omega) (gPu_at (by omega) (gPu_at (by omega) (gPu_at (by omega) (gPu_at (by omega) (gPu_at (by omega) (gPu_at (by omega) (gPu_at (by omega) (gPu_eq)))))))))))))))).1, ?_⟩
      have h9 := (hH _ _ (gPu_at (by omega) (gPu_at (by omega) (gPu_at (by omega) (gPu_at (by omega) (gPu_at (by omega) (gPu_at (by omega) (gPu_at (by omega) (gPu_at (by omega) (gPu_at (by omega) (gPu_at (by omega) (gPu_at (by omega) (gPu_at (by omega) (gPu_at (by omega) (gPu_at (by omega) (gPu_eq)))))))))))))))).2
      simp only [gE]
      rw [in_X5_kind I]
      exact h9
    by_cases c2 : q = a + 2
    · subst c2
      rw [is_X5_around A] at hq
      cases hq
      refine ⟨(hH _ _ (gPu_at (by omega) (gPu_at (by omega) (gPu_at (by omega) (gPu_at (by omega) (gPu_at (by omega) (gPu_at (by omega) (gPu_at (by omega) (gPu_at (by omega) (gPu_at (by omega) (gPu_at (by omega) (gPu_at (by omega) (gPu_at (by omega) (gPu_eq)))))))))))))).1, ?_⟩
      have h9 := (hH _ _ (gPu_at (by omega) (gPu_at (by omega) (gPu_at (by omega) (gPu_at (by omega) (gPu_at (by omega) (gPu_at (by omega) (gPu_at (by omega) (gPu_at (by omega) (gPu_at (by omega) (gPu_at (by omega) (gPu_at (by omega) (gPu_at (by omega) (gPu_eq)))))))))))))).2
      simp only [gE]
      rw [in_X5_around I]
      exact h9
    by_cases c3 : q = a + 3
    · subst c3
      rw [is_X5_letter A] at hq
      cases hq
      refine ⟨(hH _ _ (gPu_at (by omega) (gPu_at (by omega) (gPu_at (by omega) (gPu_at (by omega) (gPu_at (by omega) (gPu_at (by omega) (gPu_at (by omega) (gPu_at (by omega) (gPu_at (by omega) (gPu_at (by omega) (gPu_eq)))))))))))).1, ?_⟩
      have h9 := (hH _ _ (gPu_at (by omega) (gPu_at (by omega) (gPu_at (by omega) (gPu_at (by omega) (gPu_at (by omega) (gPu_at (by omega) (gPu_at (by omega) (gPu_at (by omega) (gPu_at (by omega) (gPu_at (by omega) (gPu_eq)))))))))))).2
      simp only [gE]
      rw [in_X5_letter I]
      exact h9
    by_cases c4 : q = a + 4
    · subst c4
      rw [is_X5_partOfArm A] at hq
      cases hq
      refine ⟨(hH _ _ (gPu_eq)).1, ?_⟩
      have h9 := (hH _ _ (gPu_eq)).2
      simp only [gE]
      rw [in_X5_partOfArm I]
      have e9 : (fun k => if k < 6 then (-1 : Int32) else 0) = _ := gArm6
      rw [gArm6]
      exact h9
    exact absurd c (by omega)
  · rw [if_neg c] at hq
    exact hH q e (gPu_at (by omega) (gPu_at (by omega) (gPu_at (by omega) (gPu_at (by omega) (gPu_at (by omega) (gPu_at (by omega) (gPu_at (by omega) (gPu_at (by omega) (gPu_at (by omega) (gPu_at (by omega) (gPu_at (by omega) (gPu_at (by omega) (gPu_at (by omega) (gPu_at (by omega) (gPu_at (by omega) (hq))))))))))))))))
/-! the constructor of LadderBench$Notes -/
def rm_X7_init : Room := { frames := 1, cells := 3, slots := 60, locals := 20 }
theorem hy_X7_init : yX7_init.cls ≠ "java/lang/invoke/MethodHandle" ∧ yX7_init.cls ≠ "java/lang/invoke/VarHandle" ∧ (parseMethodDescriptor yX7_init.desc).map (fun d => d.parameters.length) = some 0 := by decide +kernel
set_option maxRecDepth 100000 in
theorem D_X7_init : gDec cX7_init [(0, (.aload_n 0, 1)), (1, (.invokespecial 3, 3)), (4, (.aload_n 0, 1)), (5, (.bipush 20, 2)), (7, (.newarray .long, 2)), (9, (.putfield 9, 3)), (12, (.aload_n 0, 1)), (13, (.bipush 20, 2)), (15, (.newarray .long, 2)), (17, (.putfield 15, 3)), (20, (.aload_n 0, 1)), (21, (.bipush 20, 2)), (23, (.newarray .int, 2)), (25, (.putfield 18, 3)), (28, (.aload_n 0, 1)), (29, (.iconst 0, 1)), (30, (.putfield 22, 3)), (33, (.return_, 1))] = true := by decide +kernel
set_option maxRecDepth 100000 in
theorem in_X7_init_X7 : ∀ x ∈ u_ws RX7 TX7 4, x ∈ wsX7_init := by decide +kernel
theorem ob_X7_init_3 : Cond.methodLink RX7 3 objectInit ∈ wsX7_init ∧ Cond.instanceMethod objectInit ∈ wsX7_init ∧ Cond.code objectInit ⟨#[0xb1]⟩ 1 none ∈ wsX7_init := by decide +kernel
theorem ac_X7_init_J : Cond.arrayClass .long ∈ wsX7_init := by decide +kernel
theorem fk_X7_init_9 : Cond.fieldLink RX7 9 (TX7 0).1 (TX7 0).2.1 (TX7 0).2.2.1 ∈ wsX7_init := by decide +kernel
theorem fk_X7_init_15 : Cond.fieldLink RX7 15 (TX7 1).1 (TX7 1).2.1 (TX7 1).2.2.1 ∈ wsX7_init := by decide +kernel
theorem ac_X7_init_I : Cond.arrayClass .int ∈ wsX7_init := by decide +kernel
theorem fk_X7_init_18 : Cond.fieldLink RX7 18 (TX7 2).1 (TX7 2).2.1 (TX7 2).2.2.1 ∈ wsX7_init := by decide +kernel
theorem fk_X7_init_22 : Cond.fieldLink RX7 22 (TX7 3).1 (TX7 3).2.1 (TX7 3).2.2.1 ∈ wsX7_init := by decide +kernel
set_option maxRecDepth 100000 in
set_option maxHeartbeats 40000000 in
theorem m_X7_init (w : gWd) (hT : gHp) {a : Nat} (A : is_X7 w a) (I : in_X7 hT a) (pic : gPic) (hp0 : pic a = some (.inr (7, [.null, .null, .null, .int 0]))) : gMetI w hT yX7_init wsX7_init rm_X7_init a 4 3 60 pic := by
  refine gMetI_of (cc := cX7_init) (maxL := 1) (fr := 1) (lo := 20) (Rc := 3) (Rs := 60) (own := RX7) (by decide) rfl rfl rfl (by decide) (Nat.le_refl _) (Nat.le_refl _) (Nat.le_refl _) (Nat.le_refl _) (fun g C Cy hI E => ?_)
  refine gy_aload_n C 0 (gDec_at D_X7_init 0 rfl) rfl rfl ?_
  refine gy_objInit C Cy ob_X7_init_3 (by decide) (by decide) (Nat.le_of_ble_eq_true rfl) (gDec_at D_X7_init 1 rfl) ?_
  refine gy_aload_n C 0 (gDec_at D_X7_init 2 rfl) rfl rfl ?_
  refine gy_bipush C (v := 20) (gDec_at D_X7_init 3 rfl) (by decide) ?_
  refine gy_newarrJ C Cy (N := 20) ac_X7_init_J (by decide) (by decide) (by decide) (by decide) (by decide) (gDec_at D_X7_init 4 rfl) ?_
  refine gy_putF C Cy hI (v := .ref (a + 1)) (ty0 := tyX7) (ty := (tyX7 0)) (i := 0) (Cn := RX7) (T := TX7) (N := 4) rfl (by decide) in_X7_init_X7 fk_X7_init_9 tyX7_ok nmX7 rfl (by decide +kernel) rfl rfl (by omega) (gPu_at (by omega) (hp0)) (Nat.le_of_ble_eq_true rfl) rfl (gDec_at D_X7_init 5 rfl) ?_
  refine gy_aload_n C 0 (gDec_at D_X7_init 6 rfl) rfl rfl ?_
  refine gy_bipush C (v := 20) (gDec_at D_X7_init 7 rfl) (by decide) ?_
  refine gy_newarrJ C Cy (N := 20) ac_X7_init_J (by decide) (by decide) (by decide) (by decide) (by decide) (gDec_at D_X7_init 8 rfl) ?_
  refine gy_putF C Cy hI (v := .ref (a + 2)) (ty0 := tyX7) (ty := (tyX7 1)) (i := 1) (Cn := RX7) (T := TX7) (N := 4) rfl (by decide) in_X7_init_X7 fk_X7_init_15 tyX7_ok nmX7 rfl (by decide +kernel) rfl rfl (by omega) (gPu_at (by omega) (gPu_eq)) (Nat.le_of_ble_eq_true rfl) rfl (gDec_at D_X7_init 9 rfl) ?_
  refine gy_aload_n C 0 (gDec_at D_X7_init 10 rfl) rfl rfl ?_
  refine gy_bipush C (v := 20) (gDec_at D_X7_init 11 rfl) (by decide) ?_
  refine gy_newarrI C Cy (N := 20) ac_X7_init_I (by decide) (by decide) (by decide) (by decide) (by decide) (gDec_at D_X7_init 12 rfl) ?_
  refine gy_putF C Cy hI (v := .ref (a + 3)) (ty0 := tyX7) (ty := (tyX7 2)) (i := 2) (Cn := RX7) (T := TX7) (N := 4) rfl (by decide) in_X7_init_X7 fk_X7_init_18 tyX7_ok nmX7 rfl (by decide +kernel) rfl rfl (by omega) (gPu_at (by omega) (gPu_eq)) (Nat.le_of_ble_eq_true rfl) rfl (gDec_at D_X7_init 13 rfl) ?_
  refine gy_aload_n C 0 (gDec_at D_X7_init 14 rfl) rfl rfl ?_
  refine gy_iconst C (v := 0) (gDec_at D_X7_init 15 rfl) (by decide) ?_
  refine gy_put C Cy (v := .int 0) (ty0 := tyX7) (ty := .int) (i := 3) (Cn := RX7) (T := TX7) (N := 4) rfl (by decide) in_X7_init_X7 fk_X7_init_22 tyX7_ok nmX7 rfl (by decide +kernel) rfl rfl (by omega) (gPu_eq) (Nat.le_of_ble_eq_true rfl) (gDec_at D_X7_init 16 rfl) ?_
  refine gy_vret C E rfl (fun H0 hH q e hq => ?_) (gDec_at D_X7_init 17 rfl)
  unfold gFin at hq
  by_cases c : a ≤ q ∧ q < a + 4
  · rw [if_pos c] at hq
    by_cases c0 : q = a
    · subst c0
      rw [is_X7_sh A] at hq
      cases hq
      refine ⟨(hH _ _ (gPu_eq)).1, ?_⟩
      have h9 := (hH _ _ (gPu_eq)).2
      simp only [gE, gVs, gV, in_X7_size I]
      exact h9
    by_cases c1 : q = a + 1
    · subst c1
      rw [is_X7_upper A] at hq
      cases hq
      refine ⟨(hH _ _ (gPu_at (by omega) (gPu_at (by omega) (gPu_at (by omega) (gPu_at (by omega) (gPu_at (by omega) (gPu_at (by omega) (gPu_eq)))))))).1, ?_⟩
      have h9 := (hH _ _ (gPu_at (by omega) (gPu_at (by omega) (gPu_at (by omega) (gPu_at (by omega) (gPu_at (by omega) (gPu_at (by omega) (gPu_eq)))))))).2
      simp only [gE]
      rw [in_X7_upper I]
      exact h9
    by_cases c2 : q = a + 2
    · subst c2
      rw [is_X7_lower A] at hq
      cases hq
      refine ⟨(hH _ _ (gPu_at (by omega) (gPu_at (by omega) (gPu_at (by omega) (gPu_at (by omega) (gPu_eq)))))).1, ?_⟩
      have h9 := (hH _ _ (gPu_at (by omega) (gPu_at (by omega) (gPu_at (by omega) (gPu_at (by omega) (gPu_eq)))))).2
      simp only [gE]
      rw [in_X7_lower I]
      exact h9
    by_cases c3 : q = a + 3
    · subst c3
      rw [is_X7_times A] at hq
      cases hq
      refine ⟨(hH _ _ (gPu_at (by omega) (gPu_at (by omega) (gPu_eq)))).1, ?_⟩
      have h9 := (hH _ _ (gPu_at (by omega) (gPu_at (by omega) (gPu_eq)))).2
      simp only [gE]
      rw [in_X7_times I]
      exact h9
    exact absurd c (by omega)
  · rw [if_neg c] at hq
    exact hH q e (gPu_at (by omega) (gPu_at (by omega) (gPu_at (by omega) (gPu_at (by omega) (gPu_at (by omega) (gPu_at (by omega) (gPu_at (by omega) (hq))))))))
/-! the constructor of LadderBench$State -/
def rm_X8_init : Room := { frames := 2, cells := 12, slots := 131, locals := 41 }
set_option maxRecDepth 20000 in
theorem ggX8_init_X5_init : GoodIn wsX8_init wsX5_init := goodIn_r _ [22, 23, 2, 3, 12, 24, 25, 26, 27, 28, 37, 38, 39, 40, 41] (by decide +kernel) (by decide +kernel)
set_option maxRecDepth 20000 in
theorem gX8_init_X5_init : GoodIn wsX8_init (wsX5_init) := ggX8_init_X5_init
set_option maxRecDepth 20000 in
theorem ggX8_init_X7_init : GoodIn wsX8_init wsX7_init := goodIn_r _ [30, 31, 2, 3, 32, 33, 34, 12, 35, 36, 50, 51, 52, 53] (by decide +kernel) (by decide +kernel)
set_option maxRecDepth 20000 in
theorem gX8_init_X7_init_n20 : GoodIn wsX8_init (wsX7_init) := ggX8_init_X7_init
theorem hy_X8_init : yX8_init.cls ≠ "java/lang/invoke/MethodHandle" ∧ yX8_init.cls ≠ "java/lang/invoke/VarHandle" ∧ (parseMethodDescriptor yX8_init.desc).map (fun d => d.parameters.length) = some 0 := by decide +kernel
set_option maxRecDepth 100000 in
theorem D_X8_init : gDec cX8_init [(0, (.aload_n 0, 1)), (1, (.invokespecial 3, 3)), (4, (.aload_n 0, 1)), (5, (.new 9, 3)), (8, (.dup, 1)), (9, (.invokespecial 11, 3)), (12, (.putfield 12, 3)), (15, (.aload_n 0, 1)), (16, (.new 18, 3)), (19, (.dup, 1)), (20, (.invokespecial 20, 3)), (23, (.putfield 21, 3)), (26, (.aload_n 0, 1)), (27, (.bipush 6, 2)), (29, (.newarray .int, 2)), (31, (.putfield 25, 3)), (34, (.aload_n 0, 1)), (35, (.bipush 6, 2)), (37, (.newarray .int, 2)), (39, (.putfield 29, 3)), (42, (.aload_n 0, 1)), (43, (.bipush 11, 2)), (45, (.newarray .boolean, 2)), (47, (.putfield 32, 3)), (50, (.aload_n 0, 1)), (51, (.bipush 12, 2)), (53, (.putfield 36, 3)), (56, (.aload_n 0, 1)), (57, (.bipush 100, 2)), (59, (.putfield 40, 3)), (62, (.aload_n 0, 1)), (63, (.iconst 0, 1)), (64, (.putfield 43, 3)), (67, (.return_, 1))] = true := by decide +kernel
set_option maxRecDepth 100000 in
theorem in_X8_init_X5 : ∀ x ∈ u_ws RX5 TX5 5, x ∈ wsX8_init := by decide +kernel
set_option maxRecDepth 100000 in
theorem in_X8_init_X7 : ∀ x ∈ u_ws RX7 TX7 4, x ∈ wsX8_init := by decide +kernel
set_option maxRecDepth 100000 in
theorem in_X8_init_X8 : ∀ x ∈ u_ws RX8 TX8 8, x ∈ wsX8_init := by decide +kernel
theorem ob_X8_init_3 : Cond.methodLink RX8 3 objectInit ∈ wsX8_init ∧ Cond.instanceMethod objectInit ∈ wsX8_init ∧ Cond.code objectInit ⟨#[0xb1]⟩ 1 none ∈ wsX8_init := by decide +kernel
theorem nw_X8_init_9 : Cond.classLink RX8 9 RX5 ∈ wsX8_init ∧ Cond.instantiable RX5 5 ∈ wsX8_init ∧ Cond.initialized RX5 ∈ wsX8_init := by decide +kernel
theorem ci_X8_init_11 : Cond.methodLink RX8 11 yX5_init ∈ wsX8_init ∧ Cond.initialized yX5_init.cls ∈ wsX8_init ∧ Cond.instanceMethod yX5_init ∈ wsX8_init := by decide +kernel
theorem fk_X8_init_12 : Cond.fieldLink RX8 12 (TX8 0).1 (TX8 0).2.1 (TX8 0).2.2.1 ∈ wsX8_init := by decide +kernel
theorem nw_X8_init_18 : Cond.classLink RX8 18 RX7 ∈ wsX8_init ∧ Cond.instantiable RX7 4 ∈ wsX8_init ∧ Cond.initialized RX7 ∈ wsX8_init := by decide +kernel
theorem ci_X8_init_20 : Cond.methodLinkNest RX8 20 yX7_init "LadderBench" ∈ gNestL ∧ Cond.initialized yX7_init.cls ∈ wsX8_init ∧ Cond.instanceMethod yX7_init ∈ wsX8_init := by decide +kernel
theorem fk_X8_init_21 : Cond.fieldLink RX8 21 (TX8 1).1 (TX8 1).2.1 (TX8 1).2.2.1 ∈ wsX8_init := by decide +kernel
theorem ac_X8_init_I : Cond.arrayClass .int ∈ wsX8_init := by decide +kernel
theorem fk_X8_init_25 : Cond.fieldLink RX8 25 (TX8 2).1 (TX8 2).2.1 (TX8 2).2.2.1 ∈ wsX8_init := by decide +kernel
theorem fk_X8_init_29 : Cond.fieldLink RX8 29 (TX8 3).1 (TX8 3).2.1 (TX8 3).2.2.1 ∈ wsX8_init := by decide +kernel
theorem ac_X8_init_Z : Cond.arrayClass .boolean ∈ wsX8_init := by decide +kernel
theorem fk_X8_init_32 : Cond.fieldLink RX8 32 (TX8 4).1 (TX8 4).2.1 (TX8 4).2.2.1 ∈ wsX8_init := by decide +kernel
theorem fk_X8_init_36 : Cond.fieldLink RX8 36 (TX8 5).1 (TX8 5).2.1 (TX8 5).2.2.1 ∈ wsX8_init := by decide +kernel
theorem fk_X8_init_40 : Cond.fieldLink RX8 40 (TX8 6).1 (TX8 6).2.1 (TX8 6).2.2.1 ∈ wsX8_init := by decide +kernel
theorem fk_X8_init_43 : Cond.fieldLink RX8 43 (TX8 7).1 (TX8 7).2.1 (TX8 7).2.2.1 ∈ wsX8_init := by decide +kernel
set_option maxRecDepth 100000 in
set_option maxHeartbeats 40000000 in
theorem m_X8_init (w : gWd) (hT : gHp) {a : Nat} (A : is_X8 w a) (I : in_X8 hT a) (pic : gPic) (hp0 : pic a = some (.inr (8, [.null, .null, .null, .null, .null, .int 0, .int 0, .int 0]))) : gMetI w hT yX8_init wsX8_init rm_X8_init a 13 12 131 pic := by
  refine gMetI_of (cc := cX8_init) (maxL := 1) (fr := 2) (lo := 41) (Rc := 12) (Rs := 131) (own := RX8) (by decide) rfl rfl rfl (by decide) (Nat.le_refl _) (Nat.le_refl _) (Nat.le_refl _) (Nat.le_refl _) (fun g C Cy hI E => ?_)
  refine gy_aload_n C 0 (gDec_at D_X8_init 0 rfl) rfl rfl ?_
  refine gy_objInit C Cy ob_X8_init_3 (by decide) (by decide) (Nat.le_of_ble_eq_true rfl) (gDec_at D_X8_init 1 rfl) ?_
  refine gy_aload_n C 0 (gDec_at D_X8_init 2 rfl) rfl rfl ?_
  refine gy_new C Cy (fs := [.null, .null, .null, .null, .int 0]) (ci := 5) rfl in_X8_init_X5 tyX5_ok nw_X8_init_9 (by intro j hj; match j, hj with | 0, _ => rfl | 1, _ => rfl | 2, _ => rfl | 3, _ => rfl | 4, _ => rfl | j + 5, hj => exact absurd hj (by omega)) (by decide) (by decide) (gDec_at D_X8_init 3 rfl) ?_
  refine gy_dup C (gDec_at D_X8_init 4 rfl) rfl ?_
  refine gy_callI C Cy (m_X5_init w hT (is_X8_network A) (in_X8_network I) _ (gPu_eq)) rfl (by omega) gX8_init_X5_init ci_X8_init_11.1 rfl rfl rfl ci_X8_init_11.2.1 ci_X8_init_11.2.2 rfl hy_X5_init (by decide) (by decide) (by decide) (by decide) (Nat.le_of_ble_eq_true rfl) (gDec_at D_X8_init 5 rfl) ?_
  refine gy_putF C Cy hI (v := .ref (a + 1)) (ty0 := tyX8) (ty := (tyX8 0)) (i := 0) (Cn := RX8) (T := TX8) (N := 8) rfl (by decide) in_X8_init_X8 fk_X8_init_12 tyX8_ok nmX8 rfl (by decide +kernel) rfl rfl (by omega) (gFin_at (by omega) (gPu_at (by omega) (hp0))) (Nat.le_of_ble_eq_true rfl) rfl (gDec_at D_X8_init 6 rfl) ?_
  refine gy_aload_n C 0 (gDec_at D_X8_init 7 rfl) rfl rfl ?_
  refine gy_new C Cy (fs := [.null, .null, .null, .int 0]) (ci := 7) rfl in_X8_init_X7 tyX7_ok nw_X8_init_18 (by intro j hj; match j, hj with | 0, _ => rfl | 1, _ => rfl | 2, _ => rfl | 3, _ => rfl | j + 4, hj => exact absurd hj (by omega)) (by decide) (by decide) (gDec_at D_X8_init 8 rfl) ?_
  refine gy_dup C (gDec_at D_X8_init 9 rfl) rfl ?_
  refine gy_callIN C Cy (m_X7_init w hT (is_X8_notes A) (in_X8_notes I) _ (gPu_eq)) rfl (by omega) gX8_init_X7_init_n20 ci_X8_init_20.1 rfl rfl rfl ci_X8_init_20.2.1 ci_X8_init_20.2.2 rfl hy_X7_init (by decide) (by decide) (by decide) (by decide) (Nat.le_of_ble_eq_true rfl) (gDec_at D_X8_init 10 rfl) ?_
  refine gy_putF C Cy hI (v := .ref (a + 6)) (ty0 := tyX8) (ty := (tyX8 1)) (i := 1) (Cn := RX8) (T := TX8) (N := 8) rfl (by decide) in_X8_init_X8 fk_X8_init_21 tyX8_ok nmX8 rfl (by decide +kernel) rfl rfl (by omega) (gFin_at (by omega) (gPu_at (by omega) (gPu_eq))) (Nat.le_of_ble_eq_true rfl) rfl (gDec_at D_X8_init 11 rfl) ?_
  refine gy_aload_n C 0 (gDec_at D_X8_init 12 rfl) rfl rfl ?_
  refine gy_bipush C (v := 6) (gDec_at D_X8_init 13 rfl) (by decide) ?_
  refine gy_newarrI C Cy (N := 6) ac_X8_init_I (by decide) (by decide) (by decide) (by decide) (by decide) (gDec_at D_X8_init 14 rfl) ?_
  refine gy_putF C Cy hI (v := .ref (a + 10)) (ty0 := tyX8) (ty := (tyX8 2)) (i := 2) (Cn := RX8) (T := TX8) (N := 8) rfl (by decide) in_X8_init_X8 fk_X8_init_25 tyX8_ok nmX8 rfl (by decide +kernel) rfl rfl (by omega) (gPu_at (by omega) (gPu_eq)) (Nat.le_of_ble_eq_true rfl) rfl (gDec_at D_X8_init 15 rfl) ?_
  refine gy_aload_n C 0 (gDec_at D_X8_init 16 rfl) rfl rfl ?_
  refine gy_bipush C (v := 6) (gDec_at D_X8_init 17 rfl) (by decide) ?_
  refine gy_newarrI C Cy (N := 6) ac_X8_init_I (by decide) (by decide) (by decide) (by decide) (by decide) (gDec_at D_X8_init 18 rfl) ?_
  refine gy_putF C Cy hI (v := .ref (a + 11)) (ty0 := tyX8) (ty := (tyX8 3)) (i := 3) (Cn := RX8) (T := TX8) (N := 8) rfl (by decide) in_X8_init_X8 fk_X8_init_29 tyX8_ok nmX8 rfl (by decide +kernel) rfl rfl (by omega) (gPu_at (by omega) (gPu_eq)) (Nat.le_of_ble_eq_true rfl) rfl (gDec_at D_X8_init 19 rfl) ?_
  refine gy_aload_n C 0 (gDec_at D_X8_init 20 rfl) rfl rfl ?_
  refine gy_bipush C (v := 11) (gDec_at D_X8_init 21 rfl) (by decide) ?_
  refine gy_newarrZ C Cy (N := 11) ac_X8_init_Z (by decide) (by decide) (by decide) (by decide) (by decide) (gDec_at D_X8_init 22 rfl) ?_
  refine gy_putF C Cy hI (v := .ref (a + 12)) (ty0 := tyX8) (ty := (tyX8 4)) (i := 4) (Cn := RX8) (T := TX8) (N := 8) rfl (by decide) in_X8_init_X8 fk_X8_init_32 tyX8_ok nmX8 rfl (by decide +kernel) rfl rfl (by omega) (gPu_at (by omega) (gPu_eq)) (Nat.le_of_ble_eq_true rfl) rfl (gDec_at D_X8_init 23 rfl) ?_
  refine gy_aload_n C 0 (gDec_at D_X8_init 24 rfl) rfl rfl ?_
  refine gy_bipush C (v := 12) (gDec_at D_X8_init 25 rfl) (by decide) ?_
  refine gy_put C Cy (v := .int 12) (ty0 := tyX8) (ty := .int) (i := 5) (Cn := RX8) (T := TX8) (N := 8) rfl (by decide) in_X8_init_X8 fk_X8_init_36 tyX8_ok nmX8 rfl (by decide +kernel) rfl rfl (by omega) (gPu_eq) (Nat.le_of_ble_eq_true rfl) (gDec_at D_X8_init 26 rfl) ?_
  refine gy_aload_n C 0 (gDec_at D_X8_init 27 rfl) rfl rfl ?_
  refine gy_bipush C (v := 100) (gDec_at D_X8_init 28 rfl) (by decide) ?_
  refine gy_put C Cy (v := .int 100) (ty0 := tyX8) (ty := .int) (i := 6) (Cn := RX8) (T := TX8) (N := 8) rfl (by decide) in_X8_init_X8 fk_X8_init_40 tyX8_ok nmX8 rfl (by decide +kernel) rfl rfl (by omega) (gPu_eq) (Nat.le_of_ble_eq_true rfl) (gDec_at D_X8_init 29 rfl) ?_
  refine gy_aload_n C 0 (gDec_at D_X8_init 30 rfl) rfl rfl ?_
  refine gy_iconst C (v := 0) (gDec_at D_X8_init 31 rfl) (by decide) ?_
  refine gy_put C Cy (v := .int 0) (ty0 := tyX8) (ty := .int) (i := 7) (Cn := RX8) (T := TX8) (N := 8) rfl (by decide) in_X8_init_X8 fk_X8_init_43 tyX8_ok nmX8 rfl (by decide +kernel) rfl rfl (by omega) (gPu_eq) (Nat.le_of_ble_eq_true rfl) (gDec_at D_X8_init 32 rfl) ?_
  refine gy_vret C E rfl (fun H0 hH q e hq => ?_) (gDec_at D_X8_init 33 rfl)
  unfold gFin at hq
  by_cases c : a ≤ q ∧ q < a + 13
  · rw [if_pos c] at hq
    by_cases c0 : q = a
    · subst c0
      rw [is_X8_sh A] at hq
      cases hq
      refine ⟨(hH _ _ (gPu_eq)).1, ?_⟩
      have h9 := (hH _ _ (gPu_eq)).2
      simp only [gE, gVs, gV, in_X8_source I, in_X8_meter I, in_X8_folds I]
      exact h9
    by_cases c10 : q = a + 10
    · subst c10
      rw [is_X8_armValue A] at hq
      cases hq
      refine ⟨(hH _ _ (gPu_at (by omega) (gPu_at (by omega) (gPu_at (by omega) (gPu_at (by omega) (gPu_at (by omega) (gPu_at (by omega) (gPu_at (by omega) (gPu_at (by omega) (gPu_eq)))))))))).1, ?_⟩
      have h9 := (hH _ _ (gPu_at (by omega) (gPu_at (by omega) (gPu_at (by omega) (gPu_at (by omega) (gPu_at (by omega) (gPu_at (by omega) (gPu_at (by omega) (gPu_at (by omega) (gPu_eq)))))))))).2
      simp only [gE]
      rw [in_X8_armValue I]
      exact h9
    by_cases c11 : q = a + 11
    · subst c11
      rw [is_X8_armState A] at hq
      cases hq
      refine ⟨(hH _ _ (gPu_at (by omega) (gPu_at (by omega) (gPu_at (by omega) (gPu_at (by omega) (gPu_at (by omega) (gPu_at (by omega) (gPu_eq)))))))).1, ?_⟩
      have h9 := (hH _ _ (gPu_at (by omega) (gPu_at (by omega) (gPu_at (by omega) (gPu_at (by omega) (gPu_at (by omega) (gPu_at (by omega) (gPu_eq)))))))).2
      simp only [gE]
      rw [in_X8_armState I]
      exact h9
    by_cases c12 : q = a + 12
    · subst c12
      rw [is_X8_isFolded A] at hq
      cases hq
      refine ⟨(hH _ _ (gPu_at (by omega) (gPu_at (by omega) (gPu_at (by omega) (gPu_at (by omega) (gPu_eq)))))).1, ?_⟩
      have h9 := (hH _ _ (gPu_at (by omega) (gPu_at (by omega) (gPu_at (by omega) (gPu_at (by omega) (gPu_eq)))))).2
      simp only [gE]
      rw [in_X8_isFolded I]
      exact h9
    by_cases c1 : a + 1 ≤ q ∧ q < a + 6
    · exact hH q e (gPu_at (by omega) (gPu_at (by omega) (gPu_at (by omega) (gPu_at (by omega) (gPu_at (by omega) (gPu_at (by omega) (gPu_at (by omega) (gPu_at (by omega) (gPu_at (by omega) (gPu_at (by omega) (gFin_at (by omega) (gPu_at (by omega) (gPu_at (by omega) (gFin_is c1 hq))))))))))))))
    by_cases c6 : a + 6 ≤ q ∧ q < a + 10
    · exact hH q e (gPu_at (by omega) (gPu_at (by omega) (gPu_at (by omega) (gPu_at (by omega) (gPu_at (by omega) (gPu_at (by omega) (gPu_at (by omega) (gPu_at (by omega) (gPu_at (by omega) (gPu_at (by omega) (gFin_is c6 hq)))))))))))
    exact absurd c (by omega)
  · rw [if_neg c] at hq
    exact hH q e (gPu_at (by omega) (gPu_at (by omega) (gPu_at (by omega) (gPu_at (by omega) (gPu_at (by omega) (gPu_at (by omega) (gPu_at (by omega) (gPu_at (by omega) (gPu_at (by omega) (gPu_at (by omega) (gFin_at (by omega) (gPu_at (by omega) (gPu_at (by omega) (gFin_at (by omega) (gPu_at (by omega) (hq))))))))))))))))
/-! the constructor of LadderBench$History -/
def rm_X3_init : Room := { frames := 3, cells := 66, slots := 700, locals := 61 }
set_option maxRecDepth 20000 in
theorem ggX3_init_X8_init : GoodIn wsX3_init wsX8_init := goodIn_r _ [11, 12, 2, 3, 13, 14, 15, 16, 17, 18, 19, 20, 21, 22, 23, 24, 25, 26, 27, 28, 29, 30, 31, 32, 33, 34, 35, 36, 37, 38, 39, 40, 41, 42, 43, 44, 45, 57, 58, 59, 60, 61, 49, 50, 51, 52, 53, 54, 55, 56, 62, 63, 64, 65] (by decide +kernel) (by decide +kernel)
set_option maxRecDepth 20000 in
theorem gX3_init_X8_init_n24 : GoodIn wsX3_init (wsX8_init) := ggX3_init_X8_init
theorem hy_X3_init : yX3_init.cls ≠ "java/lang/invoke/MethodHandle" ∧ yX3_init.cls ≠ "java/lang/invoke/VarHandle" ∧ (parseMethodDescriptor yX3_init.desc).map (fun d => d.parameters.length) = some 0 := by decide +kernel
set_option maxRecDepth 100000 in
theorem D_X3_init : gDec cX3_init [(0, (.aload_n 0, 1)), (1, (.invokespecial 3, 3)), (4, (.aload_n 0, 1)), (5, (.iconst 5, 1)), (6, (.anewarray 9, 3)), (9, (.putfield 11, 3)), (12, (.aload_n 0, 1)), (13, (.iconst 0, 1)), (14, (.putfield 17, 3)), (17, (.aload_n 0, 1)), (18, (.iconst 0, 1)), (19, (.putfield 21, 3)), (22, (.iconst 0, 1)), (23, (.istore_n 1, 1)), (24, (.iload_n 1, 1)), (25, (.iconst 5, 1)), (26, (.if_icmp .ge 22, 3)), (29, (.aload_n 0, 1)), (30, (.getfield 11, 3)), (33, (.iload_n 1, 1)), (34, (.new 9, 3)), (37, (.dup, 1)), (38, (.invokespecial 24, 3)), (41, (.aastore, 1)), (42, (.iinc 1 1, 3)), (45, (.goto (-21), 3)), (48, (.return_, 1))] = true := by decide +kernel
set_option maxRecDepth 100000 in
theorem in_X3_init_X3 : ∀ x ∈ u_ws RX3 TX3 3, x ∈ wsX3_init := by decide +kernel
set_option maxRecDepth 100000 in
theorem in_X3_init_X8 : ∀ x ∈ u_ws RX8 TX8 8, x ∈ wsX3_init := by decide +kernel
theorem ob_X3_init_3 : Cond.methodLink RX3 3 objectInit ∈ wsX3_init ∧ Cond.instanceMethod objectInit ∈ wsX3_init ∧ Cond.code objectInit ⟨#[0xb1]⟩ 1 none ∈ wsX3_init := by decide +kernel
theorem ak_X3_init_9 : Cond.classLink RX3 9 "LadderBench$State" ∈ wsX3_init := by decide +kernel
theorem fk_X3_init_11 : Cond.fieldLink RX3 11 (TX3 0).1 (TX3 0).2.1 (TX3 0).2.2.1 ∈ wsX3_init := by decide +kernel
theorem fk_X3_init_17 : Cond.fieldLink RX3 17 (TX3 1).1 (TX3 1).2.1 (TX3 1).2.2.1 ∈ wsX3_init := by decide +kernel
theorem fk_X3_init_21 : Cond.fieldLink RX3 21 (TX3 2).1 (TX3 2).2.1 (TX3 2).2.2.1 ∈ wsX3_init := by decide +kernel
theorem fl_X3_init_11 : gF wsX3_init RX3 11 3 0 := ⟨RX3, TX3, 3, rfl, by decide, in_X3_init_X3, by decide +kernel⟩
theorem nw_X3_init_9 : Cond.classLink RX3 9 RX8 ∈ wsX3_init ∧ Cond.instantiable RX8 8 ∈ wsX3_init ∧ Cond.initialized RX8 ∈ wsX3_init := by decide +kernel
theorem ci_X3_init_24 : Cond.methodLinkNest RX3 24 yX8_init "LadderBench" ∈ gNestL ∧ Cond.initialized yX8_init.cls ∈ wsX3_init ∧ Cond.instanceMethod yX8_init ∈ wsX3_init := by decide +kernel
set_option maxRecDepth 100000 in
set_option maxHeartbeats 40000000 in
theorem m_X3_init (w : gWd) (hT : gHp) {a : Nat} (A : is_X3 w a) (I : in_X3 hT a) (pic : gPic) (hp0 : pic a = some (.inr (3, [.null, .int 0, .int 0]))) : gMetI w hT yX3_init wsX3_init rm_X3_init a 67 66 700 pic := by
  refine gMetI_of (cc := cX3_init) (maxL := 2) (fr := 3) (lo := 61) (Rc := 66) (Rs := 700) (own := RX3) (by decide) rfl rfl rfl (by decide) (Nat.le_refl _) (Nat.le_refl _) (Nat.le_refl _) (Nat.le_refl _) (fun g C Cy hI E => ?_)
  refine gy_aload_n C 0 (gDec_at D_X3_init 0 rfl) rfl rfl ?_
  refine gy_objInit C Cy ob_X3_init_3 (by decide) (by decide) (Nat.le_of_ble_eq_true rfl) (gDec_at D_X3_init 1 rfl) ?_
  refine gy_aload_n C 0 (gDec_at D_X3_init 2 rfl) rfl rfl ?_
  refine gy_iconst C (v := 5) (gDec_at D_X3_init 3 rfl) (by decide) ?_
  refine gy_anewSt C Cy (N := 5) ak_X3_init_9 (by decide) (by decide) (by decide) (by decide) (by decide) (gDec_at D_X3_init 4 rfl) ?_
  refine gy_putF C Cy hI (v := .ref (a + 1)) (ty0 := tyX3) (ty := (tyX3 0)) (i := 0) (Cn := RX3) (T := TX3) (N := 3) rfl (by decide) in_X3_init_X3 fk_X3_init_11 tyX3_ok nmX3 rfl (by decide +kernel) rfl rfl (by omega) (gPu_at (by omega) (hp0)) (Nat.le_of_ble_eq_true rfl) rfl (gDec_at D_X3_init 5 rfl) ?_
  refine gy_aload_n C 0 (gDec_at D_X3_init 6 rfl) rfl rfl ?_
  refine gy_iconst C (v := 0) (gDec_at D_X3_init 7 rfl) (by decide) ?_
  refine gy_put C Cy (v := .int 0) (ty0 := tyX3) (ty := .int) (i := 1) (Cn := RX3) (T := TX3) (N := 3) rfl (by decide) in_X3_init_X3 fk_X3_init_17 tyX3_ok nmX3 rfl (by decide +kernel) rfl rfl (by omega) (gPu_eq) (Nat.le_of_ble_eq_true rfl) (gDec_at D_X3_init 8 rfl) ?_
  refine gy_aload_n C 0 (gDec_at D_X3_init 9 rfl) rfl rfl ?_
  refine gy_iconst C (v := 0) (gDec_at D_X3_init 10 rfl) (by decide) ?_
  refine gy_put C Cy (v := .int 0) (ty0 := tyX3) (ty := .int) (i := 2) (Cn := RX3) (T := TX3) (N := 3) rfl (by decide) in_X3_init_X3 fk_X3_init_21 tyX3_ok nmX3 rfl (by decide +kernel) rfl rfl (by omega) (gPu_eq) (Nat.le_of_ble_eq_true rfl) (gDec_at D_X3_init 11 rfl) ?_
  refine gy_iconst C (v := 0) (gDec_at D_X3_init 12 rfl) (by decide) ?_
  refine gy_istore_n C (lv' := [(1, .int 0), (0, .ref a)]) (gDec_at D_X3_init 13 rfl) rfl (Nat.le_of_ble_eq_true rfl) rfl ?_
  refine gy_iload_n C 0 (gDec_at D_X3_init 14 rfl) rfl rfl ?_
  refine gy_iconst C (v := 5) (gDec_at D_X3_init 15 rfl) (by decide) ?_
  refine gy_icmp_ge C 48 (gDec_at D_X3_init 16 rfl) (by decide) (fun c => absurd c (by decide)) (fun _ => ?_)
  refine gy_aload_n C 1 (gDec_at D_X3_init 17 rfl) rfl rfl ?_
  refine gy_get C Cy fl_X3_init_11 (gPu_eq) rfl (gDec_at D_X3_init 18 rfl) ?_
  refine gy_iload_n C 0 (gDec_at D_X3_init 19 rfl) rfl rfl ?_
  refine gy_new C Cy (fs := [.null, .null, .null, .null, .null, .int 0, .int 0, .int 0]) (ci := 8) rfl in_X3_init_X8 tyX8_ok nw_X3_init_9 (by intro j hj; match j, hj with | 0, _ => rfl | 1, _ => rfl | 2, _ => rfl | 3, _ => rfl | 4, _ => rfl | 5, _ => rfl | 6, _ => rfl | 7, _ => rfl | j + 8, hj => exact absurd hj (by omega)) (by decide) (by decide) (gDec_at D_X3_init 20 rfl) ?_
  refine gy_dup C (gDec_at D_X3_init 21 rfl) rfl ?_
  refine gy_callIN C Cy (m_X8_init w hT (show is_X8 w (a + 2) from is_X3_states_at (i := 0) A (by decide)) (show in_X8 hT (a + 2) from in_X3_states I 0 (by decide)) _ (gPu_eq)) rfl (by omega) gX3_init_X8_init_n24 ci_X3_init_24.1 rfl rfl rfl ci_X3_init_24.2.1 ci_X3_init_24.2.2 rfl hy_X8_init (by decide) (by decide) (by decide) (by decide) (Nat.le_of_ble_eq_true rfl) (gDec_at D_X3_init 22 rfl) ?_
  refine gy_aastoreSt C Cy (by omega) (gFin_at (by omega) (gPu_at (by omega) (gPu_at (by omega) (gPu_at (by omega) (gPu_at (by omega) (gPu_eq)))))) (gFin_in (by omega) (is_X8_sh (show is_X8 w (a + 2) from is_X3_states_at (i := 0) A (by decide)))) (by decide) (gDec_at D_X3_init 23 rfl) ?_
  refine gy_iinc C (j := 0) (v := 1) (lv' := [(1, .int 1), (0, .ref a)]) (gDec_at D_X3_init 24 rfl) rfl (by decide) (Nat.le_of_ble_eq_true rfl) rfl ?_
  refine gy_goto C 24 (gDec_at D_X3_init 25 rfl) (by decide) ?_
  refine gy_iload_n C 0 (gDec_at D_X3_init 14 rfl) rfl rfl ?_
  refine gy_iconst C (v := 5) (gDec_at D_X3_init 15 rfl) (by decide) ?_
  refine gy_icmp_ge C 48 (gDec_at D_X3_init 16 rfl) (by decide) (fun c => absurd c (by decide)) (fun _ => ?_)
  refine gy_aload_n C 1 (gDec_at D_X3_init 17 rfl) rfl rfl ?_
  refine gy_get C Cy fl_X3_init_11 (gPu_at (by omega) (gFin_at (by omega) (gPu_at (by omega) (gPu_eq)))) rfl (gDec_at D_X3_init 18 rfl) ?_
  refine gy_iload_n C 0 (gDec_at D_X3_init 19 rfl) rfl rfl ?_
  refine gy_new C Cy (fs := [.null, .null, .null, .null, .null, .int 0, .int 0, .int 0]) (ci := 8) rfl in_X3_init_X8 tyX8_ok nw_X3_init_9 (by intro j hj; match j, hj with | 0, _ => rfl | 1, _ => rfl | 2, _ => rfl | 3, _ => rfl | 4, _ => rfl | 5, _ => rfl | 6, _ => rfl | 7, _ => rfl | j + 8, hj => exact absurd hj (by omega)) (by decide) (by decide) (gDec_at D_X3_init 20 rfl) ?_
  refine gy_dup C (gDec_at D_X3_init 21 rfl) rfl ?_
  refine gy_callIN C Cy (m_X8_init w hT (show is_X8 w (a + 15) from is_X3_states_at (i := 1) A (by decide)) (show in_X8 hT (a + 15) from in_X3_states I 1 (by decide)) _ (gPu_eq)) rfl (by omega) gX3_init_X8_init_n24 ci_X3_init_24.1 rfl rfl rfl ci_X3_init_24.2.1 ci_X3_init_24.2.2 rfl hy_X8_init (by decide) (by decide) (by decide) (by decide) (Nat.le_of_ble_eq_true rfl) (gDec_at D_X3_init 22 rfl) ?_
  refine gy_aastoreSt C Cy (by omega) (gFin_at (by omega) (gPu_at (by omega) (gPu_eq))) (gFin_in (by omega) (is_X8_sh (show is_X8 w (a + 15) from is_X3_states_at (i := 1) A (by decide)))) (by decide) (gDec_at D_X3_init 23 rfl) ?_
  refine gy_iinc C (j := 0) (v := 2) (lv' := [(1, .int 2), (0, .ref a)]) (gDec_at D_X3_init 24 rfl) rfl (by decide) (Nat.le_of_ble_eq_true rfl) rfl ?_
  refine gy_goto C 24 (gDec_at D_X3_init 25 rfl) (by decide) ?_
  refine gy_iload_n C 0 (gDec_at D_X3_init 14 rfl) rfl rfl ?_
  refine gy_iconst C (v := 5) (gDec_at D_X3_init 15 rfl) (by decide) ?_
  refine gy_icmp_ge C 48 (gDec_at D_X3_init 16 rfl) (by decide) (fun c => absurd c (by decide)) (fun _ => ?_)
  refine gy_aload_n C 1 (gDec_at D_X3_init 17 rfl) rfl rfl ?_
  refine gy_get C Cy fl_X3_init_11 (gPu_at (by omega) (gFin_at (by omega) (gPu_at (by omega) (gPu_at (by omega) (gFin_at (by omega) (gPu_at (by omega) (gPu_eq))))))) rfl (gDec_at D_X3_init 18 rfl) ?_
  refine gy_iload_n C 0 (gDec_at D_X3_init 19 rfl) rfl rfl ?_
  refine gy_new C Cy (fs := [.null, .null, .null, .null, .null, .int 0, .int 0, .int 0]) (ci := 8) rfl in_X3_init_X8 tyX8_ok nw_X3_init_9 (by intro j hj; match j, hj with | 0, _ => rfl | 1, _ => rfl | 2, _ => rfl | 3, _ => rfl | 4, _ => rfl | 5, _ => rfl | 6, _ => rfl | 7, _ => rfl | j + 8, hj => exact absurd hj (by omega)) (by decide) (by decide) (gDec_at D_X3_init 20 rfl) ?_
  refine gy_dup C (gDec_at D_X3_init 21 rfl) rfl ?_
  refine gy_callIN C Cy (m_X8_init w hT (show is_X8 w (a + 28) from is_X3_states_at (i := 2) A (by decide)) (show in_X8 hT (a + 28) from in_X3_states I 2 (by decide)) _ (gPu_eq)) rfl (by omega) gX3_init_X8_init_n24 ci_X3_init_24.1 rfl rfl rfl ci_X3_init_24.2.1 ci_X3_init_24.2.2 rfl hy_X8_init (by decide) (by decide) (by decide) (by decide) (Nat.le_of_ble_eq_true rfl) (gDec_at D_X3_init 22 rfl) ?_
  refine gy_aastoreSt C Cy (by omega) (gFin_at (by omega) (gPu_at (by omega) (gPu_eq))) (gFin_in (by omega) (is_X8_sh (show is_X8 w (a + 28) from is_X3_states_at (i := 2) A (by decide)))) (by decide) (gDec_at D_X3_init 23 rfl) ?_
  refine gy_iinc C (j := 0) (v := 3) (lv' := [(1, .int 3), (0, .ref a)]) (gDec_at D_X3_init 24 rfl) rfl (by decide) (Nat.le_of_ble_eq_true rfl) rfl ?_
  refine gy_goto C 24 (gDec_at D_X3_init 25 rfl) (by decide) ?_
  refine gy_iload_n C 0 (gDec_at D_X3_init 14 rfl) rfl rfl ?_
  refine gy_iconst C (v := 5) (gDec_at D_X3_init 15 rfl) (by decide) ?_
  refine gy_icmp_ge C 48 (gDec_at D_X3_init 16 rfl) (by decide) (fun c => absurd c (by decide)) (fun _ => ?_)
  refine gy_aload_n C 1 (gDec_at D_X3_init 17 rfl) rfl rfl ?_
  refine gy_get C Cy fl_X3_init_11 (gPu_at (by omega) (gFin_at (by omega) (gPu_at (by omega) (gPu_at (by omega) (gFin_at (by omega) (gPu_at (by omega) (gPu_at (by omega) (gFin_at (by omega) (gPu_at (by omega) (gPu_eq)))))))))) rfl (gDec_at D_X3_init 18 rfl) ?_
  refine gy_iload_n C 0 (gDec_at D_X3_init 19 rfl) rfl rfl ?_
  refine gy_new C Cy (fs := [.null, .null, .null, .null, .null, .int 0, .int 0, .int 0]) (ci := 8) rfl in_X3_init_X8 tyX8_ok nw_X3_init_9 (by intro j hj; match j, hj with | 0, _ => rfl | 1, _ => rfl | 2, _ => rfl | 3, _ => rfl | 4, _ => rfl | 5, _ => rfl | 6, _ => rfl | 7, _ => rfl | j + 8, hj => exact absurd hj (by omega)) (by decide) (by decide) (gDec_at D_X3_init 20 rfl) ?_
  refine gy_dup C (gDec_at D_X3_init 21 rfl) rfl ?_
  refine gy_callIN C Cy (m_X8_init w hT (show is_X8 w (a + 41) from is_X3_states_at (i := 3) A (by decide)) (show in_X8 hT (a + 41) from in_X3_states I 3 (by decide)) _ (gPu_eq)) rfl (by omega) gX3_init_X8_init_n24 ci_X3_init_24.1 rfl rfl rfl ci_X3_init_24.2.1 ci_X3_init_24.2.2 rfl hy_X8_init (by decide) (by decide) (by decide) (by decide) (Nat.le_of_ble_eq_true rfl) (gDec_at D_X3_init 22 rfl) ?_
  refine gy_aastoreSt C Cy (by omega) (gFin_at (by omega) (gPu_at (by omega) (gPu_eq))) (gFin_in (by omega) (is_X8_sh (show is_X8 w (a + 41) from is_X3_states_at (i := 3) A (by decide)))) (by decide) (gDec_at D_X3_init 23 rfl) ?_
  refine gy_iinc C (j := 0) (v := 4) (lv' := [(1, .int 4), (0, .ref a)]) (gDec_at D_X3_init 24 rfl) rfl (by decide) (Nat.le_of_ble_eq_true rfl) rfl ?_
  refine gy_goto C 24 (gDec_at D_X3_init 25 rfl) (by decide) ?_
  refine gy_iload_n C 0 (gDec_at D_X3_init 14 rfl) rfl rfl ?_
  refine gy_iconst C (v := 5) (gDec_at D_X3_init 15 rfl) (by decide) ?_
  refine gy_icmp_ge C 48 (gDec_at D_X3_init 16 rfl) (by decide) (fun c => absurd c (by decide)) (fun _ => ?_)
  refine gy_aload_n C 1 (gDec_at D_X3_init 17 rfl) rfl rfl ?_
  refine gy_get C Cy fl_X3_init_11 (gPu_at (by omega) (gFin_at (by omega) (gPu_at (by omega) (gPu_at (by omega) (gFin_at (by omega) (gPu_at (by omega) (gPu_at (by omega) (gFin_at (by omega) (gPu_at (by omega) (gPu_at (by omega) (gFin_at (by omega) (gPu_at (by omega) (gPu_eq))))))))))))) rfl (gDec_at D_X3_init 18 rfl) ?_
  refine gy_iload_n C 0 (gDec_at D_X3_init 19 rfl) rfl rfl ?_
  refine gy_new C Cy (fs := [.null, .null, .null, .null, .null, .int 0, .int 0, .int 0]) (ci := 8) rfl in_X3_init_X8 tyX8_ok nw_X3_init_9 (by intro j hj; match j, hj with | 0, _ => rfl | 1, _ => rfl | 2, _ => rfl | 3, _ => rfl | 4, _ => rfl | 5, _ => rfl | 6, _ => rfl | 7, _ => rfl | j + 8, hj => exact absurd hj (by omega)) (by decide) (by decide) (gDec_at D_X3_init 20 rfl) ?_
  refine gy_dup C (gDec_at D_X3_init 21 rfl) rfl ?_
  refine gy_callIN C Cy (m_X8_init w hT (show is_X8 w (a + 54) from is_X3_states_at (i := 4) A (by decide)) (show in_X8 hT (a + 54) from in_X3_states I 4 (by decide)) _ (gPu_eq)) rfl (by omega) gX3_init_X8_init_n24 ci_X3_init_24.1 rfl rfl rfl ci_X3_init_24.2.1 ci_X3_init_24.2.2 rfl hy_X8_init (by decide) (by decide) (by decide) (by decide) (Nat.le_of_ble_eq_true rfl) (gDec_at D_X3_init 22 rfl) ?_
  refine gy_aastoreSt C Cy (by omega) (gFin_at (by omega) (gPu_at (by omega) (gPu_eq))) (gFin_in (by omega) (is_X8_sh (show is_X8 w (a + 54) from is_X3_states_at (i := 4) A (by decide)))) (by decide) (gDec_at D_X3_init 23 rfl) ?_
  refine gy_iinc C (j := 0) (v := 5) (lv' := [(1, .int 5), (0, .ref a)]) (gDec_at D_X3_init 24 rfl) rfl (by decide) (Nat.le_of_ble_eq_true rfl) rfl ?_
  refine gy_goto C 24 (gDec_at D_X3_init 25 rfl) (by decide) ?_
  refine gy_iload_n C 0 (gDec_at D_X3_init 14 rfl) rfl rfl ?_
  refine gy_iconst C (v := 5) (gDec_at D_X3_init 15 rfl) (by decide) ?_
  refine gy_icmp_ge C 48 (gDec_at D_X3_init 16 rfl) (by decide) (fun _ => ?_) (fun c => absurd (by decide) c)
  refine gy_vret C E rfl (fun H0 hH q e hq => ?_) (gDec_at D_X3_init 26 rfl)
  unfold gFin at hq
  by_cases c : a ≤ q ∧ q < a + 67
  · rw [if_pos c] at hq
    by_cases c0 : q = a
    · subst c0
      rw [is_X3_sh A] at hq
      cases hq
      refine ⟨(hH _ _ (gPu_at (by omega) (gFin_at (by omega) (gPu_at (by omega) (gPu_at (by omega) (gFin_at (by omega) (gPu_at (by omega) (gPu_at (by omega) (gFin_at (by omega) (gPu_at (by omega) (gPu_at (by omega) (gFin_at (by omega) (gPu_at (by omega) (gPu_at (by omega) (gFin_at (by omega) (gPu_at (by omega) (gPu_eq))))))))))))))))).1, ?_⟩
      have h9 := (hH _ _ (gPu_at (by omega) (gFin_at (by omega) (gPu_at (by omega) (gPu_at (by omega) (gFin_at (by omega) (gPu_at (by omega) (gPu_at (by omega) (gFin_at (by omega) (gPu_at (by omega) (gPu_at (by omega) (gFin_at (by omega) (gPu_at (by omega) (gPu_at (by omega) (gFin_at (by omega) (gPu_at (by omega) (gPu_eq))))))))))))))))).2
      simp only [gE, gVs, gV, in_X3_oldest I, in_X3_size I]
      exact h9
    by_cases c1 : q = a + 1
    · subst c1
      rw [is_X3_states A] at hq
      cases hq
      refine ⟨(hH _ _ (gPu_eq)).1, ?_⟩
      have h9 := (hH _ _ (gPu_eq)).2
      refine gAt_refs (t := 5) rfl h9 (fun j hj => ?_)
      match j, hj with
      | 0, _ => rfl
      | 1, _ => rfl
      | 2, _ => rfl
      | 3, _ => rfl
      | 4, _ => rfl
      | j + 5, hj => exact absurd hj (by omega)
    by_cases c2 : a + 2 ≤ q ∧ q < a + 15
    · exact hH q e (gPu_at (by omega) (gFin_at (by omega) (gPu_at (by omega) (gPu_at (by omega) (gFin_at (by omega) (gPu_at (by omega) (gPu_at (by omega) (gFin_at (by omega) (gPu_at (by omega) (gPu_at (by omega) (gFin_at (by omega) (gPu_at (by omega) (gPu_at (by omega) (gFin_is c2 hq))))))))))))))
    by_cases c15 : a + 15 ≤ q ∧ q < a + 28
    · exact hH q e (gPu_at (by omega) (gFin_at (by omega) (gPu_at (by omega) (gPu_at (by omega) (gFin_at (by omega) (gPu_at (by omega) (gPu_at (by omega) (gFin_at (by omega) (gPu_at (by omega) (gPu_at (by omega) (gFin_is c15 hq)))))))))))
    by_cases c28 : a + 28 ≤ q ∧ q < a + 41
    · exact hH q e (gPu_at (by omega) (gFin_at (by omega) (gPu_at (by omega) (gPu_at (by omega) (gFin_at (by omega) (gPu_at (by omega) (gPu_at (by omega) (gFin_is c28 hq))))))))
    by_cases c41 : a + 41 ≤ q ∧ q < a + 54
    · exact hH q e (gPu_at (by omega) (gFin_at (by omega) (gPu_at (by omega) (gPu_at (by omega) (gFin_is c41 hq)))))
    by_cases c54 : a + 54 ≤ q ∧ q < a + 67
    · exact hH q e (gPu_at (by omega) (gFin_is c54 hq))
    exact absurd c (by omega)
  · rw [if_neg c] at hq
    exact hH q e (gPu_at (by omega) (gFin_at (by omega) (gPu_at (by omega) (gPu_at (by omega) (gFin_at (by omega) (gPu_at (by omega) (gPu_at (by omega) (gFin_at (by omega) (gPu_at (by omega) (gPu_at (by omega) (gFin_at (by omega) (gPu_at (by omega) (gPu_at (by omega) (gFin_at (by omega) (gPu_at (by omega) (gPu_at (by omega) (gPu_at (by omega) (gPu_at (by omega) (gPu_at (by omega) (hq))))))))))))))))))))
/-! the constructor of LadderBench$NetworkReader -/
def rm_X6_init : Room := { frames := 1, cells := 2, slots := 82, locals := 20 }
theorem hy_X6_init : yX6_init.cls ≠ "java/lang/invoke/MethodHandle" ∧ yX6_init.cls ≠ "java/lang/invoke/VarHandle" ∧ (parseMethodDescriptor yX6_init.desc).map (fun d => d.parameters.length) = some 0 := by decide +kernel
set_option maxRecDepth 100000 in
theorem D_X6_init : gDec cX6_init [(0, (.aload_n 0, 1)), (1, (.invokespecial 3, 3)), (4, (.aload_n 0, 1)), (5, (.bipush 41, 2)), (7, (.newarray .int, 2)), (9, (.putfield 9, 3)), (12, (.aload_n 0, 1)), (13, (.bipush 41, 2)), (15, (.newarray .int, 2)), (17, (.putfield 15, 3)), (20, (.aload_n 0, 1)), (21, (.iconst 0, 1)), (22, (.putfield 18, 3)), (25, (.return_, 1))] = true := by decide +kernel
set_option maxRecDepth 100000 in
theorem in_X6_init_X6 : ∀ x ∈ u_ws RX6 TX6 3, x ∈ wsX6_init := by decide +kernel
theorem ob_X6_init_3 : Cond.methodLink RX6 3 objectInit ∈ wsX6_init ∧ Cond.instanceMethod objectInit ∈ wsX6_init ∧ Cond.code objectInit ⟨#[0xb1]⟩ 1 none ∈ wsX6_init := by decide +kernel
theorem ac_X6_init_I : Cond.arrayClass .int ∈ wsX6_init := by decide +kernel
theorem fk_X6_init_9 : Cond.fieldLink RX6 9 (TX6 0).1 (TX6 0).2.1 (TX6 0).2.2.1 ∈ wsX6_init := by decide +kernel
theorem fk_X6_init_15 : Cond.fieldLink RX6 15 (TX6 1).1 (TX6 1).2.1 (TX6 1).2.2.1 ∈ wsX6_init := by decide +kernel
theorem fk_X6_init_18 : Cond.fieldLink RX6 18 (TX6 2).1 (TX6 2).2.1 (TX6 2).2.2.1 ∈ wsX6_init := by decide +kernel
set_option maxRecDepth 100000 in
set_option maxHeartbeats 40000000 in
theorem m_X6_init (w : gWd) (hT : gHp) {a : Nat} (A : is_X6 w a) (I : in_X6 hT a) (pic : gPic) (hp0 : pic a = some (.inr (6, [.null, .null, .int 0]))) : gMetI w hT yX6_init wsX6_init rm_X6_init a 3 2 82 pic := by
  refine gMetI_of (cc := cX6_init) (maxL := 1) (fr := 1) (lo := 20) (Rc := 2) (Rs := 82) (own := RX6) (by decide) rfl rfl rfl (by decide) (Nat.le_refl _) (Nat.le_refl _) (Nat.le_refl _) (Nat.le_refl _) (fun g C Cy hI E => ?_)
  refine gy_aload_n C 0 (gDec_at D_X6_init 0 rfl) rfl rfl ?_
  refine gy_objInit C Cy ob_X6_init_3 (by decide) (by decide) (Nat.le_of_ble_eq_true rfl) (gDec_at D_X6_init 1 rfl) ?_
  refine gy_aload_n C 0 (gDec_at D_X6_init 2 rfl) rfl rfl ?_
  refine gy_bipush C (v := 41) (gDec_at D_X6_init 3 rfl) (by decide) ?_
  refine gy_newarrI C Cy (N := 41) ac_X6_init_I (by decide) (by decide) (by decide) (by decide) (by decide) (gDec_at D_X6_init 4 rfl) ?_
  refine gy_putF C Cy hI (v := .ref (a + 1)) (ty0 := tyX6) (ty := (tyX6 0)) (i := 0) (Cn := RX6) (T := TX6) (N := 3) rfl (by decide) in_X6_init_X6 fk_X6_init_9 tyX6_ok nmX6 rfl (by decide +kernel) rfl rfl (by omega) (gPu_at (by omega) (hp0)) (Nat.le_of_ble_eq_true rfl) rfl (gDec_at D_X6_init 5 rfl) ?_
  refine gy_aload_n C 0 (gDec_at D_X6_init 6 rfl) rfl rfl ?_
  refine gy_bipush C (v := 41) (gDec_at D_X6_init 7 rfl) (by decide) ?_
  refine gy_newarrI C Cy (N := 41) ac_X6_init_I (by decide) (by decide) (by decide) (by decide) (by decide) (gDec_at D_X6_init 8 rfl) ?_
  refine gy_putF C Cy hI (v := .ref (a + 2)) (ty0 := tyX6) (ty := (tyX6 1)) (i := 1) (Cn := RX6) (T := TX6) (N := 3) rfl (by decide) in_X6_init_X6 fk_X6_init_15 tyX6_ok nmX6 rfl (by decide +kernel) rfl rfl (by omega) (gPu_at (by omega) (gPu_eq)) (Nat.le_of_ble_eq_true rfl) rfl (gDec_at D_X6_init 9 rfl) ?_
  refine gy_aload_n C 0 (gDec_at D_X6_init 10 rfl) rfl rfl ?_
  refine gy_iconst C (v := 0) (gDec_at D_X6_init 11 rfl) (by decide) ?_
  refine gy_put C Cy (v := .int 0) (ty0 := tyX6) (ty := .int) (i := 2) (Cn := RX6) (T := TX6) (N := 3) rfl (by decide) in_X6_init_X6 fk_X6_init_18 tyX6_ok nmX6 rfl (by decide +kernel) rfl rfl (by omega) (gPu_eq) (Nat.le_of_ble_eq_true rfl) (gDec_at D_X6_init 12 rfl) ?_
  refine gy_vret C E rfl (fun H0 hH q e hq => ?_) (gDec_at D_X6_init 13 rfl)
  unfold gFin at hq
  by_cases c : a ≤ q ∧ q < a + 3
  · rw [if_pos c] at hq
    by_cases c0 : q = a
    · subst c0
      rw [is_X6_sh A] at hq
      cases hq
      refine ⟨(hH _ _ (gPu_eq)).1, ?_⟩
      have h9 := (hH _ _ (gPu_eq)).2
      simp only [gE, gVs, gV, in_X6_depth I]
      exact h9
    by_cases c1 : q = a + 1
    · subst c1
      rw [is_X6_pieces A] at hq
      cases hq
      refine ⟨(hH _ _ (gPu_at (by omega) (gPu_at (by omega) (gPu_at (by omega) (gPu_at (by omega) (gPu_eq)))))).1, ?_⟩
      have h9 := (hH _ _ (gPu_at (by omega) (gPu_at (by omega) (gPu_at (by omega) (gPu_at (by omega) (gPu_eq)))))).2
      simp only [gE]
      rw [in_X6_pieces I]
      exact h9
    by_cases c2 : q = a + 2
    · subst c2
      rw [is_X6_links A] at hq
      cases hq
      refine ⟨(hH _ _ (gPu_at (by omega) (gPu_at (by omega) (gPu_eq)))).1, ?_⟩
      have h9 := (hH _ _ (gPu_at (by omega) (gPu_at (by omega) (gPu_eq)))).2
      simp only [gE]
      rw [in_X6_links I]
      exact h9
    exact absurd c (by omega)
  · rw [if_neg c] at hq
    exact hH q e (gPu_at (by omega) (gPu_at (by omega) (gPu_at (by omega) (gPu_at (by omega) (gPu_at (by omega) (hq))))))
/-! the constructor of LadderBench$Command -/
def rm_X1_init : Room := { frames := 1, cells := 0, slots := 0, locals := 20 }
theorem hy_X1_init : yX1_init.cls ≠ "java/lang/invoke/MethodHandle" ∧ yX1_init.cls ≠ "java/lang/invoke/VarHandle" ∧ (parseMethodDescriptor yX1_init.desc).map (fun d => d.parameters.length) = some 0 := by decide +kernel
set_option maxRecDepth 100000 in
theorem D_X1_init : gDec cX1_init [(0, (.aload_n 0, 1)), (1, (.invokespecial 3, 3)), (4, (.aload_n 0, 1)), (5, (.iconst (-1), 1)), (6, (.putfield 9, 3)), (9, (.aload_n 0, 1)), (10, (.iconst 0, 1)), (11, (.putfield 15, 3)), (14, (.aload_n 0, 1)), (15, (.iconst (-1), 1)), (16, (.putfield 18, 3)), (19, (.return_, 1))] = true := by decide +kernel
set_option maxRecDepth 100000 in
theorem in_X1_init_X1 : ∀ x ∈ u_ws RX1 TX1 3, x ∈ wsX1_init := by decide +kernel
theorem ob_X1_init_3 : Cond.methodLink RX1 3 objectInit ∈ wsX1_init ∧ Cond.instanceMethod objectInit ∈ wsX1_init ∧ Cond.code objectInit ⟨#[0xb1]⟩ 1 none ∈ wsX1_init := by decide +kernel
theorem fk_X1_init_9 : Cond.fieldLink RX1 9 (TX1 0).1 (TX1 0).2.1 (TX1 0).2.2.1 ∈ wsX1_init := by decide +kernel
theorem fk_X1_init_15 : Cond.fieldLink RX1 15 (TX1 1).1 (TX1 1).2.1 (TX1 1).2.2.1 ∈ wsX1_init := by decide +kernel
theorem fk_X1_init_18 : Cond.fieldLink RX1 18 (TX1 2).1 (TX1 2).2.1 (TX1 2).2.2.1 ∈ wsX1_init := by decide +kernel
set_option maxRecDepth 100000 in
set_option maxHeartbeats 40000000 in
theorem m_X1_init (w : gWd) (hT : gHp) {a : Nat} (A : is_X1 w a) (I : in_X1 hT a) (pic : gPic) (hp0 : pic a = some (.inr (1, [.int 0, .int 0, .int 0]))) : gMetI w hT yX1_init wsX1_init rm_X1_init a 1 0 0 pic := by
  refine gMetI_of (cc := cX1_init) (maxL := 1) (fr := 1) (lo := 20) (Rc := 0) (Rs := 0) (own := RX1) (by decide) rfl rfl rfl (by decide) (Nat.le_refl _) (Nat.le_refl _) (Nat.le_refl _) (Nat.le_refl _) (fun g C Cy hI E => ?_)
  refine gy_aload_n C 0 (gDec_at D_X1_init 0 rfl) rfl rfl ?_
  refine gy_objInit C Cy ob_X1_init_3 (by decide) (by decide) (Nat.le_of_ble_eq_true rfl) (gDec_at D_X1_init 1 rfl) ?_
  refine gy_aload_n C 0 (gDec_at D_X1_init 2 rfl) rfl rfl ?_
  refine gy_iconst C (v := (-1)) (gDec_at D_X1_init 3 rfl) (by decide) ?_
  refine gy_put C Cy (v := .int (-1)) (ty0 := tyX1) (ty := .int) (i := 0) (Cn := RX1) (T := TX1) (N := 3) rfl (by decide) in_X1_init_X1 fk_X1_init_9 tyX1_ok nmX1 rfl (by decide +kernel) rfl rfl (by omega) (hp0) (Nat.le_of_ble_eq_true rfl) (gDec_at D_X1_init 4 rfl) ?_
  refine gy_aload_n C 0 (gDec_at D_X1_init 5 rfl) rfl rfl ?_
  refine gy_iconst C (v := 0) (gDec_at D_X1_init 6 rfl) (by decide) ?_
  refine gy_put C Cy (v := .int 0) (ty0 := tyX1) (ty := .int) (i := 1) (Cn := RX1) (T := TX1) (N := 3) rfl (by decide) in_X1_init_X1 fk_X1_init_15 tyX1_ok nmX1 rfl (by decide +kernel) rfl rfl (by omega) (gPu_eq) (Nat.le_of_ble_eq_true rfl) (gDec_at D_X1_init 7 rfl) ?_
  refine gy_aload_n C 0 (gDec_at D_X1_init 8 rfl) rfl rfl ?_
  refine gy_iconst C (v := (-1)) (gDec_at D_X1_init 9 rfl) (by decide) ?_
  refine gy_put C Cy (v := .int (-1)) (ty0 := tyX1) (ty := .int) (i := 2) (Cn := RX1) (T := TX1) (N := 3) rfl (by decide) in_X1_init_X1 fk_X1_init_18 tyX1_ok nmX1 rfl (by decide +kernel) rfl rfl (by omega) (gPu_eq) (Nat.le_of_ble_eq_true rfl) (gDec_at D_X1_init 10 rfl) ?_
  refine gy_vret C E rfl (fun H0 hH q e hq => ?_) (gDec_at D_X1_init 11 rfl)
  unfold gFin at hq
  by_cases c : a ≤ q ∧ q < a + 1
  · rw [if_pos c] at hq
    by_cases c0 : q = a
    · subst c0
      rw [is_X1_sh A] at hq
      cases hq
      refine ⟨(hH _ _ (gPu_eq)).1, ?_⟩
      have h9 := (hH _ _ (gPu_eq)).2
      simp only [gE, gVs, gV, in_X1_action I, in_X1_number I, in_X1_letter I]
      exact h9
    exact absurd c (by omega)
  · rw [if_neg c] at hq
    exact hH q e (gPu_at (by omega) (gPu_at (by omega) (gPu_at (by omega) (hq))))
/-! the constructor of LadderBench$Circuit -/
def rm_X0_init : Room := { frames := 2, cells := 27, slots := 72, locals := 40 }
set_option maxRecDepth 20000 in
theorem ggX0_init_X2_init : GoodIn wsX0_init wsX2_init := goodIn_r _ [13, 14, 2, 3, 15, 16, 22, 23] (by decide +kernel) (by decide +kernel)
set_option maxRecDepth 20000 in
theorem gX0_init_X2_init_n20 : GoodIn wsX0_init (wsX2_init) := ggX0_init_X2_init
theorem hy_X0_init : yX0_init.cls ≠ "java/lang/invoke/MethodHandle" ∧ yX0_init.cls ≠ "java/lang/invoke/VarHandle" ∧ (parseMethodDescriptor yX0_init.desc).map (fun d => d.parameters.length) = some 0 := by decide +kernel
set_option maxRecDepth 100000 in
theorem D_X0_init : gDec cX0_init [(0, (.aload_n 0, 1)), (1, (.invokespecial 3, 3)), (4, (.aload_n 0, 1)), (5, (.bipush 11, 2)), (7, (.anewarray 9, 3)), (10, (.putfield 11, 3)), (13, (.aload_n 0, 1)), (14, (.bipush 11, 2)), (16, (.anewarray 9, 3)), (19, (.putfield 17, 3)), (22, (.aload_n 0, 1)), (23, (.new 9, 3)), (26, (.dup, 1)), (27, (.invokespecial 20, 3)), (30, (.putfield 21, 3)), (33, (.aload_n 0, 1)), (34, (.new 9, 3)), (37, (.dup, 1)), (38, (.invokespecial 20, 3)), (41, (.putfield 25, 3)), (44, (.aload_n 0, 1)), (45, (.new 9, 3)), (48, (.dup, 1)), (49, (.invokespecial 20, 3)), (52, (.putfield 28, 3)), (55, (.iconst 0, 1)), (56, (.istore_n 1, 1)), (57, (.iload_n 1, 1)), (58, (.bipush 11, 2)), (60, (.if_icmp .ge 35, 3)), (63, (.aload_n 0, 1)), (64, (.getfield 11, 3)), (67, (.iload_n 1, 1)), (68, (.new 9, 3)), (71, (.dup, 1)), (72, (.invokespecial 20, 3)), (75, (.aastore, 1)), (76, (.aload_n 0, 1)), (77, (.getfield 17, 3)), (80, (.iload_n 1, 1)), (81, (.new 9, 3)), (84, (.dup, 1)), (85, (.invokespecial 20, 3)), (88, (.aastore, 1)), (89, (.iinc 1 1, 3)), (92, (.goto (-35), 3)), (95, (.return_, 1))] = true := by decide +kernel
set_option maxRecDepth 100000 in
theorem in_X0_init_X0 : ∀ x ∈ u_ws RX0 TX0 5, x ∈ wsX0_init := by decide +kernel
set_option maxRecDepth 100000 in
theorem in_X0_init_X2 : ∀ x ∈ u_ws RX2 TX2 2, x ∈ wsX0_init := by decide +kernel
theorem ob_X0_init_3 : Cond.methodLink RX0 3 objectInit ∈ wsX0_init ∧ Cond.instanceMethod objectInit ∈ wsX0_init ∧ Cond.code objectInit ⟨#[0xb1]⟩ 1 none ∈ wsX0_init := by decide +kernel
theorem ak_X0_init_9 : Cond.classLink RX0 9 "LadderBench$Fraction" ∈ wsX0_init := by decide +kernel
theorem fk_X0_init_11 : Cond.fieldLink RX0 11 (TX0 0).1 (TX0 0).2.1 (TX0 0).2.2.1 ∈ wsX0_init := by decide +kernel
theorem fk_X0_init_17 : Cond.fieldLink RX0 17 (TX0 1).1 (TX0 1).2.1 (TX0 1).2.2.1 ∈ wsX0_init := by decide +kernel
theorem nw_X0_init_9 : Cond.classLink RX0 9 RX2 ∈ wsX0_init ∧ Cond.instantiable RX2 2 ∈ wsX0_init ∧ Cond.initialized RX2 ∈ wsX0_init := by decide +kernel
theorem ci_X0_init_20 : Cond.methodLinkNest RX0 20 yX2_init "LadderBench" ∈ gNestL ∧ Cond.initialized yX2_init.cls ∈ wsX0_init ∧ Cond.instanceMethod yX2_init ∈ wsX0_init := by decide +kernel
theorem fk_X0_init_21 : Cond.fieldLink RX0 21 (TX0 2).1 (TX0 2).2.1 (TX0 2).2.2.1 ∈ wsX0_init := by decide +kernel
theorem fk_X0_init_25 : Cond.fieldLink RX0 25 (TX0 3).1 (TX0 3).2.1 (TX0 3).2.2.1 ∈ wsX0_init := by decide +kernel
theorem fk_X0_init_28 : Cond.fieldLink RX0 28 (TX0 4).1 (TX0 4).2.1 (TX0 4).2.2.1 ∈ wsX0_init := by decide +kernel
theorem fl_X0_init_11 : gF wsX0_init RX0 11 0 0 := ⟨RX0, TX0, 5, rfl, by decide, in_X0_init_X0, by decide +kernel⟩
theorem fl_X0_init_17 : gF wsX0_init RX0 17 0 1 := ⟨RX0, TX0, 5, rfl, by decide, in_X0_init_X0, by decide +kernel⟩
set_option maxRecDepth 100000 in
set_option maxHeartbeats 40000000 in
theorem m_X0_init (w : gWd) (hT : gHp) {a : Nat} (A : is_X0 w a) (I : in_X0 hT a) (pic : gPic) (hp0 : pic a = some (.inr (0, [.null, .null, .null, .null, .null]))) : gMetI w hT yX0_init wsX0_init rm_X0_init a 28 27 72 pic := by
  refine gMetI_of (cc := cX0_init) (maxL := 2) (fr := 2) (lo := 40) (Rc := 27) (Rs := 72) (own := RX0) (by decide) rfl rfl rfl (by decide) (Nat.le_refl _) (Nat.le_refl _) (Nat.le_refl _) (Nat.le_refl _) (fun g C Cy hI E => ?_)
  refine gy_aload_n C 0 (gDec_at D_X0_init 0 rfl) rfl rfl ?_
  refine gy_objInit C Cy ob_X0_init_3 (by decide) (by decide) (Nat.le_of_ble_eq_true rfl) (gDec_at D_X0_init 1 rfl) ?_
  refine gy_aload_n C 0 (gDec_at D_X0_init 2 rfl) rfl rfl ?_
  refine gy_bipush C (v := 11) (gDec_at D_X0_init 3 rfl) (by decide) ?_
  refine gy_anewFr C Cy (N := 11) ak_X0_init_9 (by decide) (by decide) (by decide) (by decide) (by decide) (gDec_at D_X0_init 4 rfl) ?_
  refine gy_putF C Cy hI (v := .ref (a + 1)) (ty0 := tyX0) (ty := (tyX0 0)) (i := 0) (Cn := RX0) (T := TX0) (N := 5) rfl (by decide) in_X0_init_X0 fk_X0_init_11 tyX0_ok nmX0 rfl (by decide +kernel) rfl rfl (by omega) (gPu_at (by omega) (hp0)) (Nat.le_of_ble_eq_true rfl) rfl (gDec_at D_X0_init 5 rfl) ?_
  refine gy_aload_n C 0 (gDec_at D_X0_init 6 rfl) rfl rfl ?_
  refine gy_bipush C (v := 11) (gDec_at D_X0_init 7 rfl) (by decide) ?_
  refine gy_anewFr C Cy (N := 11) ak_X0_init_9 (by decide) (by decide) (by decide) (by decide) (by decide) (gDec_at D_X0_init 8 rfl) ?_
  refine gy_putF C Cy hI (v := .ref (a + 2)) (ty0 := tyX0) (ty := (tyX0 1)) (i := 1) (Cn := RX0) (T := TX0) (N := 5) rfl (by decide) in_X0_init_X0 fk_X0_init_17 tyX0_ok nmX0 rfl (by decide +kernel) rfl rfl (by omega) (gPu_at (by omega) (gPu_eq)) (Nat.le_of_ble_eq_true rfl) rfl (gDec_at D_X0_init 9 rfl) ?_
  refine gy_aload_n C 0 (gDec_at D_X0_init 10 rfl) rfl rfl ?_
  refine gy_new C Cy (fs := [.long 0, .long 0]) (ci := 2) rfl in_X0_init_X2 tyX2_ok nw_X0_init_9 (by intro j hj; match j, hj with | 0, _ => rfl | 1, _ => rfl | j + 2, hj => exact absurd hj (by omega)) (by decide) (by decide) (gDec_at D_X0_init 11 rfl) ?_
  refine gy_dup C (gDec_at D_X0_init 12 rfl) rfl ?_
  refine gy_callIN C Cy (m_X2_init w hT (is_X0_sum A) (in_X0_sum I) _ (gPu_eq)) rfl (by omega) gX0_init_X2_init_n20 ci_X0_init_20.1 rfl rfl rfl ci_X0_init_20.2.1 ci_X0_init_20.2.2 rfl hy_X2_init (by decide) (by decide) (by decide) (by decide) (Nat.le_of_ble_eq_true rfl) (gDec_at D_X0_init 13 rfl) ?_
  refine gy_putF C Cy hI (v := .ref (a + 3)) (ty0 := tyX0) (ty := (tyX0 2)) (i := 2) (Cn := RX0) (T := TX0) (N := 5) rfl (by decide) in_X0_init_X0 fk_X0_init_21 tyX0_ok nmX0 rfl (by decide +kernel) rfl rfl (by omega) (gFin_at (by omega) (gPu_at (by omega) (gPu_eq))) (Nat.le_of_ble_eq_true rfl) rfl (gDec_at D_X0_init 14 rfl) ?_
  refine gy_aload_n C 0 (gDec_at D_X0_init 15 rfl) rfl rfl ?_
  refine gy_new C Cy (fs := [.long 0, .long 0]) (ci := 2) rfl in_X0_init_X2 tyX2_ok nw_X0_init_9 (by intro j hj; match j, hj with | 0, _ => rfl | 1, _ => rfl | j + 2, hj => exact absurd hj (by omega)) (by decide) (by decide) (gDec_at D_X0_init 16 rfl) ?_
  refine gy_dup C (gDec_at D_X0_init 17 rfl) rfl ?_
  refine gy_callIN C Cy (m_X2_init w hT (is_X0_share A) (in_X0_share I) _ (gPu_eq)) rfl (by omega) gX0_init_X2_init_n20 ci_X0_init_20.1 rfl rfl rfl ci_X0_init_20.2.1 ci_X0_init_20.2.2 rfl hy_X2_init (by decide) (by decide) (by decide) (by decide) (Nat.le_of_ble_eq_true rfl) (gDec_at D_X0_init 18 rfl) ?_
  refine gy_putF C Cy hI (v := .ref (a + 4)) (ty0 := tyX0) (ty := (tyX0 3)) (i := 3) (Cn := RX0) (T := TX0) (N := 5) rfl (by decide) in_X0_init_X0 fk_X0_init_25 tyX0_ok nmX0 rfl (by decide +kernel) rfl rfl (by omega) (gFin_at (by omega) (gPu_at (by omega) (gPu_eq))) (Nat.le_of_ble_eq_true rfl) rfl (gDec_at D_X0_init 19 rfl) ?_
  refine gy_aload_n C 0 (gDec_at D_X0_init 20 rfl) rfl rfl ?_
  refine gy_new C Cy (fs := [.long 0, .long 0]) (ci := 2) rfl in_X0_init_X2 tyX2_ok nw_X0_init_9 (by intro j hj; match j, hj with | 0, _ => rfl | 1, _ => rfl | j + 2, hj => exact absurd hj (by omega)) (by decide) (by decide) (gDec_at D_X0_init 21 rfl) ?_
  refine gy_dup C (gDec_at D_X0_init 22 rfl) rfl ?_
  refine gy_callIN C Cy (m_X2_init w hT (is_X0_unloaded A) (in_X0_unloaded I) _ (gPu_eq)) rfl (by omega) gX0_init_X2_init_n20 ci_X0_init_20.1 rfl rfl rfl ci_X0_init_20.2.1 ci_X0_init_20.2.2 rfl hy_X2_init (by decide) (by decide) (by decide) (by decide) (Nat.le_of_ble_eq_true rfl) (gDec_at D_X0_init 23 rfl) ?_
  refine gy_putF C Cy hI (v := .ref (a + 5)) (ty0 := tyX0) (ty := (tyX0 4)) (i := 4) (Cn := RX0) (T := TX0) (N := 5) rfl (by decide) in_X0_init_X0 fk_X0_init_28 tyX0_ok nmX0 rfl (by decide +kernel) rfl rfl (by omega) (gFin_at (by omega) (gPu_at (by omega) (gPu_eq))) (Nat.le_of_ble_eq_true rfl) rfl (gDec_at D_X0_init 24 rfl) ?_
  refine gy_iconst C (v := 0) (gDec_at D_X0_init 25 rfl) (by decide) ?_
  refine gy_istore_n C (lv' := [(1, .int 0), (0, .ref a)]) (gDec_at D_X0_init 26 rfl) rfl (Nat.le_of_ble_eq_true rfl) rfl ?_
  refine gy_iload_n C 0 (gDec_at D_X0_init 27 rfl) rfl rfl ?_
  refine gy_bipush C (v := 11) (gDec_at D_X0_init 28 rfl) (by decide) ?_
  refine gy_icmp_ge C 95 (gDec_at D_X0_init 29 rfl) (by decide) (fun c => absurd c (by decide)) (fun _ => ?_)
  refine gy_aload_n C 1 (gDec_at D_X0_init 30 rfl) rfl rfl ?_
  refine gy_get C Cy fl_X0_init_11 (gPu_eq) rfl (gDec_at D_X0_init 31 rfl) ?_
  refine gy_iload_n C 0 (gDec_at D_X0_init 32 rfl) rfl rfl ?_
  refine gy_new C Cy (fs := [.long 0, .long 0]) (ci := 2) rfl in_X0_init_X2 tyX2_ok nw_X0_init_9 (by intro j hj; match j, hj with | 0, _ => rfl | 1, _ => rfl | j + 2, hj => exact absurd hj (by omega)) (by decide) (by decide) (gDec_at D_X0_init 33 rfl) ?_
  refine gy_dup C (gDec_at D_X0_init 34 rfl) rfl ?_
  refine gy_callIN C Cy (m_X2_init w hT (show is_X2 w (a + 6) from is_X0_ohms_at (i := 0) A (by decide)) (show in_X2 hT (a + 6) from in_X0_ohms I 0 (by decide)) _ (gPu_eq)) rfl (by omega) gX0_init_X2_init_n20 ci_X0_init_20.1 rfl rfl rfl ci_X0_init_20.2.1 ci_X0_init_20.2.2 rfl hy_X2_init (by decide) (by decide) (by decide) (by decide) (Nat.le_of_ble_eq_true rfl) (gDec_at D_X0_init 35 rfl) ?_
  refine gy_aastoreFr C Cy (by omega) (gFin_at (by omega) (gPu_at (by omega) (gPu_at (by omega) (gFin_at (by omega) (gPu_at (by omega) (gPu_at (by omega) (gFin_at (by omega) (gPu_at (by omega) (gPu_at (by omega) (gFin_at (by omega) (gPu_at (by omega) (gPu_at (by omega) (gPu_at (by omega) (gPu_at (by omega) (gPu_eq))))))))))))))) (gFin_in (by omega) (is_X2_sh (show is_X2 w (a + 6) from is_X0_ohms_at (i := 0) A (by decide)))) (by decide) (gDec_at D_X0_init 36 rfl) ?_
  refine gy_aload_n C 1 (gDec_at D_X0_init 37 rfl) rfl rfl ?_
  refine gy_get C Cy fl_X0_init_17 (gPu_at (by omega) (gFin_at (by omega) (gPu_at (by omega) (gPu_eq)))) rfl (gDec_at D_X0_init 38 rfl) ?_
  refine gy_iload_n C 0 (gDec_at D_X0_init 39 rfl) rfl rfl ?_
  refine gy_new C Cy (fs := [.long 0, .long 0]) (ci := 2) rfl in_X0_init_X2 tyX2_ok nw_X0_init_9 (by intro j hj; match j, hj with | 0, _ => rfl | 1, _ => rfl | j + 2, hj => exact absurd hj (by omega)) (by decide) (by decide) (gDec_at D_X0_init 40 rfl) ?_
  refine gy_dup C (gDec_at D_X0_init 41 rfl) rfl ?_
  refine gy_callIN C Cy (m_X2_init w hT (show is_X2 w (a + 7) from is_X0_volts_at (i := 0) A (by decide)) (show in_X2 hT (a + 7) from in_X0_volts I 0 (by decide)) _ (gPu_eq)) rfl (by omega) gX0_init_X2_init_n20 ci_X0_init_20.1 rfl rfl rfl ci_X0_init_20.2.1 ci_X0_init_20.2.2 rfl hy_X2_init (by decide) (by decide) (by decide) (by decide) (Nat.le_of_ble_eq_true rfl) (gDec_at D_X0_init 42 rfl) ?_
  refine gy_aastoreFr C Cy (by omega) (gFin_at (by omega) (gPu_at (by omega) (gPu_at (by omega) (gFin_at (by omega) (gPu_at (by omega) (gPu_at (by omega) (gFin_at (by omega) (gPu_at (by omega) (gPu_at (by omega) (gFin_at (by omega) (gPu_at (by omega) (gPu_at (by omega) (gFin_at (by omega) (gPu_at (by omega) (gPu_at (by omega) (gPu_eq)))))))))))))))) (gFin_in (by omega) (is_X2_sh (show is_X2 w (a + 7) from is_X0_volts_at (i := 0) A (by decide)))) (by decide) (gDec_at D_X0_init 43 rfl) ?_
  refine gy_iinc C (j := 0) (v := 1) (lv' := [(1, .int 1), (0, .ref a)]) (gDec_at D_X0_init 44 rfl) rfl (by decide) (Nat.le_of_ble_eq_true rfl) rfl ?_
  refine gy_goto C 57 (gDec_at D_X0_init 45 rfl) (by decide) ?_
  refine gy_iload_n C 0 (gDec_at D_X0_init 27 rfl) rfl rfl ?_
  refine gy_bipush C (v := 11) (gDec_at D_X0_init 28 rfl) (by decide) ?_
  refine gy_icmp_ge C 95 (gDec_at D_X0_init 29 rfl) (by decide) (fun c => absurd c (by decide)) (fun _ => ?_)
  refine gy_aload_n C 1 (gDec_at D_X0_init 30 rfl) rfl rfl ?_
  refine gy_get C Cy fl_X0_init_11 (gPu_at (by omega) (gFin_at (by omega) (gPu_at (by omega) (gPu_at (by omega) (gFin_at (by omega) (gPu_at (by omega) (gPu_eq))))))) rfl (gDec_at D_X0_init 31 rfl) ?_
  refine gy_iload_n C 0 (gDec_at D_X0_init 32 rfl) rfl rfl ?_
  refine gy_new C Cy (fs := [.long 0, .long 0]) (ci := 2) rfl in_X0_init_X2 tyX2_ok nw_X0_init_9 (by intro j hj; match j, hj with | 0, _ => rfl | 1, _ => rfl | j + 2, hj => exact absurd hj (by omega)) (by decide) (by decide) (gDec_at D_X0_init 33 rfl) ?_
  refine gy_dup C (gDec_at D_X0_init 34 rfl) rfl ?_
  refine gy_callIN C Cy (m_X2_init w hT (show is_X2 w (a + 8) from is_X0_ohms_at (i := 1) A (by decide)) (show in_X2 hT (a + 8) from in_X0_ohms I 1 (by decide)) _ (gPu_eq)) rfl (by omega) gX0_init_X2_init_n20 ci_X0_init_20.1 rfl rfl rfl ci_X0_init_20.2.1 ci_X0_init_20.2.2 rfl hy_X2_init (by decide) (by decide) (by decide) (by decide) (Nat.le_of_ble_eq_true rfl) (gDec_at D_X0_init 35 rfl) ?_
  refine gy_aastoreFr C Cy (by omega) (gFin_at (by omega) (gPu_at (by omega) (gPu_at (by omega) (gFin_at (by omega) (gPu_at (by omega) (gPu_eq)))))) (gFin_in (by omega) (is_X2_sh (show is_X2 w (a + 8) from is_X0_ohms_at (i := 1) A (by decide)))) (by decide) (gDec_at D_X0_init 36 rfl) ?_
  refine gy_aload_n C 1 (gDec_at D_X0_init 37 rfl) rfl rfl ?_
  refine gy_get C Cy fl_X0_init_17 (gPu_at (by omega) (gFin_at (by omega) (gPu_at (by omega) (gPu_at (by omega) (gFin_at (by omega) (gPu_at (by omega) (gPu_at (by omega) (gFin_at (by omega) (gPu_at (by omega) (gPu_eq)))))))))) rfl (gDec_at D_X0_init 38 rfl) ?_
  refine gy_iload_n C 0 (gDec_at D_X0_init 39 rfl) rfl rfl ?_
  refine gy_new C Cy (fs := [.long 0, .long 0]) (ci := 2) rfl in_X0_init_X2 tyX2_ok nw_X0_init_9 (by intro j hj; match j, hj with | 0, _ => rfl | 1, _ => rfl | j + 2, hj => exact absurd hj (by omega)) (by decide) (by decide) (gDec_at D_X0_init 40 rfl) ?_
  refine gy_dup C (gDec_at D_X0_init 41 rfl) rfl ?_
  refine gy_callIN C Cy (m_X2_init w hT (show is_X2 w (a + 9) from is_X0_volts_at (i := 1) A (by decide)) (show in_X2 hT (a + 9) from in_X0_volts I 1 (by decide)) _ (gPu_eq)) rfl (by omega) gX0_init_X2_init_n20 ci_X0_init_20.1 rfl rfl rfl ci_X0_init_20.2.1 ci_X0_init_20.2.2 rfl hy_X2_init (by decide) (by decide) (by decide) (by decide) (Nat.le_of_ble_eq_true rfl) (gDec_at D_X0_init 42 rfl) ?_
  refine gy_aastoreFr C Cy (by omega) (gFin_at (by omega) (gPu_at (by omega) (gPu_at (by omega) (gFin_at (by omega) (gPu_at (by omega) (gPu_eq)))))) (gFin_in (by omega) (is_X2_sh (show is_X2 w (a + 9) from is_X0_volts_at (i := 1) A (by decide)))) (by decide) (gDec_at D_X0_init 43 rfl) ?_
  refine gy_iinc C (j := 0) (v := 2) (lv' := [(1, .int 2), (0, .ref a)]) (gDec_at D_X0_init 44 rfl) rfl (by decide) (Nat.le_of_ble_eq_true rfl) rfl ?_
  refine gy_goto C 57 (gDec_at D_X0_init 45 rfl) (by decide) ?_
  refine gy_iload_n C 0 (gDec_at D_X0_init 27 rfl) rfl rfl ?_
  refine gy_bipush C (v := 11) (gDec_at D_X0_init 28 rfl) (by decide) ?_
  refine gy_icmp_ge C 95 (gDec_at D_X0_init 29 rfl) (by decide) (fun c => absurd c (by decide)) (fun _ => ?_)
  refine gy_aload_n C 1 (gDec_at D_X0_init 30 rfl) rfl rfl ?_
  refine gy_get C Cy fl_X0_init_11 (gPu_at (by omega) (gFin_at (by omega) (gPu_at (by omega) (gPu_at (by omega) (gFin_at (by omega) (gPu_at (by omega) (gPu_at (by omega) (gFin_at (by omega) (gPu_at (by omega) (gPu_at (by omega) (gFin_at (by omega) (gPu_at (by omega) (gPu_eq))))))))))))) rfl (gDec_at D_X0_init 31 rfl) ?_
  refine gy_iload_n C 0 (gDec_at D_X0_init 32 rfl) rfl rfl ?_
  refine gy_new C Cy (fs := [.long 0, .long 0]) (ci := 2) rfl in_X0_init_X2 tyX2_ok nw_X0_init_9 (by intro j hj; match j, hj with | 0, _ => rfl | 1, _ => rfl | j + 2, hj => exact absurd hj (by omega)) (by decide) (by decide) (gDec_at D_X0_init 33 rfl) ?_
  refine gy_dup C (gDec_at D_X0_init 34 rfl) rfl ?_
  refine gy_callIN C Cy (m_X2_init w hT (show is_X2 w (a + 10) from is_X0_ohms_at (i := 2) A (by decide)) (show in_X2 hT (a + 10) from in_X0_ohms I 2 (by decide)) _ (gPu_eq)) rfl (by omega) gX0_init_X2_init_n20 ci_X0_init_20.1 rfl rfl rfl ci_X0_init_20.2.1 ci_X0_init_20.2.2 rfl hy_X2_init (by decide) (by decide) (by decide) (by decide) (Nat.le_of_ble_eq_true rfl) (gDec_at D_X0_init 35 rfl) ?_
  refine gy_aastoreFr C Cy (by omega) (gFin_at (by omega) (gPu_at (by omega) (gPu_at (by omega) (gFin_at (by omega) (gPu_at (by omega) (gPu_eq)))))) (gFin_in (by omega) (is_X2_sh (show is_X2 w (a + 10) from is_X0_ohms_at (i := 2) A (by decide)))) (by decide) (gDec_at D_X0_init 36 rfl) ?_
  refine gy_aload_n C 1 (gDec_at D_X0_init 37 rfl) rfl rfl ?_
  refine gy_get C Cy fl_X0_init_17 (gPu_at (by omega) (gFin_at (by omega) (gPu_at (by omega) (gPu_at (by omega) (gFin_at (by omega) (gPu_at (by omega) (gPu_at (by omega) (gFin_at (by omega) (gPu_at (by omega) (gPu_at (by omega) (gFin_at (by omega) (gPu_at (by omega) (gPu_at (by omega) (gFin_at (by omega) (gPu_at (by omega) (gPu_eq)))))))))))))))) rfl (gDec_at D_X0_init 38 rfl) ?_
  refine gy_iload_n C 0 (gDec_at D_X0_init 39 rfl) rfl rfl ?_
  refine gy_new C Cy (fs := [.long 0, .long 0]) (ci := 2) rfl in_X0_init_X2 tyX2_ok nw_X0_init_9 (by intro j hj; match j, hj with | 0, _ => rfl | 1, _ => rfl | j + 2, hj => exact absurd hj (by omega)) (by decide) (by decide) (gDec_at D_X0_init 40 rfl) ?_
  refine gy_dup C (gDec_at D_X0_init 41 rfl) rfl ?_
  refine gy_callIN C Cy (m_X2_init w hT (show is_X2 w (a + 11) from is_X0_volts_at (i := 2) A (by decide)) (show in_X2 hT (a + 11) from in_X0_volts I 2 (by decide)) _ (gPu_eq)) rfl (by omega) gX0_init_X2_init_n20 ci_X0_init_20.1 rfl rfl rfl ci_X0_init_20.2.1 ci_X0_init_20.2.2 rfl hy_X2_init (by decide) (by decide) (by decide) (by decide) (Nat.le_of_ble_eq_true rfl) (gDec_at D_X0_init 42 rfl) ?_
  refine gy_aastoreFr C Cy (by omega) (gFin_at (by omega) (gPu_at (by omega) (gPu_at (by omega) (gFin_at (by omega) (gPu_at (by omega) (gPu_eq)))))) (gFin_in (by omega) (is_X2_sh (show is_X2 w (a + 11) from is_X0_volts_at (i := 2) A (by decide)))) (by decide) (gDec_at D_X0_init 43 rfl) ?_
  refine gy_iinc C (j := 0) (v := 3) (lv' := [(1, .int 3), (0, .ref a)]) (gDec_at D_X0_init 44 rfl) rfl (by decide) (Nat.le_of_ble_eq_true rfl) rfl ?_
  refine gy_goto C 57 (gDec_at D_X0_init 45 rfl) (by decide) ?_
  refine gy_iload_n C 0 (gDec_at D_X0_init 27 rfl) rfl rfl ?_
  refine gy_bipush C (v := 11) (gDec_at D_X0_init 28 rfl) (by decide) ?_
  refine gy_icmp_ge C 95 (gDec_at D_X0_init 29 rfl) (by decide) (fun c => absurd c (by decide)) (fun _ => ?_)
  refine gy_aload_n C 1 (gDec_at D_X0_init 30 rfl) rfl rfl ?_
  refine gy_get C Cy fl_X0_init_11 (gPu_at (by omega) (gFin_at (by omega) (gPu_at (by omega) (gPu_at (by omega) (gFin_at (by omega) (gPu_at (by omega) (gPu_at (by omega) (gFin_at (by omega) (gPu_at (by omega) (gPu_at (by omega) (gFin_at (by omega) (gPu_at (by omega) (gPu_at (by omega) (gFin_at (by omega) (gPu_at (by omega) (gPu_at (by omega) (gFin_at (by omega) (gPu_at (by omega) (gPu_eq))))))))))))))))))) rfl (gDec_at D_X0_init 31 rfl) ?_
  refine gy_iload_n C 0 (gDec_at D_X0_init 32 rfl) rfl rfl ?_
  refine gy_new C Cy (fs := [.long 0, .long 0]) (ci := 2) rfl in_X0_init_X2 tyX2_ok nw_X0_init_9 (by intro j hj; match j, hj with | 0, _ => rfl | 1, _ => rfl | j + 2, hj => exact absurd hj (by omega)) (by decide) (by decide) (gDec_at D_X0_init 33 rfl) ?_
  refine gy_dup C (gDec_at D_X0_init 34 rfl) rfl ?_
  refine gy_callIN C Cy (m_X2_init w hT (show is_X2 w (a + 12) from is_X0_ohms_at (i := 3) A (by decide)) (show in_X2 hT (a + 12) from in_X0_ohms I 3 (by decide)) _ (gPu_eq)) rfl (by omega) gX0_init_X2_init_n20 ci_X0_init_20.1 rfl rfl rfl ci_X0_init_20.2.1 ci_X0_init_20.2.2 rfl hy_X2_init (by decide) (by decide) (by decide) (by decide) (Nat.le_of_ble_eq_true rfl) (gDec_at D_X0_init 35 rfl) ?_
  refine gy_aastoreFr C Cy (by omega) (gFin_at (by omega) (gPu_at (by omega) (gPu_at (by omega) (gFin_at (by omega) (gPu_at (by omega) (gPu_eq)))))) (gFin_in (by omega) (is_X2_sh (show is_X2 w (a + 12) from is_X0_ohms_at (i := 3) A (by decide)))) (by decide) (gDec_at D_X0_init 36 rfl) ?_
  refine gy_aload_n C 1 (gDec_at D_X0_init 37 rfl) rfl rfl ?_
  refine gy_get C Cy fl_X0_init_17 (gPu_at (by omega) (gFin_at (by omega) (gPu_at (by omega) (gPu_at (by omega) (gFin_at (by omega) (gPu_at (by omega) (gPu_at (by omega) (gFin_at (by omega) (gPu_at (by omega) (gPu_at (by omega) (gFin_at (by omega) (gPu_at (by omega) (gPu_at (by omega) (gFin_at (by omega) (gPu_at (by omega) (gPu_at (by omega) (gFin_at (by omega) (gPu_at (by omega) (gPu_at (by omega) (gFin_at (by omega) (gPu_at (by omega) (gPu_eq)))))))))))))))))))))) rfl (gDec_at D_X0_init 38 rfl) ?_
  refine gy_iload_n C 0 (gDec_at D_X0_init 39 rfl) rfl rfl ?_
  refine gy_new C Cy (fs := [.long 0, .long 0]) (ci := 2) rfl in_X0_init_X2 tyX2_ok nw_X0_init_9 (by intro j hj; match j, hj with | 0, _ => rfl | 1, _ => rfl | j + 2, hj => exact absurd hj (by omega)) (by decide) (by decide) (gDec_at D_X0_init 40 rfl) ?_
  refine gy_dup C (gDec_at D_X0_init 41 rfl) rfl ?_
  refine gy_callIN C Cy (m_X2_init w hT (show is_X2 w (a + 13) from is_X0_volts_at (i := 3) A (by decide)) (show in_X2 hT (a + 13) from in_X0_volts I 3 (by decide)) _ (gPu_eq)) rfl (by omega) gX0_init_X2_init_n20 ci_X0_init_20.1 rfl rfl rfl ci_X0_init_20.2.1 ci_X0_init_20.2.2 rfl hy_X2_init (by decide) (by decide) (by decide) (by decide) (Nat.le_of_ble_eq_true rfl) (gDec_at D_X0_init 42 rfl) ?_
  refine gy_aastoreFr C Cy (by omega) (gFin_at (by omega) (gPu_at (by omega) (gPu_at (by omega) (gFin_at (by omega) (gPu_at (by omega) (gPu_eq)))))) (gFin_in (by omega) (is_X2_sh (show is_X2 w (a + 13) from is_X0_volts_at (i := 3) A (by decide)))) (by decide) (gDec_at D_X0_init 43 rfl) ?_
  refine gy_iinc C (j := 0) (v := 4) (lv' := [(1, .int 4), (0, .ref a)]) (gDec_at D_X0_init 44 rfl) rfl (by decide) (Nat.le_of_ble_eq_true rfl) rfl ?_
  refine gy_goto C 57 (gDec_at D_X0_init 45 rfl) (by decide) ?_
  refine gy_iload_n C 0 (gDec_at D_X0_init 27 rfl) rfl rfl ?_
  refine gy_bipush C (v := 11) (gDec_at D_X0_init 28 rfl) (by decide) ?_
  refine gy_icmp_ge C 95 (gDec_at D_X0_init 29 rfl) (by decide) (fun c => absurd c (by decide)) (fun _ => ?_)
  refine gy_aload_n C 1 (gDec_at D_X0_init 30 rfl) rfl rfl ?_
  refine gy_get C Cy fl_X0_init_11 (gPu_at (by omega) (gFin_at (by omega) (gPu_at (by omega) (gPu_at (by omega) (gFin_at (by omega) (gPu_at (by omega) (gPu_at (by omega) (gFin_at (by omega) (gPu_at (by omega) (gPu_at (by omega) (gFin_at (by omega) (gPu_at (by omega) (gPu_at (by omega) (gFin_at (by omega) (gPu_at (by omega) (gPu_at (by omega) (gFin_at (by omega) (gPu_at (by omega) (gPu_at (by omega) (gFin_at (by omega) (gPu_at (by omega) (gPu_at (by omega) (gFin_at (by omega) (gPu_at (by omega) (gPu_eq))))))))))))))))))))))))) rfl (gDec_at D_X0_init 31 rfl) ?_
  refine gy_iload_n C 0 (gDec_at D_X0_init 32 rfl) rfl rfl ?_
  refine gy_new C Cy (fs := [.long 0, .long 0]) (ci := 2) rfl in_X0_init_X2 tyX2_ok nw_X0_init_9 (by intro j hj; match j, hj with | 0, _ => rfl | 1, _ => rfl | j + 2, hj => exact absurd hj (by omega)) (by decide) (by decide) (gDec_at D_X0_init 33 rfl) ?_
  refine gy_dup C (gDec_at D_X0_init 34 rfl) rfl ?_
  refine gy_callIN C Cy (m_X2_init w hT (show is_X2 w (a + 14) from is_X0_ohms_at (i := 4) A (by decide)) (show in_X2 hT (a + 14) from in_X0_ohms I 4 (by decide)) _ (gPu_eq)) rfl (by omega) gX0_init_X2_init_n20 ci_X0_init_20.1 rfl rfl rfl ci_X0_init_20.2.1 ci_X0_init_20.2.2 rfl hy_X2_init (by decide) (by decide) (by decide) (by decide) (Nat.le_of_ble_eq_true rfl) (gDec_at D_X0_init 35 rfl) ?_
  refine gy_aastoreFr C Cy (by omega) (gFin_at (by omega) (gPu_at (by omega) (gPu_at (by omega) (gFin_at (by omega) (gPu_at (by omega) (gPu_eq)))))) (gFin_in (by omega) (is_X2_sh (show is_X2 w (a + 14) from is_X0_ohms_at (i := 4) A (by decide)))) (by decide) (gDec_at D_X0_init 36 rfl) ?_
  refine gy_aload_n C 1 (gDec_at D_X0_init 37 rfl) rfl rfl ?_
  refine gy_get C Cy fl_X0_init_17 (gPu_at (by omega) (gFin_at (by omega) (gPu_at (by omega) (gPu_at (by omega) (gFin_at (by omega) (gPu_at (by omega) (gPu_at (by omega) (gFin_at (by omega) (gPu_at (by omega) (gPu_at (by omega) (gFin_at (by omega) (gPu_at (by omega) (gPu_at (by omega) (gFin_at (by omega) (gPu_at (by omega) (gPu_at (by omega) (gFin_at (by omega) (gPu_at (by omega) (gPu_at (by omega) (gFin_at (by omega) (gPu_at (by omega) (gPu_at (by omega) (gFin_at (by omega) (gPu_at (by omega) (gPu_at (by omega) (gFin_at (by omega) (gPu_at (by omega) (gPu_eq)))))))))))))))))))))))))))) rfl (gDec_at D_X0_init 38 rfl) ?_
  refine gy_iload_n C 0 (gDec_at D_X0_init 39 rfl) rfl rfl ?_
  refine gy_new C Cy (fs := [.long 0, .long 0]) (ci := 2) rfl in_X0_init_X2 tyX2_ok nw_X0_init_9 (by intro j hj; match j, hj with | 0, _ => rfl | 1, _ => rfl | j + 2, hj => exact absurd hj (by omega)) (by decide) (by decide) (gDec_at D_X0_init 40 rfl) ?_
  refine gy_dup C (gDec_at D_X0_init 41 rfl) rfl ?_
  refine gy_callIN C Cy (m_X2_init w hT (show is_X2 w (a + 15) from is_X0_volts_at (i := 4) A (by decide)) (show in_X2 hT (a + 15) from in_X0_volts I 4 (by decide)) _ (gPu_eq)) rfl (by omega) gX0_init_X2_init_n20 ci_X0_init_20.1 rfl rfl rfl ci_X0_init_20.2.1 ci_X0_init_20.2.2 rfl hy_X2_init (by decide) (by decide) (by decide) (by decide) (Nat.le_of_ble_eq_true rfl) (gDec_at D_X0_init 42 rfl) ?_
  refine gy_aastoreFr C Cy (by omega) (gFin_at (by omega) (gPu_at (by omega) (gPu_at (by omega) (gFin_at (by omega) (gPu_at (by omega) (gPu_eq)))))) (gFin_in (by omega) (is_X2_sh (show is_X2 w (a + 15) from is_X0_volts_at (i := 4) A (by decide)))) (by decide) (gDec_at D_X0_init 43 rfl) ?_
  refine gy_iinc C (j := 0) (v := 5) (lv' := [(1, .int 5), (0, .ref a)]) (gDec_at D_X0_init 44 rfl) rfl (by decide) (Nat.le_of_ble_eq_true rfl) rfl ?_
  refine gy_goto C 57 (gDec_at D_X0_init 45 rfl) (by decide) ?_
  refine gy_iload_n C 0 (gDec_at D_X0_init 27 rfl) rfl rfl ?_
  refine gy_bipush C (v := 11) (gDec_at D_X0_init 28 rfl) (by decide) ?_
  refine gy_icmp_ge C 95 (gDec_at D_X0_init 29 rfl) (by decide) (fun c => absurd c (by decide)) (fun _ => ?_)
  refine gy_aload_n C 1 (gDec_at D_X0_init 30 rfl) rfl rfl ?_
  refine gy_get C Cy fl_X0_init_11 (gPu_at (by omega) (gFin_at (by omega) (gPu_at (by omega) (gPu_at (by omega) (gFin_at (by omega) (gPu_at (by omega) (gPu_at (by omega) (gFin_at (by omega) (gPu_at (by omega) (gPu_at (by omega) (gFin_at (by omega) (gPu_at (by omega) (gPu_at (by omega) (gFin_at (by omega) (gPu_at (by omega) (gPu_at (by omega) (gFin_at (by omega) (gPu_at (by omega) (gPu_at (by omega) (gFin_at (by omega) (gPu_at (by omega) (gPu_at (by omega) (gFin_at (by omega) (gPu_at (by omega) (gPu_at (by omega) (gFin_at (by omega) (gPu_at (by omega) (gPu_at (by omega) (gFin_at (by omega) (gPu_at (by omega) (gPu_eq))))))))))))))))))))))))))))))) rfl (gDec_at D_X0_init 31 rfl) ?_
  refine gy_iload_n C 0 (gDec_at D_X0_init 32 rfl) rfl rfl ?_
  refine gy_new C Cy (fs := [.long 0, .long 0]) (ci := 2) rfl in_X0_init_X2 tyX2_ok nw_X0_init_9 (by intro j hj; match j, hj with | 0, _ => rfl | 1, _ => rfl | j + 2, hj => exact absurd hj (by omega)) (by decide) (by decide) (gDec_at D_X0_init 33 rfl) ?_
  refine gy_dup C (gDec_at D_X0_init 34 rfl) rfl ?_
  refine gy_callIN C Cy (m_X2_init w hT (show is_X2 w (a + 16) from is_X0_ohms_at (i := 5) A (by decide)) (show in_X2 hT (a + 16) from in_X0_ohms I 5 (by decide)) _ (gPu_eq)) rfl (by omega) gX0_init_X2_init_n20 ci_X0_init_20.1 rfl rfl rfl ci_X0_init_20.2.1 ci_X0_init_20.2.2 rfl hy_X2_init (by decide) (by decide) (by decide) (by decide) (Nat.le_of_ble_eq_true rfl) (gDec_at D_X0_init 35 rfl) ?_
  refine gy_aastoreFr C Cy (by omega) (gFin_at (by omega) (gPu_at (by omega) (gPu_at (by omega) (gFin_at (by omega) (gPu_at (by omega) (gPu_eq)))))) (gFin_in (by omega) (is_X2_sh (show is_X2 w (a + 16) from is_X0_ohms_at (i := 5) A (by decide)))) (by decide) (gDec_at D_X0_init 36 rfl) ?_
  refine gy_aload_n C 1 (gDec_at D_X0_init 37 rfl) rfl rfl ?_
  refine gy_get C Cy fl_X0_init_17 (gPu_at (by omega) (gFin_at (by omega) (gPu_at (by omega) (gPu_at (by omega) (gFin_at (by omega) (gPu_at (by omega) (gPu_at (by omega) (gFin_at (by omega) (gPu_at (by omega) (gPu_at (by omega) (gFin_at (by omega) (gPu_at (by omega) (gPu_at (by omega) (gFin_at (by omega) (gPu_at (by omega) (gPu_at (by omega) (gFin_at (by omega) (gPu_at (by omega) (gPu_at (by omega) (gFin_at (by omega) (gPu_at (by omega) (gPu_at (by omega) (gFin_at (by omega) (gPu_at (by omega) (gPu_at (by omega) (gFin_at (by omega) (gPu_at (by omega) (gPu_at (by omega) (gFin_at (by omega) (gPu_at (by omega) (gPu_at (by omega) (gFin_at (by omega) (gPu_at (by omega) (gPu_eq)))))))))))))))))))))))))))))))))) rfl (gDec_at D_X0_init 38 rfl) ?_
  refine gy_iload_n C 0 (gDec_at D_X0_init 39 rfl) rfl rfl ?_
  refine gy_new C Cy (fs := [.long 0, .long 0]) (ci := 2) rfl in_X0_init_X2 tyX2_ok nw_X0_init_9 (by intro j hj; match j, hj with | 0, _ => rfl | 1, _ => rfl | j + 2, hj => exact absurd hj (by omega)) (by decide) (by decide) (gDec_at D_X0_init 40 rfl) ?_
  refine gy_dup C (gDec_at D_X0_init 41 rfl) rfl ?_
  refine gy_callIN C Cy (m_X2_init w hT (show is_X2 w (a + 17) from is_X0_volts_at (i := 5) A (by decide)) (show in_X2 hT (a + 17) from in_X0_volts I 5 (by decide)) _ (gPu_eq)) rfl (by omega) gX0_init_X2_init_n20 ci_X0_init_20.1 rfl rfl rfl ci_X0_init_20.2.1 ci_X0_init_20.2.2 rfl hy_X2_init (by decide) (by decide) (by decide) (by decide) (Nat.le_of_ble_eq_true rfl) (gDec_at D_X0_init 42 rfl) ?_
  refine gy_aastoreFr C Cy (by omega) (gFin_at (by omega) (gPu_at (by omega) (gPu_at (by omega) (gFin_at (by omega) (gPu_at (by omega) (gPu_eq)))))) (gFin_in (by omega) (is_X2_sh (show is_X2 w (a + 17) from is_X0_volts_at (i := 5) A (by decide)))) (by decide) (gDec_at D_X0_init 43 rfl) ?_
  refine gy_iinc C (j := 0) (v := 6) (lv' := [(1, .int 6), (0, .ref a)]) (gDec_at D_X0_init 44 rfl) rfl (by decide) (Nat.le_of_ble_eq_true rfl) rfl ?_
  refine gy_goto C 57 (gDec_at D_X0_init 45 rfl) (by decide) ?_
  refine gy_iload_n C 0 (gDec_at D_X0_init 27 rfl) rfl rfl ?_
  refine gy_bipush C (v := 11) (gDec_at D_X0_init 28 rfl) (by decide) ?_
  refine gy_icmp_ge C 95 (gDec_at D_X0_init 29 rfl) (by decide) (fun c => absurd c (by decide)) (fun _ => ?_)
  refine gy_aload_n C 1 (gDec_at D_X0_init 30 rfl) rfl rfl ?_
  refine gy_get C Cy fl_X0_init_11 (gPu_at (by omega) (gFin_at (by omega) (gPu_at (by omega) (gPu_at (by omega) (gFin_at (by omega) (gPu_at (by omega) (gPu_at (by omega) (gFin_at (by omega) (gPu_at (by omega) (gPu_at (by omega) (gFin_at (by omega) (gPu_at (by omega) (gPu_at (by omega) (gFin_at (by omega) (gPu_at (by omega) (gPu_at (by omega) (gFin_at (by omega) (gPu_at (by omega) (gPu_at (by omega) (gFin_at (by omega) (gPu_at (by omega) (gPu_at (by omega) (gFin_at (by omega) (gPu_at (by omega) (gPu_at (by omega) (gFin_at (by omega) (gPu_at (by omega) (gPu_at (by omega) (gFin_at (by omega) (gPu_at (by omega) (gPu_at (by omega) (gFin_at (by omega) (gPu_at (by omega) (gPu_at (by omega) (gFin_at (by omega) (gPu_at (by omega) (gPu_eq))))))))))))))))))))))))))))))))))))) rfl (gDec_at D_X0_init 31 rfl) ?_
  refine gy_iload_n C 0 (gDec_at D_X0_init 32 rfl) rfl rfl ?_
  refine gy_new C Cy (fs := [.long 0, .long 0]) (ci := 2) rfl in_X0_init_X2 tyX2_ok nw_X0_init_9 (by intro j hj; match j, hj with | 0, _ => rfl | 1, _ => rfl | j + 2, hj => exact absurd hj (by omega)) (by decide) (by decide) (gDec_at D_X0_init 33 rfl) ?_
  refine gy_dup C (gDec_at D_X0_init 34 rfl) rfl ?_
  refine gy_callIN C Cy (m_X2_init w hT (show is_X2 w (a + 18) from is_X0_ohms_at (i := 6) A (by decide)) (show in_X2 hT (a + 18) from in_X0_ohms I 6 (by decide)) _ (gPu_eq)) rfl (by omega) gX0_init_X2_init_n20 ci_X0_init_20.1 rfl rfl rfl ci_X0_init_20.2.1 ci_X0_init_20.2.2 rfl hy_X2_init (by decide) (by decide) (by decide) (by decide) (Nat.le_of_ble_eq_true rfl) (gDec_at D_X0_init 35 rfl) ?_
  refine gy_aastoreFr C Cy (by omega) (gFin_at (by omega) (gPu_at (by omega) (gPu_at (by omega) (gFin_at (by omega) (gPu_at (by omega) (gPu_eq)))))) (gFin_in (by omega) (is_X2_sh (show is_X2 w (a + 18) from is_X0_ohms_at (i := 6) A (by decide)))) (by decide) (gDec_at D_X0_init 36 rfl) ?_
  refine gy_aload_n C 1 (gDec_at D_X0_init 37 rfl) rfl rfl ?_
  refine gy_get C Cy fl_X0_init_17 (gPu_at (by omega) (gFin_at (by omega) (gPu_at (by omega) (gPu_at (by omega) (gFin_at (by omega) (gPu_at (by omega) (gPu_at (by omega) (gFin_at (by omega) (gPu_at (by omega) (gPu_at (by omega) (gFin_at (by omega) (gPu_at (by omega) (gPu_at (by omega) (gFin_at (by omega) (gPu_at (by omega) (gPu_at (by omega) (gFin_at (by omega) (gPu_at (by omega) (gPu_at (by omega) (gFin_at (by omega) (gPu_at (by omega) (gPu_at (by omega) (gFin_at (by omega) (gPu_at (by omega) (gPu_at (by omega) (gFin_at (by omega) (gPu_at (by omega) (gPu_at (by omega) (gFin_at (by omega) (gPu_at (by omega) (gPu_at (by omega) (gFin_at (by omega) (gPu_at (by omega) (gPu_at (by omega) (gFin_at (by omega) (gPu_at (by omega) (gPu_at (by omega) (gFin_at (by omega) (gPu_at (by omega) (gPu_eq)))))))))))))))))))))))))))))))))))))))) rfl (gDec_at D_X0_init 38 rfl) ?_
  refine gy_iload_n C 0 (gDec_at D_X0_init 39 rfl) rfl rfl ?_
  refine gy_new C Cy (fs := [.long 0, .long 0]) (ci := 2) rfl in_X0_init_X2 tyX2_ok nw_X0_init_9 (by intro j hj; match j, hj with | 0, _ => rfl | 1, _ => rfl | j + 2, hj => exact absurd hj (by omega)) (by decide) (by decide) (gDec_at D_X0_init 40 rfl) ?_
  refine gy_dup C (gDec_at D_X0_init 41 rfl) rfl ?_
  refine gy_callIN C Cy (m_X2_init w hT (show is_X2 w (a + 19) from is_X0_volts_at (i := 6) A (by decide)) (show in_X2 hT (a + 19) from in_X0_volts I 6 (by decide)) _ (gPu_eq)) rfl (by omega) gX0_init_X2_init_n20 ci_X0_init_20.1 rfl rfl rfl ci_X0_init_20.2.1 ci_X0_init_20.2.2 rfl hy_X2_init (by decide) (by decide) (by decide) (by decide) (Nat.le_of_ble_eq_true rfl) (gDec_at D_X0_init 42 rfl) ?_
  refine gy_aastoreFr C Cy (by omega) (gFin_at (by omega) (gPu_at (by omega) (gPu_at (by omega) (gFin_at (by omega) (gPu_at (by omega) (gPu_eq)))))) (gFin_in (by omega) (is_X2_sh (show is_X2 w (a + 19) from is_X0_volts_at (i := 6) A (by decide)))) (by decide) (gDec_at D_X0_init 43 rfl) ?_
  refine gy_iinc C (j := 0) (v := 7) (lv' := [(1, .int 7), (0, .ref a)]) (gDec_at D_X0_init 44 rfl) rfl (by decide) (Nat.le_of_ble_eq_true rfl) rfl ?_
  refine gy_goto C 57 (gDec_at D_X0_init 45 rfl) (by decide) ?_
  refine gy_iload_n C 0 (gDec_at D_X0_init 27 rfl) rfl rfl ?_
  refine gy_bipush C (v := 11) (gDec_at D_X0_init 28 rfl) (by decide) ?_
  refine gy_icmp_ge C 95 (gDec_at D_X0_init 29 rfl) (by decide) (fun c => absurd c (by decide)) (fun _ => ?_)
  refine gy_aload_n C 1 (gDec_at D_X0_init 30 rfl) rfl rfl ?_
  refine gy_get C Cy fl_X0_init_11 (gPu_at (by omega) (gFin_at (by omega) (gPu_at (by omega) (gPu_at (by omega) (gFin_at (by omega) (gPu_at (by omega) (gPu_at (by omega) (gFin_at (by omega) (gPu_at (by omega) (gPu_at (by omega) (gFin_at (by omega) (gPu_at (by omega) (gPu_at (by omega) (gFin_at (by omega) (gPu_at (by omega) (gPu_at (by omega) (gFin_at (by omega) (gPu_at (by omega) (gPu_at (by omega) (gFin_at (by omega) (gPu_at (by omega) (gPu_at (by omega) (gFin_at (by omega) (gPu_at (by omega) (gPu_at (by omega) (gFin_at (by omega) (gPu_at (by omega) (gPu_at (by omega) (gFin_at (by omega) (gPu_at (by omega) (gPu_at (by omega) (gFin_at (by omega) (gPu_at (by omega) (gPu_at (by omega) (gFin_at (by omega) (gPu_at (by omega) (gPu_at (by omega) (gFin_at (by omega) (gPu_at (by omega) (gPu_at (by omega) (gFin_at (by omega) (gPu_at (by omega) (gPu_eq))))))))))))))))))))))))))))))))))))))))))) rfl (gDec_at D_X0_init 31 rfl) ?_
  refine gy_iload_n C 0 (gDec_at D_X0_init 32 rfl) rfl rfl ?_
  refine gy_new C Cy (fs := [.long 0, .long 0]) (ci := 2) rfl in_X0_init_X2 tyX2_ok nw_X0_init_9 (by intro j hj; match j, hj with | 0, _ => rfl | 1, _ => rfl | j + 2, hj => exact absurd hj (by omega)) (by decide) (by decide) (gDec_at D_X0_init 33 rfl) ?_
  refine gy_dup C (gDec_at D_X0_init 34 rfl) rfl ?_
  refine gy_callIN C Cy (m_X2_init w hT (show is_X2 w (a + 20) from is_X0_ohms_at (i := 7) A (by decide)) (show in_X2 hT (a + 20) from in_X0_ohms I 7 (by decide)) _ (gPu_eq)) rfl (by omega) gX0_init_X2_init_n20 ci_X0_init_20.1 rfl rfl rfl ci_X0_init_20.2.1 ci_X0_init_20.2.2 rfl hy_X2_init (by decide) (by decide) (by decide) (by decide) (Nat.le_of_ble_eq_true rfl) (gDec_at D_X0_init 35 rfl) ?_
  refine gy_aastoreFr C Cy (by omega) (gFin_at (by omega) (gPu_at (by omega) (gPu_at (by omega) (gFin_at (by omega) (gPu_at (by omega) (gPu_eq)))))) (gFin_in (by omega) (is_X2_sh (show is_X2 w (a + 20) from is_X0_ohms_at (i := 7) A (by decide)))) (by decide) (gDec_at D_X0_init 36 rfl) ?_
  refine gy_aload_n C 1 (gDec_at D_X0_init 37 rfl) rfl rfl ?_
  refine gy_get C Cy fl_X0_init_17 (gPu_at (by omega) (gFin_at (by omega) (gPu_at (by omega) (gPu_at (by omega) (gFin_at (by omega) (gPu_at (by omega) (gPu_at (by omega) (gFin_at (by omega) (gPu_at (by omega) (gPu_at (by omega) (gFin_at (by omega) (gPu_at (by omega) (gPu_at (by omega) (gFin_at (by omega) (gPu_at (by omega) (gPu_at (by omega) (gFin_at (by omega) (gPu_at (by omega) (gPu_at (by omega) (gFin_at (by omega) (gPu_at (by omega) (gPu_at (by omega) (gFin_at (by omega) (gPu_at (by omega) (gPu_at (by omega) (gFin_at (by omega) (gPu_at (by omega) (gPu_at (by omega) (gFin_at (by omega) (gPu_at (by omega) (gPu_at (by omega) (gFin_at (by omega) (gPu_at (by omega) (gPu_at (by omega) (gFin_at (by omega) (gPu_at (by omega) (gPu_at (by omega) (gFin_at (by omega) (gPu_at (by omega) (gPu_at (by omega) (gFin_at (by omega) (gPu_at (by omega) (gPu_at (by omega) (gFin_at (by omega) (gPu_at (by omega) (gPu_eq)))))))))))))))))))))))))))))))))))))))))))))) rfl (gDec_at D_X0_init 38 rfl) ?_
  refine gy_iload_n C 0 (gDec_at D_X0_init 39 rfl) rfl rfl ?_
  refine gy_new C Cy (fs := [.long 0, .long 0]) (ci := 2) rfl in_X0_init_X2 tyX2_ok nw_X0_init_9 (by intro j hj; match j, hj with | 0, _ => rfl | 1, _ => rfl | j + 2, hj => exact absurd hj (by omega)) (by decide) (by decide) (gDec_at D_X0_init 40 rfl) ?_
  refine gy_dup C (gDec_at D_X0_init 41 rfl) rfl ?_
  refine gy_callIN C Cy (m_X2_init w hT (show is_X2 w (a + 21) from is_X0_volts_at (i := 7) A (by decide)) (show in_X2 hT (a + 21) from in_X0_volts I 7 (by decide)) _ (gPu_eq)) rfl (by omega) gX0_init_X2_init_n20 ci_X0_init_20.1 rfl rfl rfl ci_X0_init_20.2.1 ci_X0_init_20.2.2 rfl hy_X2_init (by decide) (by decide) (by decide) (by decide) (Nat.le_of_ble_eq_true rfl) (gDec_at D_X0_init 42 rfl) ?_
  refine gy_aastoreFr C Cy (by omega) (gFin_at (by omega) (gPu_at (by omega) (gPu_at (by omega) (gFin_at (by omega) (gPu_at (by omega) (gPu_eq)))))) (gFin_in (by omega) (is_X2_sh (show is_X2 w (a + 21) from is_X0_volts_at (i := 7) A (by decide)))) (by decide) (gDec_at D_X0_init 43 rfl) ?_
  refine gy_iinc C (j := 0) (v := 8) (lv' := [(1, .int 8), (0, .ref a)]) (gDec_at D_X0_init 44 rfl) rfl (by decide) (Nat.le_of_ble_eq_true rfl) rfl ?_
  refine gy_goto C 57 (gDec_at D_X0_init 45 rfl) (by decide) ?_
  refine gy_iload_n C 0 (gDec_at D_X0_init 27 rfl) rfl rfl ?_
  refine gy_bipush C (v := 11) (gDec_at D_X0_init 28 rfl) (by decide) ?_
  refine gy_icmp_ge C 95 (gDec_at D_X0_init 29 rfl) (by decide) (fun c => absurd c (by decide)) (fun _ => ?_)
  refine gy_aload_n C 1 (gDec_at D_X0_init 30 rfl) rfl rfl ?_
  refine gy_get C Cy fl_X0_init_11 (gPu_at (by omega) (gFin_at (by omega) (gPu_at (by omega) (gPu_at (by omega) (gFin_at (by omega) (gPu_at (by omega) (gPu_at (by omega) (gFin_at (by omega) (gPu_at (by omega) (gPu_at (by omega) (gFin_at (by omega) (gPu_at (by omega) (gPu_at (by omega) (gFin_at (by omega) (gPu_at (by omega) (gPu_at (by omega) (gFin_at (by omega) (gPu_at (by omega) (gPu_at (by omega) (gFin_at (by omega) (gPu_at (by omega) (gPu_at (by omega) (gFin_at (by omega) (gPu_at (by omega) (gPu_at (by omega) (gFin_at (by omega) (gPu_at (by omega) (gPu_at (by omega) (gFin_at (by omega) (gPu_at (by omega) (gPu_at (by omega) (gFin_at (by omega) (gPu_at (by omega) (gPu_at (by omega) (gFin_at (by omega) (gPu_at (by omega) (gPu_at (by omega) (gFin_at (by omega) (gPu_at (by omega) (gPu_at (by omega) (gFin_at (by omega) (gPu_at (by omega) (gPu_at (by omega) (gFin_at (by omega) (gPu_at (by omega) (gPu_at (by omega) (gFin_at (by omega) (gPu_at (by omega) (gPu_eq))))))))))))))))))))))))))))))))))))))))))))))))) rfl (gDec_at D_X0_init 31 rfl) ?_
  refine gy_iload_n C 0 (gDec_at D_X0_init 32 rfl) rfl rfl ?_
  refine gy_new C Cy (fs := [.long 0, .long 0]) (ci := 2) rfl in_X0_init_X2 tyX2_ok nw_X0_init_9 (by intro j hj; match j, hj with | 0, _ => rfl | 1, _ => rfl | j + 2, hj => exact absurd hj (by omega)) (by decide) (by decide) (gDec_at D_X0_init 33 rfl) ?_
  refine gy_dup C (gDec_at D_X0_init 34 rfl) rfl ?_
  refine gy_callIN C Cy (m_X2_init w hT (show is_X2 w (a + 22) from is_X0_ohms_at (i := 8) A (by decide)) (show in_X2 hT (a + 22) from in_X0_ohms I 8 (by decide)) _ (gPu_eq)) rfl (by omega) gX0_init_X2_init_n20 ci_X0_init_20.1 rfl rfl rfl ci_X0_init_20.2.1 ci_X0_init_20.2.2 rfl hy_X2_init (by decide) (by decide) (by decide) (by decide) (Nat.le_of_ble_eq_true rfl) (gDec_at D_X0_init 35 rfl) ?_
  refine gy_aastoreFr C Cy (by omega) (gFin_at (by omega) (gPu_at (by omega) (gPu_at (by omega) (gFin_at (by omega) (gPu_at (by omega) (gPu_eq)))))) (gFin_in (by omega) (is_X2_sh (show is_X2 w (a + 22) from is_X0_ohms_at (i := 8) A (by decide)))) (by decide) (gDec_at D_X0_init 36 rfl) ?_
  refine gy_aload_n C 1 (gDec_at D_X0_init 37 rfl) rfl rfl ?_
  refine gy_get C Cy fl_X0_init_17 (gPu_at (by omega) (gFin_at (by omega) (gPu_at (by omega) (gPu_at (by omega) (gFin_at (by omega) (gPu_at (by omega) (gPu_at (by omega) (gFin_at (by omega) (gPu_at (by omega) (gPu_at (by omega) (gFin_at (by omega) (gPu_at (by omega) (gPu_at (by omega) (gFin_at (by omega) (gPu_at (by omega) (gPu_at (by omega) (gFin_at (by omega) (gPu_at (by omega) (gPu_at (by omega) (gFin_at (by omega) (gPu_at (by omega) (gPu_at (by omega) (gFin_at (by omega) (gPu_at (by omega) (gPu_at (by omega) (gFin_at (by omega) (gPu_at (by omega) (gPu_at (by omega) (gFin_at (by omega) (gPu_at (by omega) (gPu_at (by omega) (gFin_at (by omega) (gPu_at (by omega) (gPu_at (by omega) (gFin_at (by omega) (gPu_at (by omega) (gPu_at (by omega) (gFin_at (by omega) (gPu_at (by omega) (gPu_at (by omega) (gFin_at (by omega) (gPu_at (by omega) (gPu_at (by omega) (gFin_at (by omega) (gPu_at (by omega) (gPu_at (by omega) (gFin_at (by omega) (gPu_at (by omega) (gPu_at (by omega) (gFin_at (by omega) (gPu_at (by omega) (gPu_eq)))))))))))))))))))))))))))))))))))))))))))))))))))) rfl (gDec_at D_X0_init 38 rfl) ?_
  refine gy_iload_n C 0 (gDec_at D_X0_init 39 rfl) rfl rfl ?_
  refine gy_new C Cy (fs := [.long 0, .long 0]) (ci := 2) rfl in_X0_init_X2 tyX2_ok nw_X0_init_9 (by intro j hj; match j, hj with | 0, _ => rfl | 1, _ => rfl | j + 2, hj => exact absurd hj (by omega)) (by decide) (by decide) (gDec_at D_X0_init 40 rfl) ?_
  refine gy_dup C (gDec_at D_X0_init 41 rfl) rfl ?_
  refine gy_callIN C Cy (m_X2_init w hT (show is_X2 w (a + 23) from is_X0_volts_at (i := 8) A (by decide)) (show in_X2 hT (a + 23) from in_X0_volts I 8 (by decide)) _ (gPu_eq)) rfl (by omega) gX0_init_X2_init_n20 ci_X0_init_20.1 rfl rfl rfl ci_X0_init_20.2.1 ci_X0_init_20.2.2 rfl hy_X2_init (by decide) (by decide) (by decide) (by decide) (Nat.le_of_ble_eq_true rfl) (gDec_at D_X0_init 42 rfl) ?_
  refine gy_aastoreFr C Cy (by omega) (gFin_at (by omega) (gPu_at (by omega) (gPu_at (by omega) (gFin_at (by omega) (gPu_at (by omega) (gPu_eq)))))) (gFin_in (by omega) (is_X2_sh (show is_X2 w (a + 23) from is_X0_volts_at (i := 8) A (by decide)))) (by decide) (gDec_at D_X0_init 43 rfl) ?_
  refine gy_iinc C (j := 0) (v := 9) (lv' := [(1, .int 9), (0, .ref a)]) (gDec_at D_X0_init 44 rfl) rfl (by decide) (Nat.le_of_ble_eq_true rfl) rfl ?_
  refine gy_goto C 57 (gDec_at D_X0_init 45 rfl) (by decide) ?_
  refine gy_iload_n C 0 (gDec_at D_X0_init 27 rfl) rfl rfl ?_
  refine gy_bipush C (v := 11) (gDec_at D_X0_init 28 rfl) (by decide) ?_
  refine gy_icmp_ge C 95 (gDec_at D_X0_init 29 rfl) (by decide) (fun c => absurd c (by decide)) (fun _ => ?_)
  refine gy_aload_n C 1 (gDec_at D_X0_init 30 rfl) rfl rfl ?_
  refine gy_get C Cy fl_X0_init_11 (gPu_at (by omega) (gFin_at (by omega) (gPu_at (by omega) (gPu_at (by omega) (gFin_at (by omega) (gPu_at (by omega) (gPu_at (by omega) (gFin_at (by omega) (gPu_at (by omega) (gPu_at (by omega) (gFin_at (by omega) (gPu_at (by omega) (gPu_at (by omega) (gFin_at (by omega) (gPu_at (by omega) (gPu_at (by omega) (gFin_at (by omega) (gPu_at (by omega) (gPu_at (by omega) (gFin_at (by omega) (gPu_at (by omega) (gPu_at (by omega) (gFin_at (by omega) (gPu_at (by omega) (gPu_at (by omega) (gFin_at (by omega) (gPu_at (by omega) (gPu_at (by omega) (gFin_at (by omega) (gPu_at (by omega) (gPu_at (by omega) (gFin_at (by omega) (gPu_at (by omega) (gPu_at (by omega) (gFin_at (by omega) (gPu_at (by omega) (gPu_at (by omega) (gFin_at (by omega) (gPu_at (by omega) (gPu_at (by omega) (gFin_at (by omega) (gPu_at (by omega) (gPu_at (by omega) (gFin_at (by omega) (gPu_at (by omega) (gPu_at (by omega) (gFin_at (by omega) (gPu_at (by omega) (gPu_at (by omega) (gFin_at (by omega) (gPu_at (by omega) (gPu_at (by omega) (gFin_at (by omega) (gPu_at (by omega) (gPu_eq))))))))))))))))))))))))))))))))))))))))))))))))))))))) rfl (gDec_at D_X0_init 31 rfl) ?_
  refine gy_iload_n C 0 (gDec_at D_X0_init 32 rfl) rfl rfl ?_
  refine gy_new C Cy (fs := [.long 0, .long 0]) (ci := 2) rfl in_X0_init_X2 tyX2_ok nw_X0_init_9 (by intro j hj; match j, hj with | 0, _ => rfl | 1, _ => rfl | j + 2, hj => exact absurd hj (by omega)) (by decide) (by decide) (gDec_at D_X0_init 33 rfl) ?_
  refine gy_dup C (gDec_at D_X0_init 34 rfl) rfl ?_
  refine gy_callIN C Cy (m_X2_init w hT (show is_X2 w (a + 24) from is_X0_ohms_at (i := 9) A (by decide)) (show in_X2 hT (a + 24) from in_X0_ohms I 9 (by decide)) _ (gPu_eq)) rfl (by omega) gX0_init_X2_init_n20 ci_X0_init_20.1 rfl rfl rfl ci_X0_init_20.2.1 ci_X0_init_20.2.2 rfl hy_X2_init (by decide) (by decide) (by decide) (by decide) (Nat.le_of_ble_eq_true rfl) (gDec_at D_X0_init 35 rfl) ?_
  refine gy_aastoreFr C Cy (by omega) (gFin_at (by omega) (gPu_at (by omega) (gPu_at (by omega) (gFin_at (by omega) (gPu_at (by omega) (gPu_eq)))))) (gFin_in (by omega) (is_X2_sh (show is_X2 w (a + 24) from is_X0_ohms_at (i := 9) A (by decide)))) (by decide) (gDec_at D_X0_init 36 rfl) ?_
  refine gy_aload_n C 1 (gDec_at D_X0_init 37 rfl) rfl rfl ?_
  refine gy_get C Cy fl_X0_init_17 (gPu_at (by omega) (gFin_at (by omega) (gPu_at (by omega) (gPu_at (by omega) (gFin_at (by omega) (gPu_at (by omega) (gPu_at (by omega) (gFin_at (by omega) (gPu_at (by omega) (gPu_at (by omega) (gFin_at (by omega) (gPu_at (by omega) (gPu_at (by omega) (gFin_at (by omega) (gPu_at (by omega) (gPu_at (by omega) (gFin_at (by omega) (gPu_at (by omega) (gPu_at (by omega) (gFin_at (by omega) (gPu_at (by omega) (gPu_at (by omega) (gFin_at (by omega) (gPu_at (by omega) (gPu_at (by omega) (gFin_at (by omega) (gPu_at (by omega) (gPu_at (by omega) (gFin_at (by omega) (gPu_at (by omega) (gPu_at (by omega) (gFin_at (by omega) (gPu_at (by omega) (gPu_at (by omega) (gFin_at (by omega) (gPu_at (by omega) (gPu_at (by omega) (gFin_at (by omega) (gPu_at (by omega) (gPu_at (by omega) (gFin_at (by omega) (gPu_at (by omega) (gPu_at (by omega) (gFin_at (by omega) (gPu_at (by omega) (gPu_at (by omega) (gFin_at (by omega) (gPu_at (by omega) (gPu_at (by omega) (gFin_at (by omega) (gPu_at (by omega) (gPu_at (by omega) (gFin_at (by omega) (gPu_at (by omega) (gPu_at (by omega) (gFin_at (by omega) (gPu_at (by omega) (gPu_eq)))))))))))))))))))))))))))))))))))))))))))))))))))))))))) rfl (gDec_at D_X0_init 38 rfl) ?_
  refine gy_iload_n C 0 (gDec_at D_X0_init 39 rfl) rfl rfl ?_
  refine gy_new C Cy (fs := [.long 0, .long 0]) (ci := 2) rfl in_X0_init_X2 tyX2_ok nw_X0_init_9 (by intro j hj; match j, hj with | 0, _ => rfl | 1, _ => rfl | j + 2, hj => exact absurd hj (by omega)) (by decide) (by decide) (gDec_at D_X0_init 40 rfl) ?_
  refine gy_dup C (gDec_at D_X0_init 41 rfl) rfl ?_
  refine gy_callIN C Cy (m_X2_init w hT (show is_X2 w (a + 25) from is_X0_volts_at (i := 9) A (by decide)) (show in_X2 hT (a + 25) from in_X0_volts I 9 (by decide)) _ (gPu_eq)) rfl (by omega) gX0_init_X2_init_n20 ci_X0_init_20.1 rfl rfl rfl ci_X0_init_20.2.1 ci_X0_init_20.2.2 rfl hy_X2_init (by decide) (by decide) (by decide) (by decide) (Nat.le_of_ble_eq_true rfl) (gDec_at D_X0_init 42 rfl) ?_
  refine gy_aastoreFr C Cy (by omega) (gFin_at (by omega) (gPu_at (by omega) (gPu_at (by omega) (gFin_at (by omega) (gPu_at (by omega) (gPu_eq)))))) (gFin_in (by omega) (is_X2_sh (show is_X2 w (a + 25) from is_X0_volts_at (i := 9) A (by decide)))) (by decide) (gDec_at D_X0_init 43 rfl) ?_
  refine gy_iinc C (j := 0) (v := 10) (lv' := [(1, .int 10), (0, .ref a)]) (gDec_at D_X0_init 44 rfl) rfl (by decide) (Nat.le_of_ble_eq_true rfl) rfl ?_
  refine gy_goto C 57 (gDec_at D_X0_init 45 rfl) (by decide) ?_
  refine gy_iload_n C 0 (gDec_at D_X0_init 27 rfl) rfl rfl ?_
  refine gy_bipush C (v := 11) (gDec_at D_X0_init 28 rfl) (by decide) ?_
  refine gy_icmp_ge C 95 (gDec_at D_X0_init 29 rfl) (by decide) (fun c => absurd c (by decide)) (fun _ => ?_)
  refine gy_aload_n C 1 (gDec_at D_X0_init 30 rfl) rfl rfl ?_
  refine gy_get C Cy fl_X0_init_11 (gPu_at (by omega) (gFin_at (by omega) (gPu_at (by omega) (gPu_at (by omega) (gFin_at (by omega) (gPu_at (by omega) (gPu_at (by omega) (gFin_at (by omega) (gPu_at (by omega) (gPu_at (by omega) (gFin_at (by omega) (gPu_at (by omega) (gPu_at (by omega) (gFin_at (by omega) (gPu_at (by omega) (gPu_at (by omega) (gFin_at (by omega) (gPu_at (by omega) (gPu_at (by omega) (gFin_at (by omega) (gPu_at (by omega) (gPu_at (by omega) (gFin_at (by omega) (gPu_at (by omega) (gPu_at (by omega) (gFin_at (by omega) (gPu_at (by omega) (gPu_at (by omega) (gFin_at (by omega) (gPu_at (by omega) (gPu_at (by omega) (gFin_at (by omega) (gPu_at (by omega) (gPu_at (by omega) (gFin_at (by omega) (gPu_at (by omega) (gPu_at (by omega) (gFin_at (by omega) (gPu_at (by omega) (gPu_at (by omega) (gFin_at (by omega) (gPu_at (by omega) (gPu_at (by omega) (gFin_at (by omega) (gPu_at (by omega) (gPu_at (by omega) (gFin_at (by omega) (gPu_at (by omega) (gPu_at (by omega) (gFin_at (by omega) (gPu_at (by omega) (gPu_at (by omega) (gFin_at (by omega) (gPu_at (by omega) (gPu_at (by omega) (gFin_at (by omega) (gPu_at (by omega) (gPu_at (by omega) (gFin_at (by omega) (gPu_at (by omega) (gPu_eq))))))))))))))))))))))))))))))))))))))))))))))))))))))))))))) rfl (gDec_at D_X0_init 31 rfl) ?_
  refine gy_iload_n C 0 (gDec_at D_X0_init 32 rfl) rfl rfl ?_
  refine gy_new C Cy (fs := [.long 0, .long 0]) (ci := 2) rfl in_X0_init_X2 tyX2_ok nw_X0_init_9 (by intro j hj; match j, hj with | 0, _ => rfl | 1, _ => rfl | j + 2, hj => exact absurd hj (by omega)) (by decide) (by decide) (gDec_at D_X0_init 33 rfl) ?_
  refine gy_dup C (gDec_at D_X0_init 34 rfl) rfl ?_
  refine gy_callIN C Cy (m_X2_init w hT (show is_X2 w (a + 26) from is_X0_ohms_at (i := 10) A (by decide)) (show in_X2 hT (a + 26) from in_X0_ohms I 10 (by decide)) _ (gPu_eq)) rfl (by omega) gX0_init_X2_init_n20 ci_X0_init_20.1 rfl rfl rfl ci_X0_init_20.2.1 ci_X0_init_20.2.2 rfl hy_X2_init (by decide) (by decide) (by decide) (by decide) (Nat.le_of_ble_eq_true rfl) (gDec_at D_X0_init 35 rfl) ?_
  refine gy_aastoreFr C Cy (by omega) (gFin_at (by omega) (gPu_at (by omega) (gPu_at (by omega) (gFin_at (by omega) (gPu_at (by omega) (gPu_eq)))))) (gFin_in (by omega) (is_X2_sh (show is_X2 w (a + 26) from is_X0_ohms_at (i := 10) A (by decide)))) (by decide) (gDec_at D_X0_init 36 rfl) ?_
  refine gy_aload_n C 1 (gDec_at D_X0_init 37 rfl) rfl rfl ?_
  refine gy_get C Cy fl_X0_init_17 (gPu_at (by omega) (gFin_at (by omega) (gPu_at (by omega) (gPu_at (by omega) (gFin_at (by omega) (gPu_at (by omega) (gPu_at (by omega) (gFin_at (by omega) (gPu_at (by omega) (gPu_at (by omega) (gFin_at (by omega) (gPu_at (by omega) (gPu_at (by omega) (gFin_at (by omega) (gPu_at (by omega) (gPu_at (by omega) (gFin_at (by omega) (gPu_at (by omega) (gPu_at (by omega) (gFin_at (by omega) (gPu_at (by omega) (gPu_at (by omega) (gFin_at (by omega) (gPu_at (by omega) (gPu_at (by omega) (gFin_at (by omega) (gPu_at (by omega) (gPu_at (by omega) (gFin_at (by omega) (gPu_at (by omega) (gPu_at (by omega) (gFin_at (by omega) (gPu_at (by omega) (gPu_at (by omega) (gFin_at (by omega) (gPu_at (by omega) (gPu_at (by omega) (gFin_at (by omega) (gPu_at (by omega) (gPu_at (by omega) (gFin_at (by omega) (gPu_at (by omega) (gPu_at (by omega) (gFin_at (by omega) (gPu_at (by omega) (gPu_at (by omega) (gFin_at (by omega) (gPu_at (by omega) (gPu_at (by omega) (gFin_at (by omega) (gPu_at (by omega) (gPu_at (by omega) (gFin_at (by omega) (gPu_at (by omega) (gPu_at (by omega) (gFin_at (by omega) (gPu_at (by omega) (gPu_at (by omega) (gFin_at (by omega) (gPu_at (by omega) (gPu_at (by omega) (gFin_at (by omega) (gPu_at (by omega) (gPu_eq)))))))))))))))))))))))))))))))))))))))))))))))))))))))))))))))) rfl (gDec_at D_X0_init 38 rfl) ?_
  refine gy_iload_n C 0 (gDec_at D_X0_init 39 rfl) rfl rfl ?_
  refine gy_new C Cy (fs := [.long 0, .long 0]) (ci := 2) rfl in_X0_init_X2 tyX2_ok nw_X0_init_9 (by intro j hj; match j, hj with | 0, _ => rfl | 1, _ => rfl | j + 2, hj => exact absurd hj (by omega)) (by decide) (by decide) (gDec_at D_X0_init 40 rfl) ?_
  refine gy_dup C (gDec_at D_X0_init 41 rfl) rfl ?_
  refine gy_callIN C Cy (m_X2_init w hT (show is_X2 w (a + 27) from is_X0_volts_at (i := 10) A (by decide)) (show in_X2 hT (a + 27) from in_X0_volts I 10 (by decide)) _ (gPu_eq)) rfl (by omega) gX0_init_X2_init_n20 ci_X0_init_20.1 rfl rfl rfl ci_X0_init_20.2.1 ci_X0_init_20.2.2 rfl hy_X2_init (by decide) (by decide) (by decide) (by decide) (Nat.le_of_ble_eq_true rfl) (gDec_at D_X0_init 42 rfl) ?_
  refine gy_aastoreFr C Cy (by omega) (gFin_at (by omega) (gPu_at (by omega) (gPu_at (by omega) (gFin_at (by omega) (gPu_at (by omega) (gPu_eq)))))) (gFin_in (by omega) (is_X2_sh (show is_X2 w (a + 27) from is_X0_volts_at (i := 10) A (by decide)))) (by decide) (gDec_at D_X0_init 43 rfl) ?_
  refine gy_iinc C (j := 0) (v := 11) (lv' := [(1, .int 11), (0, .ref a)]) (gDec_at D_X0_init 44 rfl) rfl (by decide) (Nat.le_of_ble_eq_true rfl) rfl ?_
  refine gy_goto C 57 (gDec_at D_X0_init 45 rfl) (by decide) ?_
  refine gy_iload_n C 0 (gDec_at D_X0_init 27 rfl) rfl rfl ?_
  refine gy_bipush C (v := 11) (gDec_at D_X0_init 28 rfl) (by decide) ?_
  refine gy_icmp_ge C 95 (gDec_at D_X0_init 29 rfl) (by decide) (fun _ => ?_) (fun c => absurd (by decide) c)
  refine gy_vret C E rfl (fun H0 hH q e hq => ?_) (gDec_at D_X0_init 46 rfl)
  unfold gFin at hq
  by_cases c : a ≤ q ∧ q < a + 28
  · rw [if_pos c] at hq
    by_cases c0 : q = a
    · subst c0
      rw [is_X0_sh A] at hq
      cases hq
      refine ⟨(hH _ _ (gPu_at (by omega) (gFin_at (by omega) (gPu_at (by omega) (gPu_at (by omega) (gFin_at (by omega) (gPu_at (by omega) (gPu_at (by omega) (gFin_at (by omega) (gPu_at (by omega) (gPu_at (by omega) (gFin_at (by omega) (gPu_at (by omega) (gPu_at (by omega) (gFin_at (by omega) (gPu_at (by omega) (gPu_at (by omega) (gFin_at (by omega) (gPu_at (by omega) (gPu_at (by omega) (gFin_at (by omega) (gPu_at (by omega) (gPu_at (by omega) (gFin_at (by omega) (gPu_at (by omega) (gPu_at (by omega) (gFin_at (by omega) (gPu_at (by omega) (gPu_at (by omega) (gFin_at (by omega) (gPu_at (by omega) (gPu_at (by omega) (gFin_at (by omega) (gPu_at (by omega) (gPu_at (by omega) (gFin_at (by omega) (gPu_at (by omega) (gPu_at (by omega) (gFin_at (by omega) (gPu_at (by omega) (gPu_at (by omega) (gFin_at (by omega) (gPu_at (by omega) (gPu_at (by omega) (gFin_at (by omega) (gPu_at (by omega) (gPu_at (by omega) (gFin_at (by omega) (gPu_at (by omega) (gPu_at (by omega) (gFin_at (by omega) (gPu_at (by omega) (gPu_at (by omega) (gFin_at (by omega) (gPu_at (by omega) (gPu_at (by omega) (gFin_at (by omega) (gPu_at (by omega) (gPu_at (by omega) (gFin_at (by omega) (gPu_at (by omega) (gPu_at (by omega) (gFin_at (by omega) (gPu_at (by omega) (gPu_at (by omega) (gFin_at (by omega) (gPu_at (by omega) (gPu_eq)))))))))))))))))))))))))))))))))))))))))))))))))))))))))))))))))))).1, ?_⟩
      have h9 := (hH _ _ (gPu_at (by omega) (gFin_at (by omega) (gPu_at (by omega) (gPu_at (by omega) (gFin_at (by omega) (gPu_at (by omega) (gPu_at (by omega) (gFin_at (by omega) (gPu_at (by omega) (gPu_at (by omega) (gFin_at (by omega) (gPu_at (by omega) (gPu_at (by omega) (gFin_at (by omega) (gPu_at (by omega) (gPu_at (by omega) (gFin_at (by omega) (gPu_at (by omega) (gPu_at (by omega) (gFin_at (by omega) (gPu_at (by omega) (gPu_at (by omega) (gFin_at (by omega) (gPu_at (by omega) (gPu_at (by omega) (gFin_at (by omega) (gPu_at (by omega) (gPu_at (by omega) (gFin_at (by omega) (gPu_at (by omega) (gPu_at (by omega) (gFin_at (by omega) (gPu_at (by omega) (gPu_at (by omega) (gFin_at (by omega) (gPu_at (by omega) (gPu_at (by omega) (gFin_at (by omega) (gPu_at (by omega) (gPu_at (by omega) (gFin_at (by omega) (gPu_at (by omega) (gPu_at (by omega) (gFin_at (by omega) (gPu_at (by omega) (gPu_at (by omega) (gFin_at (by omega) (gPu_at (by omega) (gPu_at (by omega) (gFin_at (by omega) (gPu_at (by omega) (gPu_at (by omega) (gFin_at (by omega) (gPu_at (by omega) (gPu_at (by omega) (gFin_at (by omega) (gPu_at (by omega) (gPu_at (by omega) (gFin_at (by omega) (gPu_at (by omega) (gPu_at (by omega) (gFin_at (by omega) (gPu_at (by omega) (gPu_at (by omega) (gFin_at (by omega) (gPu_at (by omega) (gPu_eq)))))))))))))))))))))))))))))))))))))))))))))))))))))))))))))))))))).2
      simp only [gE, gVs, gV]
      exact h9
    by_cases c1 : q = a + 1
    · subst c1
      rw [is_X0_ohms A] at hq
      cases hq
      refine ⟨(hH _ _ (gPu_at (by omega) (gFin_at (by omega) (gPu_at (by omega) (gPu_eq))))).1, ?_⟩
      have h9 := (hH _ _ (gPu_at (by omega) (gFin_at (by omega) (gPu_at (by omega) (gPu_eq))))).2
      refine gAt_refs (t := 4) rfl h9 (fun j hj => ?_)
      match j, hj with
      | 0, _ => rfl
      | 1, _ => rfl
      | 2, _ => rfl
      | 3, _ => rfl
      | 4, _ => rfl
      | 5, _ => rfl
      | 6, _ => rfl
      | 7, _ => rfl
      | 8, _ => rfl
      | 9, _ => rfl
      | 10, _ => rfl
      | j + 11, hj => exact absurd hj (by omega)
    by_cases c2 : q = a + 2
    · subst c2
      rw [is_X0_volts A] at hq
      cases hq
      refine ⟨(hH _ _ (gPu_eq)).1, ?_⟩
      have h9 := (hH _ _ (gPu_eq)).2
      refine gAt_refs (t := 4) rfl h9 (fun j hj => ?_)
      match j, hj with
      | 0, _ => rfl
      | 1, _ => rfl
      | 2, _ => rfl
      | 3, _ => rfl
      | 4, _ => rfl
      | 5, _ => rfl
      | 6, _ => rfl
      | 7, _ => rfl
      | 8, _ => rfl
      | 9, _ => rfl
      | 10, _ => rfl
      | j + 11, hj => exact absurd hj (by omega)
    by_cases c3 : a + 3 ≤ q ∧ q < a + 4
    · exact hH q e (gPu_at (by omega) (gFin_at (by omega) (gPu_at (by omega) (gPu_at (by omega) (gFin_at (by omega) (gPu_at (by omega) (gPu_at (by omega) (gFin_at (by omega) (gPu_at (by omega) (gPu_at (by omega) (gFin_at (by omega) (gPu_at (by omega) (gPu_at (by omega) (gFin_at (by omega) (gPu_at (by omega) (gPu_at (by omega) (gFin_at (by omega) (gPu_at (by omega) (gPu_at (by omega) (gFin_at (by omega) (gPu_at (by omega) (gPu_at (by omega) (gFin_at (by omega) (gPu_at (by omega) (gPu_at (by omega) (gFin_at (by omega) (gPu_at (by omega) (gPu_at (by omega) (gFin_at (by omega) (gPu_at (by omega) (gPu_at (by omega) (gFin_at (by omega) (gPu_at (by omega) (gPu_at (by omega) (gFin_at (by omega) (gPu_at (by omega) (gPu_at (by omega) (gFin_at (by omega) (gPu_at (by omega) (gPu_at (by omega) (gFin_at (by omega) (gPu_at (by omega) (gPu_at (by omega) (gFin_at (by omega) (gPu_at (by omega) (gPu_at (by omega) (gFin_at (by omega) (gPu_at (by omega) (gPu_at (by omega) (gFin_at (by omega) (gPu_at (by omega) (gPu_at (by omega) (gFin_at (by omega) (gPu_at (by omega) (gPu_at (by omega) (gFin_at (by omega) (gPu_at (by omega) (gPu_at (by omega) (gFin_at (by omega) (gPu_at (by omega) (gPu_at (by omega) (gFin_at (by omega) (gPu_at (by omega) (gPu_at (by omega) (gFin_at (by omega) (gPu_at (by omega) (gPu_at (by omega) (gFin_at (by omega) (gPu_at (by omega) (gPu_at (by omega) (gFin_at (by omega) (gPu_at (by omega) (gPu_at (by omega) (gFin_is c3 hq))))))))))))))))))))))))))))))))))))))))))))))))))))))))))))))))))))))))))
    by_cases c4 : a + 4 ≤ q ∧ q < a + 5
    · exact hH q e (gPu_at (by omega) (gFin_at (by omega) (gPu_at (by omega) (gPu_at (by omega) (gFin_at (by omega) (gPu_at (by omega) (gPu_at (by omega) (gFin_at (by omega) (gPu_at (by omega) (gPu_at (by omega) (gFin_at (by omega) (gPu_at (by omega) (gPu_at (by omega) (gFin_at (by omega) (gPu_at (by omega) (gPu_at (by omega) (gFin_at (by omega) (gPu_at (by omega) (gPu_at (by omega) (gFin_at (by omega) (gPu_at (by omega) (gPu_at (by omega) (gFin_at (by omega) (gPu_at (by omega) (gPu_at (by omega) (gFin_at (by omega) (gPu_at (by omega) (gPu_at (by omega) (gFin_at (by omega) (gPu_at (by omega) (gPu_at (by omega) (gFin_at (by omega) (gPu_at (by omega) (gPu_at (by omega) (gFin_at (by omega) (gPu_at (by omega) (gPu_at (by omega) (gFin_at (by omega) (gPu_at (by omega) (gPu_at (by omega) (gFin_at (by omega) (gPu_at (by omega) (gPu_at (by omega) (gFin_at (by omega) (gPu_at (by omega) (gPu_at (by omega) (gFin_at (by omega) (gPu_at (by omega) (gPu_at (by omega) (gFin_at (by omega) (gPu_at (by omega) (gPu_at (by omega) (gFin_at (by omega) (gPu_at (by omega) (gPu_at (by omega) (gFin_at (by omega) (gPu_at (by omega) (gPu_at (by omega) (gFin_at (by omega) (gPu_at (by omega) (gPu_at (by omega) (gFin_at (by omega) (gPu_at (by omega) (gPu_at (by omega) (gFin_at (by omega) (gPu_at (by omega) (gPu_at (by omega) (gFin_at (by omega) (gPu_at (by omega) (gPu_at (by omega) (gFin_is c4 hq)))))))))))))))))))))))))))))))))))))))))))))))))))))))))))))))))))))))
    by_cases c5 : a + 5 ≤ q ∧ q < a + 6
    · exact hH q e (gPu_at (by omega) (gFin_at (by omega) (gPu_at (by omega) (gPu_at (by omega) (gFin_at (by omega) (gPu_at (by omega) (gPu_at (by omega) (gFin_at (by omega) (gPu_at (by omega) (gPu_at (by omega) (gFin_at (by omega) (gPu_at (by omega) (gPu_at (by omega) (gFin_at (by omega) (gPu_at (by omega) (gPu_at (by omega) (gFin_at (by omega) (gPu_at (by omega) (gPu_at (by omega) (gFin_at (by omega) (gPu_at (by omega) (gPu_at (by omega) (gFin_at (by omega) (gPu_at (by omega) (gPu_at (by omega) (gFin_at (by omega) (gPu_at (by omega) (gPu_at (by omega) (gFin_at (by omega) (gPu_at (by omega) (gPu_at (by omega) (gFin_at (by omega) (gPu_at (by omega) (gPu_at (by omega) (gFin_at (by omega) (gPu_at (by omega) (gPu_at (by omega) (gFin_at (by omega) (gPu_at (by omega) (gPu_at (by omega) (gFin_at (by omega) (gPu_at (by omega) (gPu_at (by omega) (gFin_at (by omega) (gPu_at (by omega) (gPu_at (by omega) (gFin_at (by omega) (gPu_at (by omega) (gPu_at (by omega) (gFin_at (by omega) (gPu_at (by omega) (gPu_at (by omega) (gFin_at (by omega) (gPu_at (by omega) (gPu_at (by omega) (gFin_at (by omega) (gPu_at (by omega) (gPu_at (by omega) (gFin_at (by omega) (gPu_at (by omega) (gPu_at (by omega) (gFin_at (by omega) (gPu_at (by omega) (gPu_at (by omega) (gFin_at (by omega) (gPu_at (by omega) (gPu_at (by omega) (gFin_is c5 hq))))))))))))))))))))))))))))))))))))))))))))))))))))))))))))))))))))
    by_cases c6 : a + 6 ≤ q ∧ q < a + 7
    · exact hH q e (gPu_at (by omega) (gFin_at (by omega) (gPu_at (by omega) (gPu_at (by omega) (gFin_at (by omega) (gPu_at (by omega) (gPu_at (by omega) (gFin_at (by omega) (gPu_at (by omega) (gPu_at (by omega) (gFin_at (by omega) (gPu_at (by omega) (gPu_at (by omega) (gFin_at (by omega) (gPu_at (by omega) (gPu_at (by omega) (gFin_at (by omega) (gPu_at (by omega) (gPu_at (by omega) (gFin_at (by omega) (gPu_at (by omega) (gPu_at (by omega) (gFin_at (by omega) (gPu_at (by omega) (gPu_at (by omega) (gFin_at (by omega) (gPu_at (by omega) (gPu_at (by omega) (gFin_at (by omega) (gPu_at (by omega) (gPu_at (by omega) (gFin_at (by omega) (gPu_at (by omega) (gPu_at (by omega) (gFin_at (by omega) (gPu_at (by omega) (gPu_at (by omega) (gFin_at (by omega) (gPu_at (by omega) (gPu_at (by omega) (gFin_at (by omega) (gPu_at (by omega) (gPu_at (by omega) (gFin_at (by omega) (gPu_at (by omega) (gPu_at (by omega) (gFin_at (by omega) (gPu_at (by omega) (gPu_at (by omega) (gFin_at (by omega) (gPu_at (by omega) (gPu_at (by omega) (gFin_at (by omega) (gPu_at (by omega) (gPu_at (by omega) (gFin_at (by omega) (gPu_at (by omega) (gPu_at (by omega) (gFin_at (by omega) (gPu_at (by omega) (gPu_at (by omega) (gFin_at (by omega) (gPu_at (by omega) (gPu_at (by omega) (gFin_is c6 hq)))))))))))))))))))))))))))))))))))))))))))))))))))))))))))))))))
    by_cases c7 : a + 7 ≤ q ∧ q < a + 8
    · exact hH q e (gPu_at (by omega) (gFin_at (by omega) (gPu_at (by omega) (gPu_at (by omega) (gFin_at (by omega) (gPu_at (by omega) (gPu_at (by omega) (gFin_at (by omega) (gPu_at (by omega) (gPu_at (by omega) (gFin_at (by omega) (gPu_at (by omega) (gPu_at (by omega) (gFin_at (by omega) (gPu_at (by omega) (gPu_at (by omega) (gFin_at (by omega) (gPu_at (by omega) (gPu_at (by omega) (gFin_at (by omega) (gPu_at (by omega) (gPu_at (by omega) (gFin_at (by omega) (gPu_at (by omega) (gPu_at (by omega) (gFin_at (by omega) (gPu_at (by omega) (gPu_at (by omega) (gFin_at (by omega) (gPu_at (by omega) (gPu_at (by omega) (gFin_at (by omega) (gPu_at (by omega) (gPu_at (by omega) (gFin_at (by omega) (gPu_at (by omega) (gPu_at (by omega) (gFin_at (by omega) (gPu_at (by omega) (gPu_at (by omega) (gFin_at (by omega) (gPu_at (by omega) (gPu_at (by omega) (gFin_at (by omega) (gPu_at (by omega) (gPu_at (by omega) (gFin_at (by omega) (gPu_at (by omega) (gPu_at (by omega) (gFin_at (by omega) (gPu_at (by omega) (gPu_at (by omega) (gFin_at (by omega) (gPu_at (by omega) (gPu_at (by omega) (gFin_at (by omega) (gPu_at (by omega) (gPu_at (by omega) (gFin_at (by omega) (gPu_at (by omega) (gPu_at (by omega) (gFin_is c7 hq))))))))))))))))))))))))))))))))))))))))))))))))))))))))))))))
    by_cases c8 : a + 8 ≤ q ∧ q < a + 9
    · exact hH q e (gPu_at (by omega) (gFin_at (by omega) (gPu_at (by omega) (gPu_at (by omega) (gFin_at (by omega) (gPu_at (by omega) (gPu_at (by omega) (gFin_at (by omega) (gPu_at (by omega) (gPu_at (by omega) (gFin_at (by omega) (gPu_at (by omega) (gPu_at (by omega) (gFin_at (by omega) (gPu_at (by omega) (gPu_at (by omega) (gFin_at (by omega) (gPu_at (by omega) (gPu_at (by omega) (gFin_at (by omega) (gPu_at (by omega) (gPu_at (by omega) (gFin_at (by omega) (gPu_at (by omega) (gPu_at (by omega) (gFin_at (by omega) (gPu_at (by omega) (gPu_at (by omega) (gFin_at (by omega) (gPu_at (by omega) (gPu_at (by omega) (gFin_at (by omega) (gPu_at (by omega) (gPu_at (by omega) (gFin_at (by omega) (gPu_at (by omega) (gPu_at (by omega) (gFin_at (by omega) (gPu_at (by omega) (gPu_at (by omega) (gFin_at (by omega) (gPu_at (by omega) (gPu_at (by omega) (gFin_at (by omega) (gPu_at (by omega) (gPu_at (by omega) (gFin_at (by omega) (gPu_at (by omega) (gPu_at (by omega) (gFin_at (by omega) (gPu_at (by omega) (gPu_at (by omega) (gFin_at (by omega) (gPu_at (by omega) (gPu_at (by omega) (gFin_at (by omega) (gPu_at (by omega) (gPu_at (by omega) (gFin_is c8 hq)))))))))))))))))))))))))))))))))))))))))))))))))))))))))))
    by_cases c9 : a + 9 ≤ q ∧ q < a + 10
    · exact hH q e (gPu_at (by omega) (gFin_at (by omega) (gPu_at (by omega) (gPu_at (by omega) (gFin_at (by omega) (gPu_at (by omega) (gPu_at (by omega) (gFin_at (by omega) (gPu_at (by omega) (gPu_at (by omega) (gFin_at (by omega) (gPu_at (by omega) (gPu_at (by omega) (gFin_at (by omega) (gPu_at (by omega) (gPu_at (by omega) (gFin_at (by omega) (gPu_at (by omega) (gPu_at (by omega) (gFin_at (by omega) (gPu_at (by omega) (gPu_at (by omega) (gFin_at (by omega) (gPu_at (by omega) (gPu_at (by omega) (gFin_at (by omega) (gPu_at (by omega) (gPu_at (by omega) (gFin_at (by omega) (gPu_at (by omega) (gPu_at (by omega) (gFin_at (by omega) (gPu_at (by omega) (gPu_at (by omega) (gFin_at (by omega) (gPu_at (by omega) (gPu_at (by omega) (gFin_at (by omega) (gPu_at (by omega) (gPu_at (by omega) (gFin_at (by omega) (gPu_at (by omega) (gPu_at (by omega) (gFin_at (by omega) (gPu_at (by omega) (gPu_at (by omega) (gFin_at (by omega) (gPu_at (by omega) (gPu_at (by omega) (gFin_at (by omega) (gPu_at (by omega) (gPu_at (by omega) (gFin_at (by omega) (gPu_at (by omega) (gPu_at (by omega) (gFin_is c9 hq))))))))))))))))))))))))))))))))))))))))))))))))))))))))
    by_cases c10 : a + 10 ≤ q ∧ q < a + 11
    · exact hH q e (gPu_at (by omega) (gFin_at (by omega) (gPu_at (by omega) (gPu_at (by omega) (gFin_at (by omega) (gPu_at (by omega) (gPu_at (by omega) (gFin_at (by omega) (gPu_at (by omega) (gPu_at (by omega) (gFin_at (by omega) (gPu_at (by omega) (gPu_at (by omega) (gFin_at (by omega) (gPu_at (by omega) (gPu_at (by omega) (gFin_at (by omega) (gPu_at (by omega) (gPu_at (by omega) (gFin_at (by omega) (gPu_at (by omega) (gPu_at (by omega) (gFin_at (by omega) (gPu_at (by omega) (gPu_at (by omega) (gFin_at (by omega) (gPu_at (by omega) (gPu_at (by omega) (gFin_at (by omega) (gPu_at (by omega) (gPu_at (by omega) (gFin_at (by omega) (gPu_at (by omega) (gPu_at (by omega) (gFin_at (by omega) (gPu_at (by omega) (gPu_at (by omega) (gFin_at (by omega) (gPu_at (by omega) (gPu_at (by omega) (gFin_at (by omega) (gPu_at (by omega) (gPu_at (by omega) (gFin_at (by omega) (gPu_at (by omega) (gPu_at (by omega) (gFin_at (by omega) (gPu_at (by omega) (gPu_at (by omega) (gFin_at (by omega) (gPu_at (by omega) (gPu_at (by omega) (gFin_is c10 hq)))))))))))))))))))))))))))))))))))))))))))))))))))))
    by_cases c11 : a + 11 ≤ q ∧ q < a + 12
    · exact hH q e (gPu_at (by omega) (gFin_at (by omega) (gPu_at (by omega) (gPu_at (by omega) (gFin_at (by omega) (gPu_at (by omega) (gPu_at (by omega) (gFin_at (by omega) (gPu_at (by omega) (gPu_at (by omega) (gFin_at (by omega) (gPu_at (by omega) (gPu_at (by omega) (gFin_at (by omega) (gPu_at (by omega) (gPu_at (by omega) (gFin_at (by omega) (gPu_at (by omega) (gPu_at (by omega) (gFin_at (by omega) (gPu_at (by omega) (gPu_at (by omega) (gFin_at (by omega) (gPu_at (by omega) (gPu_at (by omega) (gFin_at (by omega) (gPu_at (by omega) (gPu_at (by omega) (gFin_at (by omega) (gPu_at (by omega) (gPu_at (by omega) (gFin_at (by omega) (gPu_at (by omega) (gPu_at (by omega) (gFin_at (by omega) (gPu_at (by omega) (gPu_at (by omega) (gFin_at (by omega) (gPu_at (by omega) (gPu_at (by omega) (gFin_at (by omega) (gPu_at (by omega) (gPu_at (by omega) (gFin_at (by omega) (gPu_at (by omega) (gPu_at (by omega) (gFin_at (by omega) (gPu_at (by omega) (gPu_at (by omega) (gFin_is c11 hq))))))))))))))))))))))))))))))))))))))))))))))))))
    by_cases c12 : a + 12 ≤ q ∧ q < a + 13
    · exact hH q e (gPu_at (by omega) (gFin_at (by omega) (gPu_at (by omega) (gPu_at (by omega) (gFin_at (by omega) (gPu_at (by omega) (gPu_at (by omega) (gFin_at (by omega) (gPu_at (by omega) (gPu_at (by omega) (gFin_at (by omega) (gPu_at (by omega) (gPu_at (by omega) (gFin_at (by omega) (gPu_at (by omega) (gPu_at (by omega) (gFin_at (by omega) (gPu_at (by omega) (gPu_at (by omega) (gFin_at (by omega) (gPu_at (by omega) (gPu_at (by omega) (gFin_at (by omega) (gPu_at (by omega) (gPu_at (by omega) (gFin_at (by omega) (gPu_at (by omega) (gPu_at (by omega) (gFin_at (by omega) (gPu_at (by omega) (gPu_at (by omega) (gFin_at (by omega) (gPu_at (by omega) (gPu_at (by omega) (gFin_at (by omega) (gPu_at (by omega) (gPu_at (by omega) (gFin_at (by omega) (gPu_at (by omega) (gPu_at (by omega) (gFin_at (by omega) (gPu_at (by omega) (gPu_at (by omega) (gFin_at (by omega) (gPu_at (by omega) (gPu_at (by omega) (gFin_is c12 hq)))))))))))))))))))))))))))))))))))))))))))))))
    by_cases c13 : a + 13 ≤ q ∧ q < a + 14
    · exact hH q e (gPu_at (by omega) (gFin_at (by omega) (gPu_at (by omega) (gPu_at (by omega) (gFin_at (by omega) (gPu_at (by omega) (gPu_at (by omega) (gFin_at (by omega) (gPu_at (by omega) (gPu_at (by omega) (gFin_at (by omega) (gPu_at (by omega) (gPu_at (by omega) (gFin_at (by omega) (gPu_at (by omega) (gPu_at (by omega) (gFin_at (by omega) (gPu_at (by omega) (gPu_at (by omega) (gFin_at (by omega) (gPu_at (by omega) (gPu_at (by omega) (gFin_at (by omega) (gPu_at (by omega) (gPu_at (by omega) (gFin_at (by omega) (gPu_at (by omega) (gPu_at (by omega) (gFin_at (by omega) (gPu_at (by omega) (gPu_at (by omega) (gFin_at (by omega) (gPu_at (by omega) (gPu_at (by omega) (gFin_at (by omega) (gPu_at (by omega) (gPu_at (by omega) (gFin_at (by omega) (gPu_at (by omega) (gPu_at (by omega) (gFin_at (by omega) (gPu_at (by omega) (gPu_at (by omega) (gFin_is c13 hq))))))))))))))))))))))))))))))))))))))))))))
    by_cases c14 : a + 14 ≤ q ∧ q < a + 15
    · exact hH q e (gPu_at (by omega) (gFin_at (by omega) (gPu_at (by omega) (gPu_at (by omega) (gFin_at (by omega) (gPu_at (by omega) (gPu_at (by omega) (gFin_at (by omega) (gPu_at (by omega) (gPu_at (by omega) (gFin_at (by omega) (gPu_at (by omega) (gPu_at (by omega) (gFin_at (by omega) (gPu_at (by omega) (gPu_at (by omega) (gFin_at (by omega) (gPu_at (by omega) (gPu_at (by omega) (gFin_at (by omega) (gPu_at (by omega) (gPu_at (by omega) (gFin_at (by omega) (gPu_at (by omega) (gPu_at (by omega) (gFin_at (by omega) (gPu_at (by omega) (gPu_at (by omega) (gFin_at (by omega) (gPu_at (by omega) (gPu_at (by omega) (gFin_at (by omega) (gPu_at (by omega) (gPu_at (by omega) (gFin_at (by omega) (gPu_at (by omega) (gPu_at (by omega) (gFin_at (by omega) (gPu_at (by omega) (gPu_at (by omega) (gFin_is c14 hq)))))))))))))))))))))))))))))))))))))))))
    by_cases c15 : a + 15 ≤ q ∧ q < a + 16
    · exact hH q e (gPu_at (by omega) (gFin_at (by omega) (gPu_at (by omega) (gPu_at (by omega) (gFin_at (by omega) (gPu_at (by omega) (gPu_at (by omega) (gFin_at (by omega) (gPu_at (by omega) (gPu_at (by omega) (gFin_at (by omega) (gPu_at (by omega) (gPu_at (by omega) (gFin_at (by omega) (gPu_at (by omega) (gPu_at (by omega) (gFin_at (by omega) (gPu_at (by omega) (gPu_at (by omega) (gFin_at (by omega) (gPu_at (by omega) (gPu_at (by omega) (gFin_at (by omega) (gPu_at (by omega) (gPu_at (by omega) (gFin_at (by omega) (gPu_at (by omega) (gPu_at (by omega) (gFin_at (by omega) (gPu_at (by omega) (gPu_at (by omega) (gFin_at (by omega) (gPu_at (by omega) (gPu_at (by omega) (gFin_at (by omega) (gPu_at (by omega) (gPu_at (by omega) (gFin_is c15 hq))))))))))))))))))))))))))))))))))))))
    by_cases c16 : a + 16 ≤ q ∧ q < a + 17
    · exact hH q e (gPu_at (by omega) (gFin_at (by omega) (gPu_at (by omega) (gPu_at (by omega) (gFin_at (by omega) (gPu_at (by omega) (gPu_at (by omega) (gFin_at (by omega) (gPu_at (by omega) (gPu_at (by omega) (gFin_at (by omega) (gPu_at (by omega) (gPu_at (by omega) (gFin_at (by omega) (gPu_at (by omega) (gPu_at (by omega) (gFin_at (by omega) (gPu_at (by omega) (gPu_at (by omega) (gFin_at (by omega) (gPu_at (by omega) (gPu_at (by omega) (gFin_at (by omega) (gPu_at (by omega) (gPu_at (by omega) (gFin_at (by omega) (gPu_at (by omega) (gPu_at (by omega) (gFin_at (by omega) (gPu_at (by omega) (gPu_at (by omega) (gFin_at (by omega) (gPu_at (by omega) (gPu_at (by omega) (gFin_is c16 hq)))))))))))))))))))))))))))))))))))
    by_cases c17 : a + 17 ≤ q ∧ q < a + 18
    · exact hH q e (gPu_at (by omega) (gFin_at (by omega) (gPu_at (by omega) (gPu_at (by omega) (gFin_at (by omega) (gPu_at (by omega) (gPu_at (by omega) (gFin_at (by omega) (gPu_at (by omega) (gPu_at (by omega) (gFin_at (by omega) (gPu_at (by omega) (gPu_at (by omega) (gFin_at (by omega) (gPu_at (by omega) (gPu_at (by omega) (gFin_at (by omega) (gPu_at (by omega) (gPu_at (by omega) (gFin_at (by omega) (gPu_at (by omega) (gPu_at (by omega) (gFin_at (by omega) (gPu_at (by omega) (gPu_at (by omega) (gFin_at (by omega) (gPu_at (by omega) (gPu_at (by omega) (gFin_at (by omega) (gPu_at (by omega) (gPu_at (by omega) (gFin_is c17 hq))))))))))))))))))))))))))))))))
    by_cases c18 : a + 18 ≤ q ∧ q < a + 19
    · exact hH q e (gPu_at (by omega) (gFin_at (by omega) (gPu_at (by omega) (gPu_at (by omega) (gFin_at (by omega) (gPu_at (by omega) (gPu_at (by omega) (gFin_at (by omega) (gPu_at (by omega) (gPu_at (by omega) (gFin_at (by omega) (gPu_at (by omega) (gPu_at (by omega) (gFin_at (by omega) (gPu_at (by omega) (gPu_at (by omega) (gFin_at (by omega) (gPu_at (by omega) (gPu_at (by omega) (gFin_at (by omega) (gPu_at (by omega) (gPu_at (by omega) (gFin_at (by omega) (gPu_at (by omega) (gPu_at (by omega) (gFin_at (by omega) (gPu_at (by omega) (gPu_at (by omega) (gFin_is c18 hq)))))))))))))))))))))))))))))
    by_cases c19 : a + 19 ≤ q ∧ q < a + 20
    · exact hH q e (gPu_at (by omega) (gFin_at (by omega) (gPu_at (by omega) (gPu_at (by omega) (gFin_at (by omega) (gPu_at (by omega) (gPu_at (by omega) (gFin_at (by omega) (gPu_at (by omega) (gPu_at (by omega) (gFin_at (by omega) (gPu_at (by omega) (gPu_at (by omega) (gFin_at (by omega) (gPu_at (by omega) (gPu_at (by omega) (gFin_at (by omega) (gPu_at (by omega) (gPu_at (by omega) (gFin_at (by omega) (gPu_at (by omega) (gPu_at (by omega) (gFin_at (by omega) (gPu_at (by omega) (gPu_at (by omega) (gFin_is c19 hq))))))))))))))))))))))))))
    by_cases c20 : a + 20 ≤ q ∧ q < a + 21
    · exact hH q e (gPu_at (by omega) (gFin_at (by omega) (gPu_at (by omega) (gPu_at (by omega) (gFin_at (by omega) (gPu_at (by omega) (gPu_at (by omega) (gFin_at (by omega) (gPu_at (by omega) (gPu_at (by omega) (gFin_at (by omega) (gPu_at (by omega) (gPu_at (by omega) (gFin_at (by omega) (gPu_at (by omega) (gPu_at (by omega) (gFin_at (by omega) (gPu_at (by omega) (gPu_at (by omega) (gFin_at (by omega) (gPu_at (by omega) (gPu_at (by omega) (gFin_is c20 hq)))))))))))))))))))))))
    by_cases c21 : a + 21 ≤ q ∧ q < a + 22
    · exact hH q e (gPu_at (by omega) (gFin_at (by omega) (gPu_at (by omega) (gPu_at (by omega) (gFin_at (by omega) (gPu_at (by omega) (gPu_at (by omega) (gFin_at (by omega) (gPu_at (by omega) (gPu_at (by omega) (gFin_at (by omega) (gPu_at (by omega) (gPu_at (by omega) (gFin_at (by omega) (gPu_at (by omega) (gPu_at (by omega) (gFin_at (by omega) (gPu_at (by omega) (gPu_at (by omega) (gFin_is c21 hq))))))))))))))))))))
    by_cases c22 : a + 22 ≤ q ∧ q < a + 23
    · exact hH q e (gPu_at (by omega) (gFin_at (by omega) (gPu_at (by omega) (gPu_at (by omega) (gFin_at (by omega) (gPu_at (by omega) (gPu_at (by omega) (gFin_at (by omega) (gPu_at (by omega) (gPu_at (by omega) (gFin_at (by omega) (gPu_at (by omega) (gPu_at (by omega) (gFin_at (by omega) (gPu_at (by omega) (gPu_at (by omega) (gFin_is c22 hq)))))))))))))))))
    by_cases c23 : a + 23 ≤ q ∧ q < a + 24
    · exact hH q e (gPu_at (by omega) (gFin_at (by omega) (gPu_at (by omega) (gPu_at (by omega) (gFin_at (by omega) (gPu_at (by omega) (gPu_at (by omega) (gFin_at (by omega) (gPu_at (by omega) (gPu_at (by omega) (gFin_at (by omega) (gPu_at (by omega) (gPu_at (by omega) (gFin_is c23 hq))))))))))))))
    by_cases c24 : a + 24 ≤ q ∧ q < a + 25
    · exact hH q e (gPu_at (by omega) (gFin_at (by omega) (gPu_at (by omega) (gPu_at (by omega) (gFin_at (by omega) (gPu_at (by omega) (gPu_at (by omega) (gFin_at (by omega) (gPu_at (by omega) (gPu_at (by omega) (gFin_is c24 hq)))))))))))
    by_cases c25 : a + 25 ≤ q ∧ q < a + 26
    · exact hH q e (gPu_at (by omega) (gFin_at (by omega) (gPu_at (by omega) (gPu_at (by omega) (gFin_at (by omega) (gPu_at (by omega) (gPu_at (by omega) (gFin_is c25 hq))))))))
    by_cases c26 : a + 26 ≤ q ∧ q < a + 27
    · exact hH q e (gPu_at (by omega) (gFin_at (by omega) (gPu_at (by omega) (gPu_at (by omega) (gFin_is c26 hq)))))
    by_cases c27 : a + 27 ≤ q ∧ q < a + 28
    · exact hH q e (gPu_at (by omega) (gFin_is c27 hq))
    exact absurd c (by omega)
  · rw [if_neg c] at hq
    exact hH q e (gPu_at (by omega) (gFin_at (by omega) (gPu_at (by omega) (gPu_at (by omega) (gFin_at (by omega) (gPu_at (by omega) (gPu_at (by omega) (gFin_at (by omega) (gPu_at (by omega) (gPu_at (by omega) (gFin_at (by omega) (gPu_at (by omega) (gPu_at (by omega) (gFin_at (by omega) (gPu_at (by omega) (gPu_at (by omega) (gFin_at (by omega) (gPu_at (by omega) (gPu_at (by omega) (gFin_at (by omega) (gPu_at (by omega) (gPu_at (by omega) (gFin_at (by omega) (gPu_at (by omega) (gPu_at (by omega) (gFin_at (by omega) (gPu_at (by omega) (gPu_at (by omega) (gFin_at (by omega) (gPu_at (by omega) (gPu_at (by omega) (gFin_at (by omega) (gPu_at (by omega) (gPu_at (by omega) (gFin_at (by omega) (gPu_at (by omega) (gPu_at (by omega) (gFin_at (by omega) (gPu_at (by omega) (gPu_at (by omega) (gFin_at (by omega) (gPu_at (by omega) (gPu_at (by omega) (gFin_at (by omega) (gPu_at (by omega) (gPu_at (by omega) (gFin_at (by omega) (gPu_at (by omega) (gPu_at (by omega) (gFin_at (by omega) (gPu_at (by omega) (gPu_at (by omega) (gFin_at (by omega) (gPu_at (by omega) (gPu_at (by omega) (gFin_at (by omega) (gPu_at (by omega) (gPu_at (by omega) (gFin_at (by omega) (gPu_at (by omega) (gPu_at (by omega) (gFin_at (by omega) (gPu_at (by omega) (gPu_at (by omega) (gFin_at (by omega) (gPu_at (by omega) (gPu_at (by omega) (gFin_at (by omega) (gPu_at (by omega) (gPu_at (by omega) (gFin_at (by omega) (gPu_at (by omega) (gPu_at (by omega) (gFin_at (by omega) (gPu_at (by omega) (gPu_at (by omega) (gPu_at (by omega) (gPu_at (by omega) (gPu_at (by omega) (hq))))))))))))))))))))))))))))))))))))))))))))))))))))))))))))))))))))))))))))))))
