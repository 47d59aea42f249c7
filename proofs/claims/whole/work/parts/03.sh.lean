def gNf : Nat → Nat := fun _ => 0
def is_X2 (w : gWd) (a : Nat) : Prop := gsh w a = some (.inl (2, [.inl 1, .inl 1]))
theorem is_X2_sh {w : gWd} {a : Nat} (F : is_X2 w a) : gsh w a = some (.inl (2, [.inl 1, .inl 1])) := F
def is_X4 (w : gWd) (a : Nat) : Prop := gsh w a = some (.inl (4, [.inr (a + 1), .inl 0])) ∧ gsh w (a + 1) = some (.inr (2, 40, gNf))
theorem is_X4_sh {w : gWd} {a : Nat} (F : is_X4 w a) : gsh w a = some (.inl (4, [.inr (a + 1), .inl 0])) := F.1
theorem is_X4_characters {w : gWd} {a : Nat} (F : is_X4 w a) : gsh w (a + 1) = some (.inr (2, 40, gNf)) := F.2
def is_X5 (w : gWd) (a : Nat) : Prop := gsh w a = some (.inl (5, [.inr (a + 1), .inr (a + 2), .inr (a + 3), .inr (a + 4), .inl 0])) ∧ gsh w (a + 1) = some (.inr (0, 11, gNf)) ∧ gsh w (a + 2) = some (.inr (0, 11, gNf)) ∧ gsh w (a + 3) = some (.inr (0, 11, gNf)) ∧ gsh w (a + 4) = some (.inr (0, 6, gNf))
theorem is_X5_sh {w : gWd} {a : Nat} (F : is_X5 w a) : gsh w a = some (.inl (5, [.inr (a + 1), .inr (a + 2), .inr (a + 3), .inr (a + 4), .inl 0])) := F.1
theorem is_X5_kind {w : gWd} {a : Nat} (F : is_X5 w a) : gsh w (a + 1) = some (.inr (0, 11, gNf)) := F.2.1
theorem is_X5_around {w : gWd} {a : Nat} (F : is_X5 w a) : gsh w (a + 2) = some (.inr (0, 11, gNf)) := F.2.2.1
theorem is_X5_letter {w : gWd} {a : Nat} (F : is_X5 w a) : gsh w (a + 3) = some (.inr (0, 11, gNf)) := F.2.2.2.1
theorem is_X5_partOfArm {w : gWd} {a : Nat} (F : is_X5 w a) : gsh w (a + 4) = some (.inr (0, 6, gNf)) := F.2.2.2.2
def is_X7 (w : gWd) (a : Nat) : Prop := gsh w a = some (.inl (7, [.inr (a + 1), .inr (a + 2), .inr (a + 3), .inl 0])) ∧ gsh w (a + 1) = some (.inr (1, 20, gNf)) ∧ gsh w (a + 2) = some (.inr (1, 20, gNf)) ∧ gsh w (a + 3) = some (.inr (0, 20, gNf))
theorem is_X7_sh {w : gWd} {a : Nat} (F : is_X7 w a) : gsh w a = some (.inl (7, [.inr (a + 1), .inr (a + 2), .inr (a + 3), .inl 0])) := F.1
theorem is_X7_upper {w : gWd} {a : Nat} (F : is_X7 w a) : gsh w (a + 1) = some (.inr (1, 20, gNf)) := F.2.1
theorem is_X7_lower {w : gWd} {a : Nat} (F : is_X7 w a) : gsh w (a + 2) = some (.inr (1, 20, gNf)) := F.2.2.1
theorem is_X7_times {w : gWd} {a : Nat} (F : is_X7 w a) : gsh w (a + 3) = some (.inr (0, 20, gNf)) := F.2.2.2
def is_X8 (w : gWd) (a : Nat) : Prop := gsh w a = some (.inl (8, [.inr (a + 1), .inr (a + 6), .inr (a + 10), .inr (a + 11), .inr (a + 12), .inl 0, .inl 0, .inl 0])) ∧ is_X5 w (a + 1) ∧ is_X7 w (a + 6) ∧ gsh w (a + 10) = some (.inr (0, 6, gNf)) ∧ gsh w (a + 11) = some (.inr (0, 6, gNf)) ∧ gsh w (a + 12) = some (.inr (3, 11, gNf))
theorem is_X8_sh {w : gWd} {a : Nat} (F : is_X8 w a) : gsh w a = some (.inl (8, [.inr (a + 1), .inr (a + 6), .inr (a + 10), .inr (a + 11), .inr (a + 12), .inl 0, .inl 0, .inl 0])) := F.1
theorem is_X8_network {w : gWd} {a : Nat} (F : is_X8 w a) : is_X5 w (a + 1) := F.2.1
theorem is_X8_notes {w : gWd} {a : Nat} (F : is_X8 w a) : is_X7 w (a + 6) := F.2.2.1
theorem is_X8_armValue {w : gWd} {a : Nat} (F : is_X8 w a) : gsh w (a + 10) = some (.inr (0, 6, gNf)) := F.2.2.2.1
theorem is_X8_armState {w : gWd} {a : Nat} (F : is_X8 w a) : gsh w (a + 11) = some (.inr (0, 6, gNf)) := F.2.2.2.2.1
theorem is_X8_isFolded {w : gWd} {a : Nat} (F : is_X8 w a) : gsh w (a + 12) = some (.inr (3, 11, gNf)) := F.2.2.2.2.2
def is_X3 (w : gWd) (a : Nat) : Prop := gsh w a = some (.inl (3, [.inr (a + 1), .inl 0, .inl 0])) ∧ gsh w (a + 1) = some (.inr (5, 5, fun i => a + 2 + 13 * i)) ∧ (∀ i : Nat, i < 5 → is_X8 w (a + 2 + 13 * i))
theorem is_X3_sh {w : gWd} {a : Nat} (F : is_X3 w a) : gsh w a = some (.inl (3, [.inr (a + 1), .inl 0, .inl 0])) := F.1
theorem is_X3_states {w : gWd} {a : Nat} (F : is_X3 w a) : gsh w (a + 1) = some (.inr (5, 5, fun i => a + 2 + 13 * i)) := F.2.1
theorem is_X3_states_at {w : gWd} {a : Nat} (F : is_X3 w a) {i : Int32} (hi : gIn i 5) : is_X8 w (a + 2 + 13 * gN i) := F.2.2 (gN i) (Nat.not_le.mp fun q => hi (Or.inr q))
def is_X6 (w : gWd) (a : Nat) : Prop := gsh w a = some (.inl (6, [.inr (a + 1), .inr (a + 2), .inl 0])) ∧ gsh w (a + 1) = some (.inr (0, 41, gNf)) ∧ gsh w (a + 2) = some (.inr (0, 41, gNf))
theorem is_X6_sh {w : gWd} {a : Nat} (F : is_X6 w a) : gsh w a = some (.inl (6, [.inr (a + 1), .inr (a + 2), .inl 0])) := F.1
theorem is_X6_pieces {w : gWd} {a : Nat} (F : is_X6 w a) : gsh w (a + 1) = some (.inr (0, 41, gNf)) := F.2.1
theorem is_X6_links {w : gWd} {a : Nat} (F : is_X6 w a) : gsh w (a + 2) = some (.inr (0, 41, gNf)) := F.2.2
def is_X1 (w : gWd) (a : Nat) : Prop := gsh w a = some (.inl (1, [.inl 0, .inl 0, .inl 0]))
theorem is_X1_sh {w : gWd} {a : Nat} (F : is_X1 w a) : gsh w a = some (.inl (1, [.inl 0, .inl 0, .inl 0])) := F
def is_X0 (w : gWd) (a : Nat) : Prop := gsh w a = some (.inl (0, [.inr (a + 1), .inr (a + 2), .inr (a + 3), .inr (a + 4), .inr (a + 5)])) ∧ gsh w (a + 1) = some (.inr (4, 11, fun i => a + 6 + 2 * i)) ∧ (∀ i : Nat, i < 11 → is_X2 w (a + 6 + 2 * i)) ∧ gsh w (a + 2) = some (.inr (4, 11, fun i => a + 7 + 2 * i)) ∧ (∀ i : Nat, i < 11 → is_X2 w (a + 7 + 2 * i)) ∧ is_X2 w (a + 3) ∧ is_X2 w (a + 4) ∧ is_X2 w (a + 5)
theorem is_X0_sh {w : gWd} {a : Nat} (F : is_X0 w a) : gsh w a = some (.inl (0, [.inr (a + 1), .inr (a + 2), .inr (a + 3), .inr (a + 4), .inr (a + 5)])) := F.1
theorem is_X0_ohms {w : gWd} {a : Nat} (F : is_X0 w a) : gsh w (a + 1) = some (.inr (4, 11, fun i => a + 6 + 2 * i)) := F.2.1
theorem is_X0_ohms_at {w : gWd} {a : Nat} (F : is_X0 w a) {i : Int32} (hi : gIn i 11) : is_X2 w (a + 6 + 2 * gN i) := F.2.2.1 (gN i) (Nat.not_le.mp fun q => hi (Or.inr q))
theorem is_X0_volts {w : gWd} {a : Nat} (F : is_X0 w a) : gsh w (a + 2) = some (.inr (4, 11, fun i => a + 7 + 2 * i)) := F.2.2.2.1
theorem is_X0_volts_at {w : gWd} {a : Nat} (F : is_X0 w a) {i : Int32} (hi : gIn i 11) : is_X2 w (a + 7 + 2 * gN i) := F.2.2.2.2.1 (gN i) (Nat.not_le.mp fun q => hi (Or.inr q))
theorem is_X0_sum {w : gWd} {a : Nat} (F : is_X0 w a) : is_X2 w (a + 3) := F.2.2.2.2.2.1
theorem is_X0_share {w : gWd} {a : Nat} (F : is_X0 w a) : is_X2 w (a + 4) := F.2.2.2.2.2.2.1
theorem is_X0_unloaded {w : gWd} {a : Nat} (F : is_X0 w a) : is_X2 w (a + 5) := F.2.2.2.2.2.2.2
def is_X9 (w : gWd) (a : Nat) : Prop := gsh w a = some (.inl (9, [.inr (a + 1), .inr (a + 3), .inr (a + 16), .inr (a + 29), .inr (a + 42), .inr (a + 109), .inr (a + 112), .inr (a + 113), .inr (a + 141), .inl 0])) ∧ is_X4 w (a + 1) ∧ is_X8 w (a + 3) ∧ is_X8 w (a + 16) ∧ is_X8 w (a + 29) ∧ is_X3 w (a + 42) ∧ is_X6 w (a + 109) ∧ is_X1 w (a + 112) ∧ is_X0 w (a + 113) ∧ is_X2 w (a + 141)
theorem is_X9_sh {w : gWd} {a : Nat} (F : is_X9 w a) : gsh w a = some (.inl (9, [.inr (a + 1), .inr (a + 3), .inr (a + 16), .inr (a + 29), .inr (a + 42), .inr (a + 109), .inr (a + 112), .inr (a + 113), .inr (a + 141), .inl 0])) := F.1
theorem is_X9_text {w : gWd} {a : Nat} (F : is_X9 w a) : is_X4 w (a + 1) := F.2.1
theorem is_X9_now {w : gWd} {a : Nat} (F : is_X9 w a) : is_X8 w (a + 3) := F.2.2.1
theorem is_X9_snapshot {w : gWd} {a : Nat} (F : is_X9 w a) : is_X8 w (a + 16) := F.2.2.2.1
theorem is_X9_trial {w : gWd} {a : Nat} (F : is_X9 w a) : is_X8 w (a + 29) := F.2.2.2.2.1
theorem is_X9_history {w : gWd} {a : Nat} (F : is_X9 w a) : is_X3 w (a + 42) := F.2.2.2.2.2.1
theorem is_X9_reader {w : gWd} {a : Nat} (F : is_X9 w a) : is_X6 w (a + 109) := F.2.2.2.2.2.2.1
theorem is_X9_command {w : gWd} {a : Nat} (F : is_X9 w a) : is_X1 w (a + 112) := F.2.2.2.2.2.2.2.1
theorem is_X9_circuit {w : gWd} {a : Nat} (F : is_X9 w a) : is_X0 w (a + 113) := F.2.2.2.2.2.2.2.2.1
theorem is_X9_wanted {w : gWd} {a : Nat} (F : is_X9 w a) : is_X2 w (a + 141) := F.2.2.2.2.2.2.2.2.2
def is_X10 (w : gWd) (a : Nat) : Prop := gsh w a = some (.inl (10, [.inr (a + 1), .inr (a + 2), .inl 0, .inr (a + 3), .inl 0, .inl 0, .inr (a + 4), .inl 0, .inl 0, .inr (a + 5), .inr (a + 6), .inl 0, .inr (a + 7), .inr (a + 8), .inl 0, .inl 0, .inl 0, .inl 1, .inl 1, .inr (a + 9), .inr (a + 10), .inl 1, .inl 1, .inl 0, .inr (a + 11), .inr (a + 12)])) ∧ gsh w (a + 1) = some (.inr (1, 141, gNf)) ∧ gsh w (a + 2) = some (.inr (1, 705, gNf)) ∧ gsh w (a + 3) = some (.inr (1, 141, gNf)) ∧ gsh w (a + 4) = some (.inr (2, 40, gNf)) ∧ gsh w (a + 5) = some (.inr (0, 60, gNf)) ∧ gsh w (a + 6) = some (.inr (0, 12, gNf)) ∧ gsh w (a + 7) = some (.inr (0, 42, gNf)) ∧ gsh w (a + 8) = some (.inr (0, 42, gNf)) ∧ gsh w (a + 9) = some (.inr (1, 11, gNf)) ∧ gsh w (a + 10) = some (.inr (1, 11, gNf)) ∧ gsh w (a + 11) = some (.inr (1, 11, gNf)) ∧ gsh w (a + 12) = some (.inr (1, 11, gNf))
theorem is_X10_sh {w : gWd} {a : Nat} (F : is_X10 w a) : gsh w a = some (.inl (10, [.inr (a + 1), .inr (a + 2), .inl 0, .inr (a + 3), .inl 0, .inl 0, .inr (a + 4), .inl 0, .inl 0, .inr (a + 5), .inr (a + 6), .inl 0, .inr (a + 7), .inr (a + 8), .inl 0, .inl 0, .inl 0, .inl 1, .inl 1, .inr (a + 9), .inr (a + 10), .inl 1, .inl 1, .inl 0, .inr (a + 11), .inr (a + 12)])) := F.1
theorem is_X10_now {w : gWd} {a : Nat} (F : is_X10 w a) : gsh w (a + 1) = some (.inr (1, 141, gNf)) := F.2.1
theorem is_X10_history {w : gWd} {a : Nat} (F : is_X10 w a) : gsh w (a + 2) = some (.inr (1, 705, gNf)) := F.2.2.1
theorem is_X10_slot {w : gWd} {a : Nat} (F : is_X10 w a) : gsh w (a + 3) = some (.inr (1, 141, gNf)) := F.2.2.2.1
theorem is_X10_text {w : gWd} {a : Nat} (F : is_X10 w a) : gsh w (a + 4) = some (.inr (2, 40, gNf)) := F.2.2.2.2.1
theorem is_X10_read {w : gWd} {a : Nat} (F : is_X10 w a) : gsh w (a + 5) = some (.inr (0, 60, gNf)) := F.2.2.2.2.2.1
theorem is_X10_pile {w : gWd} {a : Nat} (F : is_X10 w a) : gsh w (a + 6) = some (.inr (0, 12, gNf)) := F.2.2.2.2.2.2.1
theorem is_X10_pieces {w : gWd} {a : Nat} (F : is_X10 w a) : gsh w (a + 7) = some (.inr (0, 42, gNf)) := F.2.2.2.2.2.2.2.1
theorem is_X10_links {w : gWd} {a : Nat} (F : is_X10 w a) : gsh w (a + 8) = some (.inr (0, 42, gNf)) := F.2.2.2.2.2.2.2.2.1
theorem is_X10_upper {w : gWd} {a : Nat} (F : is_X10 w a) : gsh w (a + 9) = some (.inr (1, 11, gNf)) := F.2.2.2.2.2.2.2.2.2.1
theorem is_X10_lower {w : gWd} {a : Nat} (F : is_X10 w a) : gsh w (a + 10) = some (.inr (1, 11, gNf)) := F.2.2.2.2.2.2.2.2.2.2.1
theorem is_X10_voltUp {w : gWd} {a : Nat} (F : is_X10 w a) : gsh w (a + 11) = some (.inr (1, 11, gNf)) := F.2.2.2.2.2.2.2.2.2.2.2.1
theorem is_X10_voltLow {w : gWd} {a : Nat} (F : is_X10 w a) : gsh w (a + 12) = some (.inr (1, 11, gNf)) := F.2.2.2.2.2.2.2.2.2.2.2.2
