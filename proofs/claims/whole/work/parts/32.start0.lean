/-- what each cell is, from the first one of the bench on -/
def gShL (b : Nat) : List gSh := [.inl (9, [.inr (b + 1), .inr (b + 3), .inr (b + 16), .inr (b + 29), .inr (b + 42), .inr (b + 109), .inr (b + 112), .inr (b + 113), .inr (b + 141), .inl 0]),
  .inl (4, [.inr (b + 2), .inl 0]),
  .inr (2, 40, gNf),
  .inl (8, [.inr (b + 4), .inr (b + 9), .inr (b + 13), .inr (b + 14), .inr (b + 15), .inl 0, .inl 0, .inl 0]),
  .inl (5, [.inr (b + 5), .inr (b + 6), .inr (b + 7), .inr (b + 8), .inl 0]),
  .inr (0, 11, gNf),
  .inr (0, 11, gNf),
  .inr (0, 11, gNf),
  .inr (0, 6, gNf),
  .inl (7, [.inr (b + 10), .inr (b + 11), .inr (b + 12), .inl 0]),
  .inr (1, 20, gNf),
  .inr (1, 20, gNf),
  .inr (0, 20, gNf),
  .inr (0, 6, gNf),
  .inr (0, 6, gNf),
  .inr (3, 11, gNf),
  .inl (8, [.inr (b + 17), .inr (b + 22), .inr (b + 26), .inr (b + 27), .inr (b + 28), .inl 0, .inl 0, .inl 0]),
  .inl (5, [.inr (b + 18), .inr (b + 19), .inr (b + 20), .inr (b + 21), .inl 0]),
  .inr (0, 11, gNf),
  .inr (0, 11, gNf),
  .inr (0, 11, gNf),
  .inr (0, 6, gNf),
  .inl (7, [.inr (b + 23), .inr (b + 24), .inr (b + 25), .inl 0]),
  .inr (1, 20, gNf),
  .inr (1, 20, gNf),
  .inr (0, 20, gNf),
  .inr (0, 6, gNf),
  .inr (0, 6, gNf),
  .inr (3, 11, gNf),
  .inl (8, [.inr (b + 30), .inr (b + 35), .inr (b + 39), .inr (b + 40), .inr (b + 41), .inl 0, .inl 0, .inl 0]),
  .inl (5, [.inr (b + 31), .inr (b + 32), .inr (b + 33), .inr (b + 34), .inl 0]),
  .inr (0, 11, gNf),
  .inr (0, 11, gNf),
  .inr (0, 11, gNf),
  .inr (0, 6, gNf),
  .inl (7, [.inr (b + 36), .inr (b + 37), .inr (b + 38), .inl 0]),
  .inr (1, 20, gNf),
  .inr (1, 20, gNf),
  .inr (0, 20, gNf),
  .inr (0, 6, gNf),
  .inr (0, 6, gNf),
  .inr (3, 11, gNf),
  .inl (3, [.inr (b + 43), .inl 0, .inl 0]),
  .inr (5, 5, fun i => b + 44 + 13 * i),
  .inl (8, [.inr (b + 45), .inr (b + 50), .inr (b + 54), .inr (b + 55), .inr (b + 56), .inl 0, .inl 0, .inl 0]),
  .inl (5, [.inr (b + 46), .inr (b + 47), .inr (b + 48), .inr (b + 49), .inl 0]),
  .inr (0, 11, gNf),
  .inr (0, 11, gNf),
  .inr (0, 11, gNf),
  .inr (0, 6, gNf),
  .inl (7, [.inr (b + 51), .inr (b + 52), .inr (b + 53), .inl 0]),
  .inr (1, 20, gNf),
  .inr (1, 20, gNf),
  .inr (0, 20, gNf),
  .inr (0, 6, gNf),
  .inr (0, 6, gNf),
  .inr (3, 11, gNf),
  .inl (8, [.inr (b + 58), .inr (b + 63), .inr (b + 67), .inr (b + 68), .inr (b + 69), .inl 0, .inl 0, .inl 0]),
  .inl (5, [.inr (b + 59), .inr (b + 60), .inr (b + 61), .inr (b + 62), .inl 0]),
  .inr (0, 11, gNf),
  .inr (0, 11, gNf),
  .inr (0, 11, gNf),
  .inr (0, 6, gNf),
  .inl (7, [.inr (b + 64), .inr (b + 65), .inr (b + 66), .inl 0]),
  .inr (1, 20, gNf),
  .inr (1, 20, gNf),
  .inr (0, 20, gNf),
  .inr (0, 6, gNf),
  .inr (0, 6, gNf),
  .inr (3, 11, gNf),
  .inl (8, [.inr (b + 71), .inr (b + 76), .inr (b + 80), .inr (b + 81), .inr (b + 82), .inl 0, .inl 0, .inl 0]),
  .inl (5, [.inr (b + 72), .inr (b + 73), .inr (b + 74), .inr (b + 75), .inl 0]),
  .inr (0, 11, gNf),
  .inr (0, 11, gNf),
  .inr (0, 11, gNf),
  .inr (0, 6, gNf),
  .inl (7, [.inr (b + 77), .inr (b + 78), .inr (b + 79), .inl 0]),
  .inr (1, 20, gNf),
  .inr (1, 20, gNf),
  .inr (0, 20, gNf),
  .inr (0, 6, gNf),
  .inr (0, 6, gNf),
  .inr (3, 11, gNf),
  .inl (8, [.inr (b + 84), .inr (b + 89), .inr (b + 93), .inr (b + 94), .inr (b + 95), .inl 0, .inl 0, .inl 0]),
  .inl (5, [.inr (b + 85), .inr (b + 86), .inr (b + 87), .inr (b + 88), .inl 0]),
  .inr (0, 11, gNf),
  .inr (0, 11, gNf),
  .inr (0, 11, gNf),
  .inr (0, 6, gNf),
  .inl (7, [.inr (b + 90), .inr (b + 91), .inr (b + 92), .inl 0]),
  .inr (1, 20, gNf),
  .inr (1, 20, gNf),
  .inr (0, 20, gNf),
  .inr (0, 6, gNf),
  .inr (0, 6, gNf),
  .inr (3, 11, gNf),
  .inl (8, [.inr (b + 97), .inr (b + 102), .inr (b + 106), .inr (b + 107), .inr (b + 108), .inl 0, .inl 0, .inl 0]),
  .inl (5, [.inr (b + 98), .inr (b + 99), .inr (b + 100), .inr (b + 101), .inl 0]),
  .inr (0, 11, gNf),
  .inr (0, 11, gNf),
  .inr (0, 11, gNf),
  .inr (0, 6, gNf),
  .inl (7, [.inr (b + 103), .inr (b + 104), .inr (b + 105), .inl 0]),
  .inr (1, 20, gNf),
  .inr (1, 20, gNf),
  .inr (0, 20, gNf),
  .inr (0, 6, gNf),
  .inr (0, 6, gNf),
  .inr (3, 11, gNf),
  .inl (6, [.inr (b + 110), .inr (b + 111), .inl 0]),
  .inr (0, 41, gNf),
  .inr (0, 41, gNf),
  .inl (1, [.inl 0, .inl 0, .inl 0]),
  .inl (0, [.inr (b + 114), .inr (b + 115), .inr (b + 116), .inr (b + 117), .inr (b + 118)]),
  .inr (4, 11, fun i => b + 119 + 2 * i),
  .inr (4, 11, fun i => b + 120 + 2 * i),
  .inl (2, [.inl 1, .inl 1]),
  .inl (2, [.inl 1, .inl 1]),
  .inl (2, [.inl 1, .inl 1]),
  .inl (2, [.inl 1, .inl 1]),
  .inl (2, [.inl 1, .inl 1]),
  .inl (2, [.inl 1, .inl 1]),
  .inl (2, [.inl 1, .inl 1]),
  .inl (2, [.inl 1, .inl 1]),
  .inl (2, [.inl 1, .inl 1]),
  .inl (2, [.inl 1, .inl 1]),
  .inl (2, [.inl 1, .inl 1]),
  .inl (2, [.inl 1, .inl 1]),
  .inl (2, [.inl 1, .inl 1]),
  .inl (2, [.inl 1, .inl 1]),
  .inl (2, [.inl 1, .inl 1]),
  .inl (2, [.inl 1, .inl 1]),
  .inl (2, [.inl 1, .inl 1]),
  .inl (2, [.inl 1, .inl 1]),
  .inl (2, [.inl 1, .inl 1]),
  .inl (2, [.inl 1, .inl 1]),
  .inl (2, [.inl 1, .inl 1]),
  .inl (2, [.inl 1, .inl 1]),
  .inl (2, [.inl 1, .inl 1]),
  .inl (2, [.inl 1, .inl 1]),
  .inl (2, [.inl 1, .inl 1]),
  .inl (2, [.inl 1, .inl 1]),
  .inl (10, [.inr (b + 143), .inr (b + 144), .inl 0, .inr (b + 145), .inl 0, .inl 0, .inr (b + 146), .inl 0, .inl 0, .inr (b + 147), .inr (b + 148), .inl 0, .inr (b + 149), .inr (b + 150), .inl 0, .inl 0, .inl 0, .inl 1, .inl 1, .inr (b + 151), .inr (b + 152), .inl 1, .inl 1, .inl 0, .inr (b + 153), .inr (b + 154)]),
  .inr (1, 141, gNf),
  .inr (1, 705, gNf),
  .inr (1, 141, gNf),
  .inr (2, 40, gNf),
  .inr (0, 60, gNf),
  .inr (0, 12, gNf),
  .inr (0, 42, gNf),
  .inr (0, 42, gNf),
  .inr (1, 11, gNf),
  .inr (1, 11, gNf),
  .inr (1, 11, gNf),
  .inr (1, 11, gNf)]
def sh0 (b : Nat) : Nat → Option gSh := fun a => if b ≤ a then (gShL b)[a - b]? else none
theorem sh0_at {w : gWd} {b : Nat} (hw : gsh w = sh0 b) (d : Nat) {x : gSh} (hk : (gShL b)[d]? = some x) : gsh w (b + d) = some x := by
  rw [hw]
  unfold sh0
  rw [if_pos (Nat.le_add_right b d), Nat.add_sub_cancel_left]
  exact hk
theorem sh0_le {b a : Nat} {x : gSh} (h : sh0 b a = some x) : b ≤ a ∧ a < b + 155 := by
  unfold sh0 at h
  by_cases c : b ≤ a
  · rw [if_pos c] at h
    have h1 : a - b < (gShL b).length := (List.getElem?_eq_some_iff.mp h).1
    have h2 : (gShL b).length = 155 := rfl
    omega
  · rw [if_neg c] at h; cases h
set_option maxRecDepth 100000 in
theorem is0_X4_1 {w : gWd} {b : Nat} (hw : gsh w = sh0 b) : is_X4 w (b + 1) := ⟨sh0_at hw 1 rfl, sh0_at hw 2 rfl⟩
set_option maxRecDepth 100000 in
theorem is0_X5_4 {w : gWd} {b : Nat} (hw : gsh w = sh0 b) : is_X5 w (b + 4) := ⟨sh0_at hw 4 rfl, sh0_at hw 5 rfl, sh0_at hw 6 rfl, sh0_at hw 7 rfl, sh0_at hw 8 rfl⟩
set_option maxRecDepth 100000 in
theorem is0_X7_9 {w : gWd} {b : Nat} (hw : gsh w = sh0 b) : is_X7 w (b + 9) := ⟨sh0_at hw 9 rfl, sh0_at hw 10 rfl, sh0_at hw 11 rfl, sh0_at hw 12 rfl⟩
set_option maxRecDepth 100000 in
theorem is0_X8_3 {w : gWd} {b : Nat} (hw : gsh w = sh0 b) : is_X8 w (b + 3) := ⟨sh0_at hw 3 rfl, is0_X5_4 hw, is0_X7_9 hw, sh0_at hw 13 rfl, sh0_at hw 14 rfl, sh0_at hw 15 rfl⟩
set_option maxRecDepth 100000 in
theorem is0_X5_17 {w : gWd} {b : Nat} (hw : gsh w = sh0 b) : is_X5 w (b + 17) := ⟨sh0_at hw 17 rfl, sh0_at hw 18 rfl, sh0_at hw 19 rfl, sh0_at hw 20 rfl, sh0_at hw 21 rfl⟩
set_option maxRecDepth 100000 in
theorem is0_X7_22 {w : gWd} {b : Nat} (hw : gsh w = sh0 b) : is_X7 w (b + 22) := ⟨sh0_at hw 22 rfl, sh0_at hw 23 rfl, sh0_at hw 24 rfl, sh0_at hw 25 rfl⟩
set_option maxRecDepth 100000 in
theorem is0_X8_16 {w : gWd} {b : Nat} (hw : gsh w = sh0 b) : is_X8 w (b + 16) := ⟨sh0_at hw 16 rfl, is0_X5_17 hw, is0_X7_22 hw, sh0_at hw 26 rfl, sh0_at hw 27 rfl, sh0_at hw 28 rfl⟩
set_option maxRecDepth 100000 in
theorem is0_X5_30 {w : gWd} {b : Nat} (hw : gsh w = sh0 b) : is_X5 w (b + 30) := ⟨sh0_at hw 30 rfl, sh0_at hw 31 rfl, sh0_at hw 32 rfl, sh0_at hw 33 rfl, sh0_at hw 34 rfl⟩
set_option maxRecDepth 100000 in
theorem is0_X7_35 {w : gWd} {b : Nat} (hw : gsh w = sh0 b) : is_X7 w (b + 35) := ⟨sh0_at hw 35 rfl, sh0_at hw 36 rfl, sh0_at hw 37 rfl, sh0_at hw 38 rfl⟩
set_option maxRecDepth 100000 in
theorem is0_X8_29 {w : gWd} {b : Nat} (hw : gsh w = sh0 b) : is_X8 w (b + 29) := ⟨sh0_at hw 29 rfl, is0_X5_30 hw, is0_X7_35 hw, sh0_at hw 39 rfl, sh0_at hw 40 rfl, sh0_at hw 41 rfl⟩
set_option maxRecDepth 100000 in
theorem is0_X5_45 {w : gWd} {b : Nat} (hw : gsh w = sh0 b) : is_X5 w (b + 45) := ⟨sh0_at hw 45 rfl, sh0_at hw 46 rfl, sh0_at hw 47 rfl, sh0_at hw 48 rfl, sh0_at hw 49 rfl⟩
set_option maxRecDepth 100000 in
theorem is0_X7_50 {w : gWd} {b : Nat} (hw : gsh w = sh0 b) : is_X7 w (b + 50) := ⟨sh0_at hw 50 rfl, sh0_at hw 51 rfl, sh0_at hw 52 rfl, sh0_at hw 53 rfl⟩
set_option maxRecDepth 100000 in
theorem is0_X8_44 {w : gWd} {b : Nat} (hw : gsh w = sh0 b) : is_X8 w (b + 44) := ⟨sh0_at hw 44 rfl, is0_X5_45 hw, is0_X7_50 hw, sh0_at hw 54 rfl, sh0_at hw 55 rfl, sh0_at hw 56 rfl⟩
set_option maxRecDepth 100000 in
theorem is0_X5_58 {w : gWd} {b : Nat} (hw : gsh w = sh0 b) : is_X5 w (b + 58) := ⟨sh0_at hw 58 rfl, sh0_at hw 59 rfl, sh0_at hw 60 rfl, sh0_at hw 61 rfl, sh0_at hw 62 rfl⟩
set_option maxRecDepth 100000 in
theorem is0_X7_63 {w : gWd} {b : Nat} (hw : gsh w = sh0 b) : is_X7 w (b + 63) := ⟨sh0_at hw 63 rfl, sh0_at hw 64 rfl, sh0_at hw 65 rfl, sh0_at hw 66 rfl⟩
set_option maxRecDepth 100000 in
theorem is0_X8_57 {w : gWd} {b : Nat} (hw : gsh w = sh0 b) : is_X8 w (b + 57) := ⟨sh0_at hw 57 rfl, is0_X5_58 hw, is0_X7_63 hw, sh0_at hw 67 rfl, sh0_at hw 68 rfl, sh0_at hw 69 rfl⟩
set_option maxRecDepth 100000 in
theorem is0_X5_71 {w : gWd} {b : Nat} (hw : gsh w = sh0 b) : is_X5 w (b + 71) := ⟨sh0_at hw 71 rfl, sh0_at hw 72 rfl, sh0_at hw 73 rfl, sh0_at hw 74 rfl, sh0_at hw 75 rfl⟩
set_option maxRecDepth 100000 in
theorem is0_X7_76 {w : gWd} {b : Nat} (hw : gsh w = sh0 b) : is_X7 w (b + 76) := ⟨sh0_at hw 76 rfl, sh0_at hw 77 rfl, sh0_at hw 78 rfl, sh0_at hw 79 rfl⟩
set_option maxRecDepth 100000 in
theorem is0_X8_70 {w : gWd} {b : Nat} (hw : gsh w = sh0 b) : is_X8 w (b + 70) := ⟨sh0_at hw 70 rfl, is0_X5_71 hw, is0_X7_76 hw, sh0_at hw 80 rfl, sh0_at hw 81 rfl, sh0_at hw 82 rfl⟩
set_option maxRecDepth 100000 in
theorem is0_X5_84 {w : gWd} {b : Nat} (hw : gsh w = sh0 b) : is_X5 w (b + 84) := ⟨sh0_at hw 84 rfl, sh0_at hw 85 rfl, sh0_at hw 86 rfl, sh0_at hw 87 rfl, sh0_at hw 88 rfl⟩
set_option maxRecDepth 100000 in
theorem is0_X7_89 {w : gWd} {b : Nat} (hw : gsh w = sh0 b) : is_X7 w (b + 89) := ⟨sh0_at hw 89 rfl, sh0_at hw 90 rfl, sh0_at hw 91 rfl, sh0_at hw 92 rfl⟩
set_option maxRecDepth 100000 in
theorem is0_X8_83 {w : gWd} {b : Nat} (hw : gsh w = sh0 b) : is_X8 w (b + 83) := ⟨sh0_at hw 83 rfl, is0_X5_84 hw, is0_X7_89 hw, sh0_at hw 93 rfl, sh0_at hw 94 rfl, sh0_at hw 95 rfl⟩
set_option maxRecDepth 100000 in
theorem is0_X5_97 {w : gWd} {b : Nat} (hw : gsh w = sh0 b) : is_X5 w (b + 97) := ⟨sh0_at hw 97 rfl, sh0_at hw 98 rfl, sh0_at hw 99 rfl, sh0_at hw 100 rfl, sh0_at hw 101 rfl⟩
set_option maxRecDepth 100000 in
theorem is0_X7_102 {w : gWd} {b : Nat} (hw : gsh w = sh0 b) : is_X7 w (b + 102) := ⟨sh0_at hw 102 rfl, sh0_at hw 103 rfl, sh0_at hw 104 rfl, sh0_at hw 105 rfl⟩
set_option maxRecDepth 100000 in
theorem is0_X8_96 {w : gWd} {b : Nat} (hw : gsh w = sh0 b) : is_X8 w (b + 96) := ⟨sh0_at hw 96 rfl, is0_X5_97 hw, is0_X7_102 hw, sh0_at hw 106 rfl, sh0_at hw 107 rfl, sh0_at hw 108 rfl⟩
set_option maxRecDepth 100000 in
theorem is0_X3_42 {w : gWd} {b : Nat} (hw : gsh w = sh0 b) : is_X3 w (b + 42) := ⟨sh0_at hw 42 rfl, sh0_at hw 43 rfl, (fun i hi => match i, hi with | 0, _ => is0_X8_44 hw | 1, _ => is0_X8_57 hw | 2, _ => is0_X8_70 hw | 3, _ => is0_X8_83 hw | 4, _ => is0_X8_96 hw | i + 5, hi => absurd hi (by omega))⟩
set_option maxRecDepth 100000 in
theorem is0_X6_109 {w : gWd} {b : Nat} (hw : gsh w = sh0 b) : is_X6 w (b + 109) := ⟨sh0_at hw 109 rfl, sh0_at hw 110 rfl, sh0_at hw 111 rfl⟩
set_option maxRecDepth 100000 in
theorem is0_X1_112 {w : gWd} {b : Nat} (hw : gsh w = sh0 b) : is_X1 w (b + 112) := sh0_at hw 112 rfl
set_option maxRecDepth 100000 in
theorem is0_X2_119 {w : gWd} {b : Nat} (hw : gsh w = sh0 b) : is_X2 w (b + 119) := sh0_at hw 119 rfl
set_option maxRecDepth 100000 in
theorem is0_X2_121 {w : gWd} {b : Nat} (hw : gsh w = sh0 b) : is_X2 w (b + 121) := sh0_at hw 121 rfl
set_option maxRecDepth 100000 in
theorem is0_X2_123 {w : gWd} {b : Nat} (hw : gsh w = sh0 b) : is_X2 w (b + 123) := sh0_at hw 123 rfl
set_option maxRecDepth 100000 in
theorem is0_X2_125 {w : gWd} {b : Nat} (hw : gsh w = sh0 b) : is_X2 w (b + 125) := sh0_at hw 125 rfl
set_option maxRecDepth 100000 in
theorem is0_X2_127 {w : gWd} {b : Nat} (hw : gsh w = sh0 b) : is_X2 w (b + 127) := sh0_at hw 127 rfl
set_option maxRecDepth 100000 in
theorem is0_X2_129 {w : gWd} {b : Nat} (hw : gsh w = sh0 b) : is_X2 w (b + 129) := sh0_at hw 129 rfl
set_option maxRecDepth 100000 in
theorem is0_X2_131 {w : gWd} {b : Nat} (hw : gsh w = sh0 b) : is_X2 w (b + 131) := sh0_at hw 131 rfl
set_option maxRecDepth 100000 in
theorem is0_X2_133 {w : gWd} {b : Nat} (hw : gsh w = sh0 b) : is_X2 w (b + 133) := sh0_at hw 133 rfl
set_option maxRecDepth 100000 in
theorem is0_X2_135 {w : gWd} {b : Nat} (hw : gsh w = sh0 b) : is_X2 w (b + 135) := sh0_at hw 135 rfl
set_option maxRecDepth 100000 in
theorem is0_X2_137 {w : gWd} {b : Nat} (hw : gsh w = sh0 b) : is_X2 w (b + 137) := sh0_at hw 137 rfl
set_option maxRecDepth 100000 in
theorem is0_X2_139 {w : gWd} {b : Nat} (hw : gsh w = sh0 b) : is_X2 w (b + 139) := sh0_at hw 139 rfl
set_option maxRecDepth 100000 in
theorem is0_X2_120 {w : gWd} {b : Nat} (hw : gsh w = sh0 b) : is_X2 w (b + 120) := sh0_at hw 120 rfl
set_option maxRecDepth 100000 in
theorem is0_X2_122 {w : gWd} {b : Nat} (hw : gsh w = sh0 b) : is_X2 w (b + 122) := sh0_at hw 122 rfl
set_option maxRecDepth 100000 in
theorem is0_X2_124 {w : gWd} {b : Nat} (hw : gsh w = sh0 b) : is_X2 w (b + 124) := sh0_at hw 124 rfl
set_option maxRecDepth 100000 in
theorem is0_X2_126 {w : gWd} {b : Nat} (hw : gsh w = sh0 b) : is_X2 w (b + 126) := sh0_at hw 126 rfl
set_option maxRecDepth 100000 in
theorem is0_X2_128 {w : gWd} {b : Nat} (hw : gsh w = sh0 b) : is_X2 w (b + 128) := sh0_at hw 128 rfl
set_option maxRecDepth 100000 in
theorem is0_X2_130 {w : gWd} {b : Nat} (hw : gsh w = sh0 b) : is_X2 w (b + 130) := sh0_at hw 130 rfl
set_option maxRecDepth 100000 in
theorem is0_X2_132 {w : gWd} {b : Nat} (hw : gsh w = sh0 b) : is_X2 w (b + 132) := sh0_at hw 132 rfl
set_option maxRecDepth 100000 in
theorem is0_X2_134 {w : gWd} {b : Nat} (hw : gsh w = sh0 b) : is_X2 w (b + 134) := sh0_at hw 134 rfl
set_option maxRecDepth 100000 in
theorem is0_X2_136 {w : gWd} {b : Nat} (hw : gsh w = sh0 b) : is_X2 w (b + 136) := sh0_at hw 136 rfl
set_option maxRecDepth 100000 in
theorem is0_X2_138 {w : gWd} {b : Nat} (hw : gsh w = sh0 b) : is_X2 w (b + 138) := sh0_at hw 138 rfl
set_option maxRecDepth 100000 in
theorem is0_X2_140 {w : gWd} {b : Nat} (hw : gsh w = sh0 b) : is_X2 w (b + 140) := sh0_at hw 140 rfl
set_option maxRecDepth 100000 in
theorem is0_X2_116 {w : gWd} {b : Nat} (hw : gsh w = sh0 b) : is_X2 w (b + 116) := sh0_at hw 116 rfl
set_option maxRecDepth 100000 in
theorem is0_X2_117 {w : gWd} {b : Nat} (hw : gsh w = sh0 b) : is_X2 w (b + 117) := sh0_at hw 117 rfl
set_option maxRecDepth 100000 in
theorem is0_X2_118 {w : gWd} {b : Nat} (hw : gsh w = sh0 b) : is_X2 w (b + 118) := sh0_at hw 118 rfl
set_option maxRecDepth 100000 in
theorem is0_X0_113 {w : gWd} {b : Nat} (hw : gsh w = sh0 b) : is_X0 w (b + 113) := ⟨sh0_at hw 113 rfl, sh0_at hw 114 rfl, (fun i hi => match i, hi with | 0, _ => is0_X2_119 hw | 1, _ => is0_X2_121 hw | 2, _ => is0_X2_123 hw | 3, _ => is0_X2_125 hw | 4, _ => is0_X2_127 hw | 5, _ => is0_X2_129 hw | 6, _ => is0_X2_131 hw | 7, _ => is0_X2_133 hw | 8, _ => is0_X2_135 hw | 9, _ => is0_X2_137 hw | 10, _ => is0_X2_139 hw | i + 11, hi => absurd hi (by omega)), sh0_at hw 115 rfl, (fun i hi => match i, hi with | 0, _ => is0_X2_120 hw | 1, _ => is0_X2_122 hw | 2, _ => is0_X2_124 hw | 3, _ => is0_X2_126 hw | 4, _ => is0_X2_128 hw | 5, _ => is0_X2_130 hw | 6, _ => is0_X2_132 hw | 7, _ => is0_X2_134 hw | 8, _ => is0_X2_136 hw | 9, _ => is0_X2_138 hw | 10, _ => is0_X2_140 hw | i + 11, hi => absurd hi (by omega)), is0_X2_116 hw, is0_X2_117 hw, is0_X2_118 hw⟩
set_option maxRecDepth 100000 in
theorem is0_X2_141 {w : gWd} {b : Nat} (hw : gsh w = sh0 b) : is_X2 w (b + 141) := sh0_at hw 141 rfl
set_option maxRecDepth 100000 in
theorem is0_X9_0 {w : gWd} {b : Nat} (hw : gsh w = sh0 b) : is_X9 w (b + 0) := ⟨sh0_at hw 0 rfl, is0_X4_1 hw, is0_X8_3 hw, is0_X8_16 hw, is0_X8_29 hw, is0_X3_42 hw, is0_X6_109 hw, is0_X1_112 hw, is0_X0_113 hw, is0_X2_141 hw⟩
set_option maxRecDepth 100000 in
theorem is0_X10_142 {w : gWd} {b : Nat} (hw : gsh w = sh0 b) : is_X10 w (b + 142) := ⟨sh0_at hw 142 rfl, sh0_at hw 143 rfl, sh0_at hw 144 rfl, sh0_at hw 145 rfl, sh0_at hw 146 rfl, sh0_at hw 147 rfl, sh0_at hw 148 rfl, sh0_at hw 149 rfl, sh0_at hw 150 rfl, sh0_at hw 151 rfl, sh0_at hw 152 rfl, sh0_at hw 153 rfl, sh0_at hw 154 rfl⟩
/-- what the ints and longs are at the start -/
def gIniI : Nat → Nat → Int32
  | 112 => fun k => if k = 0 then -1 else if k = 2 then -1 else 0
  | 3 => fun k => if k = 5 then 12 else if k = 6 then 100 else 0
  | 16 => fun k => if k = 5 then 12 else if k = 6 then 100 else 0
  | 29 => fun k => if k = 5 then 12 else if k = 6 then 100 else 0
  | 44 => fun k => if k = 5 then 12 else if k = 6 then 100 else 0
  | 57 => fun k => if k = 5 then 12 else if k = 6 then 100 else 0
  | 70 => fun k => if k = 5 then 12 else if k = 6 then 100 else 0
  | 83 => fun k => if k = 5 then 12 else if k = 6 then 100 else 0
  | 96 => fun k => if k = 5 then 12 else if k = 6 then 100 else 0
  | 8 => fun k => if k < 6 then -1 else 0
  | 21 => fun k => if k < 6 then -1 else 0
  | 34 => fun k => if k < 6 then -1 else 0
  | 49 => fun k => if k < 6 then -1 else 0
  | 62 => fun k => if k < 6 then -1 else 0
  | 75 => fun k => if k < 6 then -1 else 0
  | 88 => fun k => if k < 6 then -1 else 0
  | 101 => fun k => if k < 6 then -1 else 0
  | _ => fun _ => 0
def gIniL (d : Nat) : Nat → Int64 := if d = 143 then (fun k => if k = 2 then 100 else if k = 1 then 12 else 0) else if 116 ≤ d ∧ d ≤ 141 then (fun k => if k = 1 then 1 else 0) else fun _ => 0
def hT0 (b : Nat) : gHp := (fun q => gIniI (q - b), fun q => gIniL (q - b))
theorem i0I (b d : Nat) : (hT0 b).1 (b + d) = gIniI d := by show gIniI (b + d - b) = _; rw [Nat.add_sub_cancel_left]
theorem i0L (b d : Nat) : (hT0 b).2 (b + d) = gIniL d := by show gIniL (b + d - b) = _; rw [Nat.add_sub_cancel_left]
theorem in0_X4_1 (b : Nat) : in_X4 (hT0 b) (b + 1) := ⟨(i0I b 2).trans rfl, (congrFun (i0I b 1) 1).trans rfl⟩
theorem in0_X5_4 (b : Nat) : in_X5 (hT0 b) (b + 4) := ⟨(i0I b 5).trans rfl, (i0I b 6).trans rfl, (i0I b 7).trans rfl, (i0I b 8).trans rfl, (congrFun (i0I b 4) 4).trans rfl⟩
theorem in0_X7_9 (b : Nat) : in_X7 (hT0 b) (b + 9) := ⟨(i0L b 10).trans rfl, (i0L b 11).trans rfl, (i0I b 12).trans rfl, (congrFun (i0I b 9) 3).trans rfl⟩
theorem in0_X8_3 (b : Nat) : in_X8 (hT0 b) (b + 3) := ⟨in0_X5_4 b, in0_X7_9 b, (i0I b 13).trans rfl, (i0I b 14).trans rfl, (i0I b 15).trans rfl, (congrFun (i0I b 3) 5).trans rfl, (congrFun (i0I b 3) 6).trans rfl, (congrFun (i0I b 3) 7).trans rfl⟩
theorem in0_X5_17 (b : Nat) : in_X5 (hT0 b) (b + 17) := ⟨(i0I b 18).trans rfl, (i0I b 19).trans rfl, (i0I b 20).trans rfl, (i0I b 21).trans rfl, (congrFun (i0I b 17) 4).trans rfl⟩
theorem in0_X7_22 (b : Nat) : in_X7 (hT0 b) (b + 22) := ⟨(i0L b 23).trans rfl, (i0L b 24).trans rfl, (i0I b 25).trans rfl, (congrFun (i0I b 22) 3).trans rfl⟩
theorem in0_X8_16 (b : Nat) : in_X8 (hT0 b) (b + 16) := ⟨in0_X5_17 b, in0_X7_22 b, (i0I b 26).trans rfl, (i0I b 27).trans rfl, (i0I b 28).trans rfl, (congrFun (i0I b 16) 5).trans rfl, (congrFun (i0I b 16) 6).trans rfl, (congrFun (i0I b 16) 7).trans rfl⟩
theorem in0_X5_30 (b : Nat) : in_X5 (hT0 b) (b + 30) := ⟨(i0I b 31).trans rfl, (i0I b 32).trans rfl, (i0I b 33).trans rfl, (i0I b 34).trans rfl, (congrFun (i0I b 30) 4).trans rfl⟩
theorem in0_X7_35 (b : Nat) : in_X7 (hT0 b) (b + 35) := ⟨(i0L b 36).trans rfl, (i0L b 37).trans rfl, (i0I b 38).trans rfl, (congrFun (i0I b 35) 3).trans rfl⟩
theorem in0_X8_29 (b : Nat) : in_X8 (hT0 b) (b + 29) := ⟨in0_X5_30 b, in0_X7_35 b, (i0I b 39).trans rfl, (i0I b 40).trans rfl, (i0I b 41).trans rfl, (congrFun (i0I b 29) 5).trans rfl, (congrFun (i0I b 29) 6).trans rfl, (congrFun (i0I b 29) 7).trans rfl⟩
theorem in0_X5_45 (b : Nat) : in_X5 (hT0 b) (b + 45) := ⟨(i0I b 46).trans rfl, (i0I b 47).trans rfl, (i0I b 48).trans rfl, (i0I b 49).trans rfl, (congrFun (i0I b 45) 4).trans rfl⟩
theorem in0_X7_50 (b : Nat) : in_X7 (hT0 b) (b + 50) := ⟨(i0L b 51).trans rfl, (i0L b 52).trans rfl, (i0I b 53).trans rfl, (congrFun (i0I b 50) 3).trans rfl⟩
theorem in0_X8_44 (b : Nat) : in_X8 (hT0 b) (b + 44) := ⟨in0_X5_45 b, in0_X7_50 b, (i0I b 54).trans rfl, (i0I b 55).trans rfl, (i0I b 56).trans rfl, (congrFun (i0I b 44) 5).trans rfl, (congrFun (i0I b 44) 6).trans rfl, (congrFun (i0I b 44) 7).trans rfl⟩
theorem in0_X5_58 (b : Nat) : in_X5 (hT0 b) (b + 58) := ⟨(i0I b 59).trans rfl, (i0I b 60).trans rfl, (i0I b 61).trans rfl, (i0I b 62).trans rfl, (congrFun (i0I b 58) 4).trans rfl⟩
theorem in0_X7_63 (b : Nat) : in_X7 (hT0 b) (b + 63) := ⟨(i0L b 64).trans rfl, (i0L b 65).trans rfl, (i0I b 66).trans rfl, (congrFun (i0I b 63) 3).trans rfl⟩
theorem in0_X8_57 (b : Nat) : in_X8 (hT0 b) (b + 57) := ⟨in0_X5_58 b, in0_X7_63 b, (i0I b 67).trans rfl, (i0I b 68).trans rfl, (i0I b 69).trans rfl, (congrFun (i0I b 57) 5).trans rfl, (congrFun (i0I b 57) 6).trans rfl, (congrFun (i0I b 57) 7).trans rfl⟩
theorem in0_X5_71 (b : Nat) : in_X5 (hT0 b) (b + 71) := ⟨(i0I b 72).trans rfl, (i0I b 73).trans rfl, (i0I b 74).trans rfl, (i0I b 75).trans rfl, (congrFun (i0I b 71) 4).trans rfl⟩
theorem in0_X7_76 (b : Nat) : in_X7 (hT0 b) (b + 76) := ⟨(i0L b 77).trans rfl, (i0L b 78).trans rfl, (i0I b 79).trans rfl, (congrFun (i0I b 76) 3).trans rfl⟩
theorem in0_X8_70 (b : Nat) : in_X8 (hT0 b) (b + 70) := ⟨in0_X5_71 b, in0_X7_76 b, (i0I b 80).trans rfl, (i0I b 81).trans rfl, (i0I b 82).trans rfl, (congrFun (i0I b 70) 5).trans rfl, (congrFun (i0I b 70) 6).trans rfl, (congrFun (i0I b 70) 7).trans rfl⟩
theorem in0_X5_84 (b : Nat) : in_X5 (hT0 b) (b + 84) := ⟨(i0I b 85).trans rfl, (i0I b 86).trans rfl, (i0I b 87).trans rfl, (i0I b 88).trans rfl, (congrFun (i0I b 84) 4).trans rfl⟩
theorem in0_X7_89 (b : Nat) : in_X7 (hT0 b) (b + 89) := ⟨(i0L b 90).trans rfl, (i0L b 91).trans rfl, (i0I b 92).trans rfl, (congrFun (i0I b 89) 3).trans rfl⟩
theorem in0_X8_83 (b : Nat) : in_X8 (hT0 b) (b + 83) := ⟨in0_X5_84 b, in0_X7_89 b, (i0I b 93).trans rfl, (i0I b 94).trans rfl, (i0I b 95).trans rfl, (congrFun (i0I b 83) 5).trans rfl, (congrFun (i0I b 83) 6).trans rfl, (congrFun (i0I b 83) 7).trans rfl⟩
theorem in0_X5_97 (b : Nat) : in_X5 (hT0 b) (b + 97) := ⟨(i0I b 98).trans rfl, (i0I b 99).trans rfl, (i0I b 100).trans rfl, (i0I b 101).trans rfl, (congrFun (i0I b 97) 4).trans rfl⟩
theorem in0_X7_102 (b : Nat) : in_X7 (hT0 b) (b + 102) := ⟨(i0L b 103).trans rfl, (i0L b 104).trans rfl, (i0I b 105).trans rfl, (congrFun (i0I b 102) 3).trans rfl⟩
theorem in0_X8_96 (b : Nat) : in_X8 (hT0 b) (b + 96) := ⟨in0_X5_97 b, in0_X7_102 b, (i0I b 106).trans rfl, (i0I b 107).trans rfl, (i0I b 108).trans rfl, (congrFun (i0I b 96) 5).trans rfl, (congrFun (i0I b 96) 6).trans rfl, (congrFun (i0I b 96) 7).trans rfl⟩
theorem in0_X3_42 (b : Nat) : in_X3 (hT0 b) (b + 42) := ⟨(fun i hi => match i, hi with | 0, _ => in0_X8_44 b | 1, _ => in0_X8_57 b | 2, _ => in0_X8_70 b | 3, _ => in0_X8_83 b | 4, _ => in0_X8_96 b | i + 5, hi => absurd hi (by omega)), (congrFun (i0I b 42) 1).trans rfl, (congrFun (i0I b 42) 2).trans rfl⟩
theorem in0_X6_109 (b : Nat) : in_X6 (hT0 b) (b + 109) := ⟨(i0I b 110).trans rfl, (i0I b 111).trans rfl, (congrFun (i0I b 109) 2).trans rfl⟩
theorem in0_X1_112 (b : Nat) : in_X1 (hT0 b) (b + 112) := ⟨(congrFun (i0I b 112) 0).trans rfl, (congrFun (i0I b 112) 1).trans rfl, (congrFun (i0I b 112) 2).trans rfl⟩
theorem in0_X2_119 (b : Nat) : in_X2 (hT0 b) (b + 119) := ⟨(congrFun (i0L b 119) 0).trans rfl, (congrFun (i0L b 119) 1).trans rfl⟩
theorem in0_X2_121 (b : Nat) : in_X2 (hT0 b) (b + 121) := ⟨(congrFun (i0L b 121) 0).trans rfl, (congrFun (i0L b 121) 1).trans rfl⟩
theorem in0_X2_123 (b : Nat) : in_X2 (hT0 b) (b + 123) := ⟨(congrFun (i0L b 123) 0).trans rfl, (congrFun (i0L b 123) 1).trans rfl⟩
theorem in0_X2_125 (b : Nat) : in_X2 (hT0 b) (b + 125) := ⟨(congrFun (i0L b 125) 0).trans rfl, (congrFun (i0L b 125) 1).trans rfl⟩
theorem in0_X2_127 (b : Nat) : in_X2 (hT0 b) (b + 127) := ⟨(congrFun (i0L b 127) 0).trans rfl, (congrFun (i0L b 127) 1).trans rfl⟩
theorem in0_X2_129 (b : Nat) : in_X2 (hT0 b) (b + 129) := ⟨(congrFun (i0L b 129) 0).trans rfl, (congrFun (i0L b 129) 1).trans rfl⟩
theorem in0_X2_131 (b : Nat) : in_X2 (hT0 b) (b + 131) := ⟨(congrFun (i0L b 131) 0).trans rfl, (congrFun (i0L b 131) 1).trans rfl⟩
theorem in0_X2_133 (b : Nat) : in_X2 (hT0 b) (b + 133) := ⟨(congrFun (i0L b 133) 0).trans rfl, (congrFun (i0L b 133) 1).trans rfl⟩
theorem in0_X2_135 (b : Nat) : in_X2 (hT0 b) (b + 135) := ⟨(congrFun (i0L b 135) 0).trans rfl, (congrFun (i0L b 135) 1).trans rfl⟩
theorem in0_X2_137 (b : Nat) : in_X2 (hT0 b) (b + 137) := ⟨(congrFun (i0L b 137) 0).trans rfl, (congrFun (i0L b 137) 1).trans rfl⟩
theorem in0_X2_139 (b : Nat) : in_X2 (hT0 b) (b + 139) := ⟨(congrFun (i0L b 139) 0).trans rfl, (congrFun (i0L b 139) 1).trans rfl⟩
theorem in0_X2_120 (b : Nat) : in_X2 (hT0 b) (b + 120) := ⟨(congrFun (i0L b 120) 0).trans rfl, (congrFun (i0L b 120) 1).trans rfl⟩
theorem in0_X2_122 (b : Nat) : in_X2 (hT0 b) (b + 122) := ⟨(congrFun (i0L b 122) 0).trans rfl, (congrFun (i0L b 122) 1).trans rfl⟩
theorem in0_X2_124 (b : Nat) : in_X2 (hT0 b) (b + 124) := ⟨(congrFun (i0L b 124) 0).trans rfl, (congrFun (i0L b 124) 1).trans rfl⟩
theorem in0_X2_126 (b : Nat) : in_X2 (hT0 b) (b + 126) := ⟨(congrFun (i0L b 126) 0).trans rfl, (congrFun (i0L b 126) 1).trans rfl⟩
theorem in0_X2_128 (b : Nat) : in_X2 (hT0 b) (b + 128) := ⟨(congrFun (i0L b 128) 0).trans rfl, (congrFun (i0L b 128) 1).trans rfl⟩
theorem in0_X2_130 (b : Nat) : in_X2 (hT0 b) (b + 130) := ⟨(congrFun (i0L b 130) 0).trans rfl, (congrFun (i0L b 130) 1).trans rfl⟩
theorem in0_X2_132 (b : Nat) : in_X2 (hT0 b) (b + 132) := ⟨(congrFun (i0L b 132) 0).trans rfl, (congrFun (i0L b 132) 1).trans rfl⟩
theorem in0_X2_134 (b : Nat) : in_X2 (hT0 b) (b + 134) := ⟨(congrFun (i0L b 134) 0).trans rfl, (congrFun (i0L b 134) 1).trans rfl⟩
theorem in0_X2_136 (b : Nat) : in_X2 (hT0 b) (b + 136) := ⟨(congrFun (i0L b 136) 0).trans rfl, (congrFun (i0L b 136) 1).trans rfl⟩
theorem in0_X2_138 (b : Nat) : in_X2 (hT0 b) (b + 138) := ⟨(congrFun (i0L b 138) 0).trans rfl, (congrFun (i0L b 138) 1).trans rfl⟩
theorem in0_X2_140 (b : Nat) : in_X2 (hT0 b) (b + 140) := ⟨(congrFun (i0L b 140) 0).trans rfl, (congrFun (i0L b 140) 1).trans rfl⟩
theorem in0_X2_116 (b : Nat) : in_X2 (hT0 b) (b + 116) := ⟨(congrFun (i0L b 116) 0).trans rfl, (congrFun (i0L b 116) 1).trans rfl⟩
theorem in0_X2_117 (b : Nat) : in_X2 (hT0 b) (b + 117) := ⟨(congrFun (i0L b 117) 0).trans rfl, (congrFun (i0L b 117) 1).trans rfl⟩
theorem in0_X2_118 (b : Nat) : in_X2 (hT0 b) (b + 118) := ⟨(congrFun (i0L b 118) 0).trans rfl, (congrFun (i0L b 118) 1).trans rfl⟩
theorem in0_X0_113 (b : Nat) : in_X0 (hT0 b) (b + 113) := ⟨(fun i hi => match i, hi with | 0, _ => in0_X2_119 b | 1, _ => in0_X2_121 b | 2, _ => in0_X2_123 b | 3, _ => in0_X2_125 b | 4, _ => in0_X2_127 b | 5, _ => in0_X2_129 b | 6, _ => in0_X2_131 b | 7, _ => in0_X2_133 b | 8, _ => in0_X2_135 b | 9, _ => in0_X2_137 b | 10, _ => in0_X2_139 b | i + 11, hi => absurd hi (by omega)), (fun i hi => match i, hi with | 0, _ => in0_X2_120 b | 1, _ => in0_X2_122 b | 2, _ => in0_X2_124 b | 3, _ => in0_X2_126 b | 4, _ => in0_X2_128 b | 5, _ => in0_X2_130 b | 6, _ => in0_X2_132 b | 7, _ => in0_X2_134 b | 8, _ => in0_X2_136 b | 9, _ => in0_X2_138 b | 10, _ => in0_X2_140 b | i + 11, hi => absurd hi (by omega)), in0_X2_116 b, in0_X2_117 b, in0_X2_118 b⟩
theorem in0_X2_141 (b : Nat) : in_X2 (hT0 b) (b + 141) := ⟨(congrFun (i0L b 141) 0).trans rfl, (congrFun (i0L b 141) 1).trans rfl⟩
theorem in0_X9_0 (b : Nat) : in_X9 (hT0 b) (b + 0) := ⟨in0_X4_1 b, in0_X8_3 b, in0_X8_16 b, in0_X8_29 b, in0_X3_42 b, in0_X6_109 b, in0_X1_112 b, in0_X0_113 b, in0_X2_141 b, (congrFun (i0I b 0) 9).trans rfl⟩
theorem in0_X10_142 (b : Nat) : in_X10 (hT0 b) (b + 142) := ⟨(i0L b 143).trans rfl, (i0L b 144).trans rfl, (congrFun (i0I b 142) 2).trans rfl, (i0L b 145).trans rfl, (congrFun (i0I b 142) 4).trans rfl, (congrFun (i0I b 142) 5).trans rfl, (i0I b 146).trans rfl, (congrFun (i0I b 142) 7).trans rfl, (congrFun (i0I b 142) 8).trans rfl, (i0I b 147).trans rfl, (i0I b 148).trans rfl, (congrFun (i0I b 142) 11).trans rfl, (i0I b 149).trans rfl, (i0I b 150).trans rfl, (congrFun (i0I b 142) 14).trans rfl, (congrFun (i0I b 142) 15).trans rfl, (congrFun (i0I b 142) 16).trans rfl, (congrFun (i0L b 142) 17).trans rfl, (congrFun (i0L b 142) 18).trans rfl, (i0L b 151).trans rfl, (i0L b 152).trans rfl, (congrFun (i0L b 142) 21).trans rfl, (congrFun (i0L b 142) 22).trans rfl, (congrFun (i0I b 142) 23).trans rfl, (i0L b 153).trans rfl, (i0L b 154).trans rfl⟩
