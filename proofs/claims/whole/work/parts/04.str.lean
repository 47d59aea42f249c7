/-! String.length and String.charAt over the six String constants -/
abbrev gFz (w : gWd) : Value := w.2.2.2.2.2.2.2
theorem gx_strval {w : gWd} {g : gCx} {cc : ByteArray} {Ts : List Cond} {own : String} {nL fr lo : Nat} (C : gC w g cc Ts own nL fr lo) {h : gHp} {pc : Nat} {lv : List (Nat × Value)} {st : List Value} {index i : Nat} (hi : i < 6) (hlk : Cond.fieldLink own index "java/lang/String" "value" "[B" ∈ Ts) (hd : decode cc pc = .ok (.getfield index, 3)) (k : gX w g nL h (pc + 3) lv (.ref (gAV w i) :: st)) : gX w g nL h pc lv (.ref (gAK w i) :: st) := by
  obtain ⟨l, D, cA, sh, b0, adK, adV, fz⟩ := w
  obtain ⟨p, e, R, s, m, args, below, meth, c, ce, sl, Q⟩ := g
  intro ls H locs hl hR hS
  exact vk_getf C.1 C.2.1 (C.2.2.2.2.2.2.2.2.2.2.2.2.2.1.1 i hi).2.2.1 hS C.2.2.2.1 (C.2.2.2.2.1 _ hlk) (fun _ q => q) hd (k ls H locs hl hR hS)
theorem gx_strcoder {w : gWd} {g : gCx} {cc : ByteArray} {Ts : List Cond} {own : String} {nL fr lo : Nat} (C : gC w g cc Ts own nL fr lo) {h : gHp} {pc : Nat} {lv : List (Nat × Value)} {st : List Value} {index i : Nat} (hi : i < 6) (hlk : Cond.fieldLink own index "java/lang/String" "coder" "B" ∈ Ts) (hd : decode cc pc = .ok (.getfield index, 3)) (k : gX w g nL h (pc + 3) lv (.int 0 :: st)) : gX w g nL h pc lv (.ref (gAK w i) :: st) := by
  obtain ⟨l, D, cA, sh, b0, adK, adV, fz⟩ := w
  obtain ⟨p, e, R, s, m, args, below, meth, c, ce, sl, Q⟩ := g
  intro ls H locs hl hR hS
  exact vk_getf C.1 C.2.1 (C.2.2.2.2.2.2.2.2.2.2.2.2.2.1.1 i hi).2.1 hS C.2.2.2.1 (C.2.2.2.2.1 _ hlk) (fun _ q => q) hd (k ls H locs hl hR hS)
theorem gx_getsC {w : gWd} {g : gCx} {cc : ByteArray} {Ts : List Cond} {own : String} {nL fr lo : Nat} (C : gC w g cc Ts own nL fr lo) {h : gHp} {pc : Nat} {lv : List (Nat × Value)} {st : List Value} {index : Nat} (hlk : Cond.fieldLink own index "java/lang/String" "COMPACT_STRINGS" "Z" ∈ Ts) (hd : decode cc pc = .ok (.getstatic index, 3)) (k : gX w g nL h (pc + 3) lv (.int 1 :: st)) : gX w g nL h pc lv st := by
  obtain ⟨l, D, cA, sh, b0, adK, adV, fz⟩ := w
  obtain ⟨p, e, R, s, m, args, below, meth, c, ce, sl, Q⟩ := g
  intro ls H locs hl hR hS
  exact va_gets C.1 C.2.1 C.2.2.2.2.2.2.2.2.2.2.2.2.2.2.2.1 hS C.2.2.2.1 (C.2.2.2.2.1 _ hlk) (fun _ q => q) hd (k ls H locs hl hR hS)
theorem gx_getsF {w : gWd} {g : gCx} {cc : ByteArray} {Ts : List Cond} {own : String} {nL fr lo : Nat} (C : gC w g cc Ts own nL fr lo) {h : gHp} {pc : Nat} {lv : List (Nat × Value)} {st : List Value} {index : Nat} (hlk : Cond.fieldLink own index "jdk/internal/util/Preconditions" "SIOOBE_FORMATTER" "Ljava/util/function/BiFunction;" ∈ Ts) (hd : decode cc pc = .ok (.getstatic index, 3)) (k : gX w g nL h (pc + 3) lv (gFz w :: st)) : gX w g nL h pc lv st := by
  obtain ⟨l, D, cA, sh, b0, adK, adV, fz⟩ := w
  obtain ⟨p, e, R, s, m, args, below, meth, c, ce, sl, Q⟩ := g
  intro ls H locs hl hR hS
  exact va_gets C.1 C.2.1 C.2.2.2.2.2.2.2.2.2.2.2.2.2.2.2.2.1 hS C.2.2.2.1 (C.2.2.2.2.1 _ hlk) (fun _ q => q) hd (k ls H locs hl hR hS)
theorem gx_strlen {w : gWd} {g : gCx} {cc : ByteArray} {Ts : List Cond} {own : String} {nL fr lo : Nat} (C : gC w g cc Ts own nL fr lo) {h : gHp} {pc : Nat} {lv : List (Nat × Value)} {st : List Value} {i : Nat} (hi : i < 6) (hd : decode cc pc = .ok (.arraylength, 1)) (k : gX w g nL h (pc + 1) lv (.int (nI (gSlen.getD i 0)) :: st)) : gX w g nL h pc lv (.ref (gAV w i) :: st) := by
  obtain ⟨l, D, cA, sh, b0, adK, adV, fz⟩ := w
  obtain ⟨p, e, R, s, m, args, below, meth, c, ce, sl, Q⟩ := g
  intro ls H locs hl hR hS
  exact va_tlen C.1 C.2.1 (C.2.2.2.2.2.2.2.2.2.2.2.2.2.1.1 i hi).2.2.2 hS rfl hd (k ls H locs hl hR hS)
theorem gx_strbald {w : gWd} {g : gCx} {cc : ByteArray} {Ts : List Cond} {own : String} {nL fr lo : Nat} (C : gC w g cc Ts own nL fr lo) {h : gHp} {pc : Nat} {lv : List (Nat × Value)} {st : List Value} {i : Nat} {j : Int32} (hi : i < 6) (hin : gIn j (gSlen.getD i 0)) (hd : decode cc pc = .ok (.baload, 1)) (k : gX w g nL h (pc + 1) lv (.int ((gSbyt.getD i []).getD (gN j) 0) :: st)) : gX w g nL h pc lv (.int j :: .ref (gAV w i) :: st) := by
  obtain ⟨l, D, cA, sh, b0, adK, adV, fz⟩ := w
  obtain ⟨p, e, R, s, m, args, below, meth, c, ce, sl, Q⟩ := g
  intro ls H locs hl hR hS
  exact va_tb C.1 C.2.1 (C.2.2.2.2.2.2.2.2.2.2.2.2.2.1.1 i hi).2.2.2 hS hin rfl hd (k ls H locs hl hR hS)
theorem gC_fz {w : gWd} {g : gCx} {cc : ByteArray} {Ts : List Cond} {own : String} {nL fr lo : Nat} (C : gC w g cc Ts own nL fr lo) : gFz w = .null ∨ ∃ t : Nat, gFz w = .ref t := by
  obtain ⟨l, D, cA, sh, b0, adK, adV, fz⟩ := w
  obtain ⟨p, e, R, s, m, args, below, meth, c, ce, sl, Q⟩ := g
  exact C.2.2.2.2.2.2.2.2.2.2.2.2.2.2.2.2.2
theorem gx_nret {w : gWd} {g : gCx} {cc : ByteArray} {Ts : List Cond} {own : String} {nL fr lo : Nat} (C : gC w g cc Ts own nL fr lo) {h : gHp} {pc : Nat} {lv : List (Nat × Value)} {v : Int32} {ty : FieldType} (hn : narrow ty (.int v) = .int v) (E : gEn w g (some ty) (some (.int v)) h) (hd : decode cc pc = .ok (.ireturn, 1)) : gX w g nL h pc lv [.int v] := by
  obtain ⟨l, D, cA, sh, b0, adK, adV, fz⟩ := w
  obtain ⟨p, e, R, s, m, args, below, meth, c, ce, sl, Q⟩ := g
  intro ls H locs hl hR hS
  obtain ⟨hr, hlk, rfl⟩ := E
  exact W.zret (v := v) C.1 C.2.1 hr hn (fun t ht hW => ⟨rfl, by rw [ht]; exact hR, hS.F ht⟩) hS.2.2 hd hlk
def f_J0_length_8abf5 (i : Nat) (_ : gHp) : Option Int32 := some (nI (gSlen.getD i 0))
def f_J0_charAt_5068e (i : Nat) (k : Int32) (_ : gHp) : Option Int32 := if gIn k (gSlen.getD i 0) then some ((gSbyt.getD i []).getD (gN k) 0) else none
set_option maxRecDepth 20000 in
theorem ggJ0_length_8abf5_J0_coder_7d493 : GoodIn wsJ0_length_8abf5 wsJ0_coder_7d493 := goodIn_r _ [6, 7, 8] (by decide +kernel) (by decide +kernel)
set_option maxRecDepth 20000 in
theorem gJ0_length_8abf5_J0_coder_7d493 : GoodIn wsJ0_length_8abf5 (wsV RJ0 335 RJ0 yJ0_coder_7d493 wsJ0_coder_7d493) := goodIn_app (goodIn_of _ (by decide +kernel)) ggJ0_length_8abf5_J0_coder_7d493
set_option maxRecDepth 20000 in
theorem ggJ0_charAt_5068e_J0_isLatin1_aae02 : GoodIn wsJ0_charAt_5068e wsJ0_isLatin1_aae02 := goodIn_r _ [6, 7, 8] (by decide +kernel) (by decide +kernel)
set_option maxRecDepth 20000 in
theorem gJ0_charAt_5068e_J0_isLatin1_aae02 : GoodIn wsJ0_charAt_5068e (wsV RJ0 492 RJ0 yJ0_isLatin1_aae02 wsJ0_isLatin1_aae02) := goodIn_app (goodIn_of _ (by decide +kernel)) ggJ0_charAt_5068e_J0_isLatin1_aae02
set_option maxRecDepth 20000 in
theorem ggJ0_charAt_5068e_J1_charAt_3b067 : GoodIn wsJ0_charAt_5068e wsJ1_charAt_3b067 := goodIn_r _ [12, 13, 14, 5, 15, 16, 17, 18, 19, 20] (by decide +kernel) (by decide +kernel)
set_option maxRecDepth 20000 in
theorem gJ0_charAt_5068e_J1_charAt_3b067 : GoodIn wsJ0_charAt_5068e (va_wsS RJ0 495 yJ1_charAt_3b067 wsJ1_charAt_3b067) := goodIn_app (goodIn_of _ (by decide +kernel)) ggJ0_charAt_5068e_J1_charAt_3b067
set_option maxRecDepth 20000 in
theorem ggJ1_charAt_3b067_J0_checkIndex_df160 : GoodIn wsJ1_charAt_3b067 wsJ0_checkIndex_df160 := goodIn_r _ [4, 5, 6, 7, 8, 9] (by decide +kernel) (by decide +kernel)
set_option maxRecDepth 20000 in
theorem gJ1_charAt_3b067_J0_checkIndex_df160 : GoodIn wsJ1_charAt_3b067 (va_wsS RJ1 9 yJ0_checkIndex_df160 wsJ0_checkIndex_df160) := goodIn_app (goodIn_of _ (by decide +kernel)) ggJ1_charAt_3b067_J0_checkIndex_df160
set_option maxRecDepth 20000 in
theorem ggJ0_checkIndex_df160_J3_checkIndex_8e157 : GoodIn wsJ0_checkIndex_df160 wsJ3_checkIndex_8e157 := goodIn_r _ [5] (by decide +kernel) (by decide +kernel)
set_option maxRecDepth 20000 in
theorem gJ0_checkIndex_df160_J3_checkIndex_8e157 : GoodIn wsJ0_checkIndex_df160 (va_wsS RJ0 1059 yJ3_checkIndex_8e157 wsJ3_checkIndex_8e157) := goodIn_app (goodIn_of _ (by decide +kernel)) ggJ0_checkIndex_df160_J3_checkIndex_8e157
def rm_J0_coder_7d493 : Room := { frames := 0, cells := 0, slots := 0, locals := 0 }
theorem hy_J0_coder_7d493 : yJ0_coder_7d493.cls = RJ0 ∧ yJ0_coder_7d493.cls ≠ "java/lang/invoke/MethodHandle" ∧ yJ0_coder_7d493.cls ≠ "java/lang/invoke/VarHandle" ∧ (parseMethodDescriptor yJ0_coder_7d493.desc).map (fun d => d.parameters.length) = some 0 := by decide +kernel
theorem D_J0_coder_7d493 : gDec cJ0_coder_7d493 [(0, (.getstatic 38, 3)), (3, (.ifCond .eq 10, 3)), (6, (.aload_n 0, 1)), (7, (.getfield 15, 3)), (10, (.goto 4, 3)), (13, (.iconst 1, 1)), (14, (.ireturn, 1))] = true := by decide +kernel
def rm_J0_isLatin1_aae02 : Room := { frames := 0, cells := 0, slots := 0, locals := 0 }
theorem hy_J0_isLatin1_aae02 : yJ0_isLatin1_aae02.cls = RJ0 ∧ yJ0_isLatin1_aae02.cls ≠ "java/lang/invoke/MethodHandle" ∧ yJ0_isLatin1_aae02.cls ≠ "java/lang/invoke/VarHandle" ∧ (parseMethodDescriptor yJ0_isLatin1_aae02.desc).map (fun d => d.parameters.length) = some 0 := by decide +kernel
theorem D_J0_isLatin1_aae02 : gDec cJ0_isLatin1_aae02 [(0, (.getstatic 38, 3)), (3, (.ifCond .eq 14, 3)), (6, (.aload_n 0, 1)), (7, (.getfield 15, 3)), (10, (.ifCond .ne 7, 3)), (13, (.iconst 1, 1)), (14, (.goto 4, 3)), (17, (.iconst 0, 1)), (18, (.ireturn, 1))] = true := by decide +kernel
def rm_J3_checkIndex_8e157 : Room := { frames := 0, cells := 0, slots := 0, locals := 0 }
theorem hy_J3_checkIndex_8e157 : yJ3_checkIndex_8e157.cls ≠ "java/lang/invoke/MethodHandle" ∧ yJ3_checkIndex_8e157.cls ≠ "java/lang/invoke/VarHandle" ∧ (parseMethodDescriptor yJ3_checkIndex_8e157.desc).map (fun d => d.parameters.length) = some 3 := by decide +kernel
theorem D_J3_checkIndex_8e157 : gDec cJ3_checkIndex_8e157 [(0, (.iload_n 0, 1)), (1, (.ifCond .lt 8, 3)), (4, (.iload_n 0, 1)), (5, (.iload_n 1, 1)), (6, (.if_icmp .lt 10, 3)), (9, (.aload_n 2, 1)), (10, (.iload_n 0, 1)), (11, (.iload_n 1, 1)), (12, (.invokestatic 95, 3)), (15, (.athrow, 1)), (16, (.iload_n 0, 1)), (17, (.ireturn, 1))] = true := by decide +kernel
def rm_J0_checkIndex_df160 : Room := { frames := 1, cells := 0, slots := 0, locals := 22 }
theorem hy_J0_checkIndex_df160 : yJ0_checkIndex_df160.cls ≠ "java/lang/invoke/MethodHandle" ∧ yJ0_checkIndex_df160.cls ≠ "java/lang/invoke/VarHandle" ∧ (parseMethodDescriptor yJ0_checkIndex_df160.desc).map (fun d => d.parameters.length) = some 2 := by decide +kernel
theorem D_J0_checkIndex_df160 : gDec cJ0_checkIndex_df160 [(0, (.iload_n 0, 1)), (1, (.iload_n 1, 1)), (2, (.getstatic 1053, 3)), (5, (.invokestatic 1059, 3)), (8, (.pop, 1)), (9, (.return_, 1))] = true := by decide +kernel
def rm_J1_charAt_3b067 : Room := { frames := 2, cells := 0, slots := 0, locals := 43 }
theorem hy_J1_charAt_3b067 : yJ1_charAt_3b067.cls ≠ "java/lang/invoke/MethodHandle" ∧ yJ1_charAt_3b067.cls ≠ "java/lang/invoke/VarHandle" ∧ (parseMethodDescriptor yJ1_charAt_3b067.desc).map (fun d => d.parameters.length) = some 2 := by decide +kernel
theorem D_J1_charAt_3b067 : gDec cJ1_charAt_3b067 [(0, (.iload_n 1, 1)), (1, (.aload_n 0, 1)), (2, (.arraylength, 1)), (3, (.invokestatic 9, 3)), (6, (.aload_n 0, 1)), (7, (.iload_n 1, 1)), (8, (.baload, 1)), (9, (.sipush 255, 3)), (12, (.iand, 1)), (13, (.i2c, 1)), (14, (.ireturn, 1))] = true := by decide +kernel
def rm_J0_length_8abf5 : Room := { frames := 1, cells := 0, slots := 0, locals := 20 }
theorem hy_J0_length_8abf5 : yJ0_length_8abf5.cls = RJ0 ∧ yJ0_length_8abf5.cls ≠ "java/lang/invoke/MethodHandle" ∧ yJ0_length_8abf5.cls ≠ "java/lang/invoke/VarHandle" ∧ (parseMethodDescriptor yJ0_length_8abf5.desc).map (fun d => d.parameters.length) = some 0 := by decide +kernel
theorem D_J0_length_8abf5 : gDec cJ0_length_8abf5 [(0, (.aload_n 0, 1)), (1, (.getfield 9, 3)), (4, (.arraylength, 1)), (5, (.aload_n 0, 1)), (6, (.invokevirtual 335, 3)), (9, (.ishr, 1)), (10, (.ireturn, 1))] = true := by decide +kernel
def rm_J0_charAt_5068e : Room := { frames := 3, cells := 0, slots := 0, locals := 64 }
theorem hy_J0_charAt_5068e : yJ0_charAt_5068e.cls = RJ0 ∧ yJ0_charAt_5068e.cls ≠ "java/lang/invoke/MethodHandle" ∧ yJ0_charAt_5068e.cls ≠ "java/lang/invoke/VarHandle" ∧ (parseMethodDescriptor yJ0_charAt_5068e.desc).map (fun d => d.parameters.length) = some 1 := by decide +kernel
theorem D_J0_charAt_5068e : gDec cJ0_charAt_5068e [(0, (.aload_n 0, 1)), (1, (.invokevirtual 492, 3)), (4, (.ifCond .eq 12, 3)), (7, (.aload_n 0, 1)), (8, (.getfield 9, 3)), (11, (.iload_n 1, 1)), (12, (.invokestatic 495, 3)), (15, (.ireturn, 1)), (16, (.aload_n 0, 1)), (17, (.getfield 9, 3)), (20, (.iload_n 1, 1)), (21, (.invokestatic 498, 3)), (24, (.ireturn, 1))] = true := by decide +kernel
theorem ls_J0_coder_7d493_c : Cond.fieldLink RJ0 38 "java/lang/String" "COMPACT_STRINGS" "Z" ∈ wsJ0_coder_7d493 := by decide +kernel
theorem ls_J0_coder_7d493_k : Cond.fieldLink RJ0 15 "java/lang/String" "coder" "B" ∈ wsJ0_coder_7d493 := by decide +kernel
theorem ls_J0_isLatin1_aae02_c : Cond.fieldLink RJ0 38 "java/lang/String" "COMPACT_STRINGS" "Z" ∈ wsJ0_isLatin1_aae02 := by decide +kernel
theorem ls_J0_isLatin1_aae02_k : Cond.fieldLink RJ0 15 "java/lang/String" "coder" "B" ∈ wsJ0_isLatin1_aae02 := by decide +kernel
theorem ls_J0_length_8abf5_v : Cond.fieldLink RJ0 9 "java/lang/String" "value" "[B" ∈ wsJ0_length_8abf5 := by decide +kernel
theorem ls_J0_charAt_5068e_v : Cond.fieldLink RJ0 9 "java/lang/String" "value" "[B" ∈ wsJ0_charAt_5068e := by decide +kernel
theorem ls_J0_checkIndex : Cond.fieldLink RJ0 1053 "jdk/internal/util/Preconditions" "SIOOBE_FORMATTER" "Ljava/util/function/BiFunction;" ∈ wsJ0_checkIndex_df160 := by decide +kernel
theorem m_J0_coder_7d493 (w : gWd) (h : gHp) {i : Nat} (A : i < 6) : gMet w yJ0_coder_7d493 wsJ0_coder_7d493 rm_J0_coder_7d493 [.ref (gAK w i)] h (some (.int 0)) h := by
  refine gMet_of (cc := cJ0_coder_7d493) (maxL := 1) (ret := (some .byte)) (fr := 0) (lo := 0) (own := RJ0) [(0, .ref (gAK w i))] (by decide) rfl rfl (Nat.le_of_ble_eq_true rfl) rfl (Nat.le_refl _) (Nat.le_refl _) (fun g C E => ?_)
  refine gx_getsC C ls_J0_coder_7d493_c (gDec_at D_J0_coder_7d493 0 rfl) ?_
  refine gx_if_eq C 13 (gDec_at D_J0_coder_7d493 1 rfl) (by decide) (fun c => absurd c (by decide)) (fun _ => ?_)
  refine gx_aload_n C 0 (gDec_at D_J0_coder_7d493 2 rfl) rfl rfl ?_
  refine gx_strcoder C A ls_J0_coder_7d493_k (gDec_at D_J0_coder_7d493 3 rfl) ?_
  refine gx_goto C 14 (gDec_at D_J0_coder_7d493 4 rfl) (by decide) ?_
  exact gx_nret C rfl E (gDec_at D_J0_coder_7d493 6 rfl)
theorem m_J0_isLatin1_aae02 (w : gWd) (h : gHp) {i : Nat} (A : i < 6) : gMet w yJ0_isLatin1_aae02 wsJ0_isLatin1_aae02 rm_J0_isLatin1_aae02 [.ref (gAK w i)] h (some (.int 1)) h := by
  refine gMet_of (cc := cJ0_isLatin1_aae02) (maxL := 1) (ret := (some .boolean)) (fr := 0) (lo := 0) (own := RJ0) [(0, .ref (gAK w i))] (by decide) rfl rfl (Nat.le_of_ble_eq_true rfl) rfl (Nat.le_refl _) (Nat.le_refl _) (fun g C E => ?_)
  refine gx_getsC C ls_J0_isLatin1_aae02_c (gDec_at D_J0_isLatin1_aae02 0 rfl) ?_
  refine gx_if_eq C 17 (gDec_at D_J0_isLatin1_aae02 1 rfl) (by decide) (fun c => absurd c (by decide)) (fun _ => ?_)
  refine gx_aload_n C 0 (gDec_at D_J0_isLatin1_aae02 2 rfl) rfl rfl ?_
  refine gx_strcoder C A ls_J0_isLatin1_aae02_k (gDec_at D_J0_isLatin1_aae02 3 rfl) ?_
  refine gx_if_ne C 17 (gDec_at D_J0_isLatin1_aae02 4 rfl) (by decide) (fun c => absurd rfl c) (fun _ => ?_)
  refine gx_iconst C (v := 1) (gDec_at D_J0_isLatin1_aae02 5 rfl) (by decide) ?_
  refine gx_goto C 18 (gDec_at D_J0_isLatin1_aae02 6 rfl) (by decide) ?_
  exact gx_nret C rfl E (gDec_at D_J0_isLatin1_aae02 8 rfl)
theorem m_J3_checkIndex_8e157N (w : gWd) (h : gHp) {x n : Int32} (h0 : ¬ x < 0) (h1 : x < n) : gMet w yJ3_checkIndex_8e157 wsJ3_checkIndex_8e157 rm_J3_checkIndex_8e157 [.int x, .int n, .null] h (some (.int x)) h := by
  refine gMet_of (cc := cJ3_checkIndex_8e157) (maxL := 3) (ret := (some .int)) (fr := 0) (lo := 0) (own := RJ3) [(0, .int x), (1, .int n), (2, .null)] (by decide) rfl rfl (Nat.le_of_ble_eq_true rfl) rfl (Nat.le_refl _) (Nat.le_refl _) (fun g C E => ?_)
  refine gx_iload_n C 0 (gDec_at D_J3_checkIndex_8e157 0 rfl) rfl rfl ?_
  refine gx_if_lt C 9 (gDec_at D_J3_checkIndex_8e157 1 rfl) (by decide) (fun c => absurd c h0) (fun _ => ?_)
  refine gx_iload_n C 0 (gDec_at D_J3_checkIndex_8e157 2 rfl) rfl rfl ?_
  refine gx_iload_n C 1 (gDec_at D_J3_checkIndex_8e157 3 rfl) rfl rfl ?_
  refine gx_icmp_lt C 16 (gDec_at D_J3_checkIndex_8e157 4 rfl) (by decide) (fun _ => ?_) (fun c => absurd h1 c)
  refine gx_iload_n C 0 (gDec_at D_J3_checkIndex_8e157 10 rfl) rfl rfl ?_
  exact gx_iret C E (gDec_at D_J3_checkIndex_8e157 11 rfl)
theorem m_J3_checkIndex_8e157R (w : gWd) (h : gHp) {x n : Int32} {t : Nat} (h0 : ¬ x < 0) (h1 : x < n) : gMet w yJ3_checkIndex_8e157 wsJ3_checkIndex_8e157 rm_J3_checkIndex_8e157 [.int x, .int n, .ref t] h (some (.int x)) h := by
  refine gMet_of (cc := cJ3_checkIndex_8e157) (maxL := 3) (ret := (some .int)) (fr := 0) (lo := 0) (own := RJ3) [(0, .int x), (1, .int n), (2, .ref t)] (by decide) rfl rfl (Nat.le_of_ble_eq_true rfl) rfl (Nat.le_refl _) (Nat.le_refl _) (fun g C E => ?_)
  refine gx_iload_n C 0 (gDec_at D_J3_checkIndex_8e157 0 rfl) rfl rfl ?_
  refine gx_if_lt C 9 (gDec_at D_J3_checkIndex_8e157 1 rfl) (by decide) (fun c => absurd c h0) (fun _ => ?_)
  refine gx_iload_n C 0 (gDec_at D_J3_checkIndex_8e157 2 rfl) rfl rfl ?_
  refine gx_iload_n C 1 (gDec_at D_J3_checkIndex_8e157 3 rfl) rfl rfl ?_
  refine gx_icmp_lt C 16 (gDec_at D_J3_checkIndex_8e157 4 rfl) (by decide) (fun _ => ?_) (fun c => absurd h1 c)
  refine gx_iload_n C 0 (gDec_at D_J3_checkIndex_8e157 10 rfl) rfl rfl ?_
  exact gx_iret C E (gDec_at D_J3_checkIndex_8e157 11 rfl)
theorem m_J3_checkIndex_8e157 (w : gWd) (h : gHp) {x n : Int32} {v : Value} (hv : v = .null ∨ ∃ t : Nat, v = .ref t) (h0 : ¬ x < 0) (h1 : x < n) : gMet w yJ3_checkIndex_8e157 wsJ3_checkIndex_8e157 rm_J3_checkIndex_8e157 [.int x, .int n, v] h (some (.int x)) h := by
  rcases hv with rfl | ⟨t, rfl⟩
  · exact m_J3_checkIndex_8e157N w h h0 h1
  · exact m_J3_checkIndex_8e157R w h h0 h1
theorem m_J0_checkIndex_df160 (w : gWd) (h : gHp) {x n : Int32} (h0 : ¬ x < 0) (h1 : x < n) : gMet w yJ0_checkIndex_df160 wsJ0_checkIndex_df160 rm_J0_checkIndex_df160 [.int x, .int n] h none h := by
  refine gMet_of (cc := cJ0_checkIndex_df160) (maxL := 2) (ret := none) (fr := 1) (lo := 22) (own := RJ0) [(0, .int x), (1, .int n)] (by decide) rfl rfl (Nat.le_of_ble_eq_true rfl) rfl (Nat.le_refl _) (Nat.le_refl _) (fun g C E => ?_)
  refine gx_iload_n C 0 (gDec_at D_J0_checkIndex_df160 0 rfl) rfl rfl ?_
  refine gx_iload_n C 1 (gDec_at D_J0_checkIndex_df160 1 rfl) rfl rfl ?_
  refine gx_getsF C ls_J0_checkIndex (gDec_at D_J0_checkIndex_df160 2 rfl) ?_
  refine gx_callS1 C (st := []) 3 [.int x, .int n, gFz w] (m_J3_checkIndex_8e157 w h (gC_fz C) h0 h1) gJ0_checkIndex_df160_J3_checkIndex_8e157 rfl rfl rfl hy_J3_checkIndex_8e157 (Nat.le_of_ble_eq_true rfl) (Nat.le_of_ble_eq_true rfl) rfl rfl (Nat.le_of_ble_eq_true rfl) (gDec_at D_J0_checkIndex_df160 3 rfl) ?_
  refine gx_pop C (gDec_at D_J0_checkIndex_df160 4 rfl) rfl ?_
  exact gx_vret C E (gDec_at D_J0_checkIndex_df160 5 rfl)
theorem gSfit : ∀ i : Nat, i < 6 → ∀ j : Nat, j < 6 → (((((gSbyt.getD i []).getD j 0) &&& 255).toUInt32 % 65536).toInt32 = (gSbyt.getD i []).getD j 0 ∧ vp_nar .char ((gSbyt.getD i []).getD j 0) = (gSbyt.getD i []).getD j 0) := by decide +kernel
theorem gSlen6 : ∀ i : Nat, i < 6 → gSlen.getD i 0 ≤ 6 := by decide
theorem gSlt {k : Int32} {i : Nat} (hi : i < 6) (hk : gIn k (gSlen.getD i 0)) : ¬ k < 0 ∧ k < nI (gSlen.getD i 0) ∧ gN k < 6 := by
  have h0 : ¬ k < 0 := fun q => hk (Or.inl q)
  have h1 : gN k < gSlen.getD i 0 := Nat.not_le.mp fun q => hk (Or.inr q)
  have h6 := gSlen6 i hi
  refine ⟨h0, ?_, by omega⟩
  rw [Int32.lt_iff_toInt_lt] at h0 ⊢
  rw [nI, Int32.toInt_ofNat_of_lt (by omega)]
  have h2 : (gN k : Int) = k.toInt := Int32.cast_toNatClampNeg _ (by rw [Int32.le_iff_toInt_le]; exact Int.not_lt.mp h0)
  omega
theorem gSnar {x : Int32} (h : vp_nar .char x = x) : narrow .char (.int x) = .int x := by
  rw [vp_nar_char] at h
  show Value.int _ = Value.int x
  exact congrArg Value.int h
theorem m_J1_charAt_3b067 (w : gWd) (h : gHp) {i : Nat} (A : i < 6) {x : Int32} (hk : gIn x (gSlen.getD i 0)) : gMet w yJ1_charAt_3b067 wsJ1_charAt_3b067 rm_J1_charAt_3b067 [.ref (gAV w i), .int x] h (some (.int ((gSbyt.getD i []).getD (gN x) 0))) h := by
  obtain ⟨h0, h1, h6⟩ := gSlt A hk
  have hfit := gSfit i A (gN x) h6
  refine gMet_of (cc := cJ1_charAt_3b067) (maxL := 2) (ret := (some .char)) (fr := 2) (lo := 43) (own := RJ1) [(0, .ref (gAV w i)), (1, .int x)] (by decide) rfl rfl (Nat.le_of_ble_eq_true rfl) rfl (Nat.le_refl _) (Nat.le_refl _) (fun g C E => ?_)
  refine gx_iload_n C 1 (gDec_at D_J1_charAt_3b067 0 rfl) rfl rfl ?_
  refine gx_aload_n C 0 (gDec_at D_J1_charAt_3b067 1 rfl) rfl rfl ?_
  refine gx_strlen C A (gDec_at D_J1_charAt_3b067 2 rfl) ?_
  refine gx_callS0 C (st := []) 2 [.int x, .int (nI (gSlen.getD i 0))] (m_J0_checkIndex_df160 w h h0 h1) gJ1_charAt_3b067_J0_checkIndex_df160 rfl rfl rfl hy_J0_checkIndex_df160 (Nat.le_of_ble_eq_true rfl) (Nat.le_of_ble_eq_true rfl) rfl rfl (Nat.le_of_ble_eq_true rfl) (gDec_at D_J1_charAt_3b067 3 rfl) ?_
  refine gx_aload_n C 0 (gDec_at D_J1_charAt_3b067 4 rfl) rfl rfl ?_
  refine gx_iload_n C 1 (gDec_at D_J1_charAt_3b067 5 rfl) rfl rfl ?_
  refine gx_strbald C A hk (gDec_at D_J1_charAt_3b067 6 rfl) ?_
  refine gx_sipush C (v := 255) (gDec_at D_J1_charAt_3b067 7 rfl) (by decide) ?_
  refine gx_iand C (gDec_at D_J1_charAt_3b067 8 rfl) ?_
  refine gx_i2c C (gDec_at D_J1_charAt_3b067 9 rfl) ?_
  rw [hfit.1]
  exact gx_nret C (gSnar hfit.2) E (gDec_at D_J1_charAt_3b067 10 rfl)
theorem gSshr : ∀ i : Nat, i < 6 → nI (gSlen.getD i 0) >>> ((0 : Int32) &&& 31) = nI (gSlen.getD i 0) := by decide
theorem m_J0_length_8abf5 (w : gWd) (h : gHp) {i : Nat} (A : i < 6) {o : Int32} (hF : f_J0_length_8abf5 i h = some o) : gMet w yJ0_length_8abf5 wsJ0_length_8abf5 rm_J0_length_8abf5 [.ref (gAK w i)] h (some (.int o)) h := by
  obtain rfl := Option.some.inj hF
  refine gMet_of (cc := cJ0_length_8abf5) (maxL := 1) (ret := (some .int)) (fr := 1) (lo := 20) (own := RJ0) [(0, .ref (gAK w i))] (by decide) rfl rfl (Nat.le_of_ble_eq_true rfl) rfl (Nat.le_refl _) (Nat.le_refl _) (fun g C E => ?_)
  refine gx_aload_n C 0 (gDec_at D_J0_length_8abf5 0 rfl) rfl rfl ?_
  refine gx_strval C A ls_J0_length_8abf5_v (gDec_at D_J0_length_8abf5 1 rfl) ?_
  refine gx_strlen C A (gDec_at D_J0_length_8abf5 2 rfl) ?_
  refine gx_aload_n C 0 (gDec_at D_J0_length_8abf5 3 rfl) rfl rfl ?_
  refine gx_callVS1 C (st := [.int (nI (gSlen.getD i 0))]) 0 [] (m_J0_coder_7d493 w h A) gJ0_length_8abf5_J0_coder_7d493 rfl rfl rfl hy_J0_coder_7d493 (Nat.le_of_ble_eq_true rfl) (Nat.le_of_ble_eq_true rfl) A rfl rfl (Nat.le_of_ble_eq_true rfl) (gDec_at D_J0_length_8abf5 4 rfl) ?_
  refine gx_ishr C (gDec_at D_J0_length_8abf5 5 rfl) ?_
  rw [gSshr i A]
  exact gx_iret C E (gDec_at D_J0_length_8abf5 6 rfl)
theorem m_J0_charAt_5068e (w : gWd) (h : gHp) {i : Nat} (A : i < 6) (k : Int32) {o : Int32} (hF : f_J0_charAt_5068e i k h = some o) : gMet w yJ0_charAt_5068e wsJ0_charAt_5068e rm_J0_charAt_5068e [.ref (gAK w i), .int k] h (some (.int o)) h := by
  obtain ⟨hk, hF⟩ := gGd hF
  obtain rfl := Option.some.inj hF
  obtain ⟨h0, h1, h6⟩ := gSlt A hk
  have hfit := gSfit i A (gN k) h6
  refine gMet_of (cc := cJ0_charAt_5068e) (maxL := 2) (ret := (some .char)) (fr := 3) (lo := 64) (own := RJ0) [(0, .ref (gAK w i)), (1, .int k)] (by decide) rfl rfl (Nat.le_of_ble_eq_true rfl) rfl (Nat.le_refl _) (Nat.le_refl _) (fun g C E => ?_)
  refine gx_aload_n C 0 (gDec_at D_J0_charAt_5068e 0 rfl) rfl rfl ?_
  refine gx_callVS1 C (st := []) 0 [] (m_J0_isLatin1_aae02 w h A) gJ0_charAt_5068e_J0_isLatin1_aae02 rfl rfl rfl hy_J0_isLatin1_aae02 (Nat.le_of_ble_eq_true rfl) (Nat.le_of_ble_eq_true rfl) A rfl rfl (Nat.le_of_ble_eq_true rfl) (gDec_at D_J0_charAt_5068e 1 rfl) ?_
  refine gx_if_eq C 16 (gDec_at D_J0_charAt_5068e 2 rfl) (by decide) (fun c => absurd c (by decide)) (fun _ => ?_)
  refine gx_aload_n C 0 (gDec_at D_J0_charAt_5068e 3 rfl) rfl rfl ?_
  refine gx_strval C A ls_J0_charAt_5068e_v (gDec_at D_J0_charAt_5068e 4 rfl) ?_
  refine gx_iload_n C 1 (gDec_at D_J0_charAt_5068e 5 rfl) rfl rfl ?_
  refine gx_callS1 C (st := []) 2 [.ref (gAV w i), .int k] (m_J1_charAt_3b067 w h A hk) gJ0_charAt_5068e_J1_charAt_3b067 rfl rfl rfl hy_J1_charAt_3b067 (Nat.le_of_ble_eq_true rfl) (Nat.le_of_ble_eq_true rfl) rfl rfl (Nat.le_of_ble_eq_true rfl) (gDec_at D_J0_charAt_5068e 6 rfl) ?_
  exact gx_nret C (gSnar hfit.2) E (gDec_at D_J0_charAt_5068e 7 rfl)
