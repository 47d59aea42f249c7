set_option maxRecDepth 20000 in
theorem ggL_law_X9_init : GoodIn wsL_law wsX9_init := goodIn_r _ [8, 9, 10, 11, 12, 13, 14, 15, 16, 17, 18, 19, 20, 21, 22, 23, 24, 25, 26, 27, 28, 29, 30, 31, 32, 33, 34, 35, 36, 37, 38, 39, 40, 41, 42, 43, 44, 45, 46, 47, 48, 49, 50, 51, 52, 53, 54, 55, 56, 57, 58, 59, 60, 61, 62, 63, 64, 65, 66, 67, 68, 69, 70, 71, 72, 73, 74, 75, 76, 77, 78, 79, 80, 81, 82, 83, 84, 85, 86, 87, 88, 89, 90, 91, 92, 93, 94, 95, 96, 97, 98, 99, 100, 101, 102, 103, 104, 105, 106, 107, 108, 109, 110, 111, 112, 113, 114, 115, 116, 117, 118, 119, 966, 967, 930, 931, 932, 933, 934, 935, 936, 937, 938, 939, 968, 969, 970, 971, 972, 973, 974, 975, 976, 977, 978, 979, 980, 981, 982, 983, 984, 985, 986, 987, 988, 989, 990, 991, 992, 993, 994, 995, 996, 997, 998, 999, 1000] (by decide +kernel) (by decide +kernel)
set_option maxRecDepth 20000 in
theorem ggL_law_X10_init : GoodIn wsL_law wsX10_init := goodIn_r _ [122, 123, 10, 11, 80, 124, 125, 126, 46, 127, 60, 128, 129, 130, 131, 132, 133, 134, 135, 136, 137, 940, 941, 942, 943, 944, 945, 946, 947, 948, 949, 950, 951, 952, 953, 954, 955, 956, 957, 958, 959, 960, 961, 962, 963, 964, 965] (by decide +kernel) (by decide +kernel)
set_option maxRecDepth 20000 in
theorem gL_law_X9_init : GoodIn wsL_law (wsX9_init) := ggL_law_X9_init
set_option maxRecDepth 20000 in
theorem gL_law_X10_init : GoodIn wsL_law (wsX10_init) := ggL_law_X10_init
set_option maxRecDepth 100000 in
theorem nwL_X9 : Cond.classLink RL 7 RX9 ∈ wsL_law ∧ Cond.instantiable RX9 10 ∈ wsL_law ∧ Cond.initialized RX9 ∈ wsL_law := by decide +kernel
set_option maxRecDepth 100000 in
theorem ciL_X9 : Cond.methodLink RL 9 yX9_init ∈ wsL_law ∧ Cond.initialized yX9_init.cls ∈ wsL_law ∧ Cond.instanceMethod yX9_init ∈ wsL_law := by decide +kernel
set_option maxRecDepth 100000 in
theorem nwL_X10 : Cond.classLink RL 10 RX10 ∈ wsL_law ∧ Cond.instantiable RX10 26 ∈ wsL_law ∧ Cond.initialized RX10 ∈ wsL_law := by decide +kernel
set_option maxRecDepth 100000 in
theorem ciL_X10 : Cond.methodLink RL 12 yX10_init ∈ wsL_law ∧ Cond.initialized yX10_init.cls ∈ wsL_law ∧ Cond.instanceMethod yX10_init ∈ wsL_law := by decide +kernel
theorem gY_X {w : gWd} {g : gCx} {hi nL pc : Nat} {pic : gPic} {h : gHp} {lv : List (Nat × Value)} {st : List Value} {ce sl : Nat} (hc : g.2.2.2.2.2.2.2.2.2.1 = ce) (hs : g.2.2.2.2.2.2.2.2.2.2.1 = sl) (hpic : ∀ H : Heap, gRp w.2.1 pic H → gR w.2.1 w.2.2.1 w.2.2.2.1 h H) (k : gX w g nL h pc lv st) : gY w g w.2.2.2.2.1 hi pic ce sl nL pc lv st := by
  obtain ⟨l, D, cA, sh, b0, adK, adV, fz⟩ := w
  obtain ⟨p, e, R, s, m, args, below, meth, c, ce9, sl9, Q⟩ := g
  subst hc; subst hs
  intro ls H locs hl hz hR hS
  exact k ls H locs hl (hpic H hR) hS
set_option maxRecDepth 100000 in
set_option maxHeartbeats 4000000 in
/-- the law, from its entry -/
theorem whole_start {p : Program} {e : Env} {s : State} {m : MethodId} {below : List Frame} {meth : Method} {c : Code} (l : Launch) (hflags : l.flags = flags0) {b L : Nat} {xs : Nat → Int32} (hL : L ≤ 2560) (C0 : lw_At p s m meth c b L xs) : W p l e room_1 s m #[Value.ref b] below meth c s.heap [] 0 0 (lw_Z below #[Value.ref b] s) (entryFrame m ([Value.ref b] : List Value).toArray 4) := by
  obtain ⟨D, cA, hK, hAO⟩ := start_K C0
  have hN := start_N C0
  obtain ⟨adK, adV, fz, hSt⟩ := start_S C0
  obtain ⟨hx, hb, hr, hml, hown, hts, hX, hbl, hlocks, hgv⟩ := C0
  generalize hn : s.heap.size = n at hSt hbl
  generalize hw : ((l, D, cA, sh0 n, n, adK, adV, fz) : gWd) = w
  generalize hg : ((p, e, room_1, s, m, #[Value.ref b], below, meth, c, 155, 2592, lw_Z below #[Value.ref b] s) : gCx) = g
  have hsh : gsh w = sh0 n := by rw [← hw]
  have A1 : is_X9 w n := is0_X9_0 hsh
  have A2 : is_X10 w (n + 142) := is0_X10_142 hsh
  have I1 : in_X9 (hT0 n) n := in0_X9_0 n
  have I2 : in_X10 (hT0 n) (n + 142) := in0_X10_142 n
  have C : gC w g cL_law wsL_law RL 4 11 470 := by
    rw [← hw, ← hg]
    exact ⟨hx, hb, hml, hown, fun x h => hts x (wsL_law_in x h), hK, hN, by rw [hn]; exact Nat.le_refl _, fun a x h => (sh0_le h).1, by decide, by decide, by decide, by decide, hSt⟩
  have Cy : gCy w g n 600000 7302250 := by
    rw [← hw, ← hg]
    exact ⟨by decide, by decide, hAO, by rw [hn]; exact Nat.le_refl _, Nat.le_refl _⟩
  have SX : gScr w g b L xs := by
    rw [← hw, ← hg]
    exact ⟨hX, by rw [hn]; exact hbl, hn.symm⟩
  have E : gLw w g := by
    rw [← hw, ← hg]
    exact ⟨rfl, hr, hlocks, ⟨b, rfl, rfl⟩, hn.symm, by decide, by decide⟩
  have K : gY w g n n (fun _ => none) 0 0 4 0 [(0, .ref b)] [] := by
    refine gy_new C Cy (fs := [.null, .null, .null, .null, .null, .null, .null, .null, .null, .int 0]) (ci := 9) rfl (fun x h => inlX9 x h) tyX9_ok nwL_X9 (by intro j hj; match j, hj with | 0, _ => rfl | 1, _ => rfl | 2, _ => rfl | 3, _ => rfl | 4, _ => rfl | 5, _ => rfl | 6, _ => rfl | 7, _ => rfl | 8, _ => rfl | 9, _ => rfl | j + 10, hj => exact absurd hj (by omega)) (by decide) (by decide) (gDec_at D_L_law_0 0 rfl) ?_
    refine gy_dup C (gDec_at D_L_law_0 1 rfl) rfl ?_
    refine gy_callI C Cy (m_X9_init w (hT0 n) A1 I1 _ gPu_eq) rfl (Nat.le_refl _) gL_law_X9_init ciL_X9.1 rfl rfl rfl ciL_X9.2.1 ciL_X9.2.2 rfl hy_X9_init (by decide) (by decide) (by decide) (by decide) (Nat.le_of_ble_eq_true rfl) (gDec_at D_L_law_0 2 rfl) ?_
    refine gy_astore_n C (lv' := [(1, .ref n), (0, .ref b)]) (gDec_at D_L_law_0 3 rfl) rfl (Nat.le_of_ble_eq_true rfl) rfl ?_
    refine gy_new C Cy (fs := [.null, .null, .int 0, .null, .int 0, .int 0, .null, .int 0, .int 0, .null, .null, .int 0, .null, .null, .int 0, .int 0, .int 0, .long 0, .long 0, .null, .null, .long 0, .long 0, .int 0, .null, .null]) (ci := 10) rfl (fun x h => inlX10 x h) tyX10_ok nwL_X10 (by intro j hj; match j, hj with | 0, _ => rfl | 1, _ => rfl | 2, _ => rfl | 3, _ => rfl | 4, _ => rfl | 5, _ => rfl | 6, _ => rfl | 7, _ => rfl | 8, _ => rfl | 9, _ => rfl | 10, _ => rfl | 11, _ => rfl | 12, _ => rfl | 13, _ => rfl | 14, _ => rfl | 15, _ => rfl | 16, _ => rfl | 17, _ => rfl | 18, _ => rfl | 19, _ => rfl | 20, _ => rfl | 21, _ => rfl | 22, _ => rfl | 23, _ => rfl | 24, _ => rfl | 25, _ => rfl | j + 26, hj => exact absurd hj (by omega)) (by decide) (by decide) (gDec_at D_L_law_0 4 rfl) ?_
    refine gy_dup C (gDec_at D_L_law_0 5 rfl) rfl ?_
    refine gy_callI C Cy (b := n + 142) (m_X10_init w (hT0 n) A2 I2 _ gPu_eq) rfl (by omega) gL_law_X10_init ciL_X10.1 rfl rfl rfl ciL_X10.2.1 ciL_X10.2.2 rfl hy_X10_init (by decide) (by decide) (by decide) (by decide) (Nat.le_of_ble_eq_true rfl) (gDec_at D_L_law_0 6 rfl) ?_
    refine gy_astore_n C (lv' := [(2, .ref (n + 142)), (1, .ref n), (0, .ref b)]) (gDec_at D_L_law_0 7 rfl) rfl (Nat.le_of_ble_eq_true rfl) rfl ?_
    refine gy_iconst C (v := 0) (gDec_at D_L_law_0 8 rfl) (by decide) ?_
    refine gy_istore_n C (lv' := [(3, .int 0), (2, .ref (n + 142)), (1, .ref n), (0, .ref b)]) (gDec_at D_L_law_0 9 rfl) rfl (Nat.le_of_ble_eq_true rfl) rfl ?_
    have kX : gX w g 4 (hT0 n) 18 [(3, .int 0), (2, .ref (n + 142)), (1, .ref n), (0, .ref b)] [] := gx_sub [3, 2, 1, 0] rfl (w_L_law_18 C SX A1 A2 E gFuel 0 (hT0 n) (pure_main n L xs hL))
    have hbase : w.2.2.2.2.1 = n := by rw [← hw]
    rw [← hbase] at kX ⊢
    refine gY_X (by rw [← hg]) (by rw [← hg]) (fun H hH => ?_) kX
    rw [hbase] at hH ⊢
    intro a x ha
    have ha2 : sh0 n a = some x := by rw [← hsh]; exact ha
    have hle := sh0_le ha2
    have hm : (gsh w a).map (gE w.2.2.1 ((hT0 n).1 a) ((hT0 n).2 a)) = some (gE w.2.2.1 ((hT0 n).1 a) ((hT0 n).2 a) x) := by rw [show gsh w a = some x from ha]; rfl
    by_cases c9 : n + 142 ≤ a ∧ a < n + 142 + 13
    · exact (hH a _ (gFin_is c9 hm)).2
    · exact (hH a _ (gFin_at c9 (gPu_at (by omega) (gFin_is (by omega) hm)))).2
  have hl := lv_entry ([.ref b]) (n := 4) (Nat.le_of_ble_eq_true rfl)
  rw [lg_entry_eq]
  generalize (lg_sl ([.ref b]) ++ List.replicate (4 - (lg_sl ([.ref b])).length) Slot.unset).toArray = ls at hl ⊢
  have hl : lv_has ls 4 [(0, .ref b)] := hl
  rw [← hw, ← hg] at K
  exact K ls s.heap [] hl hn (fun a e h => by cases h) va_S.rf
