theorem gWk_r {S : gTb} {n p : Nat} : ∀ (k : Nat) (w : gQ), 0 ≤ (gWk S n p k w).1 ∧ (gWk S n p k w).1 ≤ 2 := by
  intro k
  induction k with
  | zero => intro w; exact ⟨by show (0 : Int) ≤ 1; omega, by show (1 : Int) ≤ 2; omega⟩
  | succ k ih =>
    intro w
    rw [gWk]
    split
    · split
      · split
        · exact ⟨by show (0 : Int) ≤ 2; omega, by show (2 : Int) ≤ 2; omega⟩
        · exact ⟨by show (0 : Int) ≤ 0; omega, by show (0 : Int) ≤ 2; omega⟩
      · cases dS (gVw S (S 5 (p + k)).toNat w) (sO S n (S 5 (p + k)).toNat (p + k)) with
        | none => exact ⟨by show (0 : Int) ≤ 0; omega, by show (0 : Int) ≤ 2; omega⟩
        | some u => exact ih _
    · exact ih w
theorem m_find {h : gHp} {m t n c : Nat} {S : gTb} (R : mRow (h.2 (m + 1)) n c S) (W : gWf t n c S) {l : Nat} (hl : l < 6) (h3 : S 3 l ≠ 0) {z2 z3 : Nat} (c2 : z2 ≤ 9999) (c3 : 1 ≤ z3 ∧ z3 ≤ 99) : ∃ h', f_X10_find m (jI l) (jI z2) (jI z3) h = some (jI (gRs (gWk S n (S 3 l - 1).toNat (n - 1 - (S 3 l - 1).toNat) (nRed z2 z3))), h') ∧ mFr m h h' ∧ (gRs (gWk S n (S 3 l - 1).toNat (n - 1 - (S 3 l - 1).toNat) (nRed z2 z3)) = 1 → h'.2 m 17 = lI (gWk S n (S 3 l - 1).toNat (n - 1 - (S 3 l - 1).toNat) (nRed z2 z3)).2.1 ∧ h'.2 m 18 = lI (gWk S n (S 3 l - 1).toNat (n - 1 - (S 3 l - 1).toNat) (nRed z2 z3)).2.2) := by
  have hn := W.n
  have an := W.an hl
  obtain ⟨p, hp⟩ : ∃ p, p = (S 3 l - 1).toNat := ⟨_, rfl⟩
  rw [← hp]
  have pn : p < n := by omega
  obtain ⟨h1, e1, Q1, F1⟩ := m_lay R W W (arm := -4) (st := 0) ⟨fun _ _ _ => rfl, fun l' => by rw [if_neg (by omega)]⟩ (by omega) (by omega) (x := -1) (by omega)
  have ne : ¬ (z2 = 0 ∧ z3 = 0) := by omega
  have e2 := s_becomes h1 m (u := z2) (l := z3) (by omega) (by omega) ne
  have N2 : nFr m h1 (sPut h1 m (nRed z2 z3)) := nFr.rf.S
  have R2 : mRow ((sPut h1 m (nRed z2 z3)).2 (m + 1)) n c S := by rw [(N2.1 (m + 1) (by omega)).2, F1.row]; exact R
  have e3 := m_at R2 W hl
  have e4 := m_parts R2 hn
  have wl := nV_le (nRed_V ne)
  have on := gOn_root W n p pn (by omega)
  obtain ⟨h3', e5, N3, v3⟩ := m_f38 (m := m) W pn gFuel (n - 1) (sPut h1 m (nRed z2 z3)) (nRed z2 z3) 1 (by unfold gFuel; omega) on R2 (fun q hq => N2.mq (Q1 q hq)) (sPut_17 _ _ _) (sPut_18 _ _ _) (nRed_G ne) (by omega) (by omega) (by rw [Nat.one_mul]; exact rW_12 W (by omega))
  obtain ⟨G, hG⟩ : ∃ G, G = gWk S n p (n - 1 - p) (nRed z2 z3) := ⟨_, rfl⟩
  have gr := gWk_r (S := S) (n := n) (p := p) (n - 1 - p) (nRed z2 z3)
  rw [← hG] at e5 v3 gr ⊢
  have F3 : mFr m h h3' := F1.tr ((N2.tr N3).fr)
  have x1 : jI (S 3 l) - 1 = jI p := by rw [jl_1, jI_sub]; congr 1; omega
  have x2 : jI (n : Int) - 1 = jI ((n - 1 : Nat) : Int) := by rw [jl_1, jI_sub]; congr 1; omega
  have head : ∀ r, (if jI G.1 = 1 then if (h3'.2 m 18) = 0 then some ((0 : Int32), h3') else some (jI G.1, h3') else some (jI G.1, h3')) = r → f_X10_find m (jI l) (jI z2) (jI z3) h = r := fun r hr => by
    rw [f_X10_find, jI_to64 (by omega) (by omega), jI_to64 (by omega) (by omega)]
    refine gBs e1 (gBs e2 (gBs e3 (gBs e4 (gBs (v := (jI G.1, h3')) ?_ hr))))
    rw [x1, x2]
    exact e5
  unfold gRs
  by_cases g1 : G.1 = 1
  · obtain ⟨k1, k2, k3⟩ := v3 g1
    by_cases g0 : G.2.2 = 0
    · rw [if_pos ⟨g1, g0⟩]
      exact ⟨h3', head _ (gIT (by rw [g1]; rfl) (gIT (by rw [k2, g0]; rfl) rfl)), F3, fun x => absurd x (by decide)⟩
    · rw [if_neg (fun x => g0 x.2)]
      refine ⟨h3', head _ (gIT (by rw [g1]; rfl) (gIF ?_ rfl)), F3, fun _ => ⟨k1, k2⟩⟩
      rw [k2, l0, lI_eq (by omega) (by omega) (by omega) (by omega)]
      omega
  · rw [if_neg (fun x => g1 x.1)]
    exact ⟨h3', head _ (gIF (jne (b := 1) (by omega) (by omega) (by omega) (by omega) g1) rfl), F3, fun x => absurd x g1⟩
theorem s_solve (b m t : Nat) (x1 x2 x3 x4 : Int32) : gOK b m t (f_X9_solve b x1 x2 x3 x4) (f_X10_solve m x1 x2 x3 x4) := by
  rintro ⟨tx, ⟨n, c, S⟩, H, X⟩ h C W
  have R : cSt h (b + 3) n c S := C.2.1
  have Wf : gWf t n c S := W.2.1
  have hn := Wf.n
  obtain ⟨z1, rfl, a1, a2⟩ := jI_ex x1
  obtain ⟨z2, rfl, b1, b2⟩ := jI_ex x2
  obtain ⟨z3, rfl, d1, d2⟩ := jI_ex x3
  obtain ⟨z4, rfl, f1, f2⟩ := jI_ex x4
  have ei := u_index h a1 a2
  have em := fun (h2 : gHp) (M : mI m h2 (tx, (n, c, S), H, X)) => m_armBy (h := h2) (m := m) M.2.1 Wf a1 a2
  by_cases ok : 97 ≤ z1 ∧ z1 < 103 ∧ S 3 (z1 - 97).toNat ≠ 0
  · obtain ⟨l, hl⟩ : ∃ l : Nat, z1 - 97 = l := ⟨(z1 - 97).toNat, by omega⟩
    rw [if_pos (by omega), hl] at ei
    have hl6 : l < 6 := by omega
    have h3 : S 3 l ≠ 0 := by have := ok.2.2; rw [hl, Int.toNat_natCast] at this; exact this
    have eh := u_hasArm R.1 Wf (z := (l : Int)) (by omega) (by omega)
    rw [Int.toNat_natCast, decide_eq_true ⟨by omega, by omega, h3⟩] at eh
    have em' : ∀ h2, mI m h2 (tx, (n, c, S), H, X) → f_X10_armBy m (jI z1) h2 = some (jI l) := fun h2 M => by
      rw [em h2 M, if_pos ok, hl]
    have n4 : ¬ jI (l : Int) = -4 := jne (b := -4) (by omega) (by omega) (by omega) (by omega) (by omega)
    have i2 : ∀ h2 : gHp, f_X10_in (jI z2) 0 9999 h2 = some (decide (0 ≤ z2 ∧ z2 ≤ 9999)) := fun h2 => m_in h2 (x := z2) (y := 0) (z := 9999) b1 b2 (by omega) (by omega) (by omega) (by omega)
    have i3 : ∀ h2 : gHp, f_X10_in (jI z3) 1 99 h2 = some (decide (1 ≤ z3 ∧ z3 ≤ 99)) := fun h2 => m_in h2 (x := z3) (y := 1) (z := 99) d1 d2 (by omega) (by omega) (by omega) (by omega)
    have i4 : ∀ h2 : gHp, f_X10_in (jI z4) 0 2 h2 = some (decide (0 ≤ z4 ∧ z4 ≤ 2)) := fun h2 => m_in h2 (x := z4) (y := 0) (z := 2) f1 f2 (by omega) (by omega) (by omega) (by omega)
    by_cases c2 : 0 ≤ z2 ∧ z2 ≤ 9999
    · have p1 : ¬ jI z2 < 0 := jnlt (b := 0) b1 b2 (by omega) (by omega) (by omega)
      have p2 : ¬ (9999 : Int32) < jI z2 := jnlt (a := 9999) (by omega) (by omega) b1 b2 (by omega)
      by_cases c3 : 1 ≤ z3 ∧ z3 ≤ 99
      · have p3 : ¬ jI z3 < 1 := jnlt (b := 1) d1 d2 (by omega) (by omega) (by omega)
        have p4 : jI z3 ≤ 99 := jle (b := 99) d1 d2 (by omega) (by omega) (by omega)
        by_cases c4 : 0 ≤ z4 ∧ z4 ≤ 2
        · have p5 : ¬ jI z4 < 0 := jnlt (b := 0) f1 f2 (by omega) (by omega) (by omega)
          have p6 : jI z4 ≤ 2 := jle (b := 2) f1 f2 (by omega) (by omega) (by omega)
          obtain ⟨y2, hy2⟩ : ∃ y : Nat, z2 = y := ⟨z2.toNat, by omega⟩
          obtain ⟨y3, hy3⟩ : ∃ y : Nat, z3 = y := ⟨z3.toNat, by omega⟩
          have an := Wf.an hl6
          obtain ⟨p, hp⟩ : ∃ p, p = (S 3 l - 1).toNat := ⟨_, rfl⟩
          have pn : p < n := by omega
          have ne : ¬ (y2 = 0 ∧ y3 = 0) := by omega
          have kp := k_put h (b + 141) (u := y2) (l := y3) (by omega) (by omega) ne
          rw [← hy2, ← hy3, ← jI_to64 (z := z2) b1 b2, ← jI_to64 (z := z3) d1 d2] at kp
          have wl := nV_le (nRed_V ne)
          have wz := (nV_z (nRed_V ne)).2
          have w2 : 0 < (nRed y2 y3).2 := Nat.pos_of_ne_zero (fun w => by have := wz.mp w; omega)
          have Rw : cSt (nPut h (b + 141) (nRed y2 y3)) (b + 3) n c S := R.mv (fun y q1 q2 => ⟨rfl, nPut_2 (by omega)⟩)
          obtain ⟨r, h', q1, q2, q3, q4, q5⟩ := u_solveFor (a := b + 113) Rw Wf (by omega) (d := b + 141) (by omega) pn (nPut_Q h (b + 141) (nRed y2 y3)) (nRed_G ne) w2 (by omega) (by omega)
          have g6 : gIn (jI (l : Int)) 6 := jin (by omega) (by omega) (by omega)
          have ep : (nPut h (b + 141) (nRed y2 y3)).1 (b + 3 + 1 + 4) l = jI p := by
            show h.1 (b + 3 + 1 + 4) l = jI p
            rw [R.1.2.2.2.2 l hl6]
            congr 1
            omega
          have Fa : ∀ y, (y < b + 116 ∨ b + 142 ≤ y) → h'.1 y = h.1 y ∧ h'.2 y = h.2 y := fun y hy => ⟨(q4 y (by omega) (by omega)).1, (q4 y (by omega) (by omega)).2.trans (nPut_2 (by omega))⟩
          have C' : cI b h' (tx, (n, c, S), H, X) := C.mv (fun y y1 y2 => Fa y (by omega)) (fun y y1 y2 => Fa y (by omega))
          have G' : gFr b 142 h h' := fun y hy => Fa y (by omega)
          obtain ⟨G, hG⟩ : ∃ G, G = gWk S n p (n - 1 - p) (nRed y2 y3) := ⟨_, rfl⟩
          have gr := gWk_r (S := S) (n := n) (p := p) (n - 1 - p) (nRed y2 y3)
          rw [← hG] at q2 q3 gr
          have rb : 0 ≤ r ∧ r ≤ 2 := by
            rw [q2]
            unfold gRs
            split
            · omega
            · exact gr
          have head : ∀ o, (if jI z4 = 0 then some ((jI r).toInt64, h') else if jI r = 1 then (f_X2_half (b + 141) (jI z4 - 1) h').bind fun v11 => some (v11, h') else some ((-4 : Int64), h')) = o → f_X9_solve b (jI z1) (jI z2) (jI z3) (jI z4) h = o := fun o ho => by
            rw [f_X9_solve]
            refine gBs ei (gBs eh (gIT rfl (gIF p1 (gIF p2 (gIF p3 (gIT p4 (gIF p5 (gIT p6 (gBs kp (gIT g6 (gBs (v := (jI r, h')) ?_ ho)))))))))))
            rw [gNp (by omega), ep]
            exact q1
          have mh : ∀ h2, mI m h2 (tx, (n, c, S), H, X) → ∃ h2', f_X10_find m (jI l) (jI z2) (jI z3) h2 = some (jI r, h2') ∧ mFr m h2 h2' ∧ (r = 1 → h2'.2 m 17 = lI G.2.1 ∧ h2'.2 m 18 = lI G.2.2) := fun h2 M => by
            obtain ⟨h2', k1, k2, k3⟩ := m_find (h := h2) (m := m) M.2.1 Wf hl6 h3 (z2 := y2) (z3 := y3) (by omega) (by omega)
            rw [← hp, ← hG, ← q2] at k1 k3
            rw [hy2, hy3]
            exact ⟨h2', k1, k2, k3⟩
          have headM : ∀ h2 h2' o, mI m h2 (tx, (n, c, S), H, X) → f_X10_find m (jI l) (jI z2) (jI z3) h2 = some (jI r, h2') → (if jI z4 = 0 then some ((jI r).toInt64, h2') else if jI r = 1 then if jI z4 = 1 then some (h2'.2 m 17, h2') else some (h2'.2 m 18, h2') else some ((-4 : Int64), h2')) = o → f_X10_solve m (jI z1) (jI z2) (jI z3) (jI z4) h2 = o := fun h2 h2' o M k1 ho => by
            rw [f_X10_solve]
            refine gBs (em' h2 M) (gIF n4 (gBs (i2 h2) (gIT (decide_eq_true c2) (gBs (i3 h2) (gIT (decide_eq_true c3) (gBs (i4 h2) (gIT (decide_eq_true c4) (gBs k1 ho))))))))
          by_cases e4 : z4 = 0
          · have t4 : jI z4 = 0 := by rw [e4]; rfl
            refine ⟨(jI r).toInt64, h', _, head _ (gIT t4 rfl), C', W.up (by omega), G', fun h2 M => ?_⟩
            obtain ⟨h2', k1, k2, k3⟩ := mh h2 M
            exact ⟨h2', headM h2 h2' _ M k1 (gIT t4 rfl), M.fr k2, k2.fr⟩
          · have t4 : ¬ jI z4 = 0 := jne (b := 0) (by omega) (by omega) (by omega) (by omega) e4
            by_cases r1 : r = 1
            · have t1 : jI r = 1 := by rw [r1]; rfl
              have kh := k_half (q3 r1) (jI z4 - 1)
              by_cases e41 : z4 = 1
              · have tz : jI z4 - 1 = 0 := by rw [e41]; rfl
                rw [if_pos tz] at kh
                refine ⟨lI G.2.1, h', _, head _ (gIF t4 (gIT t1 (gBs kh rfl))), C', W.up (by omega), G', fun h2 M => ?_⟩
                obtain ⟨h2', k1, k2, k3⟩ := mh h2 M
                exact ⟨h2', headM h2 h2' _ M k1 (gIF t4 (gIT t1 (gIT (by rw [e41]; rfl) (by rw [(k3 r1).1])))), M.fr k2, k2.fr⟩
              · have e42 : z4 = 2 := by omega
                have tz : ¬ jI z4 - 1 = 0 := by rw [e42]; decide
                rw [if_neg tz] at kh
                refine ⟨lI G.2.2, h', _, head _ (gIF t4 (gIT t1 (gBs kh rfl))), C', W.up (by omega), G', fun h2 M => ?_⟩
                obtain ⟨h2', k1, k2, k3⟩ := mh h2 M
                exact ⟨h2', headM h2 h2' _ M k1 (gIF t4 (gIT t1 (gIF (by rw [e42]; decide) (by rw [(k3 r1).2])))), M.fr k2, k2.fr⟩
            · have t1 : ¬ jI r = 1 := jne (b := 1) (by omega) (by omega) (by omega) (by omega) r1
              refine ⟨-4, h', _, head _ (gIF t4 (gIF t1 rfl)), C', W.up (by omega), G', fun h2 M => ?_⟩
              obtain ⟨h2', k1, k2, k3⟩ := mh h2 M
              exact ⟨h2', headM h2 h2' _ M k1 (gIF t4 (gIF t1 rfl)), M.fr k2, k2.fr⟩
        · refine ⟨-2, h, _, ?_, C, W.up (by omega), gFr.rf, fun h2 M => ⟨h2, ?_, M, gFr.rf⟩⟩
          · rw [f_X9_solve]
            refine gBs ei (gBs eh (gIT rfl (gIF p1 (gIF p2 (gIF p3 (gIT p4 ?_))))))
            by_cases w : z4 < 0
            · exact gIT (jlt (b := 0) f1 f2 (by omega) (by omega) w) rfl
            · exact gIF (jnlt (b := 0) f1 f2 (by omega) (by omega) (by omega)) (gIF (jnle (b := 2) f1 f2 (by omega) (by omega) (by omega)) rfl)
          · rw [f_X10_solve]
            exact gBs (em' h2 M) (gIF n4 (gBs (i2 h2) (gIT (decide_eq_true c2) (gBs (i3 h2) (gIT (decide_eq_true c3) (gBs (i4 h2) (gIF (fun w => c4 (of_decide_eq_true w)) rfl)))))))
      · refine ⟨-2, h, _, ?_, C, W.up (by omega), gFr.rf, fun h2 M => ⟨h2, ?_, M, gFr.rf⟩⟩
        · rw [f_X9_solve]
          refine gBs ei (gBs eh (gIT rfl (gIF p1 (gIF p2 ?_))))
          by_cases w : z3 < 1
          · exact gIT (jlt (b := 1) d1 d2 (by omega) (by omega) w) rfl
          · exact gIF (jnlt (b := 1) d1 d2 (by omega) (by omega) (by omega)) (gIF (jnle (b := 99) d1 d2 (by omega) (by omega) (by omega)) rfl)
        · rw [f_X10_solve]
          exact gBs (em' h2 M) (gIF n4 (gBs (i2 h2) (gIT (decide_eq_true c2) (gBs (i3 h2) (gIF (fun w => c3 (of_decide_eq_true w)) rfl)))))
    · refine ⟨-2, h, _, ?_, C, W.up (by omega), gFr.rf, fun h2 M => ⟨h2, ?_, M, gFr.rf⟩⟩
      · rw [f_X9_solve]
        refine gBs ei (gBs eh (gIT rfl ?_))
        by_cases w : z2 < 0
        · exact gIT (jlt (b := 0) b1 b2 (by omega) (by omega) w) rfl
        · exact gIF (jnlt (b := 0) b1 b2 (by omega) (by omega) (by omega)) (gIT (jlt (a := 9999) (by omega) (by omega) b1 b2 (by omega)) rfl)
      · rw [f_X10_solve]
        exact gBs (em' h2 M) (gIF n4 (gBs (i2 h2) (gIF (fun w => c2 (of_decide_eq_true w)) rfl)))
  · refine ⟨-1, h, _, ?_, C, W.up (by omega), gFr.rf, fun h2 M => ⟨h2, ?_, M, gFr.rf⟩⟩
    · rw [f_X9_solve]
      refine gBs ei ?_
      by_cases w : 97 ≤ z1 ∧ z1 < 103
      · rw [if_pos w]
        have eh := u_hasArm R.1 Wf (z := z1 - 97) (by omega) (by omega)
        rw [decide_eq_false (fun y => ok ⟨w.1, w.2, y.2.2⟩)] at eh
        exact gBs eh (gIF Bool.false_ne_true rfl)
      · rw [if_neg w]
        have eh := u_hasArm R.1 Wf (z := -1) (by omega) (by omega)
        rw [decide_eq_false (by omega)] at eh
        exact gBs eh (gIF Bool.false_ne_true rfl)
    · have e := em h2 M
      rw [if_neg ok] at e
      rw [f_X10_solve]
      exact gBs e (gIT rfl rfl)
