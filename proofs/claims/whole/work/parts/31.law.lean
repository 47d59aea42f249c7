def gScr (w : gWd) (g : gCx) (b L : Nat) (xs : Nat → Int32) : Prop := match w, g with
  | (_, _, _, _, b0, _, _, _), (_, _, _, s, _, _, _, _, _, _, _, _) => va_X b L xs s s.heap ∧ b < s.heap.size ∧ b0 = s.heap.size
def gLw (w : gWd) (g : gCx) : Prop := match w, g with
  | (_, _, _, _, b0, _, _, _), (_, _, R, s, _, args, below, meth, _, ce, sl, Q) => R = room_1 ∧ meth.sig.returnType = ret ∧ meth.locks = false ∧ (∃ b : Nat, args = #[Value.ref b] ∧ Q = lw_Z below #[Value.ref b] s) ∧ b0 = s.heap.size ∧ ce ≤ 600000 ∧ sl ≤ 7302250
theorem gx_slen {w : gWd} {g : gCx} {cc : ByteArray} {Ts : List Cond} {own : String} {nL fr lo : Nat} (C : gC w g cc Ts own nL fr lo) {h : gHp} {pc : Nat} {lv : List (Nat × Value)} {st : List Value} {b L : Nat} {xs : Nat → Int32} (S : gScr w g b L xs) (hd : decode cc pc = .ok (.arraylength, 1)) (k : gX w g nL h (pc + 1) lv (.int (nI L) :: st)) : gX w g nL h pc lv (.ref b :: st) := by
  obtain ⟨l, D, cA, sh, b0, adK, adV, fz⟩ := w
  obtain ⟨p, e, R, s, m, args, below, meth, c, ce, sl, Q⟩ := g
  intro ls H locs hl hR hS
  obtain ⟨hX, hbl, rfl⟩ := S
  exact va_slen C.1 C.2.1 hX hbl (Nat.not_le.mpr hbl) hS hd (k ls H locs hl hR hS)
theorem gx_sld {w : gWd} {g : gCx} {cc : ByteArray} {Ts : List Cond} {own : String} {nL fr lo : Nat} (C : gC w g cc Ts own nL fr lo) {h : gHp} {pc : Nat} {lv : List (Nat × Value)} {st : List Value} {b L : Nat} {xs : Nat → Int32} (S : gScr w g b L xs) {i : Int32} (hin : gIn i L) (hd : decode cc pc = .ok (.iaload, 1)) (k : gX w g nL h (pc + 1) lv (.int (xs (gN i)) :: st)) : gX w g nL h pc lv (.int i :: .ref b :: st) := by
  obtain ⟨l, D, cA, sh, b0, adK, adV, fz⟩ := w
  obtain ⟨p, e, R, s, m, args, below, meth, c, ce, sl, Q⟩ := g
  intro ls H locs hl hR hS
  obtain ⟨hX, hbl, rfl⟩ := S
  exact va_sld C.1 C.2.1 hX hbl (Nat.not_le.mpr hbl) hS hin hd (k ls H locs hl hR hS)
theorem gx_lawret {w : gWd} {g : gCx} {Ts : List Cond} {own : String} {nL fr lo : Nat} (C : gC w g cL_law Ts own nL fr lo) {h : gHp} {pc : Nat} {lv : List (Nat × Value)} (E : gLw w g) (hd : decode cL_law pc = .ok (.ireturn, 1)) : gX w g nL h pc lv [.int 1] := by
  obtain ⟨l, D, cA, sh, b0, adK, adV, fz⟩ := w
  obtain ⟨p, e, R, s, m, args, below, meth, c, ce, sl, Q⟩ := g
  intro ls H locs hl hR hS
  obtain ⟨rfl, hr, hlk, ⟨b, rfl, rfl⟩, rfl, h1, h2⟩ := E
  refine va_forget (fun q hq => hS.2.2 q hq) ?_
  refine W.widen (k := 600000) (n := 7302250) h1 h2 ?_
  exact lw_ret C.1 C.2.1 hr hlk hd
set_option maxRecDepth 20000 in
theorem ggL_law_X10_arm : GoodIn wsL_law wsX10_arm := goodIn_r _ [760, 761, 762, 763, 5, 764, 255, 256, 257, 417, 418, 419, 420, 421, 422, 423, 424, 124, 940, 941, 942, 943, 944, 945, 946, 947, 948, 949, 950, 951, 952, 953, 954, 955, 956, 957, 958, 959, 960, 961, 962, 963, 964, 965] (by decide +kernel) (by decide +kernel)
set_option maxRecDepth 20000 in
theorem gL_law_X10_arm : GoodIn wsL_law (wsV RL 69 RX10 yX10_arm wsX10_arm) := goodIn_app (goodIn_of _ (by decide +kernel)) ggL_law_X10_arm
set_option maxRecDepth 20000 in
theorem ggL_law_X10_clearText : GoodIn wsL_law wsX10_clearText := goodIn_r _ [159, 151, 940, 941, 942, 943, 944, 945, 946, 947, 948, 949, 950, 951, 952, 953, 954, 955, 956, 957, 958, 959, 960, 961, 962, 963, 964, 965] (by decide +kernel) (by decide +kernel)
set_option maxRecDepth 20000 in
theorem gL_law_X10_clearText : GoodIn wsL_law (wsV RL 22 RX10 yX10_clearText wsX10_clearText) := goodIn_app (goodIn_of _ (by decide +kernel)) ggL_law_X10_clearText
set_option maxRecDepth 20000 in
theorem ggL_law_X10_count : GoodIn wsL_law wsX10_count := goodIn_r _ [929, 124, 278, 151, 417, 418, 419, 5, 420, 255, 256, 257, 421, 422, 423, 424, 429, 430, 431, 432, 479, 480, 481, 482, 471, 472, 473, 474, 433, 434, 435, 436, 940, 941, 942, 943, 944, 945, 946, 947, 948, 949, 950, 951, 952, 953, 954, 955, 956, 957, 958, 959, 960, 961, 962, 963, 964, 965] (by decide +kernel) (by decide +kernel)
set_option maxRecDepth 20000 in
theorem gL_law_X10_count : GoodIn wsL_law (wsV RL 112 RX10 yX10_count wsX10_count) := goodIn_app (goodIn_of _ (by decide +kernel)) ggL_law_X10_count
set_option maxRecDepth 20000 in
theorem ggL_law_X10_fault : GoodIn wsL_law wsX10_fault := goodIn_r _ [897, 622, 623, 132, 133, 255, 256, 5, 257, 429, 430, 431, 432, 124, 647, 648, 649, 650, 644, 645, 646, 417, 418, 419, 420, 421, 422, 423, 424, 628, 629, 630, 631, 433, 434, 435, 436, 632, 633, 634, 635, 636, 637, 638, 639, 640, 641, 642, 643, 651, 652, 653, 654, 655, 656, 657, 658, 659, 660, 661, 662, 663, 664, 665, 940, 941, 942, 943, 944, 945, 946, 947, 948, 949, 950, 951, 952, 953, 954, 955, 956, 957, 958, 959, 960, 961, 962, 963, 964, 965] (by decide +kernel) (by decide +kernel)
set_option maxRecDepth 20000 in
theorem gL_law_X10_fault : GoodIn wsL_law (wsV RL 104 RX10 yX10_fault wsX10_fault) := goodIn_app (goodIn_of _ (by decide +kernel)) ggL_law_X10_fault
set_option maxRecDepth 20000 in
theorem ggL_law_X10_fold : GoodIn wsL_law wsX10_fold := goodIn_r _ [462, 463, 464, 465, 5, 466, 429, 430, 431, 432, 124, 255, 256, 257, 467, 468, 469, 470, 433, 434, 435, 436, 471, 472, 473, 474, 274, 275, 276, 277, 278, 125, 475, 476, 477, 478, 479, 480, 481, 482, 940, 941, 942, 943, 944, 945, 946, 947, 948, 949, 950, 951, 952, 953, 954, 955, 956, 957, 958, 959, 960, 961, 962, 963, 964, 965] (by decide +kernel) (by decide +kernel)
set_option maxRecDepth 20000 in
theorem gL_law_X10_fold : GoodIn wsL_law (wsV RL 35 RX10 yX10_fold wsX10_fold) := goodIn_app (goodIn_of _ (by decide +kernel)) ggL_law_X10_fold
set_option maxRecDepth 20000 in
theorem ggL_law_X10_foldAll : GoodIn wsL_law wsX10_foldAll := goodIn_r _ [499, 479, 480, 481, 5, 482, 429, 430, 431, 432, 124, 471, 472, 473, 474, 433, 434, 435, 436, 274, 275, 276, 277, 278, 125, 500, 501, 502, 503, 467, 468, 469, 470, 475, 476, 477, 478, 940, 941, 942, 943, 944, 945, 946, 947, 948, 949, 950, 951, 952, 953, 954, 955, 956, 957, 958, 959, 960, 961, 962, 963, 964, 965] (by decide +kernel) (by decide +kernel)
set_option maxRecDepth 20000 in
theorem gL_law_X10_foldAll : GoodIn wsL_law (wsV RL 40 RX10 yX10_foldAll wsX10_foldAll) := goodIn_app (goodIn_of _ (by decide +kernel)) ggL_law_X10_foldAll
set_option maxRecDepth 20000 in
theorem ggL_law_X10_folded : GoodIn wsL_law wsX10_folded := goodIn_r _ [796, 797, 132, 133, 784, 785, 786, 5, 787, 463, 464, 465, 466, 429, 430, 431, 432, 124, 255, 256, 257, 471, 472, 473, 474, 433, 434, 435, 436, 628, 629, 630, 631, 632, 633, 634, 635, 421, 422, 423, 424, 636, 637, 638, 639, 622, 623, 640, 641, 642, 643, 644, 645, 646, 647, 648, 649, 650, 651, 652, 653, 654, 655, 656, 657, 658, 659, 660, 661, 662, 663, 664, 665, 940, 941, 942, 943, 944, 945, 946, 947, 948, 949, 950, 951, 952, 953, 954, 955, 956, 957, 958, 959, 960, 961, 962, 963, 964, 965] (by decide +kernel) (by decide +kernel)
set_option maxRecDepth 20000 in
theorem gL_law_X10_folded : GoodIn wsL_law (wsV RL 78 RX10 yX10_folded wsX10_folded) := goodIn_app (goodIn_of _ (by decide +kernel)) ggL_law_X10_folded
set_option maxRecDepth 20000 in
theorem ggL_law_X10_keep : GoodIn wsL_law wsX10_keep := goodIn_r _ [703, 126, 124, 704, 429, 430, 431, 5, 432, 940, 941, 942, 943, 944, 945, 946, 947, 948, 949, 950, 951, 952, 953, 954, 955, 956, 957, 958, 959, 960, 961, 962, 963, 964, 965] (by decide +kernel) (by decide +kernel)
set_option maxRecDepth 20000 in
theorem gL_law_X10_keep : GoodIn wsL_law (wsV RL 56 RX10 yX10_keep wsX10_keep) := goodIn_app (goodIn_of _ (by decide +kernel)) ggL_law_X10_keep
set_option maxRecDepth 20000 in
theorem ggL_law_X10_loss : GoodIn wsL_law wsX10_loss := goodIn_r _ [836, 463, 464, 465, 5, 466, 429, 430, 431, 432, 124, 255, 256, 257, 837, 838, 839, 840, 622, 623, 841, 624, 625, 626, 627, 134, 135, 628, 629, 630, 631, 132, 133, 433, 434, 435, 436, 632, 633, 634, 635, 421, 422, 423, 424, 636, 637, 638, 639, 640, 641, 642, 643, 644, 645, 646, 647, 648, 649, 650, 651, 652, 653, 654, 655, 656, 657, 658, 659, 660, 661, 662, 663, 664, 665, 666, 667, 668, 669, 670, 671, 672, 673, 674, 675, 676, 677, 678, 679, 680, 681, 940, 941, 942, 943, 944, 945, 946, 947, 948, 949, 950, 951, 952, 953, 954, 955, 956, 957, 958, 959, 960, 961, 962, 963, 964, 965] (by decide +kernel) (by decide +kernel)
set_option maxRecDepth 20000 in
theorem gL_law_X10_loss : GoodIn wsL_law (wsV RL 90 RX10 yX10_loss wsX10_loss) := goodIn_app (goodIn_of _ (by decide +kernel)) ggL_law_X10_loss
set_option maxRecDepth 20000 in
theorem ggL_law_X10_note : GoodIn wsL_law wsX10_note := goodIn_r _ [621, 124, 622, 623, 463, 464, 465, 5, 466, 429, 430, 431, 432, 255, 256, 257, 624, 625, 626, 627, 134, 135, 628, 629, 630, 631, 132, 133, 433, 434, 435, 436, 632, 633, 634, 635, 421, 422, 423, 424, 636, 637, 638, 639, 640, 641, 642, 643, 644, 645, 646, 647, 648, 649, 650, 651, 652, 653, 654, 655, 656, 657, 658, 659, 660, 661, 662, 663, 664, 665, 666, 667, 668, 669, 670, 671, 672, 673, 674, 675, 676, 677, 678, 679, 680, 681, 274, 275, 276, 277, 278, 125, 940, 941, 942, 943, 944, 945, 946, 947, 948, 949, 950, 951, 952, 953, 954, 955, 956, 957, 958, 959, 960, 961, 962, 963, 964, 965] (by decide +kernel) (by decide +kernel)
set_option maxRecDepth 20000 in
theorem gL_law_X10_note : GoodIn wsL_law (wsV RL 48 RX10 yX10_note wsX10_note) := goodIn_app (goodIn_of _ (by decide +kernel)) ggL_law_X10_note
set_option maxRecDepth 20000 in
theorem ggL_law_X10_noted : GoodIn wsL_law wsX10_noted := goodIn_r _ [852, 853, 124, 797, 255, 256, 5, 257, 940, 941, 942, 943, 944, 945, 946, 947, 948, 949, 950, 951, 952, 953, 954, 955, 956, 957, 958, 959, 960, 961, 962, 963, 964, 965] (by decide +kernel) (by decide +kernel)
set_option maxRecDepth 20000 in
theorem gL_law_X10_noted : GoodIn wsL_law (wsV RL 94 RX10 yX10_noted wsX10_noted) := goodIn_app (goodIn_of _ (by decide +kernel)) ggL_law_X10_noted
set_option maxRecDepth 20000 in
theorem ggL_law_X10_part : GoodIn wsL_law wsX10_part := goodIn_r _ [740, 463, 464, 465, 5, 466, 429, 430, 431, 432, 124, 255, 256, 257, 433, 434, 435, 436, 741, 742, 743, 744, 471, 472, 473, 474, 467, 468, 469, 470, 745, 746, 747, 748, 940, 941, 942, 943, 944, 945, 946, 947, 948, 949, 950, 951, 952, 953, 954, 955, 956, 957, 958, 959, 960, 961, 962, 963, 964, 965] (by decide +kernel) (by decide +kernel)
set_option maxRecDepth 20000 in
theorem gL_law_X10_part : GoodIn wsL_law (wsV RL 65 RX10 yX10_part wsX10_part) := goodIn_app (goodIn_of _ (by decide +kernel)) ggL_law_X10_part
set_option maxRecDepth 20000 in
theorem ggL_law_X10_perform : GoodIn wsL_law wsX10_perform := goodIn_r _ [389, 247, 390, 391, 392, 124, 393, 394, 395, 5, 396, 127, 151, 397, 398, 399, 400, 401, 402, 403, 404, 405, 406, 407, 408, 409, 410, 411, 412, 255, 256, 257, 413, 414, 415, 416, 417, 418, 419, 420, 421, 422, 423, 424, 274, 275, 276, 277, 278, 125, 425, 426, 427, 428, 429, 430, 431, 432, 433, 434, 435, 436, 940, 941, 942, 943, 944, 945, 946, 947, 948, 949, 950, 951, 952, 953, 954, 955, 956, 957, 958, 959, 960, 961, 962, 963, 964, 965] (by decide +kernel) (by decide +kernel)
set_option maxRecDepth 20000 in
theorem gL_law_X10_perform : GoodIn wsL_law (wsV RL 30 RX10 yX10_perform wsX10_perform) := goodIn_app (goodIn_of _ (by decide +kernel)) ggL_law_X10_perform
set_option maxRecDepth 20000 in
theorem ggL_law_X10_readNetwork : GoodIn wsL_law wsX10_readNetwork := goodIn_r _ [246, 247, 124, 248, 128, 249, 250, 251, 252, 5, 253, 254, 130, 131, 151, 127, 255, 256, 257, 258, 259, 260, 261, 262, 263, 264, 265, 129, 266, 267, 268, 269, 270, 271, 272, 273, 274, 275, 276, 277, 278, 125, 940, 941, 942, 943, 944, 945, 946, 947, 948, 949, 950, 951, 952, 953, 954, 955, 956, 957, 958, 959, 960, 961, 962, 963, 964, 965] (by decide +kernel) (by decide +kernel)
set_option maxRecDepth 20000 in
theorem gL_law_X10_readNetwork : GoodIn wsL_law (wsV RL 26 RX10 yX10_readNetwork wsX10_readNetwork) := goodIn_app (goodIn_of _ (by decide +kernel)) ggL_law_X10_readNetwork
set_option maxRecDepth 20000 in
theorem ggL_law_X10_reading : GoodIn wsL_law wsX10_reading := goodIn_r _ [817, 622, 623, 784, 785, 786, 5, 787, 463, 464, 465, 466, 429, 430, 431, 432, 124, 255, 256, 257, 624, 625, 626, 627, 134, 135, 628, 629, 630, 631, 132, 133, 433, 434, 435, 436, 632, 633, 634, 635, 421, 422, 423, 424, 636, 637, 638, 639, 640, 641, 642, 643, 644, 645, 646, 647, 648, 649, 650, 651, 652, 653, 654, 655, 656, 657, 658, 659, 660, 661, 662, 663, 664, 665, 666, 667, 668, 669, 670, 671, 672, 673, 674, 675, 676, 677, 678, 679, 680, 681, 940, 941, 942, 943, 944, 945, 946, 947, 948, 949, 950, 951, 952, 953, 954, 955, 956, 957, 958, 959, 960, 961, 962, 963, 964, 965] (by decide +kernel) (by decide +kernel)
set_option maxRecDepth 20000 in
theorem gL_law_X10_reading : GoodIn wsL_law (wsV RL 86 RX10 yX10_reading wsX10_reading) := goodIn_app (goodIn_of _ (by decide +kernel)) ggL_law_X10_reading
set_option maxRecDepth 20000 in
theorem ggL_law_X10_resistance : GoodIn wsL_law wsX10_resistance := goodIn_r _ [783, 132, 133, 784, 785, 786, 5, 787, 463, 464, 465, 466, 429, 430, 431, 432, 124, 255, 256, 257, 628, 629, 630, 631, 433, 434, 435, 436, 632, 633, 634, 635, 421, 422, 423, 424, 636, 637, 638, 639, 622, 623, 640, 641, 642, 643, 644, 645, 646, 647, 648, 649, 650, 651, 652, 653, 654, 655, 656, 657, 658, 659, 660, 661, 662, 663, 664, 665, 940, 941, 942, 943, 944, 945, 946, 947, 948, 949, 950, 951, 952, 953, 954, 955, 956, 957, 958, 959, 960, 961, 962, 963, 964, 965] (by decide +kernel) (by decide +kernel)
set_option maxRecDepth 20000 in
theorem gL_law_X10_resistance : GoodIn wsL_law (wsV RL 74 RX10 yX10_resistance wsX10_resistance) := goodIn_app (goodIn_of _ (by decide +kernel)) ggL_law_X10_resistance
set_option maxRecDepth 20000 in
theorem ggL_law_X10_restore : GoodIn wsL_law wsX10_restore := goodIn_r _ [712, 704, 124, 126, 274, 275, 276, 5, 277, 278, 125, 429, 430, 431, 432, 940, 941, 942, 943, 944, 945, 946, 947, 948, 949, 950, 951, 952, 953, 954, 955, 956, 957, 958, 959, 960, 961, 962, 963, 964, 965] (by decide +kernel) (by decide +kernel)
set_option maxRecDepth 20000 in
theorem gL_law_X10_restore : GoodIn wsL_law (wsV RL 60 RX10 yX10_restore wsX10_restore) := goodIn_app (goodIn_of _ (by decide +kernel)) ggL_law_X10_restore
set_option maxRecDepth 20000 in
theorem ggL_law_X10_solve : GoodIn wsL_law wsX10_solve := goodIn_r _ [875, 876, 853, 797, 622, 623, 761, 762, 763, 5, 764, 255, 256, 257, 417, 418, 419, 420, 421, 422, 423, 424, 124, 877, 878, 879, 880, 628, 629, 630, 631, 132, 133, 429, 430, 431, 432, 433, 434, 435, 436, 632, 633, 634, 635, 636, 637, 638, 639, 640, 641, 642, 643, 644, 645, 646, 647, 648, 649, 650, 651, 652, 653, 654, 655, 656, 657, 658, 659, 660, 661, 662, 663, 664, 665, 881, 882, 883, 884, 940, 941, 942, 943, 944, 945, 946, 947, 948, 949, 950, 951, 952, 953, 954, 955, 956, 957, 958, 959, 960, 961, 962, 963, 964, 965] (by decide +kernel) (by decide +kernel)
set_option maxRecDepth 20000 in
theorem gL_law_X10_solve : GoodIn wsL_law (wsV RL 99 RX10 yX10_solve wsX10_solve) := goodIn_app (goodIn_of _ (by decide +kernel)) ggL_law_X10_solve
set_option maxRecDepth 20000 in
theorem ggL_law_X10_type : GoodIn wsL_law wsX10_type := goodIn_r _ [150, 151, 127, 940, 941, 942, 943, 944, 945, 946, 947, 948, 949, 950, 951, 952, 953, 954, 955, 956, 957, 958, 959, 960, 961, 962, 963, 964, 965] (by decide +kernel) (by decide +kernel)
set_option maxRecDepth 20000 in
theorem gL_law_X10_type : GoodIn wsL_law (wsV RL 17 RX10 yX10_type wsX10_type) := goodIn_app (goodIn_of _ (by decide +kernel)) ggL_law_X10_type
set_option maxRecDepth 20000 in
theorem ggL_law_X10_undo : GoodIn wsL_law wsX10_undo := goodIn_r _ [694, 278, 124, 125, 940, 941, 942, 943, 944, 945, 946, 947, 948, 949, 950, 951, 952, 953, 954, 955, 956, 957, 958, 959, 960, 961, 962, 963, 964, 965] (by decide +kernel) (by decide +kernel)
set_option maxRecDepth 20000 in
theorem gL_law_X10_undo : GoodIn wsL_law (wsV RL 52 RX10 yX10_undo wsX10_undo) := goodIn_app (goodIn_of _ (by decide +kernel)) ggL_law_X10_undo
set_option maxRecDepth 20000 in
theorem ggL_law_X10_unfold : GoodIn wsL_law wsX10_unfold := goodIn_r _ [521, 124, 463, 464, 465, 5, 466, 429, 430, 431, 432, 255, 256, 257, 433, 434, 435, 436, 471, 472, 473, 474, 274, 275, 276, 277, 278, 125, 940, 941, 942, 943, 944, 945, 946, 947, 948, 949, 950, 951, 952, 953, 954, 955, 956, 957, 958, 959, 960, 961, 962, 963, 964, 965] (by decide +kernel) (by decide +kernel)
set_option maxRecDepth 20000 in
theorem gL_law_X10_unfold : GoodIn wsL_law (wsV RL 44 RX10 yX10_unfold wsX10_unfold) := goodIn_app (goodIn_of _ (by decide +kernel)) ggL_law_X10_unfold
set_option maxRecDepth 20000 in
theorem ggL_law_X10_voltage : GoodIn wsL_law wsX10_voltage := goodIn_r _ [809, 622, 623, 784, 785, 786, 5, 787, 463, 464, 465, 466, 429, 430, 431, 432, 124, 255, 256, 257, 624, 625, 626, 627, 134, 135, 628, 629, 630, 631, 132, 133, 433, 434, 435, 436, 632, 633, 634, 635, 421, 422, 423, 424, 636, 637, 638, 639, 640, 641, 642, 643, 644, 645, 646, 647, 648, 649, 650, 651, 652, 653, 654, 655, 656, 657, 658, 659, 660, 661, 662, 663, 664, 665, 666, 667, 668, 669, 670, 671, 672, 673, 674, 675, 676, 677, 678, 679, 680, 681, 940, 941, 942, 943, 944, 945, 946, 947, 948, 949, 950, 951, 952, 953, 954, 955, 956, 957, 958, 959, 960, 961, 962, 963, 964, 965] (by decide +kernel) (by decide +kernel)
set_option maxRecDepth 20000 in
theorem gL_law_X10_voltage : GoodIn wsL_law (wsV RL 82 RX10 yX10_voltage wsX10_voltage) := goodIn_app (goodIn_of _ (by decide +kernel)) ggL_law_X10_voltage
set_option maxRecDepth 20000 in
theorem ggL_law_X10_worst : GoodIn wsL_law wsX10_worst := goodIn_r _ [905, 429, 430, 431, 5, 432, 124, 837, 838, 839, 840, 622, 623, 841, 624, 625, 626, 627, 134, 135, 628, 629, 630, 631, 132, 133, 433, 434, 435, 436, 632, 633, 634, 635, 421, 422, 423, 424, 636, 637, 638, 639, 640, 641, 642, 643, 644, 645, 646, 647, 648, 649, 650, 651, 652, 653, 654, 655, 656, 657, 658, 659, 660, 661, 662, 663, 664, 665, 666, 667, 668, 669, 670, 671, 672, 673, 674, 675, 676, 677, 678, 679, 680, 681, 940, 941, 942, 943, 944, 945, 946, 947, 948, 949, 950, 951, 952, 953, 954, 955, 956, 957, 958, 959, 960, 961, 962, 963, 964, 965] (by decide +kernel) (by decide +kernel)
set_option maxRecDepth 20000 in
theorem gL_law_X10_worst : GoodIn wsL_law (wsV RL 108 RX10 yX10_worst wsX10_worst) := goodIn_app (goodIn_of _ (by decide +kernel)) ggL_law_X10_worst
set_option maxRecDepth 20000 in
theorem ggL_law_X9_arm : GoodIn wsL_law wsX9_arm := goodIn_r _ [752, 19, 164, 753, 754, 755, 756, 172, 2, 173, 366, 367, 368, 54, 369, 75, 930, 931, 932, 933, 934, 935, 936, 937, 938, 939, 968, 969, 970, 971, 972, 973, 974, 975, 992, 993, 994, 995, 996] (by decide +kernel) (by decide +kernel)
set_option maxRecDepth 20000 in
theorem gL_law_X9_arm : GoodIn wsL_law (wsV RL 66 RX9 yX9_arm wsX9_arm) := goodIn_app (goodIn_of _ (by decide +kernel)) ggL_law_X9_arm
set_option maxRecDepth 20000 in
theorem ggL_law_X9_clearText : GoodIn wsL_law wsX9_clearText := goodIn_r _ [155, 15, 142, 930, 931, 932, 933, 934, 935, 936, 937, 938, 939, 966, 967] (by decide +kernel) (by decide +kernel)
set_option maxRecDepth 20000 in
theorem gL_law_X9_clearText : GoodIn wsL_law (wsV RL 18 RX9 yX9_clearText wsX9_clearText) := goodIn_app (goodIn_of _ (by decide +kernel)) ggL_law_X9_clearText
set_option maxRecDepth 20000 in
theorem ggL_law_X9_count : GoodIn wsL_law wsX9_count := goodIn_r _ [909, 19, 164, 165, 910, 911, 526, 527, 912, 25, 686, 15, 142, 913, 914, 915, 54, 916, 76, 72, 455, 456, 457, 18, 458, 55, 241, 64, 917, 918, 919, 58, 920, 84, 83, 921, 922, 923, 924, 62, 925, 367, 368, 369, 75, 930, 931, 932, 933, 934, 935, 936, 937, 938, 939, 968, 969, 970, 971, 972, 973, 974, 975, 992, 993, 994, 995, 996, 997, 998, 999, 1000, 976, 977, 978, 966, 967] (by decide +kernel) (by decide +kernel)
set_option maxRecDepth 20000 in
theorem gL_law_X9_count : GoodIn wsL_law (wsV RL 109 RX9 yX9_count wsX9_count) := goodIn_app (goodIn_of _ (by decide +kernel)) ggL_law_X9_count
set_option maxRecDepth 20000 in
theorem ggL_law_X9_fault : GoodIn wsL_law wsX9_fault := goodIn_r _ [888, 19, 164, 165, 41, 858, 551, 552, 40, 553, 118, 119, 554, 555, 556, 889, 890, 891, 2, 892, 754, 21, 37, 771, 366, 367, 368, 54, 369, 75, 699, 179, 180, 18, 181, 55, 59, 61, 62, 64, 65, 66, 67, 182, 183, 184, 185, 72, 73, 74, 76, 186, 187, 188, 58, 189, 81, 82, 83, 84, 775, 533, 534, 36, 535, 536, 537, 110, 112, 538, 539, 540, 541, 542, 517, 443, 444, 445, 543, 544, 545, 546, 547, 548, 549, 550, 557, 558, 559, 560, 561, 113, 562, 563, 564, 565, 566, 567, 568, 569, 570, 571, 572, 573, 574, 575, 576, 577, 578, 893, 865, 866, 867, 930, 931, 932, 933, 934, 935, 936, 937, 938, 939, 968, 969, 970, 971, 972, 973, 974, 975, 992, 993, 994, 995, 996, 990, 991, 985, 986, 987, 988, 989, 997, 998, 999, 1000] (by decide +kernel) (by decide +kernel)
set_option maxRecDepth 20000 in
theorem gL_law_X9_fault : GoodIn wsL_law (wsV RL 100 RX9 yX9_fault wsX9_fault) := goodIn_app (goodIn_of _ (by decide +kernel)) ggL_law_X9_fault
set_option maxRecDepth 20000 in
theorem ggL_law_X9_fold : GoodIn wsL_law wsX9_fold := goodIn_r _ [440, 19, 164, 441, 25, 442, 443, 444, 54, 445, 76, 446, 447, 448, 18, 449, 55, 450, 64, 174, 175, 176, 24, 177, 92, 91, 90, 178, 179, 180, 181, 59, 61, 62, 65, 66, 67, 182, 183, 184, 185, 72, 73, 74, 75, 186, 187, 188, 58, 189, 81, 82, 83, 84, 451, 452, 453, 454, 455, 456, 457, 458, 241, 930, 931, 932, 933, 934, 935, 936, 937, 938, 939, 968, 969, 970, 971, 972, 973, 974, 975, 992, 993, 994, 995, 996, 976, 977, 978, 997, 998, 999, 1000] (by decide +kernel) (by decide +kernel)
set_option maxRecDepth 20000 in
theorem gL_law_X9_fold : GoodIn wsL_law (wsV RL 31 RX9 yX9_fold wsX9_fold) := goodIn_app (goodIn_of _ (by decide +kernel)) ggL_law_X9_fold
set_option maxRecDepth 20000 in
theorem ggL_law_X9_foldAll : GoodIn wsL_law wsX9_foldAll := goodIn_r _ [486, 19, 25, 487, 488, 489, 18, 490, 55, 241, 491, 492, 493, 494, 64, 495, 447, 448, 449, 450, 174, 175, 176, 24, 177, 92, 91, 90, 178, 179, 180, 181, 59, 61, 62, 65, 66, 67, 182, 183, 184, 54, 185, 72, 73, 74, 75, 76, 186, 187, 188, 58, 189, 81, 82, 83, 84, 451, 452, 453, 454, 930, 931, 932, 933, 934, 935, 936, 937, 938, 939, 968, 969, 970, 971, 972, 973, 974, 975, 992, 993, 994, 995, 996, 976, 977, 978, 997, 998, 999, 1000] (by decide +kernel) (by decide +kernel)
set_option maxRecDepth 20000 in
theorem gL_law_X9_foldAll : GoodIn wsL_law (wsV RL 36 RX9 yX9_foldAll wsX9_foldAll) := goodIn_app (goodIn_of _ (by decide +kernel)) ggL_law_X9_foldAll
set_option maxRecDepth 20000 in
theorem ggL_law_X9_folded : GoodIn wsL_law wsX9_folded := goodIn_r _ [791, 19, 164, 769, 770, 441, 792, 37, 771, 442, 443, 444, 54, 445, 76, 772, 773, 2, 774, 775, 533, 534, 36, 535, 536, 537, 110, 112, 538, 539, 540, 541, 542, 72, 517, 543, 544, 545, 546, 547, 548, 549, 550, 551, 552, 40, 553, 118, 119, 554, 555, 556, 557, 558, 559, 560, 561, 113, 562, 563, 564, 565, 566, 567, 568, 569, 570, 571, 572, 573, 574, 575, 576, 577, 578, 776, 777, 778, 779, 930, 931, 932, 933, 934, 935, 936, 937, 938, 939, 968, 969, 970, 971, 972, 973, 974, 975, 985, 986, 987, 988, 989, 992, 993, 994, 995, 996, 990, 991] (by decide +kernel) (by decide +kernel)
set_option maxRecDepth 20000 in
theorem gL_law_X9_folded : GoodIn wsL_law (wsV RL 75 RX9 yX9_folded wsX9_folded) := goodIn_app (goodIn_of _ (by decide +kernel)) ggL_law_X9_folded
set_option maxRecDepth 20000 in
theorem ggL_law_X9_keep : GoodIn wsL_law wsX9_keep := goodIn_r _ [698, 20, 19, 42, 164, 165, 699, 179, 180, 18, 181, 55, 59, 61, 62, 64, 65, 66, 67, 182, 183, 184, 54, 185, 72, 73, 74, 75, 76, 186, 187, 188, 58, 189, 81, 82, 83, 84, 930, 931, 932, 933, 934, 935, 936, 937, 938, 939, 968, 969, 970, 971, 972, 973, 974, 975, 992, 993, 994, 995, 996, 997, 998, 999, 1000] (by decide +kernel) (by decide +kernel)
set_option maxRecDepth 20000 in
theorem gL_law_X9_keep : GoodIn wsL_law (wsV RL 53 RX9 yX9_keep wsX9_keep) := goodIn_app (goodIn_of _ (by decide +kernel)) ggL_law_X9_keep
set_option maxRecDepth 20000 in
theorem ggL_law_X9_loss : GoodIn wsL_law wsX9_loss := goodIn_r _ [821, 19, 164, 37, 442, 443, 444, 54, 445, 76, 822, 823, 824, 36, 825, 114, 111, 113, 826, 827, 828, 532, 533, 534, 535, 536, 537, 110, 112, 538, 539, 540, 541, 542, 72, 517, 543, 544, 545, 546, 547, 548, 549, 550, 551, 552, 40, 553, 118, 119, 554, 555, 556, 557, 558, 559, 560, 561, 562, 563, 564, 565, 566, 567, 568, 569, 570, 571, 572, 573, 574, 575, 576, 577, 578, 579, 580, 581, 582, 583, 584, 585, 586, 587, 588, 589, 590, 291, 591, 592, 593, 594, 595, 596, 597, 598, 599, 600, 601, 602, 603, 604, 605, 606, 607, 829, 830, 831, 832, 930, 931, 932, 933, 934, 935, 936, 937, 938, 939, 968, 969, 970, 971, 972, 973, 974, 975, 992, 993, 994, 995, 996, 985, 986, 987, 988, 989, 990, 991] (by decide +kernel) (by decide +kernel)
set_option maxRecDepth 20000 in
theorem gL_law_X9_loss : GoodIn wsL_law (wsV RL 87 RX9 yX9_loss wsX9_loss) := goodIn_app (goodIn_of _ (by decide +kernel)) ggL_law_X9_loss
set_option maxRecDepth 20000 in
theorem ggL_law_X9_note : GoodIn wsL_law wsX9_note := goodIn_r _ [525, 19, 164, 37, 526, 527, 25, 442, 443, 444, 54, 445, 76, 528, 529, 530, 36, 531, 111, 532, 533, 534, 535, 536, 537, 110, 112, 538, 539, 540, 541, 542, 72, 517, 543, 544, 545, 546, 547, 548, 549, 550, 551, 552, 40, 553, 118, 119, 554, 555, 556, 557, 558, 559, 560, 561, 113, 562, 563, 564, 565, 566, 567, 568, 569, 570, 571, 572, 573, 574, 575, 576, 577, 578, 579, 580, 581, 582, 583, 584, 585, 586, 587, 588, 589, 590, 291, 591, 592, 593, 594, 595, 596, 597, 598, 599, 600, 601, 602, 603, 604, 605, 606, 607, 608, 609, 610, 58, 611, 84, 81, 612, 82, 613, 174, 175, 176, 24, 177, 92, 91, 90, 178, 179, 180, 18, 181, 55, 59, 61, 62, 64, 65, 66, 67, 182, 183, 184, 185, 73, 74, 75, 186, 187, 188, 189, 83, 614, 615, 616, 617, 930, 931, 932, 933, 934, 935, 936, 937, 938, 939, 968, 969, 970, 971, 972, 973, 974, 975, 997, 998, 999, 1000, 992, 993, 994, 995, 996, 985, 986, 987, 988, 989, 990, 991, 976, 977, 978] (by decide +kernel) (by decide +kernel)
set_option maxRecDepth 20000 in
theorem gL_law_X9_note : GoodIn wsL_law (wsV RL 45 RX9 yX9_note wsX9_note) := goodIn_app (goodIn_of _ (by decide +kernel)) ggL_law_X9_note
set_option maxRecDepth 20000 in
theorem ggL_law_X9_noted : GoodIn wsL_law wsX9_noted := goodIn_r _ [845, 770, 19, 526, 527, 792, 846, 847, 848, 930, 931, 932, 933, 934, 935, 936, 937, 938, 939, 968, 969, 970, 971, 972, 973, 974, 975, 997, 998, 999, 1000] (by decide +kernel) (by decide +kernel)
set_option maxRecDepth 20000 in
theorem gL_law_X9_noted : GoodIn wsL_law (wsV RL 91 RX9 yX9_noted wsX9_noted) := goodIn_app (goodIn_of _ (by decide +kernel)) ggL_law_X9_noted
set_option maxRecDepth 20000 in
theorem ggL_law_X9_part : GoodIn wsL_law wsX9_part := goodIn_r _ [716, 19, 164, 508, 441, 717, 718, 442, 443, 444, 54, 445, 76, 719, 720, 721, 722, 73, 723, 724, 2, 725, 726, 727, 728, 729, 75, 730, 367, 368, 369, 731, 514, 515, 516, 517, 732, 492, 493, 18, 494, 64, 495, 447, 448, 449, 55, 450, 733, 734, 735, 736, 930, 931, 932, 933, 934, 935, 936, 937, 938, 939, 968, 969, 970, 971, 972, 973, 974, 975, 992, 993, 994, 995, 996] (by decide +kernel) (by decide +kernel)
set_option maxRecDepth 20000 in
theorem gL_law_X9_part : GoodIn wsL_law (wsV RL 61 RX9 yX9_part wsX9_part) := goodIn_app (goodIn_of _ (by decide +kernel)) ggL_law_X9_part
set_option maxRecDepth 20000 in
theorem ggL_law_X9_perform : GoodIn wsL_law wsX9_perform := goodIn_r _ [282, 33, 15, 19, 164, 283, 25, 284, 285, 286, 32, 287, 102, 288, 289, 290, 291, 292, 293, 104, 103, 294, 295, 296, 14, 297, 48, 47, 298, 299, 300, 301, 302, 303, 304, 305, 306, 307, 308, 309, 310, 311, 312, 313, 314, 315, 316, 317, 318, 319, 320, 321, 322, 323, 324, 325, 326, 327, 328, 329, 330, 331, 332, 333, 334, 335, 336, 337, 338, 339, 340, 341, 342, 343, 344, 345, 346, 347, 348, 349, 350, 351, 352, 353, 354, 355, 356, 357, 172, 2, 173, 358, 359, 360, 361, 362, 363, 364, 365, 366, 367, 368, 54, 369, 75, 370, 371, 372, 373, 374, 375, 376, 377, 174, 175, 176, 24, 177, 92, 91, 90, 178, 179, 180, 18, 181, 55, 59, 61, 62, 64, 65, 66, 67, 182, 183, 184, 185, 72, 73, 74, 76, 186, 187, 188, 58, 189, 81, 82, 83, 84, 378, 379, 380, 381, 382, 383, 384, 385, 237, 238, 239, 240, 241, 242, 930, 931, 932, 933, 934, 935, 936, 937, 938, 939, 968, 969, 970, 971, 972, 973, 974, 975, 982, 983, 984, 966, 967, 992, 993, 994, 995, 996, 976, 977, 978, 997, 998, 999, 1000] (by decide +kernel) (by decide +kernel)
set_option maxRecDepth 20000 in
theorem gL_law_X9_perform : GoodIn wsL_law (wsV RL 27 RX9 yX9_perform wsX9_perform) := goodIn_app (goodIn_of _ (by decide +kernel)) ggL_law_X9_perform
set_option maxRecDepth 20000 in
theorem ggL_law_X9_readNetwork : GoodIn wsL_law wsX9_readNetwork := goodIn_r _ [163, 29, 15, 25, 19, 164, 165, 166, 167, 168, 28, 169, 170, 171, 172, 2, 173, 174, 175, 176, 24, 177, 92, 91, 90, 178, 179, 180, 18, 181, 55, 59, 61, 62, 64, 65, 66, 67, 182, 183, 184, 54, 185, 72, 73, 74, 75, 76, 186, 187, 188, 58, 189, 81, 82, 83, 84, 190, 191, 192, 193, 98, 194, 195, 196, 197, 198, 199, 200, 201, 96, 97, 202, 203, 204, 205, 206, 207, 208, 209, 210, 211, 212, 213, 214, 215, 216, 217, 218, 219, 220, 221, 222, 223, 224, 225, 226, 227, 228, 229, 230, 231, 232, 233, 234, 235, 236, 237, 238, 239, 240, 241, 242, 930, 931, 932, 933, 934, 935, 936, 937, 938, 939, 968, 969, 970, 971, 972, 973, 974, 975, 992, 993, 994, 995, 996, 966, 967, 976, 977, 978, 997, 998, 999, 1000, 979, 980, 981] (by decide +kernel) (by decide +kernel)
set_option maxRecDepth 20000 in
theorem gL_law_X9_readNetwork : GoodIn wsL_law (wsV RL 23 RX9 yX9_readNetwork wsX9_readNetwork) := goodIn_app (goodIn_of _ (by decide +kernel)) ggL_law_X9_readNetwork
set_option maxRecDepth 20000 in
theorem ggL_law_X9_reading : GoodIn wsL_law wsX9_reading := goodIn_r _ [813, 19, 164, 769, 770, 37, 442, 443, 444, 54, 445, 76, 772, 773, 2, 774, 528, 529, 530, 36, 531, 111, 532, 533, 534, 535, 536, 537, 110, 112, 538, 539, 540, 541, 542, 72, 517, 543, 544, 545, 546, 547, 548, 549, 550, 551, 552, 40, 553, 118, 119, 554, 555, 556, 557, 558, 559, 560, 561, 113, 562, 563, 564, 565, 566, 567, 568, 569, 570, 571, 572, 573, 574, 575, 576, 577, 578, 579, 580, 581, 582, 583, 584, 585, 586, 587, 588, 589, 590, 291, 591, 592, 593, 594, 595, 596, 597, 598, 599, 600, 601, 602, 603, 604, 605, 606, 607, 776, 777, 778, 779, 930, 931, 932, 933, 934, 935, 936, 937, 938, 939, 968, 969, 970, 971, 972, 973, 974, 975, 992, 993, 994, 995, 996, 985, 986, 987, 988, 989, 990, 991] (by decide +kernel) (by decide +kernel)
set_option maxRecDepth 20000 in
theorem gL_law_X9_reading : GoodIn wsL_law (wsV RL 83 RX9 yX9_reading wsX9_reading) := goodIn_app (goodIn_of _ (by decide +kernel)) ggL_law_X9_reading
set_option maxRecDepth 20000 in
theorem ggL_law_X9_resistance : GoodIn wsL_law wsX9_resistance := goodIn_r _ [768, 19, 164, 769, 770, 37, 771, 442, 443, 444, 54, 445, 76, 772, 773, 2, 774, 775, 533, 534, 36, 535, 536, 537, 110, 112, 538, 539, 540, 541, 542, 72, 517, 543, 544, 545, 546, 547, 548, 549, 550, 551, 552, 40, 553, 118, 119, 554, 555, 556, 557, 558, 559, 560, 561, 113, 562, 563, 564, 565, 566, 567, 568, 569, 570, 571, 572, 573, 574, 575, 576, 577, 578, 776, 777, 778, 779, 930, 931, 932, 933, 934, 935, 936, 937, 938, 939, 968, 969, 970, 971, 972, 973, 974, 975, 985, 986, 987, 988, 989, 992, 993, 994, 995, 996, 990, 991] (by decide +kernel) (by decide +kernel)
set_option maxRecDepth 20000 in
theorem gL_law_X9_resistance : GoodIn wsL_law (wsV RL 70 RX9 yX9_resistance wsX9_resistance) := goodIn_app (goodIn_of _ (by decide +kernel)) ggL_law_X9_resistance
set_option maxRecDepth 20000 in
theorem ggL_law_X9_restore : GoodIn wsL_law wsX9_restore := goodIn_r _ [708, 42, 25, 19, 20, 164, 165, 174, 175, 176, 24, 177, 92, 91, 90, 178, 179, 180, 18, 181, 55, 59, 61, 62, 64, 65, 66, 67, 182, 183, 184, 54, 185, 72, 73, 74, 75, 76, 186, 187, 188, 58, 189, 81, 82, 83, 84, 699, 930, 931, 932, 933, 934, 935, 936, 937, 938, 939, 968, 969, 970, 971, 972, 973, 974, 975, 992, 993, 994, 995, 996, 976, 977, 978, 997, 998, 999, 1000] (by decide +kernel) (by decide +kernel)
set_option maxRecDepth 20000 in
theorem gL_law_X9_restore : GoodIn wsL_law (wsV RL 57 RX9 yX9_restore wsX9_restore) := goodIn_app (goodIn_of _ (by decide +kernel)) ggL_law_X9_restore
set_option maxRecDepth 20000 in
theorem ggL_law_X9_solve : GoodIn wsL_law wsX9_solve := goodIn_r _ [857, 19, 164, 769, 770, 41, 37, 755, 792, 756, 172, 2, 173, 366, 367, 368, 54, 369, 75, 858, 551, 552, 40, 553, 118, 119, 554, 555, 556, 859, 860, 861, 36, 862, 536, 537, 561, 112, 110, 532, 533, 534, 535, 538, 539, 540, 541, 542, 72, 517, 443, 444, 445, 76, 543, 544, 545, 546, 547, 548, 549, 550, 557, 558, 559, 560, 113, 562, 563, 564, 565, 566, 567, 568, 569, 570, 571, 572, 573, 574, 575, 576, 577, 578, 863, 514, 515, 516, 73, 592, 593, 594, 595, 864, 865, 866, 867, 868, 869, 870, 871, 828, 776, 777, 778, 779, 930, 931, 932, 933, 934, 935, 936, 937, 938, 939, 968, 969, 970, 971, 972, 973, 974, 975, 992, 993, 994, 995, 996, 990, 991, 985, 986, 987, 988, 989] (by decide +kernel) (by decide +kernel)
set_option maxRecDepth 20000 in
theorem gL_law_X9_solve : GoodIn wsL_law (wsV RL 95 RX9 yX9_solve wsX9_solve) := goodIn_app (goodIn_of _ (by decide +kernel)) ggL_law_X9_solve
set_option maxRecDepth 20000 in
theorem ggL_law_X9_type : GoodIn wsL_law wsX9_type := goodIn_r _ [141, 15, 142, 143, 144, 145, 14, 146, 48, 47, 930, 931, 932, 933, 934, 935, 936, 937, 938, 939, 966, 967] (by decide +kernel) (by decide +kernel)
set_option maxRecDepth 20000 in
theorem gL_law_X9_type : GoodIn wsL_law (wsV RL 13 RX9 yX9_type wsX9_type) := goodIn_app (goodIn_of _ (by decide +kernel)) ggL_law_X9_type
set_option maxRecDepth 20000 in
theorem ggL_law_X9_undo : GoodIn wsL_law wsX9_undo := goodIn_r _ [685, 25, 686, 19, 687, 688, 689, 24, 690, 92, 90, 91, 178, 179, 180, 18, 181, 55, 59, 61, 62, 64, 65, 66, 67, 182, 183, 184, 54, 185, 72, 73, 74, 75, 76, 186, 187, 188, 58, 189, 81, 82, 83, 84, 930, 931, 932, 933, 934, 935, 936, 937, 938, 939, 976, 977, 978, 968, 969, 970, 971, 972, 973, 974, 975, 992, 993, 994, 995, 996, 997, 998, 999, 1000] (by decide +kernel) (by decide +kernel)
set_option maxRecDepth 20000 in
theorem gL_law_X9_undo : GoodIn wsL_law (wsV RL 49 RX9 yX9_undo wsX9_undo) := goodIn_app (goodIn_of _ (by decide +kernel)) ggL_law_X9_undo
set_option maxRecDepth 20000 in
theorem ggL_law_X9_unfold : GoodIn wsL_law wsX9_unfold := goodIn_r _ [507, 19, 164, 508, 441, 25, 442, 443, 444, 54, 445, 76, 174, 175, 176, 24, 177, 92, 91, 90, 178, 179, 180, 18, 181, 55, 59, 61, 62, 64, 65, 66, 67, 182, 183, 184, 185, 72, 73, 74, 75, 186, 187, 188, 58, 189, 81, 82, 83, 84, 509, 510, 511, 512, 241, 513, 514, 515, 516, 517, 930, 931, 932, 933, 934, 935, 936, 937, 938, 939, 968, 969, 970, 971, 972, 973, 974, 975, 992, 993, 994, 995, 996, 976, 977, 978, 997, 998, 999, 1000] (by decide +kernel) (by decide +kernel)
set_option maxRecDepth 20000 in
theorem gL_law_X9_unfold : GoodIn wsL_law (wsV RL 41 RX9 yX9_unfold wsX9_unfold) := goodIn_app (goodIn_of _ (by decide +kernel)) ggL_law_X9_unfold
set_option maxRecDepth 20000 in
theorem ggL_law_X9_voltage : GoodIn wsL_law wsX9_voltage := goodIn_r _ [801, 19, 164, 769, 770, 37, 442, 443, 444, 54, 445, 76, 772, 773, 2, 774, 802, 803, 804, 36, 805, 111, 532, 533, 534, 535, 536, 537, 110, 112, 538, 539, 540, 541, 542, 72, 517, 543, 544, 545, 546, 547, 548, 549, 550, 551, 552, 40, 553, 118, 119, 554, 555, 556, 557, 558, 559, 560, 561, 113, 562, 563, 564, 565, 566, 567, 568, 569, 570, 571, 572, 573, 574, 575, 576, 577, 578, 579, 580, 581, 582, 583, 584, 585, 586, 587, 588, 589, 590, 291, 591, 592, 593, 594, 595, 596, 597, 598, 599, 600, 601, 602, 603, 604, 605, 606, 607, 776, 777, 778, 779, 930, 931, 932, 933, 934, 935, 936, 937, 938, 939, 968, 969, 970, 971, 972, 973, 974, 975, 992, 993, 994, 995, 996, 985, 986, 987, 988, 989, 990, 991] (by decide +kernel) (by decide +kernel)
set_option maxRecDepth 20000 in
theorem gL_law_X9_voltage : GoodIn wsL_law (wsV RL 79 RX9 yX9_voltage wsX9_voltage) := goodIn_app (goodIn_of _ (by decide +kernel)) ggL_law_X9_voltage
set_option maxRecDepth 20000 in
theorem ggL_law_X9_worst : GoodIn wsL_law wsX9_worst := goodIn_r _ [901, 19, 164, 165, 37, 822, 823, 824, 36, 825, 114, 111, 113, 826, 827, 828, 532, 533, 534, 535, 536, 537, 110, 112, 538, 539, 540, 541, 54, 542, 72, 517, 443, 444, 445, 76, 543, 544, 545, 546, 547, 548, 549, 550, 551, 552, 40, 553, 118, 119, 554, 555, 556, 557, 558, 559, 560, 561, 562, 563, 564, 565, 566, 567, 568, 569, 570, 571, 572, 573, 574, 575, 576, 577, 578, 579, 580, 581, 582, 583, 584, 585, 586, 587, 588, 589, 590, 291, 591, 592, 593, 594, 595, 596, 597, 598, 599, 600, 601, 602, 603, 604, 605, 606, 607, 829, 830, 831, 832, 930, 931, 932, 933, 934, 935, 936, 937, 938, 939, 968, 969, 970, 971, 972, 973, 974, 975, 992, 993, 994, 995, 996, 985, 986, 987, 988, 989, 990, 991] (by decide +kernel) (by decide +kernel)
set_option maxRecDepth 20000 in
theorem gL_law_X9_worst : GoodIn wsL_law (wsV RL 105 RX9 yX9_worst wsX9_worst) := goodIn_app (goodIn_of _ (by decide +kernel)) ggL_law_X9_worst
set_option maxRecDepth 100000 in
theorem D_L_law_0 : gDec cL_law [(0, (.new 7, 3)), (3, (.dup, 1)), (4, (.invokespecial 9, 3)), (7, (.astore_n 1, 1)), (8, (.new 10, 3)), (11, (.dup, 1)), (12, (.invokespecial 12, 3)), (15, (.astore_n 2, 1)), (16, (.iconst 0, 1)), (17, (.istore_n 3, 1)), (18, (.iload_n 3, 1)), (19, (.aload_n 0, 1)), (20, (.arraylength, 1)), (21, (.iconst 5, 1)), (22, (.isub, 1)), (23, (.if_icmp .gt 726, 3)), (26, (.aload_n 0, 1)), (27, (.iload_n 3, 1)), (28, (.iaload, 1)), (29, (.bipush 31, 2)), (31, (.iand, 1)), (32, (.tableswitch 711 0 22 #[108, 133, 146, 159, 172, 195, 234, 257, 280, 293, 306, 319, 352, 385, 419, 453, 487, 521, 544, 578, 632, 675, 688], 108)), (140, (.aload_n 1, 1)), (141, (.aload_n 0, 1)), (142, (.iload_n 3, 1)), (143, (.iconst 1, 1)), (144, (.iadd, 1)), (145, (.iaload, 1)), (146, (.i2c, 1)), (147, (.invokevirtual 13, 3)), (150, (.aload_n 2, 1)), (151, (.aload_n 0, 1)), (152, (.iload_n 3, 1)), (153, (.iconst 1, 1)), (154, (.iadd, 1)), (155, (.iaload, 1)), (156, (.i2c, 1)), (157, (.invokevirtual 17, 3)), (160, (.if_icmp .eq 583, 3)), (163, (.iconst 0, 1)), (164, (.ireturn, 1)), (165, (.aload_n 1, 1)), (166, (.invokevirtual 18, 3)), (169, (.aload_n 2, 1)), (170, (.invokevirtual 22, 3)), (173, (.if_icmp .eq 570, 3)), (176, (.iconst 0, 1)), (177, (.ireturn, 1)), (178, (.aload_n 1, 1)), (179, (.invokevirtual 23, 3)), (182, (.aload_n 2, 1)), (183, (.invokevirtual 26, 3)), (186, (.if_icmp .eq 557, 3)), (189, (.iconst 0, 1)), (190, (.ireturn, 1)), (191, (.aload_n 1, 1)), (192, (.invokevirtual 27, 3)), (195, (.aload_n 2, 1)), (196, (.invokevirtual 30, 3)), (199, (.if_icmp .eq 544, 3)), (202, (.iconst 0, 1)), (203, (.ireturn, 1)), (204, (.aload_n 1, 1)), (205, (.aload_n 0, 1)), (206, (.iload_n 3, 1)), (207, (.iconst 1, 1)), (208, (.iadd, 1)), (209, (.iaload, 1)), (210, (.invokevirtual 31, 3)), (213, (.aload_n 2, 1)), (214, (.aload_n 0, 1)), (215, (.iload_n 3, 1)), (216, (.iconst 1, 1)), (217, (.iadd, 1)), (218, (.iaload, 1)), (219, (.invokevirtual 35, 3)), (222, (.if_icmp .eq 521, 3)), (225, (.iconst 0, 1)), (226, (.ireturn, 1)), (227, (.aload_n 1, 1)), (228, (.aload_n 0, 1)), (229, (.iload_n 3, 1)), (230, (.iconst 1, 1)), (231, (.iadd, 1)), (232, (.iaload, 1)), (233, (.ifCond .eq 7, 3)), (236, (.iconst 1, 1)), (237, (.goto 4, 3)), (240, (.iconst 0, 1)), (241, (.invokevirtual 36, 3)), (244, (.aload_n 2, 1)), (245, (.aload_n 0, 1)), (246, (.iload_n 3, 1)), (247, (.iconst 1, 1)), (248, (.iadd, 1)), (249, (.iaload, 1)), (250, (.ifCond .eq 7, 3)), (253, (.iconst 1, 1)), (254, (.goto 4, 3)), (257, (.iconst 0, 1))] = true := by decide +kernel
set_option maxRecDepth 100000 in
theorem D_L_law_1 : gDec cL_law [(258, (.invokevirtual 40, 3)), (261, (.if_icmp .eq 482, 3)), (264, (.iconst 0, 1)), (265, (.ireturn, 1)), (266, (.aload_n 1, 1)), (267, (.aload_n 0, 1)), (268, (.iload_n 3, 1)), (269, (.iconst 1, 1)), (270, (.iadd, 1)), (271, (.iaload, 1)), (272, (.invokevirtual 41, 3)), (275, (.aload_n 2, 1)), (276, (.aload_n 0, 1)), (277, (.iload_n 3, 1)), (278, (.iconst 1, 1)), (279, (.iadd, 1)), (280, (.iaload, 1)), (281, (.invokevirtual 44, 3)), (284, (.if_icmp .eq 459, 3)), (287, (.iconst 0, 1)), (288, (.ireturn, 1)), (289, (.aload_n 1, 1)), (290, (.aload_n 0, 1)), (291, (.iload_n 3, 1)), (292, (.iconst 1, 1)), (293, (.iadd, 1)), (294, (.iaload, 1)), (295, (.invokevirtual 45, 3)), (298, (.aload_n 2, 1)), (299, (.aload_n 0, 1)), (300, (.iload_n 3, 1)), (301, (.iconst 1, 1)), (302, (.iadd, 1)), (303, (.iaload, 1)), (304, (.invokevirtual 48, 3)), (307, (.if_icmp .eq 436, 3)), (310, (.iconst 0, 1)), (311, (.ireturn, 1)), (312, (.aload_n 1, 1)), (313, (.invokevirtual 49, 3)), (316, (.aload_n 2, 1)), (317, (.invokevirtual 52, 3)), (320, (.if_icmp .eq 423, 3)), (323, (.iconst 0, 1)), (324, (.ireturn, 1)), (325, (.aload_n 1, 1)), (326, (.invokevirtual 53, 3)), (329, (.aload_n 2, 1)), (330, (.invokevirtual 56, 3)), (333, (.if_icmp .eq 410, 3)), (336, (.iconst 0, 1)), (337, (.ireturn, 1)), (338, (.aload_n 1, 1)), (339, (.invokevirtual 57, 3)), (342, (.aload_n 2, 1)), (343, (.invokevirtual 60, 3)), (346, (.if_icmp .eq 397, 3)), (349, (.iconst 0, 1)), (350, (.ireturn, 1)), (351, (.aload_n 1, 1)), (352, (.aload_n 0, 1)), (353, (.iload_n 3, 1)), (354, (.iconst 1, 1)), (355, (.iadd, 1)), (356, (.iaload, 1)), (357, (.aload_n 0, 1)), (358, (.iload_n 3, 1)), (359, (.iconst 2, 1)), (360, (.iadd, 1)), (361, (.iaload, 1)), (362, (.invokevirtual 61, 3)), (365, (.aload_n 2, 1)), (366, (.aload_n 0, 1)), (367, (.iload_n 3, 1)), (368, (.iconst 1, 1)), (369, (.iadd, 1)), (370, (.iaload, 1)), (371, (.aload_n 0, 1)), (372, (.iload_n 3, 1)), (373, (.iconst 2, 1)), (374, (.iadd, 1)), (375, (.iaload, 1)), (376, (.invokevirtual 65, 3)), (379, (.if_icmp .eq 364, 3)), (382, (.iconst 0, 1)), (383, (.ireturn, 1)), (384, (.aload_n 1, 1)), (385, (.aload_n 0, 1)), (386, (.iload_n 3, 1)), (387, (.iconst 1, 1)), (388, (.iadd, 1)), (389, (.iaload, 1)), (390, (.aload_n 0, 1)), (391, (.iload_n 3, 1)), (392, (.iconst 2, 1)), (393, (.iadd, 1)), (394, (.iaload, 1)), (395, (.invokevirtual 66, 3)), (398, (.aload_n 2, 1)), (399, (.aload_n 0, 1))] = true := by decide +kernel
set_option maxRecDepth 100000 in
theorem D_L_law_2 : gDec cL_law [(400, (.iload_n 3, 1)), (401, (.iconst 1, 1)), (402, (.iadd, 1)), (403, (.iaload, 1)), (404, (.aload_n 0, 1)), (405, (.iload_n 3, 1)), (406, (.iconst 2, 1)), (407, (.iadd, 1)), (408, (.iaload, 1)), (409, (.invokevirtual 69, 3)), (412, (.if_icmp .eq 331, 3)), (415, (.iconst 0, 1)), (416, (.ireturn, 1)), (417, (.aload_n 1, 1)), (418, (.aload_n 0, 1)), (419, (.iload_n 3, 1)), (420, (.iconst 1, 1)), (421, (.iadd, 1)), (422, (.iaload, 1)), (423, (.aload_n 0, 1)), (424, (.iload_n 3, 1)), (425, (.iconst 2, 1)), (426, (.iadd, 1)), (427, (.iaload, 1)), (428, (.invokevirtual 70, 3)), (431, (.aload_n 2, 1)), (432, (.aload_n 0, 1)), (433, (.iload_n 3, 1)), (434, (.iconst 1, 1)), (435, (.iadd, 1)), (436, (.iaload, 1)), (437, (.aload_n 0, 1)), (438, (.iload_n 3, 1)), (439, (.iconst 2, 1)), (440, (.iadd, 1)), (441, (.iaload, 1)), (442, (.invokevirtual 74, 3)), (445, (.lcmp, 1)), (446, (.ifCond .eq 297, 3)), (449, (.iconst 0, 1)), (450, (.ireturn, 1)), (451, (.aload_n 1, 1)), (452, (.aload_n 0, 1)), (453, (.iload_n 3, 1)), (454, (.iconst 1, 1)), (455, (.iadd, 1)), (456, (.iaload, 1)), (457, (.aload_n 0, 1)), (458, (.iload_n 3, 1)), (459, (.iconst 2, 1)), (460, (.iadd, 1)), (461, (.iaload, 1)), (462, (.invokevirtual 75, 3)), (465, (.aload_n 2, 1)), (466, (.aload_n 0, 1)), (467, (.iload_n 3, 1)), (468, (.iconst 1, 1)), (469, (.iadd, 1)), (470, (.iaload, 1)), (471, (.aload_n 0, 1)), (472, (.iload_n 3, 1)), (473, (.iconst 2, 1)), (474, (.iadd, 1)), (475, (.iaload, 1)), (476, (.invokevirtual 78, 3)), (479, (.lcmp, 1)), (480, (.ifCond .eq 263, 3)), (483, (.iconst 0, 1)), (484, (.ireturn, 1)), (485, (.aload_n 1, 1)), (486, (.aload_n 0, 1)), (487, (.iload_n 3, 1)), (488, (.iconst 1, 1)), (489, (.iadd, 1)), (490, (.iaload, 1)), (491, (.aload_n 0, 1)), (492, (.iload_n 3, 1)), (493, (.iconst 2, 1)), (494, (.iadd, 1)), (495, (.iaload, 1)), (496, (.invokevirtual 79, 3)), (499, (.aload_n 2, 1)), (500, (.aload_n 0, 1)), (501, (.iload_n 3, 1)), (502, (.iconst 1, 1)), (503, (.iadd, 1)), (504, (.iaload, 1)), (505, (.aload_n 0, 1)), (506, (.iload_n 3, 1)), (507, (.iconst 2, 1)), (508, (.iadd, 1)), (509, (.iaload, 1)), (510, (.invokevirtual 82, 3)), (513, (.lcmp, 1)), (514, (.ifCond .eq 229, 3)), (517, (.iconst 0, 1)), (518, (.ireturn, 1)), (519, (.aload_n 1, 1)), (520, (.aload_n 0, 1)), (521, (.iload_n 3, 1))] = true := by decide +kernel
set_option maxRecDepth 100000 in
theorem D_L_law_3 : gDec cL_law [(522, (.iconst 1, 1)), (523, (.iadd, 1)), (524, (.iaload, 1)), (525, (.aload_n 0, 1)), (526, (.iload_n 3, 1)), (527, (.iconst 2, 1)), (528, (.iadd, 1)), (529, (.iaload, 1)), (530, (.invokevirtual 83, 3)), (533, (.aload_n 2, 1)), (534, (.aload_n 0, 1)), (535, (.iload_n 3, 1)), (536, (.iconst 1, 1)), (537, (.iadd, 1)), (538, (.iaload, 1)), (539, (.aload_n 0, 1)), (540, (.iload_n 3, 1)), (541, (.iconst 2, 1)), (542, (.iadd, 1)), (543, (.iaload, 1)), (544, (.invokevirtual 86, 3)), (547, (.lcmp, 1)), (548, (.ifCond .eq 195, 3)), (551, (.iconst 0, 1)), (552, (.ireturn, 1)), (553, (.aload_n 1, 1)), (554, (.aload_n 0, 1)), (555, (.iload_n 3, 1)), (556, (.iconst 1, 1)), (557, (.iadd, 1)), (558, (.iaload, 1)), (559, (.invokevirtual 87, 3)), (562, (.aload_n 2, 1)), (563, (.aload_n 0, 1)), (564, (.iload_n 3, 1)), (565, (.iconst 1, 1)), (566, (.iadd, 1)), (567, (.iaload, 1)), (568, (.invokevirtual 90, 3)), (571, (.if_icmp .eq 172, 3)), (574, (.iconst 0, 1)), (575, (.ireturn, 1)), (576, (.aload_n 1, 1)), (577, (.aload_n 0, 1)), (578, (.iload_n 3, 1)), (579, (.iconst 1, 1)), (580, (.iadd, 1)), (581, (.iaload, 1)), (582, (.aload_n 0, 1)), (583, (.iload_n 3, 1)), (584, (.iconst 2, 1)), (585, (.iadd, 1)), (586, (.iaload, 1)), (587, (.invokevirtual 91, 3)), (590, (.aload_n 2, 1)), (591, (.aload_n 0, 1)), (592, (.iload_n 3, 1)), (593, (.iconst 1, 1)), (594, (.iadd, 1)), (595, (.iaload, 1)), (596, (.aload_n 0, 1)), (597, (.iload_n 3, 1)), (598, (.iconst 2, 1)), (599, (.iadd, 1)), (600, (.iaload, 1)), (601, (.invokevirtual 94, 3)), (604, (.lcmp, 1)), (605, (.ifCond .eq 138, 3)), (608, (.iconst 0, 1)), (609, (.ireturn, 1)), (610, (.aload_n 1, 1)), (611, (.aload_n 0, 1)), (612, (.iload_n 3, 1)), (613, (.iconst 1, 1)), (614, (.iadd, 1)), (615, (.iaload, 1)), (616, (.aload_n 0, 1)), (617, (.iload_n 3, 1)), (618, (.iconst 2, 1)), (619, (.iadd, 1)), (620, (.iaload, 1)), (621, (.aload_n 0, 1)), (622, (.iload_n 3, 1)), (623, (.iconst 3, 1)), (624, (.iadd, 1)), (625, (.iaload, 1)), (626, (.aload_n 0, 1)), (627, (.iload_n 3, 1)), (628, (.iconst 4, 1)), (629, (.iadd, 1)), (630, (.iaload, 1)), (631, (.invokevirtual 95, 3)), (634, (.aload_n 2, 1)), (635, (.aload_n 0, 1)), (636, (.iload_n 3, 1)), (637, (.iconst 1, 1)), (638, (.iadd, 1)), (639, (.iaload, 1)), (640, (.aload_n 0, 1)), (641, (.iload_n 3, 1))] = true := by decide +kernel
set_option maxRecDepth 100000 in
theorem D_L_law_4 : gDec cL_law [(642, (.iconst 2, 1)), (643, (.iadd, 1)), (644, (.iaload, 1)), (645, (.aload_n 0, 1)), (646, (.iload_n 3, 1)), (647, (.iconst 3, 1)), (648, (.iadd, 1)), (649, (.iaload, 1)), (650, (.aload_n 0, 1)), (651, (.iload_n 3, 1)), (652, (.iconst 4, 1)), (653, (.iadd, 1)), (654, (.iaload, 1)), (655, (.invokevirtual 99, 3)), (658, (.lcmp, 1)), (659, (.ifCond .eq 84, 3)), (662, (.iconst 0, 1)), (663, (.ireturn, 1)), (664, (.aload_n 1, 1)), (665, (.aload_n 0, 1)), (666, (.iload_n 3, 1)), (667, (.iconst 1, 1)), (668, (.iadd, 1)), (669, (.iaload, 1)), (670, (.aload_n 0, 1)), (671, (.iload_n 3, 1)), (672, (.iconst 2, 1)), (673, (.iadd, 1)), (674, (.iaload, 1)), (675, (.aload_n 0, 1)), (676, (.iload_n 3, 1)), (677, (.iconst 3, 1)), (678, (.iadd, 1)), (679, (.iaload, 1)), (680, (.invokevirtual 100, 3)), (683, (.aload_n 2, 1)), (684, (.aload_n 0, 1)), (685, (.iload_n 3, 1)), (686, (.iconst 1, 1)), (687, (.iadd, 1)), (688, (.iaload, 1)), (689, (.aload_n 0, 1)), (690, (.iload_n 3, 1)), (691, (.iconst 2, 1)), (692, (.iadd, 1)), (693, (.iaload, 1)), (694, (.aload_n 0, 1)), (695, (.iload_n 3, 1)), (696, (.iconst 3, 1)), (697, (.iadd, 1)), (698, (.iaload, 1)), (699, (.invokevirtual 104, 3)), (702, (.if_icmp .eq 41, 3)), (705, (.iconst 0, 1)), (706, (.ireturn, 1)), (707, (.aload_n 1, 1)), (708, (.invokevirtual 105, 3)), (711, (.aload_n 2, 1)), (712, (.invokevirtual 108, 3)), (715, (.if_icmp .eq 28, 3)), (718, (.iconst 0, 1)), (719, (.ireturn, 1)), (720, (.aload_n 1, 1)), (721, (.aload_n 0, 1)), (722, (.iload_n 3, 1)), (723, (.iconst 1, 1)), (724, (.iadd, 1)), (725, (.iaload, 1)), (726, (.invokevirtual 109, 3)), (729, (.aload_n 2, 1)), (730, (.aload_n 0, 1)), (731, (.iload_n 3, 1)), (732, (.iconst 1, 1)), (733, (.iadd, 1)), (734, (.iaload, 1)), (735, (.invokevirtual 112, 3)), (738, (.if_icmp .eq 5, 3)), (741, (.iconst 0, 1)), (742, (.ireturn, 1)), (743, (.iinc 3 5, 3)), (746, (.goto (-728), 3)), (749, (.iconst 1, 1)), (750, (.ireturn, 1))] = true := by decide +kernel
def f_L_law_18 (L : Nat) (xs : Nat → Int32) (a1 : Nat) (a2 : Nat) : Nat → Int32 → gHp → Option (Bool)
  | 0, _, _ => none
  | n + 1, x3, h => if ((nI L) - 5) < x3 then some true else if gIn x3 L then if ((xs (gN x3)) &&& 31) = 0 then if gIn (x3 + 1) L then (f_X9_type a1 (((xs (gN (x3 + 1))).toUInt32 % 65536).toInt32) h).bind fun v4 => if gIn (x3 + 1) L then (f_X10_type a2 (((xs (gN (x3 + 1))).toUInt32 % 65536).toInt32) v4.2).bind fun v7 => if v4.1 = v7.1 then f_L_law_18 L xs a1 a2 n (x3 + 5) v7.2 else some false else none else none else if ((xs (gN x3)) &&& 31) = 1 then (f_X9_clearText a1 h).bind fun v9 => (f_X10_clearText a2 v9.2).bind fun v11 => if v9.1 = v11.1 then f_L_law_18 L xs a1 a2 n (x3 + 5) v11.2 else some false else if ((xs (gN x3)) &&& 31) = 2 then (f_X9_readNetwork a1 h).bind fun v13 => (f_X10_readNetwork a2 v13.2).bind fun v15 => if v13.1 = v15.1 then f_L_law_18 L xs a1 a2 n (x3 + 5) v15.2 else some false else if ((xs (gN x3)) &&& 31) = 3 then (f_X9_perform a1 h).bind fun v17 => (f_X10_perform a2 v17.2).bind fun v19 => if v17.1 = v19.1 then f_L_law_18 L xs a1 a2 n (x3 + 5) v19.2 else some false else if ((xs (gN x3)) &&& 31) = 4 then if gIn (x3 + 1) L then (f_X9_fold a1 (xs (gN (x3 + 1))) h).bind fun v22 => if gIn (x3 + 1) L then (f_X10_fold a2 (xs (gN (x3 + 1))) v22.2).bind fun v25 => if v22.1 = v25.1 then f_L_law_18 L xs a1 a2 n (x3 + 5) v25.2 else some false else none else none else if ((xs (gN x3)) &&& 31) = 5 then if gIn (x3 + 1) L then (if (xs (gN (x3 + 1))) = 0 then some 0 else some 1 : Option (Int32)).bind fun v27 => (f_X9_foldAll a1 v27 h).bind fun v31 => if gIn (x3 + 1) L then (if (xs (gN (x3 + 1))) = 0 then some 0 else some 1 : Option (Int32)).bind fun v33 => (f_X10_foldAll a2 v33 v31.2).bind fun v37 => if v31.1 = v37.1 then f_L_law_18 L xs a1 a2 n (x3 + 5) v37.2 else some false else none else none else if ((xs (gN x3)) &&& 31) = 6 then if gIn (x3 + 1) L then (f_X9_unfold a1 (xs (gN (x3 + 1))) h).bind fun v40 => if gIn (x3 + 1) L then (f_X10_unfold a2 (xs (gN (x3 + 1))) v40.2).bind fun v43 => if v40.1 = v43.1 then f_L_law_18 L xs a1 a2 n (x3 + 5) v43.2 else some false else none else none else if ((xs (gN x3)) &&& 31) = 7 then if gIn (x3 + 1) L then (f_X9_note a1 (xs (gN (x3 + 1))) h).bind fun v46 => if gIn (x3 + 1) L then (f_X10_note a2 (xs (gN (x3 + 1))) v46.2).bind fun v49 => if v46.1 = v49.1 then f_L_law_18 L xs a1 a2 n (x3 + 5) v49.2 else some false else none else none else if ((xs (gN x3)) &&& 31) = 8 then (f_X9_undo a1 h).bind fun v51 => (f_X10_undo a2 v51.2).bind fun v53 => if v51.1 = v53.1 then f_L_law_18 L xs a1 a2 n (x3 + 5) v53.2 else some false else if ((xs (gN x3)) &&& 31) = 9 then (f_X9_keep a1 h).bind fun v55 => (f_X10_keep a2 v55.2).bind fun v57 => if v55.1 = v57.1 then f_L_law_18 L xs a1 a2 n (x3 + 5) v57.2 else some false else if ((xs (gN x3)) &&& 31) = 10 then (f_X9_restore a1 h).bind fun v59 => (f_X10_restore a2 v59.2).bind fun v61 => if v59.1 = v61.1 then f_L_law_18 L xs a1 a2 n (x3 + 5) v61.2 else some false else if ((xs (gN x3)) &&& 31) = 11 then if gIn (x3 + 1) L then if gIn (x3 + 2) L then (f_X9_part a1 (xs (gN (x3 + 1))) (xs (gN (x3 + 2))) h).bind fun v65 => if gIn (x3 + 1) L then if gIn (x3 + 2) L then (f_X10_part a2 (xs (gN (x3 + 1))) (xs (gN (x3 + 2))) h).bind fun v69 => if v65 = v69 then f_L_law_18 L xs a1 a2 n (x3 + 5) h else some false else none else none else none else none else if ((xs (gN x3)) &&& 31) = 12 then if gIn (x3 + 1) L then if gIn (x3 + 2) L then (f_X9_arm a1 (xs (gN (x3 + 1))) (xs (gN (x3 + 2))) h).bind fun v73 => if gIn (x3 + 1) L then if gIn (x3 + 2) L then (f_X10_arm a2 (xs (gN (x3 + 1))) (xs (gN (x3 + 2))) h).bind fun v77 => if v73 = v77 then f_L_law_18 L xs a1 a2 n (x3 + 5) h else some false else none else none else none else none else if ((xs (gN x3)) &&& 31) = 13 then if gIn (x3 + 1) L then if gIn (x3 + 2) L then (f_X9_resistance a1 (xs (gN (x3 + 1))) (xs (gN (x3 + 2))) h).bind fun v81 => if gIn (x3 + 1) L then if gIn (x3 + 2) L then (f_X10_resistance a2 (xs (gN (x3 + 1))) (xs (gN (x3 + 2))) v81.2).bind fun v85 => if v81.1 = v85.1 then f_L_law_18 L xs a1 a2 n (x3 + 5) v85.2 else some false else none else none else none else none else if ((xs (gN x3)) &&& 31) = 14 then if gIn (x3 + 1) L then if gIn (x3 + 2) L then (f_X9_folded a1 (xs (gN (x3 + 1))) (xs (gN (x3 + 2))) h).bind fun v89 => if gIn (x3 + 1) L then if gIn (x3 + 2) L then (f_X10_folded a2 (xs (gN (x3 + 1))) (xs (gN (x3 + 2))) v89.2).bind fun v93 => if v89.1 = v93.1 then f_L_law_18 L xs a1 a2 n (x3 + 5) v93.2 else some false else none else none else none else none else if ((xs (gN x3)) &&& 31) = 15 then if gIn (x3 + 1) L then if gIn (x3 + 2) L then (f_X9_voltage a1 (xs (gN (x3 + 1))) (xs (gN (x3 + 2))) h).bind fun v97 => if gIn (x3 + 1) L then if gIn (x3 + 2) L then (f_X10_voltage a2 (xs (gN (x3 + 1))) (xs (gN (x3 + 2))) v97.2).bind fun v101 => if v97.1 = v101.1 then f_L_law_18 L xs a1 a2 n (x3 + 5) v101.2 else some false else none else none else none else none else if ((xs (gN x3)) &&& 31) = 16 then if gIn (x3 + 1) L then if gIn (x3 + 2) L then (f_X9_reading a1 (xs (gN (x3 + 1))) (xs (gN (x3 + 2))) h).bind fun v105 => if gIn (x3 + 1) L then if gIn (x3 + 2) L then (f_X10_reading a2 (xs (gN (x3 + 1))) (xs (gN (x3 + 2))) v105.2).bind fun v109 => if v105.1 = v109.1 then f_L_law_18 L xs a1 a2 n (x3 + 5) v109.2 else some false else none else none else none else none else if ((xs (gN x3)) &&& 31) = 17 then if gIn (x3 + 1) L then (f_X9_loss a1 (xs (gN (x3 + 1))) h).bind fun v112 => if gIn (x3 + 1) L then (f_X10_loss a2 (xs (gN (x3 + 1))) v112.2).bind fun v115 => if v112.1 = v115.1 then f_L_law_18 L xs a1 a2 n (x3 + 5) v115.2 else some false else none else none else if ((xs (gN x3)) &&& 31) = 18 then if gIn (x3 + 1) L then if gIn (x3 + 2) L then (f_X9_noted a1 (xs (gN (x3 + 1))) (xs (gN (x3 + 2))) h).bind fun v119 => if gIn (x3 + 1) L then if gIn (x3 + 2) L then (f_X10_noted a2 (xs (gN (x3 + 1))) (xs (gN (x3 + 2))) h).bind fun v123 => if v119 = v123 then f_L_law_18 L xs a1 a2 n (x3 + 5) h else some false else none else none else none else none else if ((xs (gN x3)) &&& 31) = 19 then if gIn (x3 + 1) L then if gIn (x3 + 2) L then if gIn (x3 + 3) L then if gIn (x3 + 4) L then (f_X9_solve a1 (xs (gN (x3 + 1))) (xs (gN (x3 + 2))) (xs (gN (x3 + 3))) (xs (gN (x3 + 4))) h).bind fun v129 => if gIn (x3 + 1) L then if gIn (x3 + 2) L then if gIn (x3 + 3) L then if gIn (x3 + 4) L then (f_X10_solve a2 (xs (gN (x3 + 1))) (xs (gN (x3 + 2))) (xs (gN (x3 + 3))) (xs (gN (x3 + 4))) v129.2).bind fun v135 => if v129.1 = v135.1 then f_L_law_18 L xs a1 a2 n (x3 + 5) v135.2 else some false else none else none else none else none else none else none else none else none else if ((xs (gN x3)) &&& 31) = 20 then if gIn (x3 + 1) L then if gIn (x3 + 2) L then if gIn (x3 + 3) L then (f_X9_fault a1 (xs (gN (x3 + 1))) (xs (gN (x3 + 2))) (xs (gN (x3 + 3))) h).bind fun v140 => if gIn (x3 + 1) L then if gIn (x3 + 2) L then if gIn (x3 + 3) L then (f_X10_fault a2 (xs (gN (x3 + 1))) (xs (gN (x3 + 2))) (xs (gN (x3 + 3))) v140.2).bind fun v145 => if v140.1 = v145.1 then f_L_law_18 L xs a1 a2 n (x3 + 5) v145.2 else some false else none else none else none else none else none else none else if ((xs (gN x3)) &&& 31) = 21 then (f_X9_worst a1 h).bind fun v147 => (f_X10_worst a2 v147.2).bind fun v149 => if v147.1 = v149.1 then f_L_law_18 L xs a1 a2 n (x3 + 5) v149.2 else some false else if ((xs (gN x3)) &&& 31) = 22 then if gIn (x3 + 1) L then (f_X9_count a1 (xs (gN (x3 + 1))) h).bind fun v152 => if gIn (x3 + 1) L then (f_X10_count a2 (xs (gN (x3 + 1))) h).bind fun v155 => if v152 = v155 then f_L_law_18 L xs a1 a2 n (x3 + 5) h else some false else none else none else f_L_law_18 L xs a1 a2 n (x3 + 5) h else none
set_option maxRecDepth 20000 in
set_option maxHeartbeats 4000000 in
theorem w_L_law_18 {w : gWd} {g : gCx} (C : gC w g cL_law wsL_law RL 4 11 470) {b L : Nat} {xs : Nat → Int32} (SX : gScr w g b L xs) {a1 : Nat} (A1 : is_X9 w a1) {a2 : Nat} (A2 : is_X10 w a2)  (E : gLw w g) : ∀ (n : Nat) (x3 : Int32) (h : gHp), f_L_law_18 L xs a1 a2 n x3 h = some true → gX w g 4 h 18 [(0, .ref b), (1, .ref a1), (2, .ref a2), (3, .int x3)] [] := by
  intro n
  induction n with
  | zero => intro _ _ hF; cases hF
  | succ n ih =>
    intro x3 h hF
    rw [f_L_law_18] at hF
    refine gx_iload_n C 3 (gDec_at D_L_law_0 10 rfl) rfl rfl ?_
    refine gx_aload_n C 0 (gDec_at D_L_law_0 11 rfl) rfl rfl ?_
    refine gx_slen C SX (gDec_at D_L_law_0 12 rfl) ?_
    refine gx_iconst C (v := 5) (gDec_at D_L_law_0 13 rfl) (by decide) ?_
    refine gx_isub C (gDec_at D_L_law_0 14 rfl) ?_
    refine gx_icmp_gt C 749 (gDec_at D_L_law_0 15 rfl) (by decide) (fun c => ?_) (fun c => ?_)
    · replace hF := gPos c hF
      refine gx_iconst C (v := 1) (gDec_at D_L_law_4 81 rfl) (by decide) ?_
      exact gx_lawret C E (gDec_at D_L_law_4 82 rfl)
    · replace hF := gNeg c hF
      refine gx_aload_n C 0 (gDec_at D_L_law_0 16 rfl) rfl rfl ?_
      refine gx_iload_n C 3 (gDec_at D_L_law_0 17 rfl) rfl rfl ?_
      obtain ⟨b1, hF⟩ := gGd hF
      refine gx_sld C SX b1 (gDec_at D_L_law_0 18 rfl) ?_
      refine gx_bipush C (v := 31) (gDec_at D_L_law_0 19 rfl) (by decide) ?_
      refine gx_iand C (gDec_at D_L_law_0 20 rfl) ?_
      by_cases c0 : ((xs (gN x3)) &&& 31) = 0
      · replace hF := gPos c0 hF
        refine gx_tableIn C 140 (gDec_at D_L_law_0 21 rfl) (by rw [c0]; decide) (by rw [c0]; decide) (by rw [c0]; rfl) (by decide) ?_
        refine gx_aload_n C 1 (gDec_at D_L_law_0 22 rfl) rfl rfl ?_
        refine gx_aload_n C 0 (gDec_at D_L_law_0 23 rfl) rfl rfl ?_
        refine gx_iload_n C 3 (gDec_at D_L_law_0 24 rfl) rfl rfl ?_
        refine gx_iconst C (v := 1) (gDec_at D_L_law_0 25 rfl) (by decide) ?_
        refine gx_iadd C (gDec_at D_L_law_0 26 rfl) ?_
        obtain ⟨b2, hF⟩ := gGd hF
        refine gx_sld C SX b2 (gDec_at D_L_law_0 27 rfl) ?_
        refine gx_i2c C (gDec_at D_L_law_0 28 rfl) ?_
        obtain ⟨v4, hv3, hF⟩ := gBind hF
        refine gx_callV1 C (st := []) 1 [.int (((xs (gN (x3 + 1))).toUInt32 % 65536).toInt32)] (m_X9_type w h A1 (((xs (gN (x3 + 1))).toUInt32 % 65536).toInt32) hv3) gL_law_X9_type rfl rfl rfl hy_X9_type (Nat.le_of_ble_eq_true rfl) (Nat.le_of_ble_eq_true rfl) (is_X9_sh A1) rfl rfl rfl (Nat.le_of_ble_eq_true rfl) (gDec_at D_L_law_0 29 rfl) ?_
        refine gx_aload_n C 2 (gDec_at D_L_law_0 30 rfl) rfl rfl ?_
        refine gx_aload_n C 0 (gDec_at D_L_law_0 31 rfl) rfl rfl ?_
        refine gx_iload_n C 3 (gDec_at D_L_law_0 32 rfl) rfl rfl ?_
        refine gx_iconst C (v := 1) (gDec_at D_L_law_0 33 rfl) (by decide) ?_
        refine gx_iadd C (gDec_at D_L_law_0 34 rfl) ?_
        obtain ⟨b5, hF⟩ := gGd hF
        refine gx_sld C SX b5 (gDec_at D_L_law_0 35 rfl) ?_
        refine gx_i2c C (gDec_at D_L_law_0 36 rfl) ?_
        obtain ⟨v7, hv6, hF⟩ := gBind hF
        refine gx_callV1 C (st := .int v4.1 :: []) 1 [.int (((xs (gN (x3 + 1))).toUInt32 % 65536).toInt32)] (m_X10_type w v4.2 A2 (((xs (gN (x3 + 1))).toUInt32 % 65536).toInt32) hv6) gL_law_X10_type rfl rfl rfl hy_X10_type (Nat.le_of_ble_eq_true rfl) (Nat.le_of_ble_eq_true rfl) (is_X10_sh A2) rfl rfl rfl (Nat.le_of_ble_eq_true rfl) (gDec_at D_L_law_0 37 rfl) ?_
        refine gx_icmp_eq C 743 (gDec_at D_L_law_0 38 rfl) (by decide) (fun c => ?_) (fun c => ?_)
        · replace hF := gPos c hF
          refine gx_iinc C (j := 3) (v := x3 + 5) (lv' := [(3, .int (x3 + 5)), (0, .ref b), (1, .ref a1), (2, .ref a2)]) (gDec_at D_L_law_4 79 rfl) rfl (by rfl) (Nat.le_of_ble_eq_true rfl) rfl ?_
          refine gx_goto C 18 (gDec_at D_L_law_4 80 rfl) (by decide) ?_
          exact gx_sub [1, 2, 3, 0] rfl (ih (x3 + 5) v7.2 hF)
        · replace hF := gNeg c hF
          refine gx_iconst C (v := 0) (gDec_at D_L_law_0 39 rfl) (by decide) ?_
          cases hF
      replace hF := gNeg c0 hF
      by_cases c1 : ((xs (gN x3)) &&& 31) = 1
      · replace hF := gPos c1 hF
        refine gx_tableIn C 165 (gDec_at D_L_law_0 21 rfl) (by rw [c1]; decide) (by rw [c1]; decide) (by rw [c1]; rfl) (by decide) ?_
        refine gx_aload_n C 1 (gDec_at D_L_law_0 41 rfl) rfl rfl ?_
        obtain ⟨v9, hv8, hF⟩ := gBind hF
        refine gx_callV1 C (st := []) 0 [] (m_X9_clearText w h A1 hv8) gL_law_X9_clearText rfl rfl rfl hy_X9_clearText (Nat.le_of_ble_eq_true rfl) (Nat.le_of_ble_eq_true rfl) (is_X9_sh A1) rfl rfl rfl (Nat.le_of_ble_eq_true rfl) (gDec_at D_L_law_0 42 rfl) ?_
        refine gx_aload_n C 2 (gDec_at D_L_law_0 43 rfl) rfl rfl ?_
        obtain ⟨v11, hv10, hF⟩ := gBind hF
        refine gx_callV1 C (st := .int v9.1 :: []) 0 [] (m_X10_clearText w v9.2 A2 hv10) gL_law_X10_clearText rfl rfl rfl hy_X10_clearText (Nat.le_of_ble_eq_true rfl) (Nat.le_of_ble_eq_true rfl) (is_X10_sh A2) rfl rfl rfl (Nat.le_of_ble_eq_true rfl) (gDec_at D_L_law_0 44 rfl) ?_
        refine gx_icmp_eq C 743 (gDec_at D_L_law_0 45 rfl) (by decide) (fun c => ?_) (fun c => ?_)
        · replace hF := gPos c hF
          refine gx_iinc C (j := 3) (v := x3 + 5) (lv' := [(3, .int (x3 + 5)), (0, .ref b), (1, .ref a1), (2, .ref a2)]) (gDec_at D_L_law_4 79 rfl) rfl (by rfl) (Nat.le_of_ble_eq_true rfl) rfl ?_
          refine gx_goto C 18 (gDec_at D_L_law_4 80 rfl) (by decide) ?_
          exact gx_sub [1, 2, 3, 0] rfl (ih (x3 + 5) v11.2 hF)
        · replace hF := gNeg c hF
          refine gx_iconst C (v := 0) (gDec_at D_L_law_0 46 rfl) (by decide) ?_
          cases hF
      replace hF := gNeg c1 hF
      by_cases c2 : ((xs (gN x3)) &&& 31) = 2
      · replace hF := gPos c2 hF
        refine gx_tableIn C 178 (gDec_at D_L_law_0 21 rfl) (by rw [c2]; decide) (by rw [c2]; decide) (by rw [c2]; rfl) (by decide) ?_
        refine gx_aload_n C 1 (gDec_at D_L_law_0 48 rfl) rfl rfl ?_
        obtain ⟨v13, hv12, hF⟩ := gBind hF
        refine gx_callV1 C (st := []) 0 [] (m_X9_readNetwork w h A1 hv12) gL_law_X9_readNetwork rfl rfl rfl hy_X9_readNetwork (Nat.le_of_ble_eq_true rfl) (Nat.le_of_ble_eq_true rfl) (is_X9_sh A1) rfl rfl rfl (Nat.le_of_ble_eq_true rfl) (gDec_at D_L_law_0 49 rfl) ?_
        refine gx_aload_n C 2 (gDec_at D_L_law_0 50 rfl) rfl rfl ?_
        obtain ⟨v15, hv14, hF⟩ := gBind hF
        refine gx_callV1 C (st := .int v13.1 :: []) 0 [] (m_X10_readNetwork w v13.2 A2 hv14) gL_law_X10_readNetwork rfl rfl rfl hy_X10_readNetwork (Nat.le_of_ble_eq_true rfl) (Nat.le_of_ble_eq_true rfl) (is_X10_sh A2) rfl rfl rfl (Nat.le_of_ble_eq_true rfl) (gDec_at D_L_law_0 51 rfl) ?_
        refine gx_icmp_eq C 743 (gDec_at D_L_law_0 52 rfl) (by decide) (fun c => ?_) (fun c => ?_)
        · replace hF := gPos c hF
          refine gx_iinc C (j := 3) (v := x3 + 5) (lv' := [(3, .int (x3 + 5)), (0, .ref b), (1, .ref a1), (2, .ref a2)]) (gDec_at D_L_law_4 79 rfl) rfl (by rfl) (Nat.le_of_ble_eq_true rfl) rfl ?_
          refine gx_goto C 18 (gDec_at D_L_law_4 80 rfl) (by decide) ?_
          exact gx_sub [1, 2, 3, 0] rfl (ih (x3 + 5) v15.2 hF)
        · replace hF := gNeg c hF
          refine gx_iconst C (v := 0) (gDec_at D_L_law_0 53 rfl) (by decide) ?_
          cases hF
      replace hF := gNeg c2 hF
      by_cases c3 : ((xs (gN x3)) &&& 31) = 3
      · replace hF := gPos c3 hF
        refine gx_tableIn C 191 (gDec_at D_L_law_0 21 rfl) (by rw [c3]; decide) (by rw [c3]; decide) (by rw [c3]; rfl) (by decide) ?_
        refine gx_aload_n C 1 (gDec_at D_L_law_0 55 rfl) rfl rfl ?_
        obtain ⟨v17, hv16, hF⟩ := gBind hF
        refine gx_callV1 C (st := []) 0 [] (m_X9_perform w h A1 hv16) gL_law_X9_perform rfl rfl rfl hy_X9_perform (Nat.le_of_ble_eq_true rfl) (Nat.le_of_ble_eq_true rfl) (is_X9_sh A1) rfl rfl rfl (Nat.le_of_ble_eq_true rfl) (gDec_at D_L_law_0 56 rfl) ?_
        refine gx_aload_n C 2 (gDec_at D_L_law_0 57 rfl) rfl rfl ?_
        obtain ⟨v19, hv18, hF⟩ := gBind hF
        refine gx_callV1 C (st := .int v17.1 :: []) 0 [] (m_X10_perform w v17.2 A2 hv18) gL_law_X10_perform rfl rfl rfl hy_X10_perform (Nat.le_of_ble_eq_true rfl) (Nat.le_of_ble_eq_true rfl) (is_X10_sh A2) rfl rfl rfl (Nat.le_of_ble_eq_true rfl) (gDec_at D_L_law_0 58 rfl) ?_
        refine gx_icmp_eq C 743 (gDec_at D_L_law_0 59 rfl) (by decide) (fun c => ?_) (fun c => ?_)
        · replace hF := gPos c hF
          refine gx_iinc C (j := 3) (v := x3 + 5) (lv' := [(3, .int (x3 + 5)), (0, .ref b), (1, .ref a1), (2, .ref a2)]) (gDec_at D_L_law_4 79 rfl) rfl (by rfl) (Nat.le_of_ble_eq_true rfl) rfl ?_
          refine gx_goto C 18 (gDec_at D_L_law_4 80 rfl) (by decide) ?_
          exact gx_sub [1, 2, 3, 0] rfl (ih (x3 + 5) v19.2 hF)
        · replace hF := gNeg c hF
          refine gx_iconst C (v := 0) (gDec_at D_L_law_0 60 rfl) (by decide) ?_
          cases hF
      replace hF := gNeg c3 hF
      by_cases c4 : ((xs (gN x3)) &&& 31) = 4
      · replace hF := gPos c4 hF
        refine gx_tableIn C 204 (gDec_at D_L_law_0 21 rfl) (by rw [c4]; decide) (by rw [c4]; decide) (by rw [c4]; rfl) (by decide) ?_
        refine gx_aload_n C 1 (gDec_at D_L_law_0 62 rfl) rfl rfl ?_
        refine gx_aload_n C 0 (gDec_at D_L_law_0 63 rfl) rfl rfl ?_
        refine gx_iload_n C 3 (gDec_at D_L_law_0 64 rfl) rfl rfl ?_
        refine gx_iconst C (v := 1) (gDec_at D_L_law_0 65 rfl) (by decide) ?_
        refine gx_iadd C (gDec_at D_L_law_0 66 rfl) ?_
        obtain ⟨b20, hF⟩ := gGd hF
        refine gx_sld C SX b20 (gDec_at D_L_law_0 67 rfl) ?_
        obtain ⟨v22, hv21, hF⟩ := gBind hF
        refine gx_callV1 C (st := []) 1 [.int (xs (gN (x3 + 1)))] (m_X9_fold w h A1 (xs (gN (x3 + 1))) hv21) gL_law_X9_fold rfl rfl rfl hy_X9_fold (Nat.le_of_ble_eq_true rfl) (Nat.le_of_ble_eq_true rfl) (is_X9_sh A1) rfl rfl rfl (Nat.le_of_ble_eq_true rfl) (gDec_at D_L_law_0 68 rfl) ?_
        refine gx_aload_n C 2 (gDec_at D_L_law_0 69 rfl) rfl rfl ?_
        refine gx_aload_n C 0 (gDec_at D_L_law_0 70 rfl) rfl rfl ?_
        refine gx_iload_n C 3 (gDec_at D_L_law_0 71 rfl) rfl rfl ?_
        refine gx_iconst C (v := 1) (gDec_at D_L_law_0 72 rfl) (by decide) ?_
        refine gx_iadd C (gDec_at D_L_law_0 73 rfl) ?_
        obtain ⟨b23, hF⟩ := gGd hF
        refine gx_sld C SX b23 (gDec_at D_L_law_0 74 rfl) ?_
        obtain ⟨v25, hv24, hF⟩ := gBind hF
        refine gx_callV1 C (st := .int v22.1 :: []) 1 [.int (xs (gN (x3 + 1)))] (m_X10_fold w v22.2 A2 (xs (gN (x3 + 1))) hv24) gL_law_X10_fold rfl rfl rfl hy_X10_fold (Nat.le_of_ble_eq_true rfl) (Nat.le_of_ble_eq_true rfl) (is_X10_sh A2) rfl rfl rfl (Nat.le_of_ble_eq_true rfl) (gDec_at D_L_law_0 75 rfl) ?_
        refine gx_icmp_eq C 743 (gDec_at D_L_law_0 76 rfl) (by decide) (fun c => ?_) (fun c => ?_)
        · replace hF := gPos c hF
          refine gx_iinc C (j := 3) (v := x3 + 5) (lv' := [(3, .int (x3 + 5)), (0, .ref b), (1, .ref a1), (2, .ref a2)]) (gDec_at D_L_law_4 79 rfl) rfl (by rfl) (Nat.le_of_ble_eq_true rfl) rfl ?_
          refine gx_goto C 18 (gDec_at D_L_law_4 80 rfl) (by decide) ?_
          exact gx_sub [1, 2, 3, 0] rfl (ih (x3 + 5) v25.2 hF)
        · replace hF := gNeg c hF
          refine gx_iconst C (v := 0) (gDec_at D_L_law_0 77 rfl) (by decide) ?_
          cases hF
      replace hF := gNeg c4 hF
      by_cases c5 : ((xs (gN x3)) &&& 31) = 5
      · replace hF := gPos c5 hF
        refine gx_tableIn C 227 (gDec_at D_L_law_0 21 rfl) (by rw [c5]; decide) (by rw [c5]; decide) (by rw [c5]; rfl) (by decide) ?_
        refine gx_aload_n C 1 (gDec_at D_L_law_0 79 rfl) rfl rfl ?_
        refine gx_aload_n C 0 (gDec_at D_L_law_0 80 rfl) rfl rfl ?_
        refine gx_iload_n C 3 (gDec_at D_L_law_0 81 rfl) rfl rfl ?_
        refine gx_iconst C (v := 1) (gDec_at D_L_law_0 82 rfl) (by decide) ?_
        refine gx_iadd C (gDec_at D_L_law_0 83 rfl) ?_
        obtain ⟨b26, hF⟩ := gGd hF
        refine gx_sld C SX b26 (gDec_at D_L_law_0 84 rfl) ?_
        obtain ⟨v27, hv28, hF⟩ := gBind hF
        have k29 : gX w g 4 h 241 [(0, .ref b), (1, .ref a1), (2, .ref a2), (3, .int x3)] (.int v27 :: .ref a1 :: []) := by
          obtain ⟨v31, hv30, hF⟩ := gBind hF
          refine gx_callV1 C (st := []) 1 [.int v27] (m_X9_foldAll w h A1 v27 hv30) gL_law_X9_foldAll rfl rfl rfl hy_X9_foldAll (Nat.le_of_ble_eq_true rfl) (Nat.le_of_ble_eq_true rfl) (is_X9_sh A1) rfl rfl rfl (Nat.le_of_ble_eq_true rfl) (gDec_at D_L_law_0 89 rfl) ?_
          refine gx_aload_n C 2 (gDec_at D_L_law_0 90 rfl) rfl rfl ?_
          refine gx_aload_n C 0 (gDec_at D_L_law_0 91 rfl) rfl rfl ?_
          refine gx_iload_n C 3 (gDec_at D_L_law_0 92 rfl) rfl rfl ?_
          refine gx_iconst C (v := 1) (gDec_at D_L_law_0 93 rfl) (by decide) ?_
          refine gx_iadd C (gDec_at D_L_law_0 94 rfl) ?_
          obtain ⟨b32, hF⟩ := gGd hF
          refine gx_sld C SX b32 (gDec_at D_L_law_0 95 rfl) ?_
          obtain ⟨v33, hv34, hF⟩ := gBind hF
          have k35 : gX w g 4 v31.2 258 [(0, .ref b), (1, .ref a1), (2, .ref a2), (3, .int x3)] (.int v33 :: .ref a2 :: .int v31.1 :: []) := by
            obtain ⟨v37, hv36, hF⟩ := gBind hF
            refine gx_callV1 C (st := .int v31.1 :: []) 1 [.int v33] (m_X10_foldAll w v31.2 A2 v33 hv36) gL_law_X10_foldAll rfl rfl rfl hy_X10_foldAll (Nat.le_of_ble_eq_true rfl) (Nat.le_of_ble_eq_true rfl) (is_X10_sh A2) rfl rfl rfl (Nat.le_of_ble_eq_true rfl) (gDec_at D_L_law_1 0 rfl) ?_
            refine gx_icmp_eq C 743 (gDec_at D_L_law_1 1 rfl) (by decide) (fun c => ?_) (fun c => ?_)
            · replace hF := gPos c hF
              refine gx_iinc C (j := 3) (v := x3 + 5) (lv' := [(3, .int (x3 + 5)), (0, .ref b), (1, .ref a1), (2, .ref a2)]) (gDec_at D_L_law_4 79 rfl) rfl (by rfl) (Nat.le_of_ble_eq_true rfl) rfl ?_
              refine gx_goto C 18 (gDec_at D_L_law_4 80 rfl) (by decide) ?_
              exact gx_sub [1, 2, 3, 0] rfl (ih (x3 + 5) v37.2 hF)
            · replace hF := gNeg c hF
              refine gx_iconst C (v := 0) (gDec_at D_L_law_1 2 rfl) (by decide) ?_
              cases hF
          replace hF := hv34
          refine gx_if_eq C 257 (gDec_at D_L_law_0 96 rfl) (by decide) (fun c => ?_) (fun c => ?_)
          · replace hF := gPos c hF
            refine gx_iconst C (v := 0) (gDec_at D_L_law_0 99 rfl) (by decide) ?_
            obtain rfl := Option.some.inj hF
            exact gx_sub [0, 1, 2, 3] rfl k35
          · replace hF := gNeg c hF
            refine gx_iconst C (v := 1) (gDec_at D_L_law_0 97 rfl) (by decide) ?_
            refine gx_goto C 258 (gDec_at D_L_law_0 98 rfl) (by decide) ?_
            obtain rfl := Option.some.inj hF
            exact gx_sub [0, 1, 2, 3] rfl k35
        replace hF := hv28
        refine gx_if_eq C 240 (gDec_at D_L_law_0 85 rfl) (by decide) (fun c => ?_) (fun c => ?_)
        · replace hF := gPos c hF
          refine gx_iconst C (v := 0) (gDec_at D_L_law_0 88 rfl) (by decide) ?_
          obtain rfl := Option.some.inj hF
          exact gx_sub [0, 1, 2, 3] rfl k29
        · replace hF := gNeg c hF
          refine gx_iconst C (v := 1) (gDec_at D_L_law_0 86 rfl) (by decide) ?_
          refine gx_goto C 241 (gDec_at D_L_law_0 87 rfl) (by decide) ?_
          obtain rfl := Option.some.inj hF
          exact gx_sub [0, 1, 2, 3] rfl k29
      replace hF := gNeg c5 hF
      by_cases c6 : ((xs (gN x3)) &&& 31) = 6
      · replace hF := gPos c6 hF
        refine gx_tableIn C 266 (gDec_at D_L_law_0 21 rfl) (by rw [c6]; decide) (by rw [c6]; decide) (by rw [c6]; rfl) (by decide) ?_
        refine gx_aload_n C 1 (gDec_at D_L_law_1 4 rfl) rfl rfl ?_
        refine gx_aload_n C 0 (gDec_at D_L_law_1 5 rfl) rfl rfl ?_
        refine gx_iload_n C 3 (gDec_at D_L_law_1 6 rfl) rfl rfl ?_
        refine gx_iconst C (v := 1) (gDec_at D_L_law_1 7 rfl) (by decide) ?_
        refine gx_iadd C (gDec_at D_L_law_1 8 rfl) ?_
        obtain ⟨b38, hF⟩ := gGd hF
        refine gx_sld C SX b38 (gDec_at D_L_law_1 9 rfl) ?_
        obtain ⟨v40, hv39, hF⟩ := gBind hF
        refine gx_callV1 C (st := []) 1 [.int (xs (gN (x3 + 1)))] (m_X9_unfold w h A1 (xs (gN (x3 + 1))) hv39) gL_law_X9_unfold rfl rfl rfl hy_X9_unfold (Nat.le_of_ble_eq_true rfl) (Nat.le_of_ble_eq_true rfl) (is_X9_sh A1) rfl rfl rfl (Nat.le_of_ble_eq_true rfl) (gDec_at D_L_law_1 10 rfl) ?_
        refine gx_aload_n C 2 (gDec_at D_L_law_1 11 rfl) rfl rfl ?_
        refine gx_aload_n C 0 (gDec_at D_L_law_1 12 rfl) rfl rfl ?_
        refine gx_iload_n C 3 (gDec_at D_L_law_1 13 rfl) rfl rfl ?_
        refine gx_iconst C (v := 1) (gDec_at D_L_law_1 14 rfl) (by decide) ?_
        refine gx_iadd C (gDec_at D_L_law_1 15 rfl) ?_
        obtain ⟨b41, hF⟩ := gGd hF
        refine gx_sld C SX b41 (gDec_at D_L_law_1 16 rfl) ?_
        obtain ⟨v43, hv42, hF⟩ := gBind hF
        refine gx_callV1 C (st := .int v40.1 :: []) 1 [.int (xs (gN (x3 + 1)))] (m_X10_unfold w v40.2 A2 (xs (gN (x3 + 1))) hv42) gL_law_X10_unfold rfl rfl rfl hy_X10_unfold (Nat.le_of_ble_eq_true rfl) (Nat.le_of_ble_eq_true rfl) (is_X10_sh A2) rfl rfl rfl (Nat.le_of_ble_eq_true rfl) (gDec_at D_L_law_1 17 rfl) ?_
        refine gx_icmp_eq C 743 (gDec_at D_L_law_1 18 rfl) (by decide) (fun c => ?_) (fun c => ?_)
        · replace hF := gPos c hF
          refine gx_iinc C (j := 3) (v := x3 + 5) (lv' := [(3, .int (x3 + 5)), (0, .ref b), (1, .ref a1), (2, .ref a2)]) (gDec_at D_L_law_4 79 rfl) rfl (by rfl) (Nat.le_of_ble_eq_true rfl) rfl ?_
          refine gx_goto C 18 (gDec_at D_L_law_4 80 rfl) (by decide) ?_
          exact gx_sub [1, 2, 3, 0] rfl (ih (x3 + 5) v43.2 hF)
        · replace hF := gNeg c hF
          refine gx_iconst C (v := 0) (gDec_at D_L_law_1 19 rfl) (by decide) ?_
          cases hF
      replace hF := gNeg c6 hF
      by_cases c7 : ((xs (gN x3)) &&& 31) = 7
      · replace hF := gPos c7 hF
        refine gx_tableIn C 289 (gDec_at D_L_law_0 21 rfl) (by rw [c7]; decide) (by rw [c7]; decide) (by rw [c7]; rfl) (by decide) ?_
        refine gx_aload_n C 1 (gDec_at D_L_law_1 21 rfl) rfl rfl ?_
        refine gx_aload_n C 0 (gDec_at D_L_law_1 22 rfl) rfl rfl ?_
        refine gx_iload_n C 3 (gDec_at D_L_law_1 23 rfl) rfl rfl ?_
        refine gx_iconst C (v := 1) (gDec_at D_L_law_1 24 rfl) (by decide) ?_
        refine gx_iadd C (gDec_at D_L_law_1 25 rfl) ?_
        obtain ⟨b44, hF⟩ := gGd hF
        refine gx_sld C SX b44 (gDec_at D_L_law_1 26 rfl) ?_
        obtain ⟨v46, hv45, hF⟩ := gBind hF
        refine gx_callV1 C (st := []) 1 [.int (xs (gN (x3 + 1)))] (m_X9_note w h A1 (xs (gN (x3 + 1))) hv45) gL_law_X9_note rfl rfl rfl hy_X9_note (Nat.le_of_ble_eq_true rfl) (Nat.le_of_ble_eq_true rfl) (is_X9_sh A1) rfl rfl rfl (Nat.le_of_ble_eq_true rfl) (gDec_at D_L_law_1 27 rfl) ?_
        refine gx_aload_n C 2 (gDec_at D_L_law_1 28 rfl) rfl rfl ?_
        refine gx_aload_n C 0 (gDec_at D_L_law_1 29 rfl) rfl rfl ?_
        refine gx_iload_n C 3 (gDec_at D_L_law_1 30 rfl) rfl rfl ?_
        refine gx_iconst C (v := 1) (gDec_at D_L_law_1 31 rfl) (by decide) ?_
        refine gx_iadd C (gDec_at D_L_law_1 32 rfl) ?_
        obtain ⟨b47, hF⟩ := gGd hF
        refine gx_sld C SX b47 (gDec_at D_L_law_1 33 rfl) ?_
        obtain ⟨v49, hv48, hF⟩ := gBind hF
        refine gx_callV1 C (st := .int v46.1 :: []) 1 [.int (xs (gN (x3 + 1)))] (m_X10_note w v46.2 A2 (xs (gN (x3 + 1))) hv48) gL_law_X10_note rfl rfl rfl hy_X10_note (Nat.le_of_ble_eq_true rfl) (Nat.le_of_ble_eq_true rfl) (is_X10_sh A2) rfl rfl rfl (Nat.le_of_ble_eq_true rfl) (gDec_at D_L_law_1 34 rfl) ?_
        refine gx_icmp_eq C 743 (gDec_at D_L_law_1 35 rfl) (by decide) (fun c => ?_) (fun c => ?_)
        · replace hF := gPos c hF
          refine gx_iinc C (j := 3) (v := x3 + 5) (lv' := [(3, .int (x3 + 5)), (0, .ref b), (1, .ref a1), (2, .ref a2)]) (gDec_at D_L_law_4 79 rfl) rfl (by rfl) (Nat.le_of_ble_eq_true rfl) rfl ?_
          refine gx_goto C 18 (gDec_at D_L_law_4 80 rfl) (by decide) ?_
          exact gx_sub [1, 2, 3, 0] rfl (ih (x3 + 5) v49.2 hF)
        · replace hF := gNeg c hF
          refine gx_iconst C (v := 0) (gDec_at D_L_law_1 36 rfl) (by decide) ?_
          cases hF
      replace hF := gNeg c7 hF
      by_cases c8 : ((xs (gN x3)) &&& 31) = 8
      · replace hF := gPos c8 hF
        refine gx_tableIn C 312 (gDec_at D_L_law_0 21 rfl) (by rw [c8]; decide) (by rw [c8]; decide) (by rw [c8]; rfl) (by decide) ?_
        refine gx_aload_n C 1 (gDec_at D_L_law_1 38 rfl) rfl rfl ?_
        obtain ⟨v51, hv50, hF⟩ := gBind hF
        refine gx_callV1 C (st := []) 0 [] (m_X9_undo w h A1 hv50) gL_law_X9_undo rfl rfl rfl hy_X9_undo (Nat.le_of_ble_eq_true rfl) (Nat.le_of_ble_eq_true rfl) (is_X9_sh A1) rfl rfl rfl (Nat.le_of_ble_eq_true rfl) (gDec_at D_L_law_1 39 rfl) ?_
        refine gx_aload_n C 2 (gDec_at D_L_law_1 40 rfl) rfl rfl ?_
        obtain ⟨v53, hv52, hF⟩ := gBind hF
        refine gx_callV1 C (st := .int v51.1 :: []) 0 [] (m_X10_undo w v51.2 A2 hv52) gL_law_X10_undo rfl rfl rfl hy_X10_undo (Nat.le_of_ble_eq_true rfl) (Nat.le_of_ble_eq_true rfl) (is_X10_sh A2) rfl rfl rfl (Nat.le_of_ble_eq_true rfl) (gDec_at D_L_law_1 41 rfl) ?_
        refine gx_icmp_eq C 743 (gDec_at D_L_law_1 42 rfl) (by decide) (fun c => ?_) (fun c => ?_)
        · replace hF := gPos c hF
          refine gx_iinc C (j := 3) (v := x3 + 5) (lv' := [(3, .int (x3 + 5)), (0, .ref b), (1, .ref a1), (2, .ref a2)]) (gDec_at D_L_law_4 79 rfl) rfl (by rfl) (Nat.le_of_ble_eq_true rfl) rfl ?_
          refine gx_goto C 18 (gDec_at D_L_law_4 80 rfl) (by decide) ?_
          exact gx_sub [1, 2, 3, 0] rfl (ih (x3 + 5) v53.2 hF)
        · replace hF := gNeg c hF
          refine gx_iconst C (v := 0) (gDec_at D_L_law_1 43 rfl) (by decide) ?_
          cases hF
      replace hF := gNeg c8 hF
      by_cases c9 : ((xs (gN x3)) &&& 31) = 9
      · replace hF := gPos c9 hF
        refine gx_tableIn C 325 (gDec_at D_L_law_0 21 rfl) (by rw [c9]; decide) (by rw [c9]; decide) (by rw [c9]; rfl) (by decide) ?_
        refine gx_aload_n C 1 (gDec_at D_L_law_1 45 rfl) rfl rfl ?_
        obtain ⟨v55, hv54, hF⟩ := gBind hF
        refine gx_callV1 C (st := []) 0 [] (m_X9_keep w h A1 hv54) gL_law_X9_keep rfl rfl rfl hy_X9_keep (Nat.le_of_ble_eq_true rfl) (Nat.le_of_ble_eq_true rfl) (is_X9_sh A1) rfl rfl rfl (Nat.le_of_ble_eq_true rfl) (gDec_at D_L_law_1 46 rfl) ?_
        refine gx_aload_n C 2 (gDec_at D_L_law_1 47 rfl) rfl rfl ?_
        obtain ⟨v57, hv56, hF⟩ := gBind hF
        refine gx_callV1 C (st := .int v55.1 :: []) 0 [] (m_X10_keep w v55.2 A2 hv56) gL_law_X10_keep rfl rfl rfl hy_X10_keep (Nat.le_of_ble_eq_true rfl) (Nat.le_of_ble_eq_true rfl) (is_X10_sh A2) rfl rfl rfl (Nat.le_of_ble_eq_true rfl) (gDec_at D_L_law_1 48 rfl) ?_
        refine gx_icmp_eq C 743 (gDec_at D_L_law_1 49 rfl) (by decide) (fun c => ?_) (fun c => ?_)
        · replace hF := gPos c hF
          refine gx_iinc C (j := 3) (v := x3 + 5) (lv' := [(3, .int (x3 + 5)), (0, .ref b), (1, .ref a1), (2, .ref a2)]) (gDec_at D_L_law_4 79 rfl) rfl (by rfl) (Nat.le_of_ble_eq_true rfl) rfl ?_
          refine gx_goto C 18 (gDec_at D_L_law_4 80 rfl) (by decide) ?_
          exact gx_sub [1, 2, 3, 0] rfl (ih (x3 + 5) v57.2 hF)
        · replace hF := gNeg c hF
          refine gx_iconst C (v := 0) (gDec_at D_L_law_1 50 rfl) (by decide) ?_
          cases hF
      replace hF := gNeg c9 hF
      by_cases c10 : ((xs (gN x3)) &&& 31) = 10
      · replace hF := gPos c10 hF
        refine gx_tableIn C 338 (gDec_at D_L_law_0 21 rfl) (by rw [c10]; decide) (by rw [c10]; decide) (by rw [c10]; rfl) (by decide) ?_
        refine gx_aload_n C 1 (gDec_at D_L_law_1 52 rfl) rfl rfl ?_
        obtain ⟨v59, hv58, hF⟩ := gBind hF
        refine gx_callV1 C (st := []) 0 [] (m_X9_restore w h A1 hv58) gL_law_X9_restore rfl rfl rfl hy_X9_restore (Nat.le_of_ble_eq_true rfl) (Nat.le_of_ble_eq_true rfl) (is_X9_sh A1) rfl rfl rfl (Nat.le_of_ble_eq_true rfl) (gDec_at D_L_law_1 53 rfl) ?_
        refine gx_aload_n C 2 (gDec_at D_L_law_1 54 rfl) rfl rfl ?_
        obtain ⟨v61, hv60, hF⟩ := gBind hF
        refine gx_callV1 C (st := .int v59.1 :: []) 0 [] (m_X10_restore w v59.2 A2 hv60) gL_law_X10_restore rfl rfl rfl hy_X10_restore (Nat.le_of_ble_eq_true rfl) (Nat.le_of_ble_eq_true rfl) (is_X10_sh A2) rfl rfl rfl (Nat.le_of_ble_eq_true rfl) (gDec_at D_L_law_1 55 rfl) ?_
        refine gx_icmp_eq C 743 (gDec_at D_L_law_1 56 rfl) (by decide) (fun c => ?_) (fun c => ?_)
        · replace hF := gPos c hF
          refine gx_iinc C (j := 3) (v := x3 + 5) (lv' := [(3, .int (x3 + 5)), (0, .ref b), (1, .ref a1), (2, .ref a2)]) (gDec_at D_L_law_4 79 rfl) rfl (by rfl) (Nat.le_of_ble_eq_true rfl) rfl ?_
          refine gx_goto C 18 (gDec_at D_L_law_4 80 rfl) (by decide) ?_
          exact gx_sub [1, 2, 3, 0] rfl (ih (x3 + 5) v61.2 hF)
        · replace hF := gNeg c hF
          refine gx_iconst C (v := 0) (gDec_at D_L_law_1 57 rfl) (by decide) ?_
          cases hF
      replace hF := gNeg c10 hF
      by_cases c11 : ((xs (gN x3)) &&& 31) = 11
      · replace hF := gPos c11 hF
        refine gx_tableIn C 351 (gDec_at D_L_law_0 21 rfl) (by rw [c11]; decide) (by rw [c11]; decide) (by rw [c11]; rfl) (by decide) ?_
        refine gx_aload_n C 1 (gDec_at D_L_law_1 59 rfl) rfl rfl ?_
        refine gx_aload_n C 0 (gDec_at D_L_law_1 60 rfl) rfl rfl ?_
        refine gx_iload_n C 3 (gDec_at D_L_law_1 61 rfl) rfl rfl ?_
        refine gx_iconst C (v := 1) (gDec_at D_L_law_1 62 rfl) (by decide) ?_
        refine gx_iadd C (gDec_at D_L_law_1 63 rfl) ?_
        obtain ⟨b62, hF⟩ := gGd hF
        refine gx_sld C SX b62 (gDec_at D_L_law_1 64 rfl) ?_
        refine gx_aload_n C 0 (gDec_at D_L_law_1 65 rfl) rfl rfl ?_
        refine gx_iload_n C 3 (gDec_at D_L_law_1 66 rfl) rfl rfl ?_
        refine gx_iconst C (v := 2) (gDec_at D_L_law_1 67 rfl) (by decide) ?_
        refine gx_iadd C (gDec_at D_L_law_1 68 rfl) ?_
        obtain ⟨b63, hF⟩ := gGd hF
        refine gx_sld C SX b63 (gDec_at D_L_law_1 69 rfl) ?_
        obtain ⟨v65, hv64, hF⟩ := gBind hF
        refine gx_callV1 C (st := []) 2 [.int (xs (gN (x3 + 1))), .int (xs (gN (x3 + 2)))] (m_X9_part w h A1 (xs (gN (x3 + 1))) (xs (gN (x3 + 2))) hv64) gL_law_X9_part rfl rfl rfl hy_X9_part (Nat.le_of_ble_eq_true rfl) (Nat.le_of_ble_eq_true rfl) (is_X9_sh A1) rfl rfl rfl (Nat.le_of_ble_eq_true rfl) (gDec_at D_L_law_1 70 rfl) ?_
        refine gx_aload_n C 2 (gDec_at D_L_law_1 71 rfl) rfl rfl ?_
        refine gx_aload_n C 0 (gDec_at D_L_law_1 72 rfl) rfl rfl ?_
        refine gx_iload_n C 3 (gDec_at D_L_law_1 73 rfl) rfl rfl ?_
        refine gx_iconst C (v := 1) (gDec_at D_L_law_1 74 rfl) (by decide) ?_
        refine gx_iadd C (gDec_at D_L_law_1 75 rfl) ?_
        obtain ⟨b66, hF⟩ := gGd hF
        refine gx_sld C SX b66 (gDec_at D_L_law_1 76 rfl) ?_
        refine gx_aload_n C 0 (gDec_at D_L_law_1 77 rfl) rfl rfl ?_
        refine gx_iload_n C 3 (gDec_at D_L_law_1 78 rfl) rfl rfl ?_
        refine gx_iconst C (v := 2) (gDec_at D_L_law_1 79 rfl) (by decide) ?_
        refine gx_iadd C (gDec_at D_L_law_1 80 rfl) ?_
        obtain ⟨b67, hF⟩ := gGd hF
        refine gx_sld C SX b67 (gDec_at D_L_law_1 81 rfl) ?_
        obtain ⟨v69, hv68, hF⟩ := gBind hF
        refine gx_callV1 C (st := .int v65 :: []) 2 [.int (xs (gN (x3 + 1))), .int (xs (gN (x3 + 2)))] (m_X10_part w h A2 (xs (gN (x3 + 1))) (xs (gN (x3 + 2))) hv68) gL_law_X10_part rfl rfl rfl hy_X10_part (Nat.le_of_ble_eq_true rfl) (Nat.le_of_ble_eq_true rfl) (is_X10_sh A2) rfl rfl rfl (Nat.le_of_ble_eq_true rfl) (gDec_at D_L_law_1 82 rfl) ?_
        refine gx_icmp_eq C 743 (gDec_at D_L_law_1 83 rfl) (by decide) (fun c => ?_) (fun c => ?_)
        · replace hF := gPos c hF
          refine gx_iinc C (j := 3) (v := x3 + 5) (lv' := [(3, .int (x3 + 5)), (0, .ref b), (1, .ref a1), (2, .ref a2)]) (gDec_at D_L_law_4 79 rfl) rfl (by rfl) (Nat.le_of_ble_eq_true rfl) rfl ?_
          refine gx_goto C 18 (gDec_at D_L_law_4 80 rfl) (by decide) ?_
          exact gx_sub [1, 2, 3, 0] rfl (ih (x3 + 5) h hF)
        · replace hF := gNeg c hF
          refine gx_iconst C (v := 0) (gDec_at D_L_law_1 84 rfl) (by decide) ?_
          cases hF
      replace hF := gNeg c11 hF
      by_cases c12 : ((xs (gN x3)) &&& 31) = 12
      · replace hF := gPos c12 hF
        refine gx_tableIn C 384 (gDec_at D_L_law_0 21 rfl) (by rw [c12]; decide) (by rw [c12]; decide) (by rw [c12]; rfl) (by decide) ?_
        refine gx_aload_n C 1 (gDec_at D_L_law_1 86 rfl) rfl rfl ?_
        refine gx_aload_n C 0 (gDec_at D_L_law_1 87 rfl) rfl rfl ?_
        refine gx_iload_n C 3 (gDec_at D_L_law_1 88 rfl) rfl rfl ?_
        refine gx_iconst C (v := 1) (gDec_at D_L_law_1 89 rfl) (by decide) ?_
        refine gx_iadd C (gDec_at D_L_law_1 90 rfl) ?_
        obtain ⟨b70, hF⟩ := gGd hF
        refine gx_sld C SX b70 (gDec_at D_L_law_1 91 rfl) ?_
        refine gx_aload_n C 0 (gDec_at D_L_law_1 92 rfl) rfl rfl ?_
        refine gx_iload_n C 3 (gDec_at D_L_law_1 93 rfl) rfl rfl ?_
        refine gx_iconst C (v := 2) (gDec_at D_L_law_1 94 rfl) (by decide) ?_
        refine gx_iadd C (gDec_at D_L_law_1 95 rfl) ?_
        obtain ⟨b71, hF⟩ := gGd hF
        refine gx_sld C SX b71 (gDec_at D_L_law_1 96 rfl) ?_
        obtain ⟨v73, hv72, hF⟩ := gBind hF
        refine gx_callV1 C (st := []) 2 [.int (xs (gN (x3 + 1))), .int (xs (gN (x3 + 2)))] (m_X9_arm w h A1 (xs (gN (x3 + 1))) (xs (gN (x3 + 2))) hv72) gL_law_X9_arm rfl rfl rfl hy_X9_arm (Nat.le_of_ble_eq_true rfl) (Nat.le_of_ble_eq_true rfl) (is_X9_sh A1) rfl rfl rfl (Nat.le_of_ble_eq_true rfl) (gDec_at D_L_law_1 97 rfl) ?_
        refine gx_aload_n C 2 (gDec_at D_L_law_1 98 rfl) rfl rfl ?_
        refine gx_aload_n C 0 (gDec_at D_L_law_1 99 rfl) rfl rfl ?_
        refine gx_iload_n C 3 (gDec_at D_L_law_2 0 rfl) rfl rfl ?_
        refine gx_iconst C (v := 1) (gDec_at D_L_law_2 1 rfl) (by decide) ?_
        refine gx_iadd C (gDec_at D_L_law_2 2 rfl) ?_
        obtain ⟨b74, hF⟩ := gGd hF
        refine gx_sld C SX b74 (gDec_at D_L_law_2 3 rfl) ?_
        refine gx_aload_n C 0 (gDec_at D_L_law_2 4 rfl) rfl rfl ?_
        refine gx_iload_n C 3 (gDec_at D_L_law_2 5 rfl) rfl rfl ?_
        refine gx_iconst C (v := 2) (gDec_at D_L_law_2 6 rfl) (by decide) ?_
        refine gx_iadd C (gDec_at D_L_law_2 7 rfl) ?_
        obtain ⟨b75, hF⟩ := gGd hF
        refine gx_sld C SX b75 (gDec_at D_L_law_2 8 rfl) ?_
        obtain ⟨v77, hv76, hF⟩ := gBind hF
        refine gx_callV1 C (st := .int v73 :: []) 2 [.int (xs (gN (x3 + 1))), .int (xs (gN (x3 + 2)))] (m_X10_arm w h A2 (xs (gN (x3 + 1))) (xs (gN (x3 + 2))) hv76) gL_law_X10_arm rfl rfl rfl hy_X10_arm (Nat.le_of_ble_eq_true rfl) (Nat.le_of_ble_eq_true rfl) (is_X10_sh A2) rfl rfl rfl (Nat.le_of_ble_eq_true rfl) (gDec_at D_L_law_2 9 rfl) ?_
        refine gx_icmp_eq C 743 (gDec_at D_L_law_2 10 rfl) (by decide) (fun c => ?_) (fun c => ?_)
        · replace hF := gPos c hF
          refine gx_iinc C (j := 3) (v := x3 + 5) (lv' := [(3, .int (x3 + 5)), (0, .ref b), (1, .ref a1), (2, .ref a2)]) (gDec_at D_L_law_4 79 rfl) rfl (by rfl) (Nat.le_of_ble_eq_true rfl) rfl ?_
          refine gx_goto C 18 (gDec_at D_L_law_4 80 rfl) (by decide) ?_
          exact gx_sub [1, 2, 3, 0] rfl (ih (x3 + 5) h hF)
        · replace hF := gNeg c hF
          refine gx_iconst C (v := 0) (gDec_at D_L_law_2 11 rfl) (by decide) ?_
          cases hF
      replace hF := gNeg c12 hF
      by_cases c13 : ((xs (gN x3)) &&& 31) = 13
      · replace hF := gPos c13 hF
        refine gx_tableIn C 417 (gDec_at D_L_law_0 21 rfl) (by rw [c13]; decide) (by rw [c13]; decide) (by rw [c13]; rfl) (by decide) ?_
        refine gx_aload_n C 1 (gDec_at D_L_law_2 13 rfl) rfl rfl ?_
        refine gx_aload_n C 0 (gDec_at D_L_law_2 14 rfl) rfl rfl ?_
        refine gx_iload_n C 3 (gDec_at D_L_law_2 15 rfl) rfl rfl ?_
        refine gx_iconst C (v := 1) (gDec_at D_L_law_2 16 rfl) (by decide) ?_
        refine gx_iadd C (gDec_at D_L_law_2 17 rfl) ?_
        obtain ⟨b78, hF⟩ := gGd hF
        refine gx_sld C SX b78 (gDec_at D_L_law_2 18 rfl) ?_
        refine gx_aload_n C 0 (gDec_at D_L_law_2 19 rfl) rfl rfl ?_
        refine gx_iload_n C 3 (gDec_at D_L_law_2 20 rfl) rfl rfl ?_
        refine gx_iconst C (v := 2) (gDec_at D_L_law_2 21 rfl) (by decide) ?_
        refine gx_iadd C (gDec_at D_L_law_2 22 rfl) ?_
        obtain ⟨b79, hF⟩ := gGd hF
        refine gx_sld C SX b79 (gDec_at D_L_law_2 23 rfl) ?_
        obtain ⟨v81, hv80, hF⟩ := gBind hF
        refine gx_callV1 C (st := []) 2 [.int (xs (gN (x3 + 1))), .int (xs (gN (x3 + 2)))] (m_X9_resistance w h A1 (xs (gN (x3 + 1))) (xs (gN (x3 + 2))) hv80) gL_law_X9_resistance rfl rfl rfl hy_X9_resistance (Nat.le_of_ble_eq_true rfl) (Nat.le_of_ble_eq_true rfl) (is_X9_sh A1) rfl rfl rfl (Nat.le_of_ble_eq_true rfl) (gDec_at D_L_law_2 24 rfl) ?_
        refine gx_aload_n C 2 (gDec_at D_L_law_2 25 rfl) rfl rfl ?_
        refine gx_aload_n C 0 (gDec_at D_L_law_2 26 rfl) rfl rfl ?_
        refine gx_iload_n C 3 (gDec_at D_L_law_2 27 rfl) rfl rfl ?_
        refine gx_iconst C (v := 1) (gDec_at D_L_law_2 28 rfl) (by decide) ?_
        refine gx_iadd C (gDec_at D_L_law_2 29 rfl) ?_
        obtain ⟨b82, hF⟩ := gGd hF
        refine gx_sld C SX b82 (gDec_at D_L_law_2 30 rfl) ?_
        refine gx_aload_n C 0 (gDec_at D_L_law_2 31 rfl) rfl rfl ?_
        refine gx_iload_n C 3 (gDec_at D_L_law_2 32 rfl) rfl rfl ?_
        refine gx_iconst C (v := 2) (gDec_at D_L_law_2 33 rfl) (by decide) ?_
        refine gx_iadd C (gDec_at D_L_law_2 34 rfl) ?_
        obtain ⟨b83, hF⟩ := gGd hF
        refine gx_sld C SX b83 (gDec_at D_L_law_2 35 rfl) ?_
        obtain ⟨v85, hv84, hF⟩ := gBind hF
        refine gx_callV1 C (st := .long v81.1 :: []) 2 [.int (xs (gN (x3 + 1))), .int (xs (gN (x3 + 2)))] (m_X10_resistance w v81.2 A2 (xs (gN (x3 + 1))) (xs (gN (x3 + 2))) hv84) gL_law_X10_resistance rfl rfl rfl hy_X10_resistance (Nat.le_of_ble_eq_true rfl) (Nat.le_of_ble_eq_true rfl) (is_X10_sh A2) rfl rfl rfl (Nat.le_of_ble_eq_true rfl) (gDec_at D_L_law_2 36 rfl) ?_
        refine gx_lcmp_eq C 743 (gDec_at D_L_law_2 37 rfl) (gDec_at D_L_law_2 38 rfl) (by decide) (fun c => ?_) (fun c => ?_)
        · replace hF := gPos c hF
          refine gx_iinc C (j := 3) (v := x3 + 5) (lv' := [(3, .int (x3 + 5)), (0, .ref b), (1, .ref a1), (2, .ref a2)]) (gDec_at D_L_law_4 79 rfl) rfl (by rfl) (Nat.le_of_ble_eq_true rfl) rfl ?_
          refine gx_goto C 18 (gDec_at D_L_law_4 80 rfl) (by decide) ?_
          exact gx_sub [1, 2, 3, 0] rfl (ih (x3 + 5) v85.2 hF)
        · replace hF := gNeg c hF
          refine gx_iconst C (v := 0) (gDec_at D_L_law_2 39 rfl) (by decide) ?_
          cases hF
      replace hF := gNeg c13 hF
      by_cases c14 : ((xs (gN x3)) &&& 31) = 14
      · replace hF := gPos c14 hF
        refine gx_tableIn C 451 (gDec_at D_L_law_0 21 rfl) (by rw [c14]; decide) (by rw [c14]; decide) (by rw [c14]; rfl) (by decide) ?_
        refine gx_aload_n C 1 (gDec_at D_L_law_2 41 rfl) rfl rfl ?_
        refine gx_aload_n C 0 (gDec_at D_L_law_2 42 rfl) rfl rfl ?_
        refine gx_iload_n C 3 (gDec_at D_L_law_2 43 rfl) rfl rfl ?_
        refine gx_iconst C (v := 1) (gDec_at D_L_law_2 44 rfl) (by decide) ?_
        refine gx_iadd C (gDec_at D_L_law_2 45 rfl) ?_
        obtain ⟨b86, hF⟩ := gGd hF
        refine gx_sld C SX b86 (gDec_at D_L_law_2 46 rfl) ?_
        refine gx_aload_n C 0 (gDec_at D_L_law_2 47 rfl) rfl rfl ?_
        refine gx_iload_n C 3 (gDec_at D_L_law_2 48 rfl) rfl rfl ?_
        refine gx_iconst C (v := 2) (gDec_at D_L_law_2 49 rfl) (by decide) ?_
        refine gx_iadd C (gDec_at D_L_law_2 50 rfl) ?_
        obtain ⟨b87, hF⟩ := gGd hF
        refine gx_sld C SX b87 (gDec_at D_L_law_2 51 rfl) ?_
        obtain ⟨v89, hv88, hF⟩ := gBind hF
        refine gx_callV1 C (st := []) 2 [.int (xs (gN (x3 + 1))), .int (xs (gN (x3 + 2)))] (m_X9_folded w h A1 (xs (gN (x3 + 1))) (xs (gN (x3 + 2))) hv88) gL_law_X9_folded rfl rfl rfl hy_X9_folded (Nat.le_of_ble_eq_true rfl) (Nat.le_of_ble_eq_true rfl) (is_X9_sh A1) rfl rfl rfl (Nat.le_of_ble_eq_true rfl) (gDec_at D_L_law_2 52 rfl) ?_
        refine gx_aload_n C 2 (gDec_at D_L_law_2 53 rfl) rfl rfl ?_
        refine gx_aload_n C 0 (gDec_at D_L_law_2 54 rfl) rfl rfl ?_
        refine gx_iload_n C 3 (gDec_at D_L_law_2 55 rfl) rfl rfl ?_
        refine gx_iconst C (v := 1) (gDec_at D_L_law_2 56 rfl) (by decide) ?_
        refine gx_iadd C (gDec_at D_L_law_2 57 rfl) ?_
        obtain ⟨b90, hF⟩ := gGd hF
        refine gx_sld C SX b90 (gDec_at D_L_law_2 58 rfl) ?_
        refine gx_aload_n C 0 (gDec_at D_L_law_2 59 rfl) rfl rfl ?_
        refine gx_iload_n C 3 (gDec_at D_L_law_2 60 rfl) rfl rfl ?_
        refine gx_iconst C (v := 2) (gDec_at D_L_law_2 61 rfl) (by decide) ?_
        refine gx_iadd C (gDec_at D_L_law_2 62 rfl) ?_
        obtain ⟨b91, hF⟩ := gGd hF
        refine gx_sld C SX b91 (gDec_at D_L_law_2 63 rfl) ?_
        obtain ⟨v93, hv92, hF⟩ := gBind hF
        refine gx_callV1 C (st := .long v89.1 :: []) 2 [.int (xs (gN (x3 + 1))), .int (xs (gN (x3 + 2)))] (m_X10_folded w v89.2 A2 (xs (gN (x3 + 1))) (xs (gN (x3 + 2))) hv92) gL_law_X10_folded rfl rfl rfl hy_X10_folded (Nat.le_of_ble_eq_true rfl) (Nat.le_of_ble_eq_true rfl) (is_X10_sh A2) rfl rfl rfl (Nat.le_of_ble_eq_true rfl) (gDec_at D_L_law_2 64 rfl) ?_
        refine gx_lcmp_eq C 743 (gDec_at D_L_law_2 65 rfl) (gDec_at D_L_law_2 66 rfl) (by decide) (fun c => ?_) (fun c => ?_)
        · replace hF := gPos c hF
          refine gx_iinc C (j := 3) (v := x3 + 5) (lv' := [(3, .int (x3 + 5)), (0, .ref b), (1, .ref a1), (2, .ref a2)]) (gDec_at D_L_law_4 79 rfl) rfl (by rfl) (Nat.le_of_ble_eq_true rfl) rfl ?_
          refine gx_goto C 18 (gDec_at D_L_law_4 80 rfl) (by decide) ?_
          exact gx_sub [1, 2, 3, 0] rfl (ih (x3 + 5) v93.2 hF)
        · replace hF := gNeg c hF
          refine gx_iconst C (v := 0) (gDec_at D_L_law_2 67 rfl) (by decide) ?_
          cases hF
      replace hF := gNeg c14 hF
      by_cases c15 : ((xs (gN x3)) &&& 31) = 15
      · replace hF := gPos c15 hF
        refine gx_tableIn C 485 (gDec_at D_L_law_0 21 rfl) (by rw [c15]; decide) (by rw [c15]; decide) (by rw [c15]; rfl) (by decide) ?_
        refine gx_aload_n C 1 (gDec_at D_L_law_2 69 rfl) rfl rfl ?_
        refine gx_aload_n C 0 (gDec_at D_L_law_2 70 rfl) rfl rfl ?_
        refine gx_iload_n C 3 (gDec_at D_L_law_2 71 rfl) rfl rfl ?_
        refine gx_iconst C (v := 1) (gDec_at D_L_law_2 72 rfl) (by decide) ?_
        refine gx_iadd C (gDec_at D_L_law_2 73 rfl) ?_
        obtain ⟨b94, hF⟩ := gGd hF
        refine gx_sld C SX b94 (gDec_at D_L_law_2 74 rfl) ?_
        refine gx_aload_n C 0 (gDec_at D_L_law_2 75 rfl) rfl rfl ?_
        refine gx_iload_n C 3 (gDec_at D_L_law_2 76 rfl) rfl rfl ?_
        refine gx_iconst C (v := 2) (gDec_at D_L_law_2 77 rfl) (by decide) ?_
        refine gx_iadd C (gDec_at D_L_law_2 78 rfl) ?_
        obtain ⟨b95, hF⟩ := gGd hF
        refine gx_sld C SX b95 (gDec_at D_L_law_2 79 rfl) ?_
        obtain ⟨v97, hv96, hF⟩ := gBind hF
        refine gx_callV1 C (st := []) 2 [.int (xs (gN (x3 + 1))), .int (xs (gN (x3 + 2)))] (m_X9_voltage w h A1 (xs (gN (x3 + 1))) (xs (gN (x3 + 2))) hv96) gL_law_X9_voltage rfl rfl rfl hy_X9_voltage (Nat.le_of_ble_eq_true rfl) (Nat.le_of_ble_eq_true rfl) (is_X9_sh A1) rfl rfl rfl (Nat.le_of_ble_eq_true rfl) (gDec_at D_L_law_2 80 rfl) ?_
        refine gx_aload_n C 2 (gDec_at D_L_law_2 81 rfl) rfl rfl ?_
        refine gx_aload_n C 0 (gDec_at D_L_law_2 82 rfl) rfl rfl ?_
        refine gx_iload_n C 3 (gDec_at D_L_law_2 83 rfl) rfl rfl ?_
        refine gx_iconst C (v := 1) (gDec_at D_L_law_2 84 rfl) (by decide) ?_
        refine gx_iadd C (gDec_at D_L_law_2 85 rfl) ?_
        obtain ⟨b98, hF⟩ := gGd hF
        refine gx_sld C SX b98 (gDec_at D_L_law_2 86 rfl) ?_
        refine gx_aload_n C 0 (gDec_at D_L_law_2 87 rfl) rfl rfl ?_
        refine gx_iload_n C 3 (gDec_at D_L_law_2 88 rfl) rfl rfl ?_
        refine gx_iconst C (v := 2) (gDec_at D_L_law_2 89 rfl) (by decide) ?_
        refine gx_iadd C (gDec_at D_L_law_2 90 rfl) ?_
        obtain ⟨b99, hF⟩ := gGd hF
        refine gx_sld C SX b99 (gDec_at D_L_law_2 91 rfl) ?_
        obtain ⟨v101, hv100, hF⟩ := gBind hF
        refine gx_callV1 C (st := .long v97.1 :: []) 2 [.int (xs (gN (x3 + 1))), .int (xs (gN (x3 + 2)))] (m_X10_voltage w v97.2 A2 (xs (gN (x3 + 1))) (xs (gN (x3 + 2))) hv100) gL_law_X10_voltage rfl rfl rfl hy_X10_voltage (Nat.le_of_ble_eq_true rfl) (Nat.le_of_ble_eq_true rfl) (is_X10_sh A2) rfl rfl rfl (Nat.le_of_ble_eq_true rfl) (gDec_at D_L_law_2 92 rfl) ?_
        refine gx_lcmp_eq C 743 (gDec_at D_L_law_2 93 rfl) (gDec_at D_L_law_2 94 rfl) (by decide) (fun c => ?_) (fun c => ?_)
        · replace hF := gPos c hF
          refine gx_iinc C (j := 3) (v := x3 + 5) (lv' := [(3, .int (x3 + 5)), (0, .ref b), (1, .ref a1), (2, .ref a2)]) (gDec_at D_L_law_4 79 rfl) rfl (by rfl) (Nat.le_of_ble_eq_true rfl) rfl ?_
          refine gx_goto C 18 (gDec_at D_L_law_4 80 rfl) (by decide) ?_
          exact gx_sub [1, 2, 3, 0] rfl (ih (x3 + 5) v101.2 hF)
        · replace hF := gNeg c hF
          refine gx_iconst C (v := 0) (gDec_at D_L_law_2 95 rfl) (by decide) ?_
          cases hF
      replace hF := gNeg c15 hF
      by_cases c16 : ((xs (gN x3)) &&& 31) = 16
      · replace hF := gPos c16 hF
        refine gx_tableIn C 519 (gDec_at D_L_law_0 21 rfl) (by rw [c16]; decide) (by rw [c16]; decide) (by rw [c16]; rfl) (by decide) ?_
        refine gx_aload_n C 1 (gDec_at D_L_law_2 97 rfl) rfl rfl ?_
        refine gx_aload_n C 0 (gDec_at D_L_law_2 98 rfl) rfl rfl ?_
        refine gx_iload_n C 3 (gDec_at D_L_law_2 99 rfl) rfl rfl ?_
        refine gx_iconst C (v := 1) (gDec_at D_L_law_3 0 rfl) (by decide) ?_
        refine gx_iadd C (gDec_at D_L_law_3 1 rfl) ?_
        obtain ⟨b102, hF⟩ := gGd hF
        refine gx_sld C SX b102 (gDec_at D_L_law_3 2 rfl) ?_
        refine gx_aload_n C 0 (gDec_at D_L_law_3 3 rfl) rfl rfl ?_
        refine gx_iload_n C 3 (gDec_at D_L_law_3 4 rfl) rfl rfl ?_
        refine gx_iconst C (v := 2) (gDec_at D_L_law_3 5 rfl) (by decide) ?_
        refine gx_iadd C (gDec_at D_L_law_3 6 rfl) ?_
        obtain ⟨b103, hF⟩ := gGd hF
        refine gx_sld C SX b103 (gDec_at D_L_law_3 7 rfl) ?_
        obtain ⟨v105, hv104, hF⟩ := gBind hF
        refine gx_callV1 C (st := []) 2 [.int (xs (gN (x3 + 1))), .int (xs (gN (x3 + 2)))] (m_X9_reading w h A1 (xs (gN (x3 + 1))) (xs (gN (x3 + 2))) hv104) gL_law_X9_reading rfl rfl rfl hy_X9_reading (Nat.le_of_ble_eq_true rfl) (Nat.le_of_ble_eq_true rfl) (is_X9_sh A1) rfl rfl rfl (Nat.le_of_ble_eq_true rfl) (gDec_at D_L_law_3 8 rfl) ?_
        refine gx_aload_n C 2 (gDec_at D_L_law_3 9 rfl) rfl rfl ?_
        refine gx_aload_n C 0 (gDec_at D_L_law_3 10 rfl) rfl rfl ?_
        refine gx_iload_n C 3 (gDec_at D_L_law_3 11 rfl) rfl rfl ?_
        refine gx_iconst C (v := 1) (gDec_at D_L_law_3 12 rfl) (by decide) ?_
        refine gx_iadd C (gDec_at D_L_law_3 13 rfl) ?_
        obtain ⟨b106, hF⟩ := gGd hF
        refine gx_sld C SX b106 (gDec_at D_L_law_3 14 rfl) ?_
        refine gx_aload_n C 0 (gDec_at D_L_law_3 15 rfl) rfl rfl ?_
        refine gx_iload_n C 3 (gDec_at D_L_law_3 16 rfl) rfl rfl ?_
        refine gx_iconst C (v := 2) (gDec_at D_L_law_3 17 rfl) (by decide) ?_
        refine gx_iadd C (gDec_at D_L_law_3 18 rfl) ?_
        obtain ⟨b107, hF⟩ := gGd hF
        refine gx_sld C SX b107 (gDec_at D_L_law_3 19 rfl) ?_
        obtain ⟨v109, hv108, hF⟩ := gBind hF
        refine gx_callV1 C (st := .long v105.1 :: []) 2 [.int (xs (gN (x3 + 1))), .int (xs (gN (x3 + 2)))] (m_X10_reading w v105.2 A2 (xs (gN (x3 + 1))) (xs (gN (x3 + 2))) hv108) gL_law_X10_reading rfl rfl rfl hy_X10_reading (Nat.le_of_ble_eq_true rfl) (Nat.le_of_ble_eq_true rfl) (is_X10_sh A2) rfl rfl rfl (Nat.le_of_ble_eq_true rfl) (gDec_at D_L_law_3 20 rfl) ?_
        refine gx_lcmp_eq C 743 (gDec_at D_L_law_3 21 rfl) (gDec_at D_L_law_3 22 rfl) (by decide) (fun c => ?_) (fun c => ?_)
        · replace hF := gPos c hF
          refine gx_iinc C (j := 3) (v := x3 + 5) (lv' := [(3, .int (x3 + 5)), (0, .ref b), (1, .ref a1), (2, .ref a2)]) (gDec_at D_L_law_4 79 rfl) rfl (by rfl) (Nat.le_of_ble_eq_true rfl) rfl ?_
          refine gx_goto C 18 (gDec_at D_L_law_4 80 rfl) (by decide) ?_
          exact gx_sub [1, 2, 3, 0] rfl (ih (x3 + 5) v109.2 hF)
        · replace hF := gNeg c hF
          refine gx_iconst C (v := 0) (gDec_at D_L_law_3 23 rfl) (by decide) ?_
          cases hF
      replace hF := gNeg c16 hF
      by_cases c17 : ((xs (gN x3)) &&& 31) = 17
      · replace hF := gPos c17 hF
        refine gx_tableIn C 553 (gDec_at D_L_law_0 21 rfl) (by rw [c17]; decide) (by rw [c17]; decide) (by rw [c17]; rfl) (by decide) ?_
        refine gx_aload_n C 1 (gDec_at D_L_law_3 25 rfl) rfl rfl ?_
        refine gx_aload_n C 0 (gDec_at D_L_law_3 26 rfl) rfl rfl ?_
        refine gx_iload_n C 3 (gDec_at D_L_law_3 27 rfl) rfl rfl ?_
        refine gx_iconst C (v := 1) (gDec_at D_L_law_3 28 rfl) (by decide) ?_
        refine gx_iadd C (gDec_at D_L_law_3 29 rfl) ?_
        obtain ⟨b110, hF⟩ := gGd hF
        refine gx_sld C SX b110 (gDec_at D_L_law_3 30 rfl) ?_
        obtain ⟨v112, hv111, hF⟩ := gBind hF
        refine gx_callV1 C (st := []) 1 [.int (xs (gN (x3 + 1)))] (m_X9_loss w h A1 (xs (gN (x3 + 1))) hv111) gL_law_X9_loss rfl rfl rfl hy_X9_loss (Nat.le_of_ble_eq_true rfl) (Nat.le_of_ble_eq_true rfl) (is_X9_sh A1) rfl rfl rfl (Nat.le_of_ble_eq_true rfl) (gDec_at D_L_law_3 31 rfl) ?_
        refine gx_aload_n C 2 (gDec_at D_L_law_3 32 rfl) rfl rfl ?_
        refine gx_aload_n C 0 (gDec_at D_L_law_3 33 rfl) rfl rfl ?_
        refine gx_iload_n C 3 (gDec_at D_L_law_3 34 rfl) rfl rfl ?_
        refine gx_iconst C (v := 1) (gDec_at D_L_law_3 35 rfl) (by decide) ?_
        refine gx_iadd C (gDec_at D_L_law_3 36 rfl) ?_
        obtain ⟨b113, hF⟩ := gGd hF
        refine gx_sld C SX b113 (gDec_at D_L_law_3 37 rfl) ?_
        obtain ⟨v115, hv114, hF⟩ := gBind hF
        refine gx_callV1 C (st := .int v112.1 :: []) 1 [.int (xs (gN (x3 + 1)))] (m_X10_loss w v112.2 A2 (xs (gN (x3 + 1))) hv114) gL_law_X10_loss rfl rfl rfl hy_X10_loss (Nat.le_of_ble_eq_true rfl) (Nat.le_of_ble_eq_true rfl) (is_X10_sh A2) rfl rfl rfl (Nat.le_of_ble_eq_true rfl) (gDec_at D_L_law_3 38 rfl) ?_
        refine gx_icmp_eq C 743 (gDec_at D_L_law_3 39 rfl) (by decide) (fun c => ?_) (fun c => ?_)
        · replace hF := gPos c hF
          refine gx_iinc C (j := 3) (v := x3 + 5) (lv' := [(3, .int (x3 + 5)), (0, .ref b), (1, .ref a1), (2, .ref a2)]) (gDec_at D_L_law_4 79 rfl) rfl (by rfl) (Nat.le_of_ble_eq_true rfl) rfl ?_
          refine gx_goto C 18 (gDec_at D_L_law_4 80 rfl) (by decide) ?_
          exact gx_sub [1, 2, 3, 0] rfl (ih (x3 + 5) v115.2 hF)
        · replace hF := gNeg c hF
          refine gx_iconst C (v := 0) (gDec_at D_L_law_3 40 rfl) (by decide) ?_
          cases hF
      replace hF := gNeg c17 hF
      by_cases c18 : ((xs (gN x3)) &&& 31) = 18
      · replace hF := gPos c18 hF
        refine gx_tableIn C 576 (gDec_at D_L_law_0 21 rfl) (by rw [c18]; decide) (by rw [c18]; decide) (by rw [c18]; rfl) (by decide) ?_
        refine gx_aload_n C 1 (gDec_at D_L_law_3 42 rfl) rfl rfl ?_
        refine gx_aload_n C 0 (gDec_at D_L_law_3 43 rfl) rfl rfl ?_
        refine gx_iload_n C 3 (gDec_at D_L_law_3 44 rfl) rfl rfl ?_
        refine gx_iconst C (v := 1) (gDec_at D_L_law_3 45 rfl) (by decide) ?_
        refine gx_iadd C (gDec_at D_L_law_3 46 rfl) ?_
        obtain ⟨b116, hF⟩ := gGd hF
        refine gx_sld C SX b116 (gDec_at D_L_law_3 47 rfl) ?_
        refine gx_aload_n C 0 (gDec_at D_L_law_3 48 rfl) rfl rfl ?_
        refine gx_iload_n C 3 (gDec_at D_L_law_3 49 rfl) rfl rfl ?_
        refine gx_iconst C (v := 2) (gDec_at D_L_law_3 50 rfl) (by decide) ?_
        refine gx_iadd C (gDec_at D_L_law_3 51 rfl) ?_
        obtain ⟨b117, hF⟩ := gGd hF
        refine gx_sld C SX b117 (gDec_at D_L_law_3 52 rfl) ?_
        obtain ⟨v119, hv118, hF⟩ := gBind hF
        refine gx_callV1 C (st := []) 2 [.int (xs (gN (x3 + 1))), .int (xs (gN (x3 + 2)))] (m_X9_noted w h A1 (xs (gN (x3 + 1))) (xs (gN (x3 + 2))) hv118) gL_law_X9_noted rfl rfl rfl hy_X9_noted (Nat.le_of_ble_eq_true rfl) (Nat.le_of_ble_eq_true rfl) (is_X9_sh A1) rfl rfl rfl (Nat.le_of_ble_eq_true rfl) (gDec_at D_L_law_3 53 rfl) ?_
        refine gx_aload_n C 2 (gDec_at D_L_law_3 54 rfl) rfl rfl ?_
        refine gx_aload_n C 0 (gDec_at D_L_law_3 55 rfl) rfl rfl ?_
        refine gx_iload_n C 3 (gDec_at D_L_law_3 56 rfl) rfl rfl ?_
        refine gx_iconst C (v := 1) (gDec_at D_L_law_3 57 rfl) (by decide) ?_
        refine gx_iadd C (gDec_at D_L_law_3 58 rfl) ?_
        obtain ⟨b120, hF⟩ := gGd hF
        refine gx_sld C SX b120 (gDec_at D_L_law_3 59 rfl) ?_
        refine gx_aload_n C 0 (gDec_at D_L_law_3 60 rfl) rfl rfl ?_
        refine gx_iload_n C 3 (gDec_at D_L_law_3 61 rfl) rfl rfl ?_
        refine gx_iconst C (v := 2) (gDec_at D_L_law_3 62 rfl) (by decide) ?_
        refine gx_iadd C (gDec_at D_L_law_3 63 rfl) ?_
        obtain ⟨b121, hF⟩ := gGd hF
        refine gx_sld C SX b121 (gDec_at D_L_law_3 64 rfl) ?_
        obtain ⟨v123, hv122, hF⟩ := gBind hF
        refine gx_callV1 C (st := .long v119 :: []) 2 [.int (xs (gN (x3 + 1))), .int (xs (gN (x3 + 2)))] (m_X10_noted w h A2 (xs (gN (x3 + 1))) (xs (gN (x3 + 2))) hv122) gL_law_X10_noted rfl rfl rfl hy_X10_noted (Nat.le_of_ble_eq_true rfl) (Nat.le_of_ble_eq_true rfl) (is_X10_sh A2) rfl rfl rfl (Nat.le_of_ble_eq_true rfl) (gDec_at D_L_law_3 65 rfl) ?_
        refine gx_lcmp_eq C 743 (gDec_at D_L_law_3 66 rfl) (gDec_at D_L_law_3 67 rfl) (by decide) (fun c => ?_) (fun c => ?_)
        · replace hF := gPos c hF
          refine gx_iinc C (j := 3) (v := x3 + 5) (lv' := [(3, .int (x3 + 5)), (0, .ref b), (1, .ref a1), (2, .ref a2)]) (gDec_at D_L_law_4 79 rfl) rfl (by rfl) (Nat.le_of_ble_eq_true rfl) rfl ?_
          refine gx_goto C 18 (gDec_at D_L_law_4 80 rfl) (by decide) ?_
          exact gx_sub [1, 2, 3, 0] rfl (ih (x3 + 5) h hF)
        · replace hF := gNeg c hF
          refine gx_iconst C (v := 0) (gDec_at D_L_law_3 68 rfl) (by decide) ?_
          cases hF
      replace hF := gNeg c18 hF
      by_cases c19 : ((xs (gN x3)) &&& 31) = 19
      · replace hF := gPos c19 hF
        refine gx_tableIn C 610 (gDec_at D_L_law_0 21 rfl) (by rw [c19]; decide) (by rw [c19]; decide) (by rw [c19]; rfl) (by decide) ?_
        refine gx_aload_n C 1 (gDec_at D_L_law_3 70 rfl) rfl rfl ?_
        refine gx_aload_n C 0 (gDec_at D_L_law_3 71 rfl) rfl rfl ?_
        refine gx_iload_n C 3 (gDec_at D_L_law_3 72 rfl) rfl rfl ?_
        refine gx_iconst C (v := 1) (gDec_at D_L_law_3 73 rfl) (by decide) ?_
        refine gx_iadd C (gDec_at D_L_law_3 74 rfl) ?_
        obtain ⟨b124, hF⟩ := gGd hF
        refine gx_sld C SX b124 (gDec_at D_L_law_3 75 rfl) ?_
        refine gx_aload_n C 0 (gDec_at D_L_law_3 76 rfl) rfl rfl ?_
        refine gx_iload_n C 3 (gDec_at D_L_law_3 77 rfl) rfl rfl ?_
        refine gx_iconst C (v := 2) (gDec_at D_L_law_3 78 rfl) (by decide) ?_
        refine gx_iadd C (gDec_at D_L_law_3 79 rfl) ?_
        obtain ⟨b125, hF⟩ := gGd hF
        refine gx_sld C SX b125 (gDec_at D_L_law_3 80 rfl) ?_
        refine gx_aload_n C 0 (gDec_at D_L_law_3 81 rfl) rfl rfl ?_
        refine gx_iload_n C 3 (gDec_at D_L_law_3 82 rfl) rfl rfl ?_
        refine gx_iconst C (v := 3) (gDec_at D_L_law_3 83 rfl) (by decide) ?_
        refine gx_iadd C (gDec_at D_L_law_3 84 rfl) ?_
        obtain ⟨b126, hF⟩ := gGd hF
        refine gx_sld C SX b126 (gDec_at D_L_law_3 85 rfl) ?_
        refine gx_aload_n C 0 (gDec_at D_L_law_3 86 rfl) rfl rfl ?_
        refine gx_iload_n C 3 (gDec_at D_L_law_3 87 rfl) rfl rfl ?_
        refine gx_iconst C (v := 4) (gDec_at D_L_law_3 88 rfl) (by decide) ?_
        refine gx_iadd C (gDec_at D_L_law_3 89 rfl) ?_
        obtain ⟨b127, hF⟩ := gGd hF
        refine gx_sld C SX b127 (gDec_at D_L_law_3 90 rfl) ?_
        obtain ⟨v129, hv128, hF⟩ := gBind hF
        refine gx_callV1 C (st := []) 4 [.int (xs (gN (x3 + 1))), .int (xs (gN (x3 + 2))), .int (xs (gN (x3 + 3))), .int (xs (gN (x3 + 4)))] (m_X9_solve w h A1 (xs (gN (x3 + 1))) (xs (gN (x3 + 2))) (xs (gN (x3 + 3))) (xs (gN (x3 + 4))) hv128) gL_law_X9_solve rfl rfl rfl hy_X9_solve (Nat.le_of_ble_eq_true rfl) (Nat.le_of_ble_eq_true rfl) (is_X9_sh A1) rfl rfl rfl (Nat.le_of_ble_eq_true rfl) (gDec_at D_L_law_3 91 rfl) ?_
        refine gx_aload_n C 2 (gDec_at D_L_law_3 92 rfl) rfl rfl ?_
        refine gx_aload_n C 0 (gDec_at D_L_law_3 93 rfl) rfl rfl ?_
        refine gx_iload_n C 3 (gDec_at D_L_law_3 94 rfl) rfl rfl ?_
        refine gx_iconst C (v := 1) (gDec_at D_L_law_3 95 rfl) (by decide) ?_
        refine gx_iadd C (gDec_at D_L_law_3 96 rfl) ?_
        obtain ⟨b130, hF⟩ := gGd hF
        refine gx_sld C SX b130 (gDec_at D_L_law_3 97 rfl) ?_
        refine gx_aload_n C 0 (gDec_at D_L_law_3 98 rfl) rfl rfl ?_
        refine gx_iload_n C 3 (gDec_at D_L_law_3 99 rfl) rfl rfl ?_
        refine gx_iconst C (v := 2) (gDec_at D_L_law_4 0 rfl) (by decide) ?_
        refine gx_iadd C (gDec_at D_L_law_4 1 rfl) ?_
        obtain ⟨b131, hF⟩ := gGd hF
        refine gx_sld C SX b131 (gDec_at D_L_law_4 2 rfl) ?_
        refine gx_aload_n C 0 (gDec_at D_L_law_4 3 rfl) rfl rfl ?_
        refine gx_iload_n C 3 (gDec_at D_L_law_4 4 rfl) rfl rfl ?_
        refine gx_iconst C (v := 3) (gDec_at D_L_law_4 5 rfl) (by decide) ?_
        refine gx_iadd C (gDec_at D_L_law_4 6 rfl) ?_
        obtain ⟨b132, hF⟩ := gGd hF
        refine gx_sld C SX b132 (gDec_at D_L_law_4 7 rfl) ?_
        refine gx_aload_n C 0 (gDec_at D_L_law_4 8 rfl) rfl rfl ?_
        refine gx_iload_n C 3 (gDec_at D_L_law_4 9 rfl) rfl rfl ?_
        refine gx_iconst C (v := 4) (gDec_at D_L_law_4 10 rfl) (by decide) ?_
        refine gx_iadd C (gDec_at D_L_law_4 11 rfl) ?_
        obtain ⟨b133, hF⟩ := gGd hF
        refine gx_sld C SX b133 (gDec_at D_L_law_4 12 rfl) ?_
        obtain ⟨v135, hv134, hF⟩ := gBind hF
        refine gx_callV1 C (st := .long v129.1 :: []) 4 [.int (xs (gN (x3 + 1))), .int (xs (gN (x3 + 2))), .int (xs (gN (x3 + 3))), .int (xs (gN (x3 + 4)))] (m_X10_solve w v129.2 A2 (xs (gN (x3 + 1))) (xs (gN (x3 + 2))) (xs (gN (x3 + 3))) (xs (gN (x3 + 4))) hv134) gL_law_X10_solve rfl rfl rfl hy_X10_solve (Nat.le_of_ble_eq_true rfl) (Nat.le_of_ble_eq_true rfl) (is_X10_sh A2) rfl rfl rfl (Nat.le_of_ble_eq_true rfl) (gDec_at D_L_law_4 13 rfl) ?_
        refine gx_lcmp_eq C 743 (gDec_at D_L_law_4 14 rfl) (gDec_at D_L_law_4 15 rfl) (by decide) (fun c => ?_) (fun c => ?_)
        · replace hF := gPos c hF
          refine gx_iinc C (j := 3) (v := x3 + 5) (lv' := [(3, .int (x3 + 5)), (0, .ref b), (1, .ref a1), (2, .ref a2)]) (gDec_at D_L_law_4 79 rfl) rfl (by rfl) (Nat.le_of_ble_eq_true rfl) rfl ?_
          refine gx_goto C 18 (gDec_at D_L_law_4 80 rfl) (by decide) ?_
          exact gx_sub [1, 2, 3, 0] rfl (ih (x3 + 5) v135.2 hF)
        · replace hF := gNeg c hF
          refine gx_iconst C (v := 0) (gDec_at D_L_law_4 16 rfl) (by decide) ?_
          cases hF
      replace hF := gNeg c19 hF
      by_cases c20 : ((xs (gN x3)) &&& 31) = 20
      · replace hF := gPos c20 hF
        refine gx_tableIn C 664 (gDec_at D_L_law_0 21 rfl) (by rw [c20]; decide) (by rw [c20]; decide) (by rw [c20]; rfl) (by decide) ?_
        refine gx_aload_n C 1 (gDec_at D_L_law_4 18 rfl) rfl rfl ?_
        refine gx_aload_n C 0 (gDec_at D_L_law_4 19 rfl) rfl rfl ?_
        refine gx_iload_n C 3 (gDec_at D_L_law_4 20 rfl) rfl rfl ?_
        refine gx_iconst C (v := 1) (gDec_at D_L_law_4 21 rfl) (by decide) ?_
        refine gx_iadd C (gDec_at D_L_law_4 22 rfl) ?_
        obtain ⟨b136, hF⟩ := gGd hF
        refine gx_sld C SX b136 (gDec_at D_L_law_4 23 rfl) ?_
        refine gx_aload_n C 0 (gDec_at D_L_law_4 24 rfl) rfl rfl ?_
        refine gx_iload_n C 3 (gDec_at D_L_law_4 25 rfl) rfl rfl ?_
        refine gx_iconst C (v := 2) (gDec_at D_L_law_4 26 rfl) (by decide) ?_
        refine gx_iadd C (gDec_at D_L_law_4 27 rfl) ?_
        obtain ⟨b137, hF⟩ := gGd hF
        refine gx_sld C SX b137 (gDec_at D_L_law_4 28 rfl) ?_
        refine gx_aload_n C 0 (gDec_at D_L_law_4 29 rfl) rfl rfl ?_
        refine gx_iload_n C 3 (gDec_at D_L_law_4 30 rfl) rfl rfl ?_
        refine gx_iconst C (v := 3) (gDec_at D_L_law_4 31 rfl) (by decide) ?_
        refine gx_iadd C (gDec_at D_L_law_4 32 rfl) ?_
        obtain ⟨b138, hF⟩ := gGd hF
        refine gx_sld C SX b138 (gDec_at D_L_law_4 33 rfl) ?_
        obtain ⟨v140, hv139, hF⟩ := gBind hF
        refine gx_callV1 C (st := []) 3 [.int (xs (gN (x3 + 1))), .int (xs (gN (x3 + 2))), .int (xs (gN (x3 + 3)))] (m_X9_fault w h A1 (xs (gN (x3 + 1))) (xs (gN (x3 + 2))) (xs (gN (x3 + 3))) hv139) gL_law_X9_fault rfl rfl rfl hy_X9_fault (Nat.le_of_ble_eq_true rfl) (Nat.le_of_ble_eq_true rfl) (is_X9_sh A1) rfl rfl rfl (Nat.le_of_ble_eq_true rfl) (gDec_at D_L_law_4 34 rfl) ?_
        refine gx_aload_n C 2 (gDec_at D_L_law_4 35 rfl) rfl rfl ?_
        refine gx_aload_n C 0 (gDec_at D_L_law_4 36 rfl) rfl rfl ?_
        refine gx_iload_n C 3 (gDec_at D_L_law_4 37 rfl) rfl rfl ?_
        refine gx_iconst C (v := 1) (gDec_at D_L_law_4 38 rfl) (by decide) ?_
        refine gx_iadd C (gDec_at D_L_law_4 39 rfl) ?_
        obtain ⟨b141, hF⟩ := gGd hF
        refine gx_sld C SX b141 (gDec_at D_L_law_4 40 rfl) ?_
        refine gx_aload_n C 0 (gDec_at D_L_law_4 41 rfl) rfl rfl ?_
        refine gx_iload_n C 3 (gDec_at D_L_law_4 42 rfl) rfl rfl ?_
        refine gx_iconst C (v := 2) (gDec_at D_L_law_4 43 rfl) (by decide) ?_
        refine gx_iadd C (gDec_at D_L_law_4 44 rfl) ?_
        obtain ⟨b142, hF⟩ := gGd hF
        refine gx_sld C SX b142 (gDec_at D_L_law_4 45 rfl) ?_
        refine gx_aload_n C 0 (gDec_at D_L_law_4 46 rfl) rfl rfl ?_
        refine gx_iload_n C 3 (gDec_at D_L_law_4 47 rfl) rfl rfl ?_
        refine gx_iconst C (v := 3) (gDec_at D_L_law_4 48 rfl) (by decide) ?_
        refine gx_iadd C (gDec_at D_L_law_4 49 rfl) ?_
        obtain ⟨b143, hF⟩ := gGd hF
        refine gx_sld C SX b143 (gDec_at D_L_law_4 50 rfl) ?_
        obtain ⟨v145, hv144, hF⟩ := gBind hF
        refine gx_callV1 C (st := .int v140.1 :: []) 3 [.int (xs (gN (x3 + 1))), .int (xs (gN (x3 + 2))), .int (xs (gN (x3 + 3)))] (m_X10_fault w v140.2 A2 (xs (gN (x3 + 1))) (xs (gN (x3 + 2))) (xs (gN (x3 + 3))) hv144) gL_law_X10_fault rfl rfl rfl hy_X10_fault (Nat.le_of_ble_eq_true rfl) (Nat.le_of_ble_eq_true rfl) (is_X10_sh A2) rfl rfl rfl (Nat.le_of_ble_eq_true rfl) (gDec_at D_L_law_4 51 rfl) ?_
        refine gx_icmp_eq C 743 (gDec_at D_L_law_4 52 rfl) (by decide) (fun c => ?_) (fun c => ?_)
        · replace hF := gPos c hF
          refine gx_iinc C (j := 3) (v := x3 + 5) (lv' := [(3, .int (x3 + 5)), (0, .ref b), (1, .ref a1), (2, .ref a2)]) (gDec_at D_L_law_4 79 rfl) rfl (by rfl) (Nat.le_of_ble_eq_true rfl) rfl ?_
          refine gx_goto C 18 (gDec_at D_L_law_4 80 rfl) (by decide) ?_
          exact gx_sub [1, 2, 3, 0] rfl (ih (x3 + 5) v145.2 hF)
        · replace hF := gNeg c hF
          refine gx_iconst C (v := 0) (gDec_at D_L_law_4 53 rfl) (by decide) ?_
          cases hF
      replace hF := gNeg c20 hF
      by_cases c21 : ((xs (gN x3)) &&& 31) = 21
      · replace hF := gPos c21 hF
        refine gx_tableIn C 707 (gDec_at D_L_law_0 21 rfl) (by rw [c21]; decide) (by rw [c21]; decide) (by rw [c21]; rfl) (by decide) ?_
        refine gx_aload_n C 1 (gDec_at D_L_law_4 55 rfl) rfl rfl ?_
        obtain ⟨v147, hv146, hF⟩ := gBind hF
        refine gx_callV1 C (st := []) 0 [] (m_X9_worst w h A1 hv146) gL_law_X9_worst rfl rfl rfl hy_X9_worst (Nat.le_of_ble_eq_true rfl) (Nat.le_of_ble_eq_true rfl) (is_X9_sh A1) rfl rfl rfl (Nat.le_of_ble_eq_true rfl) (gDec_at D_L_law_4 56 rfl) ?_
        refine gx_aload_n C 2 (gDec_at D_L_law_4 57 rfl) rfl rfl ?_
        obtain ⟨v149, hv148, hF⟩ := gBind hF
        refine gx_callV1 C (st := .int v147.1 :: []) 0 [] (m_X10_worst w v147.2 A2 hv148) gL_law_X10_worst rfl rfl rfl hy_X10_worst (Nat.le_of_ble_eq_true rfl) (Nat.le_of_ble_eq_true rfl) (is_X10_sh A2) rfl rfl rfl (Nat.le_of_ble_eq_true rfl) (gDec_at D_L_law_4 58 rfl) ?_
        refine gx_icmp_eq C 743 (gDec_at D_L_law_4 59 rfl) (by decide) (fun c => ?_) (fun c => ?_)
        · replace hF := gPos c hF
          refine gx_iinc C (j := 3) (v := x3 + 5) (lv' := [(3, .int (x3 + 5)), (0, .ref b), (1, .ref a1), (2, .ref a2)]) (gDec_at D_L_law_4 79 rfl) rfl (by rfl) (Nat.le_of_ble_eq_true rfl) rfl ?_
          refine gx_goto C 18 (gDec_at D_L_law_4 80 rfl) (by decide) ?_
          exact gx_sub [1, 2, 3, 0] rfl (ih (x3 + 5) v149.2 hF)
        · replace hF := gNeg c hF
          refine gx_iconst C (v := 0) (gDec_at D_L_law_4 60 rfl) (by decide) ?_
          cases hF
      replace hF := gNeg c21 hF
      by_cases c22 : ((xs (gN x3)) &&& 31) = 22
      · replace hF := gPos c22 hF
        refine gx_tableIn C 720 (gDec_at D_L_law_0 21 rfl) (by rw [c22]; decide) (by rw [c22]; decide) (by rw [c22]; rfl) (by decide) ?_
        refine gx_aload_n C 1 (gDec_at D_L_law_4 62 rfl) rfl rfl ?_
        refine gx_aload_n C 0 (gDec_at D_L_law_4 63 rfl) rfl rfl ?_
        refine gx_iload_n C 3 (gDec_at D_L_law_4 64 rfl) rfl rfl ?_
        refine gx_iconst C (v := 1) (gDec_at D_L_law_4 65 rfl) (by decide) ?_
        refine gx_iadd C (gDec_at D_L_law_4 66 rfl) ?_
        obtain ⟨b150, hF⟩ := gGd hF
        refine gx_sld C SX b150 (gDec_at D_L_law_4 67 rfl) ?_
        obtain ⟨v152, hv151, hF⟩ := gBind hF
        refine gx_callV1 C (st := []) 1 [.int (xs (gN (x3 + 1)))] (m_X9_count w h A1 (xs (gN (x3 + 1))) hv151) gL_law_X9_count rfl rfl rfl hy_X9_count (Nat.le_of_ble_eq_true rfl) (Nat.le_of_ble_eq_true rfl) (is_X9_sh A1) rfl rfl rfl (Nat.le_of_ble_eq_true rfl) (gDec_at D_L_law_4 68 rfl) ?_
        refine gx_aload_n C 2 (gDec_at D_L_law_4 69 rfl) rfl rfl ?_
        refine gx_aload_n C 0 (gDec_at D_L_law_4 70 rfl) rfl rfl ?_
        refine gx_iload_n C 3 (gDec_at D_L_law_4 71 rfl) rfl rfl ?_
        refine gx_iconst C (v := 1) (gDec_at D_L_law_4 72 rfl) (by decide) ?_
        refine gx_iadd C (gDec_at D_L_law_4 73 rfl) ?_
        obtain ⟨b153, hF⟩ := gGd hF
        refine gx_sld C SX b153 (gDec_at D_L_law_4 74 rfl) ?_
        obtain ⟨v155, hv154, hF⟩ := gBind hF
        refine gx_callV1 C (st := .int v152 :: []) 1 [.int (xs (gN (x3 + 1)))] (m_X10_count w h A2 (xs (gN (x3 + 1))) hv154) gL_law_X10_count rfl rfl rfl hy_X10_count (Nat.le_of_ble_eq_true rfl) (Nat.le_of_ble_eq_true rfl) (is_X10_sh A2) rfl rfl rfl (Nat.le_of_ble_eq_true rfl) (gDec_at D_L_law_4 75 rfl) ?_
        refine gx_icmp_eq C 743 (gDec_at D_L_law_4 76 rfl) (by decide) (fun c => ?_) (fun c => ?_)
        · replace hF := gPos c hF
          refine gx_iinc C (j := 3) (v := x3 + 5) (lv' := [(3, .int (x3 + 5)), (0, .ref b), (1, .ref a1), (2, .ref a2)]) (gDec_at D_L_law_4 79 rfl) rfl (by rfl) (Nat.le_of_ble_eq_true rfl) rfl ?_
          refine gx_goto C 18 (gDec_at D_L_law_4 80 rfl) (by decide) ?_
          exact gx_sub [1, 2, 3, 0] rfl (ih (x3 + 5) h hF)
        · replace hF := gNeg c hF
          refine gx_iconst C (v := 0) (gDec_at D_L_law_4 77 rfl) (by decide) ?_
          cases hF
      replace hF := gNeg c22 hF
      refine gx_tableOut C 743 (gDec_at D_L_law_0 21 rfl) (gSw _ 22 (by decide) (fun k hk => match k, hk with | 0, _ => c0 | 1, _ => c1 | 2, _ => c2 | 3, _ => c3 | 4, _ => c4 | 5, _ => c5 | 6, _ => c6 | 7, _ => c7 | 8, _ => c8 | 9, _ => c9 | 10, _ => c10 | 11, _ => c11 | 12, _ => c12 | 13, _ => c13 | 14, _ => c14 | 15, _ => c15 | 16, _ => c16 | 17, _ => c17 | 18, _ => c18 | 19, _ => c19 | 20, _ => c20 | 21, _ => c21 | 22, _ => c22 | k + 23, hk => absurd hk (by omega))) (by decide) ?_
      refine gx_iinc C (j := 3) (v := x3 + 5) (lv' := [(3, .int (x3 + 5)), (0, .ref b), (1, .ref a1), (2, .ref a2)]) (gDec_at D_L_law_4 79 rfl) rfl (by rfl) (Nat.le_of_ble_eq_true rfl) rfl ?_
      refine gx_goto C 18 (gDec_at D_L_law_4 80 rfl) (by decide) ?_
      exact gx_sub [1, 2, 3, 0] rfl (ih (x3 + 5) h hF)
