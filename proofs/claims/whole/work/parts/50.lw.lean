/-! THE LAW, words: what its calls need, out of the tables -/
def lwG : List Cond := lw_tbl.filter goodWord
theorem in_idx {big ws : List Cond} (ps : List Nat) (hp : ws = ps.filterMap (fun i => big[i]?)) : ∀ w ∈ ws, w ∈ big := by
  intro w hw
  rw [hp, List.mem_filterMap] at hw
  obtain ⟨i, -, e⟩ := hw
  exact List.mem_of_getElem? e
theorem wi_app {big a b : List Cond} (ha : ∀ w ∈ a, w ∈ big) (hb : ∀ w ∈ b, w ∈ big) : ∀ w ∈ a ++ b, w ∈ big := fun w h => (List.mem_append.mp h).elim (ha w) (hb w)
theorem wi_cons {big a : List Cond} {c : Cond} (hc : c ∈ big) (ha : ∀ w ∈ a, w ∈ big) : ∀ w ∈ c :: a, w ∈ big := fun w h => (List.mem_cons.mp h).elim (fun e => e ▸ hc) (ha w)
theorem lwG_of {ws : List Cond} (hm : ∀ w ∈ ws, w ∈ lw_tbl) (h : ws.all goodWord = true) : GoodIn lwG ws := fun w hw => ⟨List.mem_filter.mpr ⟨hm w hw, List.all_eq_true.mp h w hw⟩, good_of_word (List.all_eq_true.mp h w hw)⟩
theorem lwG_up {ws : List Cond} (h : GoodIn lwG ws) : GoodIn lw_tbl ws := fun w hw => ⟨(List.mem_filter.mp (h w hw).1).1, (h w hw).2⟩
theorem lwG_cons {c : Cond} {ws : List Cond} (h : GoodIn lwG ws) : GoodIn (c :: lwG) ws := fun w hw => ⟨List.mem_cons_of_mem _ (h w hw).1, (h w hw).2⟩
theorem lwG_self : GoodIn lw_tbl lwG := fun w hw => ⟨(List.mem_filter.mp hw).1, good_of_word (List.mem_filter.mp hw).2⟩
theorem inX0 : ∀ w ∈ wsX00, w ∈ lw_tbl := by decide +kernel
theorem inX1 : ∀ w ∈ wsX10, w ∈ lw_tbl := by decide +kernel
theorem inX2 : ∀ w ∈ wsX20, w ∈ lw_tbl := by decide +kernel
theorem inX3 : ∀ w ∈ wsX30, w ∈ lw_tbl := by decide +kernel
theorem inX4 : ∀ w ∈ wsX40, w ∈ lw_tbl := by decide +kernel
theorem inX5 : ∀ w ∈ wsX50, w ∈ lw_tbl := by decide +kernel
theorem inX6 : ∀ w ∈ wsX60, w ∈ lw_tbl := by decide +kernel
theorem in_x0 : ∀ w ∈ (vx_atS RX5 45 "java/lang/IllegalArgumentException" ["java/lang/RuntimeException", "java/lang/Exception"]).filter goodWord, w ∈ lw_tbl := by decide +kernel
theorem in_x1 : ∀ w ∈ (vx_atS RX5 59 "java/lang/IllegalStateException" ["java/lang/RuntimeException", "java/lang/Exception"]).filter goodWord, w ∈ lw_tbl := by decide +kernel
theorem in_x2 : ∀ w ∈ (vx_atS RX5 120 "java/lang/IndexOutOfBoundsException" ["java/lang/RuntimeException", "java/lang/Exception"]).filter goodWord, w ∈ lw_tbl := by decide +kernel
set_option maxRecDepth 20000 in
theorem wi_X5_addMachine : ∀ w ∈ wsX5_addMachine, w ∈ lw_tbl := wi_cons (List.mem_of_getElem? (i := 316) (by decide +kernel)) (wi_app (wi_app (wi_app (wi_app (wi_app (wi_app (in_idx [321, 57, 389, 58, 162, 164, 317, 318, 48, 319, 320, 272, 273, 179, 180, 181, 51, 182, 132, 131, 133, 183, 184, 49, 185, 108, 104, 186, 188, 187, 59, 106, 112, 189, 190, 50, 191, 88, 85, 192, 86, 87, 405, 275, 276, 277, 213, 214, 215] (by decide +kernel)) inX5) inX2) inX1) inX4) in_x0) in_x1)
set_option maxRecDepth 20000 in
theorem wg_X5_addMachine : GoodIn lwG (wsV RL 7 RX5 yX5_addMachine wsX5_addMachine) := lwG_of (wi_app (in_idx [313, 314, 315, 48] (by decide +kernel)) wi_X5_addMachine) (by decide +kernel)
set_option maxRecDepth 20000 in
theorem wi_X5_addRandomStops : ∀ w ∈ wsX5_addRandomStops, w ∈ lw_tbl := wi_cons (List.mem_of_getElem? (i := 460) (by decide +kernel)) (wi_app (wi_app (wi_app (wi_app (wi_app (wi_app (wi_app (wi_app (in_idx [321, 57, 389, 58, 461, 162, 164, 464, 465, 61, 414, 416, 6, 48, 417, 418, 60, 320, 272, 273, 179, 180, 181, 51, 182, 132, 131, 133, 183, 184, 49, 185, 108, 104, 186, 188, 187, 59, 106, 112, 189, 190, 50, 191, 88, 85, 192, 86, 87, 466, 467, 468, 469, 69, 70, 470, 474, 475, 476, 477, 478, 479, 480, 481, 453, 198, 199, 200] (by decide +kernel)) inX5) inX2) inX4) inX0) inX1) in_x0) in_x1) in_x2)
set_option maxRecDepth 20000 in
theorem wg_X5_addRandomStops : GoodIn lwG (wsV RL 30 RX5 yX5_addRandomStops wsX5_addRandomStops) := lwG_of (wi_app (in_idx [457, 458, 459, 48] (by decide +kernel)) wi_X5_addRandomStops) (by decide +kernel)
set_option maxRecDepth 20000 in
theorem wi_X5_addStop : ∀ w ∈ wsX5_addStop, w ∈ lw_tbl := wi_cons (List.mem_of_getElem? (i := 450) (by decide +kernel)) (wi_app (wi_app (wi_app (wi_app (wi_app (wi_app (wi_app (in_idx [321, 57, 389, 58, 162, 164, 414, 416, 6, 48, 417, 418, 60, 320, 272, 273, 179, 180, 181, 51, 182, 132, 131, 133, 183, 184, 49, 185, 108, 104, 186, 188, 187, 59, 106, 112, 189, 190, 50, 191, 88, 85, 192, 86, 87, 453, 198, 199, 200] (by decide +kernel)) inX5) inX2) inX4) inX1) in_x0) in_x1) in_x2)
set_option maxRecDepth 20000 in
theorem wg_X5_addStop : GoodIn lwG (wsV RL 27 RX5 yX5_addStop wsX5_addStop) := lwG_of (wi_app (in_idx [447, 448, 449, 48] (by decide +kernel)) wi_X5_addStop) (by decide +kernel)
set_option maxRecDepth 20000 in
theorem wi_X5_append : ∀ w ∈ wsX5_append, w ∈ lw_tbl := wi_cons (List.mem_of_getElem? (i := 656) (by decide +kernel)) (wi_app (wi_app (wi_app (wi_app (in_idx [321, 57, 389, 58, 165, 320, 272, 48, 273, 659, 660, 661, 52, 662, 149, 148] (by decide +kernel)) inX5) inX3) in_x0) in_x1)
set_option maxRecDepth 20000 in
theorem wg_X5_append : GoodIn lwG (wsV RL 72 RX5 yX5_append wsX5_append) := lwG_of (wi_app (in_idx [653, 654, 655, 48] (by decide +kernel)) wi_X5_append) (by decide +kernel)
set_option maxRecDepth 20000 in
theorem wi_X5_bestBuffer : ∀ w ∈ wsX5_bestBuffer, w ∈ lw_tbl := wi_cons (List.mem_of_getElem? (i := 647) (by decide +kernel)) (wi_app (wi_app (wi_app (wi_app (wi_app (in_idx [321, 57, 162, 649, 519, 62, 520, 586, 587, 48, 588, 320, 272, 273, 503, 505, 7, 506, 389, 58, 629, 631, 14, 632, 163, 286, 184, 49, 185, 108, 104, 186, 188, 187, 59, 106, 112, 189, 190, 50, 191, 88, 85, 192, 86, 87, 209, 210, 211, 212, 213, 214, 215, 509, 510, 511, 512, 513, 514, 515, 516, 517, 91, 518, 521, 523, 8, 524, 525, 527, 9, 528, 529, 530, 531, 532, 533, 534, 535, 536, 538, 10, 539, 540, 541, 542, 543, 545, 11, 546, 547, 549, 12, 550, 224, 225, 226, 227] (by decide +kernel)) inX5) inX2) inX4) in_x0) in_x1)
set_option maxRecDepth 20000 in
theorem wg_X5_bestBuffer : GoodIn lwG (wsV RL 69 RX5 yX5_bestBuffer wsX5_bestBuffer) := lwG_of (wi_app (in_idx [644, 645, 646, 48] (by decide +kernel)) wi_X5_bestBuffer) (by decide +kernel)
set_option maxRecDepth 20000 in
theorem wi_X5_bound : ∀ w ∈ wsX5_bound, w ∈ lw_tbl := wi_cons (List.mem_of_getElem? (i := 585) (by decide +kernel)) (wi_app (wi_app (wi_app (wi_app (wi_app (in_idx [162, 586, 587, 48, 588, 321, 57, 320, 272, 273, 503, 505, 7, 506, 389, 58, 589, 590, 591, 49, 592, 593, 108, 594, 595, 596, 597, 104, 598, 600, 13, 601, 106, 602, 519, 62, 520, 513, 514, 515, 50, 516, 517, 91, 88, 86, 87, 518, 85, 529, 530, 531, 532, 603] (by decide +kernel)) inX5) inX2) inX4) in_x0) in_x1)
set_option maxRecDepth 20000 in
theorem wg_X5_bound : GoodIn lwG (wsV RL 53 RX5 yX5_bound wsX5_bound) := lwG_of (wi_app (in_idx [582, 583, 584, 48] (by decide +kernel)) wi_X5_bound) (by decide +kernel)
set_option maxRecDepth 20000 in
theorem wi_X5_capacityFor : ∀ w ∈ wsX5_capacityFor, w ∈ lw_tbl := wi_cons (List.mem_of_getElem? (i := 639) (by decide +kernel)) (wi_app (wi_app (wi_app (wi_app (wi_app (in_idx [321, 57, 162, 163, 414, 416, 6, 48, 417, 418, 60, 586, 587, 588, 320, 272, 273, 589, 590, 591, 49, 592, 593, 108, 594, 595, 596, 597, 104, 598, 600, 13, 601, 106, 602, 519, 62, 520, 513, 514, 515, 50, 516, 517, 91, 88, 86, 87, 518, 85, 529, 530, 531, 532, 603, 629, 631, 14, 632, 286, 184, 185, 186, 188, 187, 59, 112, 189, 190, 191, 192, 209, 210, 211, 212, 213, 214, 215, 509, 510, 511, 512, 521, 523, 8, 524, 525, 527, 9, 528, 533, 534, 535, 536, 538, 10, 539, 540, 541, 542, 543, 545, 11, 546, 547, 549, 12, 550, 224, 225, 226, 227] (by decide +kernel)) inX5) inX2) inX4) in_x0) in_x2)
set_option maxRecDepth 20000 in
theorem wg_X5_capacityFor : GoodIn lwG (wsV RL 66 RX5 yX5_capacityFor wsX5_capacityFor) := lwG_of (wi_app (in_idx [636, 637, 638, 48] (by decide +kernel)) wi_X5_capacityFor) (by decide +kernel)
set_option maxRecDepth 20000 in
theorem wi_X5_clearStops : ∀ w ∈ wsX5_clearStops, w ∈ lw_tbl := wi_cons (List.mem_of_getElem? (i := 178) (by decide +kernel)) (wi_app (wi_app (wi_app (wi_app (in_idx [164, 162, 179, 180, 181, 51, 182, 132, 131, 133, 183, 184, 49, 185, 108, 104, 186, 188, 187, 59, 106, 112, 189, 190, 50, 191, 88, 85, 192, 86, 87, 193, 194, 195, 196, 197, 198, 199, 200] (by decide +kernel)) inX5) inX2) inX1) inX4)
set_option maxRecDepth 20000 in
theorem wg_X5_clearStops : GoodIn lwG (wsV RL 105 RX5 yX5_clearStops wsX5_clearStops) := lwG_of (wi_app (in_idx [175, 176, 177, 48] (by decide +kernel)) wi_X5_clearStops) (by decide +kernel)
set_option maxRecDepth 20000 in
theorem wi_X5_clearText : ∀ w ∈ wsX5_clearText, w ∈ lw_tbl := wi_cons (List.mem_of_getElem? (i := 239) (by decide +kernel)) (wi_app (wi_app (in_idx [165] (by decide +kernel)) inX5) inX3)
set_option maxRecDepth 20000 in
theorem wg_X5_clearText : GoodIn lwG (wsV RL 172 RX5 yX5_clearText wsX5_clearText) := lwG_of (wi_app (in_idx [236, 237, 238, 48] (by decide +kernel)) wi_X5_clearText) (by decide +kernel)
set_option maxRecDepth 20000 in
theorem wi_X5_count : ∀ w ∈ wsX5_count, w ∈ lw_tbl := wi_cons (List.mem_of_getElem? (i := 571) (by decide +kernel)) (wi_app (wi_app (wi_app (wi_app (in_idx [162, 414, 416, 6, 48, 417, 418, 60, 490, 491, 492, 321, 57] (by decide +kernel)) inX5) inX2) in_x2) in_x0)
set_option maxRecDepth 20000 in
theorem wg_X5_count : GoodIn lwG (wsV RL 46 RX5 yX5_count wsX5_count) := lwG_of (wi_app (in_idx [568, 569, 570, 48] (by decide +kernel)) wi_X5_count) (by decide +kernel)
set_option maxRecDepth 20000 in
theorem wi_X5_digest : ∀ w ∈ wsX5_digest, w ∈ lw_tbl := wi_cons (List.mem_of_getElem? (i := 290) (by decide +kernel)) (wi_app (wi_app (wi_app (wi_app (wi_app (in_idx [291, 292, 165, 162, 164, 293, 294, 295, 49, 296, 297, 112, 108, 104, 298, 225, 226, 227, 299, 300, 301, 50, 302, 303, 88, 304, 305, 306, 307, 85, 86, 87, 232, 233, 234, 235] (by decide +kernel)) inX5) inX3) inX2) inX1) inX4)
set_option maxRecDepth 20000 in
theorem wg_X5_digest : GoodIn lwG (wsV RL 183 RX5 yX5_digest wsX5_digest) := lwG_of (wi_app (in_idx [287, 288, 289, 48] (by decide +kernel)) wi_X5_digest) (by decide +kernel)
set_option maxRecDepth 20000 in
theorem wi_X5_inside : ∀ w ∈ wsX5_inside, w ∈ lw_tbl := wi_cons (List.mem_of_getElem? (i := 231) (by decide +kernel)) (wi_app (wi_app (in_idx [162, 232, 233, 234, 49, 235, 108, 104] (by decide +kernel)) inX5) inX2)
set_option maxRecDepth 20000 in
theorem wg_X5_inside : GoodIn lwG (wsV RL 146 RX5 yX5_inside wsX5_inside) := lwG_of (wi_app (in_idx [228, 229, 230, 48] (by decide +kernel)) wi_X5_inside) (by decide +kernel)
set_option maxRecDepth 20000 in
theorem wi_X5_limiting : ∀ w ∈ wsX5_limiting, w ∈ lw_tbl := wi_cons (List.mem_of_getElem? (i := 610) (by decide +kernel)) (wi_app (wi_app (wi_app (in_idx [162, 503, 505, 7, 48, 506, 389, 58, 611, 612, 613, 49, 614, 593, 108, 104] (by decide +kernel)) inX5) inX2) in_x1)
set_option maxRecDepth 20000 in
theorem wg_X5_limiting : GoodIn lwG (wsV RL 56 RX5 yX5_limiting wsX5_limiting) := lwG_of (wi_app (in_idx [607, 608, 609, 48] (by decide +kernel)) wi_X5_limiting) (by decide +kernel)
set_option maxRecDepth 20000 in
theorem wi_X5_machine : ∀ w ∈ wsX5_machine, w ∈ lw_tbl := wi_cons (List.mem_of_getElem? (i := 564) (by decide +kernel)) (wi_app (wi_app (wi_app (wi_app (in_idx [162, 414, 416, 6, 48, 417, 418, 60, 490, 491, 492, 321, 57] (by decide +kernel)) inX5) inX2) in_x2) in_x0)
set_option maxRecDepth 20000 in
theorem wg_X5_machine : GoodIn lwG (wsV RL 43 RX5 yX5_machine wsX5_machine) := lwG_of (wi_app (in_idx [561, 562, 563, 48] (by decide +kernel)) wi_X5_machine) (by decide +kernel)
set_option maxRecDepth 20000 in
theorem wi_X5_meanFill : ∀ w ∈ wsX5_meanFill, w ∈ lw_tbl := wi_cons (List.mem_of_getElem? (i := 578) (by decide +kernel)) (wi_app (wi_app (wi_app (in_idx [162, 414, 416, 6, 48, 417, 418, 60] (by decide +kernel)) inX5) inX2) in_x2)
set_option maxRecDepth 20000 in
theorem wg_X5_meanFill : GoodIn lwG (wsV RL 49 RX5 yX5_meanFill wsX5_meanFill) := lwG_of (wi_app (in_idx [575, 576, 577, 48] (by decide +kernel)) wi_X5_meanFill) (by decide +kernel)
set_option maxRecDepth 20000 in
theorem wi_X5_now : ∀ w ∈ wsX5_now, w ∈ lw_tbl := wi_cons (List.mem_of_getElem? (i := 219) (by decide +kernel)) (wi_app (wi_app (in_idx [162] (by decide +kernel)) inX5) inX2)
set_option maxRecDepth 20000 in
theorem wg_X5_now : GoodIn lwG (wsV RL 125 RX5 yX5_now wsX5_now) := lwG_of (wi_app (in_idx [216, 217, 218, 48] (by decide +kernel)) wi_X5_now) (by decide +kernel)
set_option maxRecDepth 20000 in
theorem wi_X5_output : ∀ w ∈ wsX5_output, w ∈ lw_tbl := wi_cons (List.mem_of_getElem? (i := 223) (by decide +kernel)) (wi_app (wi_app (in_idx [162, 224, 225, 226, 49, 227, 108, 104] (by decide +kernel)) inX5) inX2)
set_option maxRecDepth 20000 in
theorem wg_X5_output : GoodIn lwG (wsV RL 129 RX5 yX5_output wsX5_output) := lwG_of (wi_app (in_idx [220, 221, 222, 48] (by decide +kernel)) wi_X5_output) (by decide +kernel)
set_option maxRecDepth 20000 in
theorem wi_X5_outputWith : ∀ w ∈ wsX5_outputWith, w ∈ lw_tbl := wi_cons (List.mem_of_getElem? (i := 628) (by decide +kernel)) (wi_app (wi_app (wi_app (wi_app (wi_app (in_idx [321, 57, 414, 416, 6, 48, 417, 418, 60, 162, 320, 272, 273, 586, 587, 588, 629, 631, 14, 632, 163, 286, 184, 49, 185, 108, 104, 186, 188, 187, 59, 106, 112, 189, 190, 50, 191, 88, 85, 192, 86, 87, 209, 210, 211, 212, 213, 214, 215, 509, 510, 511, 512, 513, 514, 515, 516, 517, 91, 518, 519, 62, 520, 521, 523, 8, 524, 525, 527, 9, 528, 529, 530, 531, 532, 533, 534, 535, 536, 538, 10, 539, 540, 541, 542, 543, 545, 11, 546, 547, 549, 12, 550, 224, 225, 226, 227] (by decide +kernel)) inX5) inX2) inX4) in_x0) in_x2)
set_option maxRecDepth 20000 in
theorem wg_X5_outputWith : GoodIn lwG (wsV RL 63 RX5 yX5_outputWith wsX5_outputWith) := lwG_of (wi_app (in_idx [625, 626, 627, 48] (by decide +kernel)) wi_X5_outputWith) (by decide +kernel)
set_option maxRecDepth 20000 in
theorem wi_X5_parse : ∀ w ∈ wsX5_parse, w ∈ lw_tbl := wi_cons (List.mem_of_getElem? (i := 243) (by decide +kernel)) (wi_app (wi_app (wi_app (wi_app (wi_app (in_idx [165, 163, 164, 162, 244, 245, 246, 52, 247, 151, 152, 149, 248, 249, 250, 49, 251, 108, 112, 106, 252, 254, 0, 255, 256, 258, 1, 259, 148, 260, 262, 2, 263, 264, 266, 3, 267, 268, 269, 270, 272, 48, 273, 274, 275, 276, 277, 104, 213, 214, 215, 278, 280, 4, 281, 282, 283, 284, 285, 179, 180, 181, 51, 182, 132, 131, 133, 183, 184, 185, 186, 188, 187, 59, 189, 190, 50, 191, 88, 85, 192, 86, 87, 286] (by decide +kernel)) inX5) inX2) inX3) inX4) inX1)
set_option maxRecDepth 20000 in
theorem wg_X5_parse : GoodIn lwG (wsV RL 176 RX5 yX5_parse wsX5_parse) := lwG_of (wi_app (in_idx [240, 241, 242, 48] (by decide +kernel)) wi_X5_parse) (by decide +kernel)
set_option maxRecDepth 20000 in
theorem wi_X5_restart : ∀ w ∈ wsX5_restart, w ∈ lw_tbl := wi_cons (List.mem_of_getElem? (i := 208) (by decide +kernel)) (wi_app (wi_app (wi_app (wi_app (in_idx [164, 162, 179, 180, 181, 51, 182, 132, 131, 133, 183, 184, 49, 185, 108, 104, 186, 188, 187, 59, 106, 112, 189, 190, 50, 191, 88, 85, 192, 86, 87, 209, 210, 211, 212, 213, 214, 215] (by decide +kernel)) inX5) inX2) inX1) inX4)
set_option maxRecDepth 20000 in
theorem wg_X5_restart : GoodIn lwG (wsV RL 121 RX5 yX5_restart wsX5_restart) := lwG_of (wi_app (in_idx [205, 206, 207, 48] (by decide +kernel)) wi_X5_restart) (by decide +kernel)
set_option maxRecDepth 20000 in
theorem wi_X5_run : ∀ w ∈ wsX5_run, w ∈ lw_tbl := wi_cons (List.mem_of_getElem? (i := 501) (by decide +kernel)) (wi_app (wi_app (wi_app (wi_app (wi_app (wi_app (in_idx [321, 57, 389, 58, 162, 164, 320, 272, 48, 273, 503, 505, 7, 506, 179, 180, 181, 51, 182, 132, 131, 133, 183, 184, 49, 185, 108, 104, 186, 188, 187, 59, 106, 112, 189, 190, 50, 191, 88, 85, 192, 86, 87, 224, 225, 226, 227, 509, 510, 511, 512, 513, 514, 515, 516, 517, 91, 518, 519, 62, 520, 521, 523, 8, 524, 525, 527, 9, 528, 529, 530, 531, 532, 533, 534, 535, 536, 538, 10, 539, 540, 541, 542, 543, 545, 11, 546, 547, 549, 12, 550] (by decide +kernel)) inX5) inX2) inX1) inX4) in_x0) in_x1)
set_option maxRecDepth 20000 in
theorem wg_X5_run : GoodIn lwG (wsV RL 36 RX5 yX5_run wsX5_run) := lwG_of (wi_app (in_idx [498, 499, 500, 48] (by decide +kernel)) wi_X5_run) (by decide +kernel)
set_option maxRecDepth 20000 in
theorem wi_X5_setCapacity : ∀ w ∈ wsX5_setCapacity, w ∈ lw_tbl := wi_cons (List.mem_of_getElem? (i := 442) (by decide +kernel)) (wi_app (wi_app (wi_app (wi_app (wi_app (wi_app (in_idx [321, 57, 164, 162, 414, 416, 6, 48, 417, 418, 60, 320, 272, 273, 179, 180, 181, 51, 182, 132, 131, 133, 183, 184, 49, 185, 108, 104, 186, 188, 187, 59, 106, 112, 189, 190, 50, 191, 88, 85, 192, 86, 87] (by decide +kernel)) inX5) inX2) inX1) inX4) in_x0) in_x2)
set_option maxRecDepth 20000 in
theorem wg_X5_setCapacity : GoodIn lwG (wsV RL 23 RX5 yX5_setCapacity wsX5_setCapacity) := lwG_of (wi_app (in_idx [439, 440, 441, 48] (by decide +kernel)) wi_X5_setCapacity) (by decide +kernel)
set_option maxRecDepth 20000 in
theorem wi_X5_setMachine : ∀ w ∈ wsX5_setMachine, w ∈ lw_tbl := wi_cons (List.mem_of_getElem? (i := 413) (by decide +kernel)) (wi_app (wi_app (wi_app (wi_app (wi_app (wi_app (in_idx [321, 57, 164, 162, 414, 416, 6, 48, 417, 418, 60, 317, 318, 319, 320, 272, 273, 179, 180, 181, 51, 182, 132, 131, 133, 183, 184, 49, 185, 108, 104, 186, 188, 187, 59, 106, 112, 189, 190, 50, 191, 88, 85, 192, 86, 87, 435, 283, 284, 285] (by decide +kernel)) inX5) inX2) inX1) inX4) in_x0) in_x2)
set_option maxRecDepth 20000 in
theorem wg_X5_setMachine : GoodIn lwG (wsV RL 17 RX5 yX5_setMachine wsX5_setMachine) := lwG_of (wi_app (in_idx [410, 411, 412, 48] (by decide +kernel)) wi_X5_setMachine) (by decide +kernel)
set_option maxRecDepth 20000 in
theorem wi_X5_setting : ∀ w ∈ wsX5_setting, w ∈ lw_tbl := wi_cons (List.mem_of_getElem? (i := 557) (by decide +kernel)) (wi_app (wi_app (wi_app (wi_app (in_idx [162, 414, 416, 6, 48, 417, 418, 60, 490, 491, 492, 321, 57] (by decide +kernel)) inX5) inX2) in_x2) in_x0)
set_option maxRecDepth 20000 in
theorem wg_X5_setting : GoodIn lwG (wsV RL 40 RX5 yX5_setting wsX5_setting) := lwG_of (wi_app (in_idx [554, 555, 556, 48] (by decide +kernel)) wi_X5_setting) (by decide +kernel)
set_option maxRecDepth 20000 in
theorem wi_X5_size : ∀ w ∈ wsX5_size, w ∈ lw_tbl := wi_cons (List.mem_of_getElem? (i := 204) (by decide +kernel)) (wi_app (wi_app (wi_app (in_idx [162] (by decide +kernel)) inX5) inX2) inX4)
set_option maxRecDepth 20000 in
theorem wg_X5_size : GoodIn lwG (wsV RL 109 RX5 yX5_size wsX5_size) := lwG_of (wi_app (in_idx [201, 202, 203, 48] (by decide +kernel)) wi_X5_size) (by decide +kernel)
set_option maxRecDepth 20000 in
theorem wi_X5_slowest : ∀ w ∈ wsX5_slowest, w ∈ lw_tbl := wi_cons (List.mem_of_getElem? (i := 621) (by decide +kernel)) (wi_app (wi_app (wi_app (wi_app (wi_app (in_idx [162, 586, 587, 48, 588, 321, 57, 320, 272, 273, 503, 505, 7, 506, 389, 58, 589, 590, 591, 49, 592, 593, 108, 594, 595, 596, 597, 104, 598, 600, 13, 601, 106, 602, 519, 62, 520, 513, 514, 515, 50, 516, 517, 91, 88, 86, 87, 518, 85, 529, 530, 531, 532] (by decide +kernel)) inX5) inX2) inX4) in_x0) in_x1)
set_option maxRecDepth 20000 in
theorem wg_X5_slowest : GoodIn lwG (wsV RL 60 RX5 yX5_slowest wsX5_slowest) := lwG_of (wi_app (in_idx [618, 619, 620, 48] (by decide +kernel)) wi_X5_slowest) (by decide +kernel)
set_option maxRecDepth 20000 in
theorem wi_X5_stop : ∀ w ∈ wsX5_stop, w ∈ lw_tbl := wi_cons (List.mem_of_getElem? (i := 488) (by decide +kernel)) (wi_app (wi_app (wi_app (wi_app (wi_app (in_idx [418, 60, 162, 490, 491, 48, 492, 321, 57, 494, 305, 306, 50, 307, 85, 86, 87] (by decide +kernel)) inX5) inX2) inX4) in_x2) in_x0)
set_option maxRecDepth 20000 in
theorem wg_X5_stop : GoodIn lwG (wsV RL 33 RX5 yX5_stop wsX5_stop) := lwG_of (wi_app (in_idx [485, 486, 487, 48] (by decide +kernel)) wi_X5_stop) (by decide +kernel)
set_option maxRecDepth 20000 in
theorem wi_X5_undo : ∀ w ∈ wsX5_undo, w ∈ lw_tbl := wi_cons (List.mem_of_getElem? (i := 669) (by decide +kernel)) (wi_app (wi_app (wi_app (wi_app (wi_app (in_idx [389, 58, 164, 162, 671, 672, 673, 51, 674, 133, 131, 132, 183, 184, 49, 185, 108, 104, 186, 188, 187, 59, 106, 112, 189, 190, 50, 191, 88, 85, 192, 86, 87] (by decide +kernel)) inX5) inX1) inX2) inX4) in_x1)
set_option maxRecDepth 20000 in
theorem wg_X5_undo : GoodIn lwG (wsV RL 75 RX5 yX5_undo wsX5_undo) := lwG_of (wi_app (in_idx [666, 667, 668, 48] (by decide +kernel)) wi_X5_undo) (by decide +kernel)
set_option maxRecDepth 20000 in
theorem wi_X6_addMachine : ∀ w ∈ wsX6_addMachine, w ∈ lw_tbl := wi_cons (List.mem_of_getElem? (i := 733) (by decide +kernel)) (wi_app (in_idx [681, 734, 735, 53, 736, 737, 738, 739, 740, 741, 742, 726, 728, 15, 729, 685, 743, 745, 16, 746, 684, 682, 747, 749, 17, 750, 751, 752, 753] (by decide +kernel)) inX6)
set_option maxRecDepth 20000 in
theorem wg_X6_addMachine : GoodIn lwG (wsV RL 87 RX6 yX6_addMachine wsX6_addMachine) := lwG_of (wi_app (in_idx [730, 731, 732, 53] (by decide +kernel)) wi_X6_addMachine) (by decide +kernel)
set_option maxRecDepth 20000 in
theorem wi_X6_addRandomStops : ∀ w ∈ wsX6_addRandomStops, w ∈ lw_tbl := wi_cons (List.mem_of_getElem? (i := 780) (by decide +kernel)) (wi_app (in_idx [781, 681, 689, 737, 738, 53, 739, 758, 760, 18, 761, 726, 728, 15, 729, 685, 743, 745, 16, 746, 684, 682, 782, 784, 20, 785, 786, 787, 788, 789, 773, 775, 19, 776] (by decide +kernel)) inX6)
set_option maxRecDepth 20000 in
theorem wg_X6_addRandomStops : GoodIn lwG (wsV RL 104 RX6 yX6_addRandomStops wsX6_addRandomStops) := lwG_of (wi_app (in_idx [777, 778, 779, 53] (by decide +kernel)) wi_X6_addRandomStops) (by decide +kernel)
set_option maxRecDepth 20000 in
theorem wi_X6_addStop : ∀ w ∈ wsX6_addStop, w ∈ lw_tbl := wi_cons (List.mem_of_getElem? (i := 772) (by decide +kernel)) (wi_app (in_idx [681, 737, 738, 53, 739, 758, 760, 18, 761, 726, 728, 15, 729, 685, 743, 745, 16, 746, 684, 682, 773, 775, 19, 776] (by decide +kernel)) inX6)
set_option maxRecDepth 20000 in
theorem wg_X6_addStop : GoodIn lwG (wsV RL 101 RX6 yX6_addStop wsX6_addStop) := lwG_of (wi_app (in_idx [769, 770, 771, 53] (by decide +kernel)) wi_X6_addStop) (by decide +kernel)
set_option maxRecDepth 20000 in
theorem wi_X6_append : ∀ w ∈ wsX6_append, w ∈ lw_tbl := wi_cons (List.mem_of_getElem? (i := 948) (by decide +kernel)) (wi_app (in_idx [687, 686, 737, 738, 53, 739, 726, 728, 15, 729, 685] (by decide +kernel)) inX6)
set_option maxRecDepth 20000 in
theorem wg_X6_append : GoodIn lwG (wsV RL 171 RX6 yX6_append wsX6_append) := lwG_of (wi_app (in_idx [945, 946, 947, 53] (by decide +kernel)) wi_X6_append) (by decide +kernel)
set_option maxRecDepth 20000 in
theorem wi_X6_bestBuffer : ∀ w ∈ wsX6_bestBuffer, w ∈ lw_tbl := wi_cons (List.mem_of_getElem? (i := 944) (by decide +kernel)) (wi_app (in_idx [681, 922, 923, 53, 924, 737, 738, 739, 726, 728, 15, 729, 685, 751, 752, 753, 925, 927, 38, 928, 929, 931, 39, 932, 683, 850, 852, 31, 853, 806, 808, 21, 809, 810, 812, 22, 813, 814, 816, 23, 817, 688, 818, 820, 24, 821, 822, 824, 25, 825, 826, 828, 26, 829, 830, 832, 27, 833, 834, 836, 28, 837, 838, 840, 29, 841, 842, 844, 30, 845, 933, 935, 40, 936] (by decide +kernel)) inX6)
set_option maxRecDepth 20000 in
theorem wg_X6_bestBuffer : GoodIn lwG (wsV RL 168 RX6 yX6_bestBuffer wsX6_bestBuffer) := lwG_of (wi_app (in_idx [941, 942, 943, 53] (by decide +kernel)) wi_X6_bestBuffer) (by decide +kernel)
set_option maxRecDepth 20000 in
theorem wi_X6_bound : ∀ w ∈ wsX6_bound, w ∈ lw_tbl := wi_cons (List.mem_of_getElem? (i := 893) (by decide +kernel)) (wi_app (in_idx [894, 896, 34, 53, 897, 681, 737, 738, 739, 726, 728, 15, 729, 685, 898, 900, 35, 901, 814, 816, 23, 817, 688, 902, 904, 36, 905, 830, 832, 27, 833, 751, 752, 753] (by decide +kernel)) inX6)
set_option maxRecDepth 20000 in
theorem wg_X6_bound : GoodIn lwG (wsV RL 152 RX6 yX6_bound wsX6_bound) := lwG_of (wi_app (in_idx [890, 891, 892, 53] (by decide +kernel)) wi_X6_bound) (by decide +kernel)
set_option maxRecDepth 20000 in
theorem wi_X6_capacityFor : ∀ w ∈ wsX6_capacityFor, w ∈ lw_tbl := wi_cons (List.mem_of_getElem? (i := 940) (by decide +kernel)) (wi_app (in_idx [758, 760, 18, 53, 761, 681, 737, 738, 739, 922, 923, 924, 726, 728, 15, 729, 685, 925, 927, 38, 928, 929, 931, 39, 932, 683, 751, 752, 753, 850, 852, 31, 853, 806, 808, 21, 809, 810, 812, 22, 813, 814, 816, 23, 817, 688, 818, 820, 24, 821, 822, 824, 25, 825, 826, 828, 26, 829, 830, 832, 27, 833, 834, 836, 28, 837, 838, 840, 29, 841, 842, 844, 30, 845, 933, 935, 40, 936] (by decide +kernel)) inX6)
set_option maxRecDepth 20000 in
theorem wg_X6_capacityFor : GoodIn lwG (wsV RL 165 RX6 yX6_capacityFor wsX6_capacityFor) := lwG_of (wi_app (in_idx [937, 938, 939, 53] (by decide +kernel)) wi_X6_capacityFor) (by decide +kernel)
set_option maxRecDepth 20000 in
theorem wi_X6_clearStops : ∀ w ∈ wsX6_clearStops, w ∈ lw_tbl := wi_cons (List.mem_of_getElem? (i := 793) (by decide +kernel)) (wi_app (in_idx [685, 681, 743, 745, 16, 53, 746, 684, 682] (by decide +kernel)) inX6)
set_option maxRecDepth 20000 in
theorem wg_X6_clearStops : GoodIn lwG (wsV RL 108 RX6 yX6_clearStops wsX6_clearStops) := lwG_of (wi_app (in_idx [790, 791, 792, 53] (by decide +kernel)) wi_X6_clearStops) (by decide +kernel)
set_option maxRecDepth 20000 in
theorem wi_X6_clearText : ∀ w ∈ wsX6_clearText, w ∈ lw_tbl := wi_cons (List.mem_of_getElem? (i := 952) (by decide +kernel)) (wi_app (in_idx [685, 687] (by decide +kernel)) inX6)
set_option maxRecDepth 20000 in
theorem wg_X6_clearText : GoodIn lwG (wsV RL 175 RX6 yX6_clearText wsX6_clearText) := lwG_of (wi_app (in_idx [949, 950, 951, 53] (by decide +kernel)) wi_X6_clearText) (by decide +kernel)
set_option maxRecDepth 20000 in
theorem wi_X6_count : ∀ w ∈ wsX6_count, w ∈ lw_tbl := wi_cons (List.mem_of_getElem? (i := 877) (by decide +kernel)) (wi_app (in_idx [681, 758, 760, 18, 53, 761, 737, 738, 739, 726, 728, 15, 729, 685, 751, 752, 753] (by decide +kernel)) inX6)
set_option maxRecDepth 20000 in
theorem wg_X6_count : GoodIn lwG (wsV RL 141 RX6 yX6_count wsX6_count) := lwG_of (wi_app (in_idx [874, 875, 876, 53] (by decide +kernel)) wi_X6_count) (by decide +kernel)
set_option maxRecDepth 20000 in
theorem wi_X6_digest : ∀ w ∈ wsX6_digest, w ∈ lw_tbl := wi_cons (List.mem_of_getElem? (i := 980) (by decide +kernel)) (wi_app (in_idx [685, 981, 692, 687, 681, 684, 982, 984, 46, 53, 985, 986, 810, 812, 22, 813, 751, 752, 753, 870, 872, 32, 873, 886, 888, 33, 889] (by decide +kernel)) inX6)
set_option maxRecDepth 20000 in
theorem wg_X6_digest : GoodIn lwG (wsV RL 187 RX6 yX6_digest wsX6_digest) := lwG_of (wi_app (in_idx [977, 978, 979, 53] (by decide +kernel)) wi_X6_digest) (by decide +kernel)
set_option maxRecDepth 20000 in
theorem wi_X6_inside : ∀ w ∈ wsX6_inside, w ∈ lw_tbl := wi_cons (List.mem_of_getElem? (i := 885) (by decide +kernel)) (wi_app (in_idx [685, 886, 888, 33, 53, 889, 681, 751, 752, 753] (by decide +kernel)) inX6)
set_option maxRecDepth 20000 in
theorem wg_X6_inside : GoodIn lwG (wsV RL 149 RX6 yX6_inside wsX6_inside) := lwG_of (wi_app (in_idx [882, 883, 884, 53] (by decide +kernel)) wi_X6_inside) (by decide +kernel)
set_option maxRecDepth 20000 in
theorem wi_X6_limiting : ∀ w ∈ wsX6_limiting, w ∈ lw_tbl := wi_cons (List.mem_of_getElem? (i := 913) (by decide +kernel)) (wi_app (in_idx [681, 726, 728, 15, 53, 729, 685, 914, 916, 37, 917, 751, 752, 753] (by decide +kernel)) inX6)
set_option maxRecDepth 20000 in
theorem wg_X6_limiting : GoodIn lwG (wsV RL 156 RX6 yX6_limiting wsX6_limiting) := lwG_of (wi_app (in_idx [910, 911, 912, 53] (by decide +kernel)) wi_X6_limiting) (by decide +kernel)
set_option maxRecDepth 20000 in
theorem wi_X6_machine : ∀ w ∈ wsX6_machine, w ∈ lw_tbl := wi_cons (List.mem_of_getElem? (i := 869) (by decide +kernel)) (wi_app (in_idx [758, 760, 18, 53, 761, 681, 737, 738, 739, 726, 728, 15, 729, 685, 870, 872, 32, 873, 751, 752, 753] (by decide +kernel)) inX6)
set_option maxRecDepth 20000 in
theorem wg_X6_machine : GoodIn lwG (wsV RL 138 RX6 yX6_machine wsX6_machine) := lwG_of (wi_app (in_idx [866, 867, 868, 53] (by decide +kernel)) wi_X6_machine) (by decide +kernel)
set_option maxRecDepth 20000 in
theorem wi_X6_meanFill : ∀ w ∈ wsX6_meanFill, w ∈ lw_tbl := wi_cons (List.mem_of_getElem? (i := 881) (by decide +kernel)) (wi_app (in_idx [681, 758, 760, 18, 53, 761, 737, 738, 739, 726, 728, 15, 729, 685, 751, 752, 753] (by decide +kernel)) inX6)
set_option maxRecDepth 20000 in
theorem wg_X6_meanFill : GoodIn lwG (wsV RL 145 RX6 yX6_meanFill wsX6_meanFill) := lwG_of (wi_app (in_idx [878, 879, 880, 53] (by decide +kernel)) wi_X6_meanFill) (by decide +kernel)
set_option maxRecDepth 20000 in
theorem wi_X6_now : ∀ w ∈ wsX6_now, w ∈ lw_tbl := wi_cons (List.mem_of_getElem? (i := 857) (by decide +kernel)) (wi_app (in_idx [685, 681] (by decide +kernel)) inX6)
set_option maxRecDepth 20000 in
theorem wg_X6_now : GoodIn lwG (wsV RL 128 RX6 yX6_now wsX6_now) := lwG_of (wi_app (in_idx [854, 855, 856, 53] (by decide +kernel)) wi_X6_now) (by decide +kernel)
set_option maxRecDepth 20000 in
theorem wi_X6_output : ∀ w ∈ wsX6_output, w ∈ lw_tbl := wi_cons (List.mem_of_getElem? (i := 861) (by decide +kernel)) (wi_app (in_idx [685, 810, 812, 22, 53, 813, 681, 751, 752, 753] (by decide +kernel)) inX6)
set_option maxRecDepth 20000 in
theorem wg_X6_output : GoodIn lwG (wsV RL 132 RX6 yX6_output wsX6_output) := lwG_of (wi_app (in_idx [858, 859, 860, 53] (by decide +kernel)) wi_X6_output) (by decide +kernel)
set_option maxRecDepth 20000 in
theorem wi_X6_outputWith : ∀ w ∈ wsX6_outputWith, w ∈ lw_tbl := wi_cons (List.mem_of_getElem? (i := 921) (by decide +kernel)) (wi_app (in_idx [758, 760, 18, 53, 761, 681, 737, 738, 739, 740, 741, 742, 922, 923, 924, 726, 728, 15, 729, 685, 925, 927, 38, 928, 929, 931, 39, 932, 683, 751, 752, 753, 850, 852, 31, 853, 806, 808, 21, 809, 810, 812, 22, 813, 814, 816, 23, 817, 688, 818, 820, 24, 821, 822, 824, 25, 825, 826, 828, 26, 829, 830, 832, 27, 833, 834, 836, 28, 837, 838, 840, 29, 841, 842, 844, 30, 845, 933, 935, 40, 936] (by decide +kernel)) inX6)
set_option maxRecDepth 20000 in
theorem wg_X6_outputWith : GoodIn lwG (wsV RL 162 RX6 yX6_outputWith wsX6_outputWith) := lwG_of (wi_app (in_idx [918, 919, 920, 53] (by decide +kernel)) wi_X6_outputWith) (by decide +kernel)
set_option maxRecDepth 20000 in
theorem wi_X6_parse : ∀ w ∈ wsX6_parse, w ∈ lw_tbl := wi_cons (List.mem_of_getElem? (i := 956) (by decide +kernel)) (wi_app (in_idx [685, 681, 690, 687, 686, 683, 929, 931, 39, 53, 932, 957, 959, 41, 960, 691, 961, 963, 42, 964, 965, 967, 43, 968, 737, 738, 739, 969, 971, 44, 972, 747, 749, 17, 750, 751, 752, 753, 973, 975, 45, 976, 743, 745, 16, 746, 684, 682, 933, 935, 40, 936] (by decide +kernel)) inX6)
set_option maxRecDepth 20000 in
theorem wg_X6_parse : GoodIn lwG (wsV RL 179 RX6 yX6_parse wsX6_parse) := lwG_of (wi_app (in_idx [953, 954, 955, 53] (by decide +kernel)) wi_X6_parse) (by decide +kernel)
set_option maxRecDepth 20000 in
theorem wi_X6_restart : ∀ w ∈ wsX6_restart, w ∈ lw_tbl := wi_cons (List.mem_of_getElem? (i := 849) (by decide +kernel)) (wi_app (in_idx [685, 681, 743, 745, 16, 53, 746, 684, 682, 850, 852, 31, 853, 751, 752, 753] (by decide +kernel)) inX6)
set_option maxRecDepth 20000 in
theorem wg_X6_restart : GoodIn lwG (wsV RL 124 RX6 yX6_restart wsX6_restart) := lwG_of (wi_app (in_idx [846, 847, 848, 53] (by decide +kernel)) wi_X6_restart) (by decide +kernel)
set_option maxRecDepth 20000 in
theorem wi_X6_run : ∀ w ∈ wsX6_run, w ∈ lw_tbl := wi_cons (List.mem_of_getElem? (i := 805) (by decide +kernel)) (wi_app (in_idx [681, 737, 738, 53, 739, 726, 728, 15, 729, 685, 743, 745, 16, 746, 684, 682, 806, 808, 21, 809, 810, 812, 22, 813, 751, 752, 753, 814, 816, 23, 817, 688, 818, 820, 24, 821, 822, 824, 25, 825, 826, 828, 26, 829, 830, 832, 27, 833, 834, 836, 28, 837, 838, 840, 29, 841, 842, 844, 30, 845] (by decide +kernel)) inX6)
set_option maxRecDepth 20000 in
theorem wg_X6_run : GoodIn lwG (wsV RL 120 RX6 yX6_run wsX6_run) := lwG_of (wi_app (in_idx [802, 803, 804, 53] (by decide +kernel)) wi_X6_run) (by decide +kernel)
set_option maxRecDepth 20000 in
theorem wi_X6_setCapacity : ∀ w ∈ wsX6_setCapacity, w ∈ lw_tbl := wi_cons (List.mem_of_getElem? (i := 768) (by decide +kernel)) (wi_app (in_idx [681, 758, 760, 18, 53, 761, 737, 738, 739, 740, 741, 742, 726, 728, 15, 729, 685, 743, 745, 16, 746, 684, 682, 751, 752, 753] (by decide +kernel)) inX6)
set_option maxRecDepth 20000 in
theorem wg_X6_setCapacity : GoodIn lwG (wsV RL 98 RX6 yX6_setCapacity wsX6_setCapacity) := lwG_of (wi_app (in_idx [765, 766, 767, 53] (by decide +kernel)) wi_X6_setCapacity) (by decide +kernel)
set_option maxRecDepth 20000 in
theorem wi_X6_setMachine : ∀ w ∈ wsX6_setMachine, w ∈ lw_tbl := wi_cons (List.mem_of_getElem? (i := 757) (by decide +kernel)) (wi_app (in_idx [681, 758, 760, 18, 53, 761, 737, 738, 739, 734, 735, 736, 762, 763, 764, 726, 728, 15, 729, 685, 743, 745, 16, 746, 684, 682, 751, 752, 753] (by decide +kernel)) inX6)
set_option maxRecDepth 20000 in
theorem wg_X6_setMachine : GoodIn lwG (wsV RL 94 RX6 yX6_setMachine wsX6_setMachine) := lwG_of (wi_app (in_idx [754, 755, 756, 53] (by decide +kernel)) wi_X6_setMachine) (by decide +kernel)
set_option maxRecDepth 20000 in
theorem wi_X6_setting : ∀ w ∈ wsX6_setting, w ∈ lw_tbl := wi_cons (List.mem_of_getElem? (i := 865) (by decide +kernel)) (wi_app (in_idx [681, 758, 760, 18, 53, 761, 737, 738, 739, 726, 728, 15, 729, 685, 751, 752, 753] (by decide +kernel)) inX6)
set_option maxRecDepth 20000 in
theorem wg_X6_setting : GoodIn lwG (wsV RL 135 RX6 yX6_setting wsX6_setting) := lwG_of (wi_app (in_idx [862, 863, 864, 53] (by decide +kernel)) wi_X6_setting) (by decide +kernel)
set_option maxRecDepth 20000 in
theorem wi_X6_size : ∀ w ∈ wsX6_size, w ∈ lw_tbl := wi_cons (List.mem_of_getElem? (i := 797) (by decide +kernel)) (wi_app (in_idx [685, 681] (by decide +kernel)) inX6)
set_option maxRecDepth 20000 in
theorem wg_X6_size : GoodIn lwG (wsV RL 113 RX6 yX6_size wsX6_size) := lwG_of (wi_app (in_idx [794, 795, 796, 53] (by decide +kernel)) wi_X6_size) (by decide +kernel)
set_option maxRecDepth 20000 in
theorem wi_X6_slowest : ∀ w ∈ wsX6_slowest, w ∈ lw_tbl := wi_cons (List.mem_of_getElem? (i := 909) (by decide +kernel)) (wi_app (in_idx [894, 896, 34, 53, 897, 681, 737, 738, 739, 726, 728, 15, 729, 685, 898, 900, 35, 901, 814, 816, 23, 817, 688, 902, 904, 36, 905, 830, 832, 27, 833, 751, 752, 753] (by decide +kernel)) inX6)
set_option maxRecDepth 20000 in
theorem wg_X6_slowest : GoodIn lwG (wsV RL 159 RX6 yX6_slowest wsX6_slowest) := lwG_of (wi_app (in_idx [906, 907, 908, 53] (by decide +kernel)) wi_X6_slowest) (by decide +kernel)
set_option maxRecDepth 20000 in
theorem wi_X6_stop : ∀ w ∈ wsX6_stop, w ∈ lw_tbl := wi_cons (List.mem_of_getElem? (i := 801) (by decide +kernel)) (wi_app (in_idx [681, 737, 738, 53, 739, 726, 728, 15, 729, 685] (by decide +kernel)) inX6)
set_option maxRecDepth 20000 in
theorem wg_X6_stop : GoodIn lwG (wsV RL 116 RX6 yX6_stop wsX6_stop) := lwG_of (wi_app (in_idx [798, 799, 800, 53] (by decide +kernel)) wi_X6_stop) (by decide +kernel)
set_option maxRecDepth 20000 in
theorem wi_X6_thrown : ∀ w ∈ wsX6_thrown, w ∈ lw_tbl := wi_cons (List.mem_of_getElem? (i := 721) (by decide +kernel)) (wi_app (in_idx [685] (by decide +kernel)) inX6)
set_option maxRecDepth 20000 in
theorem wg_X6_thrown : GoodIn lwG (wsV RL 88 RX6 yX6_thrown wsX6_thrown) := lwG_of (wi_app (in_idx [718, 719, 720, 53] (by decide +kernel)) wi_X6_thrown) (by decide +kernel)
set_option maxRecDepth 20000 in
theorem wi_X6_undo : ∀ w ∈ wsX6_undo, w ∈ lw_tbl := wi_cons (List.mem_of_getElem? (i := 725) (by decide +kernel)) (wi_app (in_idx [684, 681, 682, 726, 728, 15, 53, 729, 685] (by decide +kernel)) inX6)
set_option maxRecDepth 20000 in
theorem wg_X6_undo : GoodIn lwG (wsV RL 182 RX6 yX6_undo wsX6_undo) := lwG_of (wi_app (in_idx [722, 723, 724, 53] (by decide +kernel)) wi_X6_undo) (by decide +kernel)
