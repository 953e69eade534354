/-! THE LAW, words: what its calls need, out of the tables -/
def lwG : List Cond := lw_tbl.filter goodWord
theorem in_idx {big ws : List Cond} (ps : List Nat) (hp : ws = ps.filterMap (fun i => big[i]?)) : ∀ w ∈ ws, w ∈ big := by
  intro w hw
  rw [hp, List.mem_filterMap] at hw
  obtain ⟨i, -, e⟩ := hw
  exact List.mem_of_getElem? e
theorem wi_app {big a b : List Cond} (ha : ∀ w ∈ a, w ∈ big) (hb : ∀ w ∈ b, w ∈ big) : ∀ w ∈ a ++ b, w ∈ big := fun w h => (List.mem_append.mp h).elim (ha w) (hb w)
theorem wi_cons {big a : List Cond} {c : Cond} (hc : c ∈ big) (ha : ∀ w ∈ a, w ∈ big) : ∀ w ∈ c :: a, w ∈ big := fun w h => (List.mem_cons.mp h).elim (fun e => e ▸ hc) (ha w)
theorem lwG_of {ws : List Cond} (hm : ∀ w ∈ ws, w ∈ lw_tbl) (h : ws.all goodWord = true) : GoodIn lwG ws := fun w hw => ⟨List.mem_filter.mpr ⟨hm w hw, List.all_eq_true.mp h w hw⟩, good_of_word (List.all_eq_true.mp h w hw)⟩
theorem lwG_up {ws : List Cond} (h : GoodIn lwG ws) : GoodIn lw_tbl ws := fun w hw => ⟨(List.mem_filter.mp (h w hw).1).1, (h w hw).2⟩
theorem lwG_cons {c : Cond} {ws : List Cond} (h : GoodIn lwG ws) : GoodIn (c :: lwG) ws := fun w hw => ⟨List.mem_cons_of_mem _ (h w hw).1, (h w hw).2⟩
theorem lwG_self : GoodIn lw_tbl lwG := fun w hw => ⟨(List.mem_filter.mp hw).1, good_of_word (List.mem_filter.mp hw).2⟩
theorem inX0 : ∀ w ∈ wsX00, w ∈ lw_tbl := by decide +kernel
theorem inX1 : ∀ w ∈ wsX10, w ∈ lw_tbl := by decide +kernel
theorem inX2 : ∀ w ∈ wsX20, w ∈ lw_tbl := by decide +kernel
theorem inX3 : ∀ w ∈ wsX30, w ∈ lw_tbl := by decide +kernel
theorem inX4 : ∀ w ∈ wsX40, w ∈ lw_tbl := by decide +kernel
theorem inX5 : ∀ w ∈ wsX50, w ∈ lw_tbl := by decide +kernel
theorem in_x0 : ∀ w ∈ (vx_atS RX5 45 "java/lang/IllegalArgumentException" ["java/lang/RuntimeException", "java/lang/Exception"]).filter goodWord, w ∈ lw_tbl := by decide +kernel
theorem in_x1 : ∀ w ∈ (vx_atS RX5 59 "java/lang/IllegalStateException" ["java/lang/RuntimeException", "java/lang/Exception"]).filter goodWord, w ∈ lw_tbl := by decide +kernel
theorem in_x2 : ∀ w ∈ (vx_atS RX5 120 "java/lang/IndexOutOfBoundsException" ["java/lang/RuntimeException", "java/lang/Exception"]).filter goodWord, w ∈ lw_tbl := by decide +kernel
set_option maxRecDepth 20000 in
theorem wi_X5_addMachine : ∀ w ∈ wsX5_addMachine, w ∈ lw_tbl := wi_cons (List.mem_of_getElem? (i := 337) (by decide +kernel)) (wi_app (wi_app (wi_app (wi_app (wi_app (wi_app (in_idx [284, 22, 149, 19, 120, 122, 338, 339, 11, 340, 341, 342, 343, 346, 347, 348, 14, 349, 92, 91, 93, 221, 222, 12, 223, 69, 65, 224, 226, 225, 20, 67, 72, 227, 228, 13, 229, 50, 47, 230, 48, 49, 350, 351, 352, 353, 354, 355, 356] (by decide +kernel)) inX5) inX2) inX1) inX4) in_x0) in_x1)
set_option maxRecDepth 20000 in
theorem wg_X5_addMachine : GoodIn lwG (wsV RL 9 RX5 yX5_addMachine wsX5_addMachine) := lwG_of (wi_app (in_idx [334, 335, 336, 11] (by decide +kernel)) wi_X5_addMachine) (by decide +kernel)
set_option maxRecDepth 20000 in
theorem wi_X5_addRandomStops : ∀ w ∈ wsX5_addRandomStops, w ∈ lw_tbl := wi_cons (List.mem_of_getElem? (i := 396) (by decide +kernel)) (wi_app (wi_app (wi_app (wi_app (wi_app (wi_app (wi_app (wi_app (in_idx [284, 22, 149, 19, 397, 120, 122, 400, 401, 23, 261, 263, 1, 11, 264, 265, 21, 341, 342, 343, 346, 347, 348, 14, 349, 92, 91, 93, 221, 222, 12, 223, 69, 65, 224, 226, 225, 20, 67, 72, 227, 228, 13, 229, 50, 47, 230, 48, 49, 402, 403, 404, 405, 31, 32, 406, 410, 411, 412, 413, 414, 415, 416, 417, 386, 387, 388, 389] (by decide +kernel)) inX5) inX2) inX4) inX0) inX1) in_x0) in_x1) in_x2)
set_option maxRecDepth 20000 in
theorem wg_X5_addRandomStops : GoodIn lwG (wsV RL 35 RX5 yX5_addRandomStops wsX5_addRandomStops) := lwG_of (wi_app (in_idx [393, 394, 395, 11] (by decide +kernel)) wi_X5_addRandomStops) (by decide +kernel)
set_option maxRecDepth 20000 in
theorem wi_X5_addStop : ∀ w ∈ wsX5_addStop, w ∈ lw_tbl := wi_cons (List.mem_of_getElem? (i := 383) (by decide +kernel)) (wi_app (wi_app (wi_app (wi_app (wi_app (wi_app (wi_app (in_idx [284, 22, 149, 19, 120, 122, 261, 263, 1, 11, 264, 265, 21, 341, 342, 343, 346, 347, 348, 14, 349, 92, 91, 93, 221, 222, 12, 223, 69, 65, 224, 226, 225, 20, 67, 72, 227, 228, 13, 229, 50, 47, 230, 48, 49, 386, 387, 388, 389] (by decide +kernel)) inX5) inX2) inX4) inX1) in_x0) in_x1) in_x2)
set_option maxRecDepth 20000 in
theorem wg_X5_addStop : GoodIn lwG (wsV RL 32 RX5 yX5_addStop wsX5_addStop) := lwG_of (wi_app (in_idx [380, 381, 382, 11] (by decide +kernel)) wi_X5_addStop) (by decide +kernel)
set_option maxRecDepth 20000 in
theorem wi_X5_append : ∀ w ∈ wsX5_append, w ∈ lw_tbl := wi_cons (List.mem_of_getElem? (i := 545) (by decide +kernel)) (wi_app (wi_app (wi_app (wi_app (in_idx [284, 22, 149, 19, 123, 341, 342, 11, 343, 548, 549, 550, 15, 551, 109, 108] (by decide +kernel)) inX5) inX3) in_x0) in_x1)
set_option maxRecDepth 20000 in
theorem wg_X5_append : GoodIn lwG (wsV RL 73 RX5 yX5_append wsX5_append) := lwG_of (wi_app (in_idx [542, 543, 544, 11] (by decide +kernel)) wi_X5_append) (by decide +kernel)
set_option maxRecDepth 20000 in
theorem wi_X5_bestBuffer : ∀ w ∈ wsX5_bestBuffer, w ∈ lw_tbl := wi_cons (List.mem_of_getElem? (i := 536) (by decide +kernel)) (wi_app (wi_app (wi_app (wi_app (wi_app (in_idx [284, 22, 120, 538, 442, 24, 443, 481, 482, 11, 483, 341, 342, 343, 426, 428, 2, 429, 149, 19, 513, 515, 9, 516, 121, 517, 222, 12, 223, 69, 65, 224, 226, 225, 20, 67, 72, 227, 228, 13, 229, 50, 47, 230, 48, 49, 518, 519, 520, 521, 354, 355, 356, 432, 433, 434, 435, 436, 437, 438, 439, 440, 52, 441, 444, 446, 3, 447, 448, 450, 4, 451, 452, 453, 454, 455, 456, 457, 458, 459, 461, 5, 462, 463, 464, 465, 466, 468, 6, 469, 470, 472, 7, 473, 244, 245, 246, 247] (by decide +kernel)) inX5) inX2) inX4) in_x0) in_x1)
set_option maxRecDepth 20000 in
theorem wg_X5_bestBuffer : GoodIn lwG (wsV RL 70 RX5 yX5_bestBuffer wsX5_bestBuffer) := lwG_of (wi_app (in_idx [533, 534, 535, 11] (by decide +kernel)) wi_X5_bestBuffer) (by decide +kernel)
set_option maxRecDepth 20000 in
theorem wi_X5_bound : ∀ w ∈ wsX5_bound, w ∈ lw_tbl := wi_cons (List.mem_of_getElem? (i := 480) (by decide +kernel)) (wi_app (wi_app (wi_app (wi_app (wi_app (in_idx [120, 481, 482, 11, 483, 284, 22, 341, 342, 343, 426, 428, 2, 429, 149, 19, 484, 485, 486, 12, 487, 488, 69, 489, 490, 491, 492, 65, 493, 495, 8, 496, 67, 497, 442, 24, 443, 436, 437, 438, 13, 439, 440, 52, 50, 48, 49, 441, 47, 452, 453, 454, 455, 498] (by decide +kernel)) inX5) inX2) inX4) in_x0) in_x1)
set_option maxRecDepth 20000 in
theorem wg_X5_bound : GoodIn lwG (wsV RL 54 RX5 yX5_bound wsX5_bound) := lwG_of (wi_app (in_idx [477, 478, 479, 11] (by decide +kernel)) wi_X5_bound) (by decide +kernel)
set_option maxRecDepth 20000 in
theorem wi_X5_capacityFor : ∀ w ∈ wsX5_capacityFor, w ∈ lw_tbl := wi_cons (List.mem_of_getElem? (i := 528) (by decide +kernel)) (wi_app (wi_app (wi_app (wi_app (wi_app (in_idx [284, 22, 120, 121, 261, 263, 1, 11, 264, 265, 21, 481, 482, 483, 341, 342, 343, 484, 485, 486, 12, 487, 488, 69, 489, 490, 491, 492, 65, 493, 495, 8, 496, 67, 497, 442, 24, 443, 436, 437, 438, 13, 439, 440, 52, 50, 48, 49, 441, 47, 452, 453, 454, 455, 498, 513, 515, 9, 516, 517, 222, 223, 224, 226, 225, 20, 72, 227, 228, 229, 230, 518, 519, 520, 521, 354, 355, 356, 432, 433, 434, 435, 444, 446, 3, 447, 448, 450, 4, 451, 456, 457, 458, 459, 461, 5, 462, 463, 464, 465, 466, 468, 6, 469, 470, 472, 7, 473, 244, 245, 246, 247] (by decide +kernel)) inX5) inX2) inX4) in_x0) in_x2)
set_option maxRecDepth 20000 in
theorem wg_X5_capacityFor : GoodIn lwG (wsV RL 67 RX5 yX5_capacityFor wsX5_capacityFor) := lwG_of (wi_app (in_idx [525, 526, 527, 11] (by decide +kernel)) wi_X5_capacityFor) (by decide +kernel)
set_option maxRecDepth 20000 in
theorem wi_X5_clearStops : ∀ w ∈ wsX5_clearStops, w ∈ lw_tbl := wi_cons (List.mem_of_getElem? (i := 588) (by decide +kernel)) (wi_app (wi_app (wi_app (wi_app (in_idx [122, 120, 346, 347, 348, 14, 349, 92, 91, 93, 221, 222, 12, 223, 69, 65, 224, 226, 225, 20, 67, 72, 227, 228, 13, 229, 50, 47, 230, 48, 49, 589, 590, 591, 592, 593, 387, 388, 389] (by decide +kernel)) inX5) inX2) inX1) inX4)
set_option maxRecDepth 20000 in
theorem wg_X5_clearStops : GoodIn lwG (wsV RL 148 RX5 yX5_clearStops wsX5_clearStops) := lwG_of (wi_app (in_idx [585, 586, 587, 11] (by decide +kernel)) wi_X5_clearStops) (by decide +kernel)
set_option maxRecDepth 20000 in
theorem wi_X5_count : ∀ w ∈ wsX5_count, w ∈ lw_tbl := wi_cons (List.mem_of_getElem? (i := 260) (by decide +kernel)) (wi_app (wi_app (wi_app (wi_app (in_idx [120, 261, 263, 1, 11, 264, 265, 21, 281, 282, 283, 284, 22] (by decide +kernel)) inX5) inX2) in_x2) in_x0)
set_option maxRecDepth 20000 in
theorem wg_X5_count : GoodIn lwG (wsV RL 51 RX5 yX5_count wsX5_count) := lwG_of (wi_app (in_idx [257, 258, 259, 11] (by decide +kernel)) wi_X5_count) (by decide +kernel)
set_option maxRecDepth 20000 in
theorem wi_X5_init : ∀ w ∈ wsX5_init, w ∈ lw_tbl := wi_cons (List.mem_of_getElem? (i := 29) (by decide +kernel)) (wi_app (wi_app (wi_app (wi_app (wi_app (in_idx [30, 31, 32, 33, 34, 12, 120, 121, 82, 83, 14, 122, 102, 103, 15, 123, 36, 37, 38, 39, 64, 65, 41, 42, 13, 67, 44, 45, 46, 47, 48, 49, 84, 85, 86, 87, 88, 91, 105, 106, 107, 108] (by decide +kernel)) inX2) inX5) inX1) inX3) inX4)
set_option maxRecDepth 20000 in
theorem wg_X5_init : GoodIn lwG wsX5_init := lwG_of wi_X5_init (by decide +kernel)
set_option maxRecDepth 20000 in
theorem wi_X5_inside : ∀ w ∈ wsX5_inside, w ∈ lw_tbl := wi_cons (List.mem_of_getElem? (i := 569) (by decide +kernel)) (wi_app (wi_app (in_idx [120, 570, 571, 572, 12, 573, 69, 65] (by decide +kernel)) inX5) inX2)
set_option maxRecDepth 20000 in
theorem wg_X5_inside : GoodIn lwG (wsV RL 136 RX5 yX5_inside wsX5_inside) := lwG_of (wi_app (in_idx [566, 567, 568, 11] (by decide +kernel)) wi_X5_inside) (by decide +kernel)
set_option maxRecDepth 20000 in
theorem wi_X5_limiting : ∀ w ∈ wsX5_limiting, w ∈ lw_tbl := wi_cons (List.mem_of_getElem? (i := 561) (by decide +kernel)) (wi_app (wi_app (wi_app (in_idx [120, 426, 428, 2, 11, 429, 149, 19, 562, 563, 564, 12, 565, 488, 69, 65] (by decide +kernel)) inX5) inX2) in_x1)
set_option maxRecDepth 20000 in
theorem wg_X5_limiting : GoodIn lwG (wsV RL 57 RX5 yX5_limiting wsX5_limiting) := lwG_of (wi_app (in_idx [558, 559, 560, 11] (by decide +kernel)) wi_X5_limiting) (by decide +kernel)
set_option maxRecDepth 20000 in
theorem wi_X5_machine : ∀ w ∈ wsX5_machine, w ∈ lw_tbl := wi_cons (List.mem_of_getElem? (i := 315) (by decide +kernel)) (wi_app (wi_app (wi_app (wi_app (in_idx [120, 261, 263, 1, 11, 264, 265, 21, 281, 282, 283, 284, 22] (by decide +kernel)) inX5) inX2) in_x2) in_x0)
set_option maxRecDepth 20000 in
theorem wg_X5_machine : GoodIn lwG (wsV RL 48 RX5 yX5_machine wsX5_machine) := lwG_of (wi_app (in_idx [312, 313, 314, 11] (by decide +kernel)) wi_X5_machine) (by decide +kernel)
set_option maxRecDepth 20000 in
theorem wi_X5_now : ∀ w ∈ wsX5_now, w ∈ lw_tbl := wi_cons (List.mem_of_getElem? (i := 239) (by decide +kernel)) (wi_app (wi_app (in_idx [120] (by decide +kernel)) inX5) inX2)
set_option maxRecDepth 20000 in
theorem wg_X5_now : GoodIn lwG (wsV RL 81 RX5 yX5_now wsX5_now) := lwG_of (wi_app (in_idx [236, 237, 238, 11] (by decide +kernel)) wi_X5_now) (by decide +kernel)
set_option maxRecDepth 20000 in
theorem wi_X5_output : ∀ w ∈ wsX5_output, w ∈ lw_tbl := wi_cons (List.mem_of_getElem? (i := 243) (by decide +kernel)) (wi_app (wi_app (in_idx [120, 244, 245, 246, 12, 247, 69, 65] (by decide +kernel)) inX5) inX2)
set_option maxRecDepth 20000 in
theorem wg_X5_output : GoodIn lwG (wsV RL 84 RX5 yX5_output wsX5_output) := lwG_of (wi_app (in_idx [240, 241, 242, 11] (by decide +kernel)) wi_X5_output) (by decide +kernel)
set_option maxRecDepth 20000 in
theorem wi_X5_outputWith : ∀ w ∈ wsX5_outputWith, w ∈ lw_tbl := wi_cons (List.mem_of_getElem? (i := 512) (by decide +kernel)) (wi_app (wi_app (wi_app (wi_app (wi_app (in_idx [284, 22, 261, 263, 1, 11, 264, 265, 21, 120, 341, 342, 343, 481, 482, 483, 513, 515, 9, 516, 121, 517, 222, 12, 223, 69, 65, 224, 226, 225, 20, 67, 72, 227, 228, 13, 229, 50, 47, 230, 48, 49, 518, 519, 520, 521, 354, 355, 356, 432, 433, 434, 435, 436, 437, 438, 439, 440, 52, 441, 442, 24, 443, 444, 446, 3, 447, 448, 450, 4, 451, 452, 453, 454, 455, 456, 457, 458, 459, 461, 5, 462, 463, 464, 465, 466, 468, 6, 469, 470, 472, 7, 473, 244, 245, 246, 247] (by decide +kernel)) inX5) inX2) inX4) in_x0) in_x2)
set_option maxRecDepth 20000 in
theorem wg_X5_outputWith : GoodIn lwG (wsV RL 64 RX5 yX5_outputWith wsX5_outputWith) := lwG_of (wi_app (in_idx [509, 510, 511, 11] (by decide +kernel)) wi_X5_outputWith) (by decide +kernel)
set_option maxRecDepth 20000 in
theorem wi_X5_restart : ∀ w ∈ wsX5_restart, w ∈ lw_tbl := wi_cons (List.mem_of_getElem? (i := 580) (by decide +kernel)) (wi_app (wi_app (wi_app (wi_app (in_idx [122, 120, 346, 347, 348, 14, 349, 92, 91, 93, 221, 222, 12, 223, 69, 65, 224, 226, 225, 20, 67, 72, 227, 228, 13, 229, 50, 47, 230, 48, 49, 518, 519, 520, 521, 354, 355, 356] (by decide +kernel)) inX5) inX2) inX1) inX4)
set_option maxRecDepth 20000 in
theorem wg_X5_restart : GoodIn lwG (wsV RL 139 RX5 yX5_restart wsX5_restart) := lwG_of (wi_app (in_idx [577, 578, 579, 11] (by decide +kernel)) wi_X5_restart) (by decide +kernel)
set_option maxRecDepth 20000 in
theorem wi_X5_run : ∀ w ∈ wsX5_run, w ∈ lw_tbl := wi_cons (List.mem_of_getElem? (i := 424) (by decide +kernel)) (wi_app (wi_app (wi_app (wi_app (wi_app (wi_app (in_idx [284, 22, 149, 19, 120, 122, 341, 342, 11, 343, 426, 428, 2, 429, 346, 347, 348, 14, 349, 92, 91, 93, 221, 222, 12, 223, 69, 65, 224, 226, 225, 20, 67, 72, 227, 228, 13, 229, 50, 47, 230, 48, 49, 244, 245, 246, 247, 432, 433, 434, 435, 436, 437, 438, 439, 440, 52, 441, 442, 24, 443, 444, 446, 3, 447, 448, 450, 4, 451, 452, 453, 454, 455, 456, 457, 458, 459, 461, 5, 462, 463, 464, 465, 466, 468, 6, 469, 470, 472, 7, 473] (by decide +kernel)) inX5) inX2) inX1) inX4) in_x0) in_x1)
set_option maxRecDepth 20000 in
theorem wg_X5_run : GoodIn lwG (wsV RL 41 RX5 yX5_run wsX5_run) := lwG_of (wi_app (in_idx [421, 422, 423, 11] (by decide +kernel)) wi_X5_run) (by decide +kernel)
set_option maxRecDepth 20000 in
theorem wi_X5_setCapacity : ∀ w ∈ wsX5_setCapacity, w ∈ lw_tbl := wi_cons (List.mem_of_getElem? (i := 375) (by decide +kernel)) (wi_app (wi_app (wi_app (wi_app (wi_app (wi_app (in_idx [284, 22, 122, 120, 261, 263, 1, 11, 264, 265, 21, 341, 342, 343, 346, 347, 348, 14, 349, 92, 91, 93, 221, 222, 12, 223, 69, 65, 224, 226, 225, 20, 67, 72, 227, 228, 13, 229, 50, 47, 230, 48, 49] (by decide +kernel)) inX5) inX2) inX1) inX4) in_x0) in_x2)
set_option maxRecDepth 20000 in
theorem wg_X5_setCapacity : GoodIn lwG (wsV RL 28 RX5 yX5_setCapacity wsX5_setCapacity) := lwG_of (wi_app (in_idx [372, 373, 374, 11] (by decide +kernel)) wi_X5_setCapacity) (by decide +kernel)
set_option maxRecDepth 20000 in
theorem wi_X5_setMachine : ∀ w ∈ wsX5_setMachine, w ∈ lw_tbl := wi_cons (List.mem_of_getElem? (i := 363) (by decide +kernel)) (wi_app (wi_app (wi_app (wi_app (wi_app (wi_app (in_idx [284, 22, 122, 120, 261, 263, 1, 11, 264, 265, 21, 338, 339, 340, 341, 342, 343, 346, 347, 348, 14, 349, 92, 91, 93, 221, 222, 12, 223, 69, 65, 224, 226, 225, 20, 67, 72, 227, 228, 13, 229, 50, 47, 230, 48, 49, 365, 366, 367, 368] (by decide +kernel)) inX5) inX2) inX1) inX4) in_x0) in_x2)
set_option maxRecDepth 20000 in
theorem wg_X5_setMachine : GoodIn lwG (wsV RL 21 RX5 yX5_setMachine wsX5_setMachine) := lwG_of (wi_app (in_idx [360, 361, 362, 11] (by decide +kernel)) wi_X5_setMachine) (by decide +kernel)
set_option maxRecDepth 20000 in
theorem wi_X5_setting : ∀ w ∈ wsX5_setting, w ∈ lw_tbl := wi_cons (List.mem_of_getElem? (i := 308) (by decide +kernel)) (wi_app (wi_app (wi_app (wi_app (in_idx [120, 261, 263, 1, 11, 264, 265, 21, 281, 282, 283, 284, 22] (by decide +kernel)) inX5) inX2) in_x2) in_x0)
set_option maxRecDepth 20000 in
theorem wg_X5_setting : GoodIn lwG (wsV RL 45 RX5 yX5_setting wsX5_setting) := lwG_of (wi_app (in_idx [305, 306, 307, 11] (by decide +kernel)) wi_X5_setting) (by decide +kernel)
set_option maxRecDepth 20000 in
theorem wi_X5_size : ∀ w ∈ wsX5_size, w ∈ lw_tbl := wi_cons (List.mem_of_getElem? (i := 251) (by decide +kernel)) (wi_app (wi_app (wi_app (in_idx [120] (by decide +kernel)) inX5) inX2) inX4)
set_option maxRecDepth 20000 in
theorem wg_X5_size : GoodIn lwG (wsV RL 87 RX5 yX5_size wsX5_size) := lwG_of (wi_app (in_idx [248, 249, 250, 11] (by decide +kernel)) wi_X5_size) (by decide +kernel)
set_option maxRecDepth 20000 in
theorem wi_X5_slowest : ∀ w ∈ wsX5_slowest, w ∈ lw_tbl := wi_cons (List.mem_of_getElem? (i := 505) (by decide +kernel)) (wi_app (wi_app (wi_app (wi_app (wi_app (in_idx [120, 481, 482, 11, 483, 284, 22, 341, 342, 343, 426, 428, 2, 429, 149, 19, 484, 485, 486, 12, 487, 488, 69, 489, 490, 491, 492, 65, 493, 495, 8, 496, 67, 497, 442, 24, 443, 436, 437, 438, 13, 439, 440, 52, 50, 48, 49, 441, 47, 452, 453, 454, 455] (by decide +kernel)) inX5) inX2) inX4) in_x0) in_x1)
set_option maxRecDepth 20000 in
theorem wg_X5_slowest : GoodIn lwG (wsV RL 61 RX5 yX5_slowest wsX5_slowest) := lwG_of (wi_app (in_idx [502, 503, 504, 11] (by decide +kernel)) wi_X5_slowest) (by decide +kernel)
set_option maxRecDepth 20000 in
theorem wi_X5_stop : ∀ w ∈ wsX5_stop, w ∈ lw_tbl := wi_cons (List.mem_of_getElem? (i := 322) (by decide +kernel)) (wi_app (wi_app (wi_app (wi_app (wi_app (in_idx [265, 21, 120, 281, 282, 11, 283, 284, 22, 324, 325, 326, 13, 327, 47, 48, 49] (by decide +kernel)) inX5) inX2) inX4) in_x2) in_x0)
set_option maxRecDepth 20000 in
theorem wg_X5_stop : GoodIn lwG (wsV RL 38 RX5 yX5_stop wsX5_stop) := lwG_of (wi_app (in_idx [319, 320, 321, 11] (by decide +kernel)) wi_X5_stop) (by decide +kernel)
set_option maxRecDepth 20000 in
theorem wi_X5_undo : ∀ w ∈ wsX5_undo, w ∈ lw_tbl := wi_cons (List.mem_of_getElem? (i := 148) (by decide +kernel)) (wi_app (wi_app (wi_app (wi_app (wi_app (in_idx [149, 19, 122, 120, 217, 218, 219, 14, 220, 93, 91, 92, 221, 222, 12, 223, 69, 65, 224, 226, 225, 20, 67, 72, 227, 228, 13, 229, 50, 47, 230, 48, 49] (by decide +kernel)) inX5) inX1) inX2) inX4) in_x1)
set_option maxRecDepth 20000 in
theorem wg_X5_undo : GoodIn lwG (wsV RL 76 RX5 yX5_undo wsX5_undo) := lwG_of (wi_app (in_idx [145, 146, 147, 11] (by decide +kernel)) wi_X5_undo) (by decide +kernel)
theorem lk_7 : Cond.constant RL 7 916318735 ∈ lwG := List.mem_filter.mpr ⟨List.mem_of_getElem? (i := 136) (by decide +kernel), rfl⟩
theorem lk_8 : Cond.constant RL 8 2147483647 ∈ lwG := List.mem_filter.mpr ⟨List.mem_of_getElem? (i := 140) (by decide +kernel), rfl⟩
theorem lk_17 : Cond.constant RL 17 (-5000001) ∈ lwG := List.mem_filter.mpr ⟨List.mem_of_getElem? (i := 301) (by decide +kernel), rfl⟩
theorem lk_20 : Cond.constant RL 20 (-5000002) ∈ lwG := List.mem_filter.mpr ⟨List.mem_of_getElem? (i := 231) (by decide +kernel), rfl⟩
theorem lk_27 : Cond.constant RL 27 (-5000003) ∈ lwG := List.mem_filter.mpr ⟨List.mem_of_getElem? (i := 300) (by decide +kernel), rfl⟩
theorem lk_147 : Cond.constant RL 147 1000000 ∈ lwG := List.mem_filter.mpr ⟨List.mem_of_getElem? (i := 584) (by decide +kernel), rfl⟩
theorem lk_163 : Cond.constant RL 163 10000000 ∈ lwG := List.mem_filter.mpr ⟨List.mem_of_getElem? (i := 594) (by decide +kernel), rfl⟩
theorem lk_79 : Cond.constantLong RL 79 31 ∈ lwG := List.mem_filter.mpr ⟨List.mem_of_getElem? (i := 235) (by decide +kernel), rfl⟩
theorem lc1 : Cond.classLink RL 15 (exN 1) ∈ lwG := List.mem_filter.mpr ⟨List.mem_of_getElem? (i := 256) (by decide +kernel), rfl⟩
theorem lc2 : Cond.classLink RL 18 (exN 2) ∈ lwG := List.mem_filter.mpr ⟨List.mem_of_getElem? (i := 144) (by decide +kernel), rfl⟩
theorem lc3 : Cond.classLink RL 25 (exN 3) ∈ lwG := List.mem_filter.mpr ⟨List.mem_of_getElem? (i := 255) (by decide +kernel), rfl⟩
def wsW_acts : List Cond := Cond.code yL_acts cL_acts 7 (some .int) :: lwG
set_option maxRecDepth 20000 in
theorem wl_acts : GoodIn lwG (va_wsS RL 164 yL_acts wsW_acts) := goodIn_app (lwG_of (in_idx [581, 582, 10] (by decide +kernel)) (by decide +kernel)) (fun w h => (List.mem_cons.mp h).elim (fun q => q ▸ ⟨List.mem_filter.mpr ⟨List.mem_of_getElem? (i := 583) (by decide +kernel), rfl⟩, good_of_word rfl⟩) (fun q => ⟨q, good_of_word (List.mem_filter.mp q).2⟩))
def wsW_addMachine : List Cond := Cond.codeWith yL_addMachine cL_addMachine 6 (some .int) [(0, 9, 12, 15), (0, 9, 17, 18)] :: lwG
set_option maxRecDepth 20000 in
theorem wl_addMachine : GoodIn lwG (va_wsS RL 106 yL_addMachine wsW_addMachine) := goodIn_app (lwG_of (in_idx [331, 332, 10] (by decide +kernel)) (by decide +kernel)) (fun w h => (List.mem_cons.mp h).elim (fun q => q ▸ ⟨List.mem_filter.mpr ⟨List.mem_of_getElem? (i := 333) (by decide +kernel), rfl⟩, good_of_word rfl⟩) (fun q => ⟨q, good_of_word (List.mem_filter.mp q).2⟩))
def wsW_addRandomStops : List Cond := Cond.codeWith yL_addRandomStops cL_addRandomStops 8 (some .int) [(0, 13, 16, 25), (0, 13, 21, 15), (0, 13, 26, 18)] :: lwG
set_option maxRecDepth 20000 in
theorem wl_addRandomStops : GoodIn lwG (va_wsS RL 116 yL_addRandomStops wsW_addRandomStops) := goodIn_app (lwG_of (in_idx [390, 391, 10] (by decide +kernel)) (by decide +kernel)) (fun w h => (List.mem_cons.mp h).elim (fun q => q ▸ ⟨List.mem_filter.mpr ⟨List.mem_of_getElem? (i := 392) (by decide +kernel), rfl⟩, good_of_word rfl⟩) (fun q => ⟨q, good_of_word (List.mem_filter.mp q).2⟩))
def wsW_addStop : List Cond := Cond.codeWith yL_addStop cL_addStop 6 (some .int) [(0, 9, 12, 25), (0, 9, 17, 15), (0, 9, 22, 18)] :: lwG
set_option maxRecDepth 20000 in
theorem wl_addStop : GoodIn lwG (va_wsS RL 114 yL_addStop wsW_addStop) := goodIn_app (lwG_of (in_idx [377, 378, 10] (by decide +kernel)) (by decide +kernel)) (fun w h => (List.mem_cons.mp h).elim (fun q => q ▸ ⟨List.mem_filter.mpr ⟨List.mem_of_getElem? (i := 379) (by decide +kernel), rfl⟩, good_of_word rfl⟩) (fun q => ⟨q, good_of_word (List.mem_filter.mp q).2⟩))
def wsW_append : List Cond := Cond.codeWith yL_append cL_append 4 (some .int) [(0, 6, 9, 15), (0, 6, 13, 18)] :: lwG
set_option maxRecDepth 20000 in
theorem wl_append : GoodIn lwG (va_wsS RL 131 yL_append wsW_append) := goodIn_app (lwG_of (in_idx [539, 540, 10] (by decide +kernel)) (by decide +kernel)) (fun w h => (List.mem_cons.mp h).elim (fun q => q ▸ ⟨List.mem_filter.mpr ⟨List.mem_of_getElem? (i := 541) (by decide +kernel), rfl⟩, good_of_word rfl⟩) (fun q => ⟨q, good_of_word (List.mem_filter.mp q).2⟩))
def wsW_areFit : List Cond := Cond.code yL_areFit cL_areFit 8 (some .boolean) :: lwG
set_option maxRecDepth 20000 in
theorem wl_areFit : GoodIn lwG (va_wsS RL 156 yL_areFit wsW_areFit) := goodIn_app (lwG_of (in_idx [552, 553, 10] (by decide +kernel)) (by decide +kernel)) (fun w h => (List.mem_cons.mp h).elim (fun q => q ▸ ⟨List.mem_filter.mpr ⟨List.mem_of_getElem? (i := 554) (by decide +kernel), rfl⟩, good_of_word rfl⟩) (fun q => ⟨q, good_of_word (List.mem_filter.mp q).2⟩))
def wsW_bestBuffer : List Cond := Cond.codeWith yL_bestBuffer cL_bestBuffer 5 (some .int) [(0, 7, 10, 15), (0, 7, 15, 18)] :: lwG
set_option maxRecDepth 20000 in
theorem wl_bestBuffer : GoodIn lwG (va_wsS RL 129 yL_bestBuffer wsW_bestBuffer) := goodIn_app (lwG_of (in_idx [530, 531, 10] (by decide +kernel)) (by decide +kernel)) (fun w h => (List.mem_cons.mp h).elim (fun q => q ▸ ⟨List.mem_filter.mpr ⟨List.mem_of_getElem? (i := 532) (by decide +kernel), rfl⟩, good_of_word rfl⟩) (fun q => ⟨q, good_of_word (List.mem_filter.mp q).2⟩))
def wsW_bound : List Cond := Cond.codeWith yL_bound cL_bound 4 (some .int) [(0, 6, 9, 15), (0, 6, 13, 18)] :: lwG
set_option maxRecDepth 20000 in
theorem wl_bound : GoodIn lwG (va_wsS RL 121 yL_bound wsW_bound) := goodIn_app (lwG_of (in_idx [474, 475, 10] (by decide +kernel)) (by decide +kernel)) (fun w h => (List.mem_cons.mp h).elim (fun q => q ▸ ⟨List.mem_filter.mpr ⟨List.mem_of_getElem? (i := 476) (by decide +kernel), rfl⟩, good_of_word rfl⟩) (fun q => ⟨q, good_of_word (List.mem_filter.mp q).2⟩))
def wsW_capacityFor : List Cond := Cond.codeWith yL_capacityFor cL_capacityFor 6 (some .int) [(0, 9, 12, 25), (0, 9, 17, 15)] :: lwG
set_option maxRecDepth 20000 in
theorem wl_capacityFor : GoodIn lwG (va_wsS RL 127 yL_capacityFor wsW_capacityFor) := goodIn_app (lwG_of (in_idx [522, 523, 10] (by decide +kernel)) (by decide +kernel)) (fun w h => (List.mem_cons.mp h).elim (fun q => q ▸ ⟨List.mem_filter.mpr ⟨List.mem_of_getElem? (i := 524) (by decide +kernel), rfl⟩, good_of_word rfl⟩) (fun q => ⟨q, good_of_word (List.mem_filter.mp q).2⟩))
def wsW_cell : List Cond := Cond.code yL_cell cL_cell 2 (some .int) :: lwG
set_option maxRecDepth 20000 in
theorem wl_cell : GoodIn lwG (va_wsS RL 159 yL_cell wsW_cell) := goodIn_app (lwG_of (in_idx [133, 134, 10] (by decide +kernel)) (by decide +kernel)) (fun w h => (List.mem_cons.mp h).elim (fun q => q ▸ ⟨List.mem_filter.mpr ⟨List.mem_of_getElem? (i := 135) (by decide +kernel), rfl⟩, good_of_word rfl⟩) (fun q => ⟨q, good_of_word (List.mem_filter.mp q).2⟩))
def wsW_count : List Cond := Cond.codeWith yL_count cL_count 5 (some .int) [(0, 7, 10, 25), (0, 7, 15, 15)] :: lwG
set_option maxRecDepth 20000 in
theorem wl_count : GoodIn lwG (va_wsS RL 91 yL_count wsW_count) := goodIn_app (lwG_of (in_idx [252, 253, 10] (by decide +kernel)) (by decide +kernel)) (fun w h => (List.mem_cons.mp h).elim (fun q => q ▸ ⟨List.mem_filter.mpr ⟨List.mem_of_getElem? (i := 254) (by decide +kernel), rfl⟩, good_of_word rfl⟩) (fun q => ⟨q, good_of_word (List.mem_filter.mp q).2⟩))
def wsW_isAnew : List Cond := Cond.code yL_isAnew cL_isAnew 9 (some .boolean) :: lwG
set_option maxRecDepth 20000 in
theorem wl_isAnew : GoodIn lwG (va_wsS RL 167 yL_isAnew wsW_isAnew) := goodIn_app (lwG_of (in_idx [574, 575, 10] (by decide +kernel)) (by decide +kernel)) (fun w h => (List.mem_cons.mp h).elim (fun q => q ▸ ⟨List.mem_filter.mpr ⟨List.mem_of_getElem? (i := 576) (by decide +kernel), rfl⟩, good_of_word rfl⟩) (fun q => ⟨q, good_of_word (List.mem_filter.mp q).2⟩))
def wsW_limiting : List Cond := Cond.codeWith yL_limiting cL_limiting 3 (some .int) [(0, 5, 8, 18)] :: lwG
set_option maxRecDepth 20000 in
theorem wl_limiting : GoodIn lwG (va_wsS RL 133 yL_limiting wsW_limiting) := goodIn_app (lwG_of (in_idx [555, 556, 10] (by decide +kernel)) (by decide +kernel)) (fun w h => (List.mem_cons.mp h).elim (fun q => q ▸ ⟨List.mem_filter.mpr ⟨List.mem_of_getElem? (i := 557) (by decide +kernel), rfl⟩, good_of_word rfl⟩) (fun q => ⟨q, good_of_word (List.mem_filter.mp q).2⟩))
def wsW_low : List Cond := Cond.code yL_low cL_low 2 (some .int) :: lwG
set_option maxRecDepth 20000 in
theorem wl_low : GoodIn lwG (va_wsS RL 144 yL_low wsW_low) := goodIn_app (lwG_of (in_idx [137, 138, 10] (by decide +kernel)) (by decide +kernel)) (fun w h => (List.mem_cons.mp h).elim (fun q => q ▸ ⟨List.mem_filter.mpr ⟨List.mem_of_getElem? (i := 139) (by decide +kernel), rfl⟩, good_of_word rfl⟩) (fun q => ⟨q, good_of_word (List.mem_filter.mp q).2⟩))
def wsW_machine : List Cond := Cond.codeWith yL_machine cL_machine 5 (some .int) [(0, 7, 10, 25), (0, 7, 15, 15)] :: lwG
set_option maxRecDepth 20000 in
theorem wl_machine : GoodIn lwG (va_wsS RL 98 yL_machine wsW_machine) := goodIn_app (lwG_of (in_idx [309, 310, 10] (by decide +kernel)) (by decide +kernel)) (fun w h => (List.mem_cons.mp h).elim (fun q => q ▸ ⟨List.mem_filter.mpr ⟨List.mem_of_getElem? (i := 311) (by decide +kernel), rfl⟩, good_of_word rfl⟩) (fun q => ⟨q, good_of_word (List.mem_filter.mp q).2⟩))
def wsW_outputWith : List Cond := Cond.codeWith yL_outputWith cL_outputWith 6 (some .int) [(0, 9, 12, 25), (0, 9, 17, 15)] :: lwG
set_option maxRecDepth 20000 in
theorem wl_outputWith : GoodIn lwG (va_wsS RL 125 yL_outputWith wsW_outputWith) := goodIn_app (lwG_of (in_idx [506, 507, 10] (by decide +kernel)) (by decide +kernel)) (fun w h => (List.mem_cons.mp h).elim (fun q => q ▸ ⟨List.mem_filter.mpr ⟨List.mem_of_getElem? (i := 508) (by decide +kernel), rfl⟩, good_of_word rfl⟩) (fun q => ⟨q, good_of_word (List.mem_filter.mp q).2⟩))
def wsW_print : List Cond := Cond.code yL_print cL_print 5 (some .long) :: lwG
set_option maxRecDepth 20000 in
theorem wl_print : GoodIn lwG (va_wsS RL 102 yL_print wsW_print) := goodIn_app (lwG_of (in_idx [232, 233, 10] (by decide +kernel)) (by decide +kernel)) (fun w h => (List.mem_cons.mp h).elim (fun q => q ▸ ⟨List.mem_filter.mpr ⟨List.mem_of_getElem? (i := 234) (by decide +kernel), rfl⟩, good_of_word rfl⟩) (fun q => ⟨q, good_of_word (List.mem_filter.mp q).2⟩))
def wsW_refused : List Cond := Cond.code yL_refused cL_refused 4 (some .boolean) :: lwG
set_option maxRecDepth 20000 in
theorem wl_refused : GoodIn lwG (va_wsS RL 152 yL_refused wsW_refused) := goodIn_app (lwG_of (in_idx [328, 329, 10] (by decide +kernel)) (by decide +kernel)) (fun w h => (List.mem_cons.mp h).elim (fun q => q ▸ ⟨List.mem_filter.mpr ⟨List.mem_of_getElem? (i := 330) (by decide +kernel), rfl⟩, good_of_word rfl⟩) (fun q => ⟨q, good_of_word (List.mem_filter.mp q).2⟩))
def wsW_run : List Cond := Cond.codeWith yL_run cL_run 4 (some .int) [(0, 6, 9, 15), (0, 6, 13, 18)] :: lwG
set_option maxRecDepth 20000 in
theorem wl_run : GoodIn lwG (va_wsS RL 118 yL_run wsW_run) := goodIn_app (lwG_of (in_idx [418, 419, 10] (by decide +kernel)) (by decide +kernel)) (fun w h => (List.mem_cons.mp h).elim (fun q => q ▸ ⟨List.mem_filter.mpr ⟨List.mem_of_getElem? (i := 420) (by decide +kernel), rfl⟩, good_of_word rfl⟩) (fun q => ⟨q, good_of_word (List.mem_filter.mp q).2⟩))
def wsW_setCapacity : List Cond := Cond.codeWith yL_setCapacity cL_setCapacity 5 (some .int) [(0, 7, 10, 25), (0, 7, 15, 15)] :: lwG
set_option maxRecDepth 20000 in
theorem wl_setCapacity : GoodIn lwG (va_wsS RL 112 yL_setCapacity wsW_setCapacity) := goodIn_app (lwG_of (in_idx [369, 370, 10] (by decide +kernel)) (by decide +kernel)) (fun w h => (List.mem_cons.mp h).elim (fun q => q ▸ ⟨List.mem_filter.mpr ⟨List.mem_of_getElem? (i := 371) (by decide +kernel), rfl⟩, good_of_word rfl⟩) (fun q => ⟨q, good_of_word (List.mem_filter.mp q).2⟩))
def wsW_setMachine : List Cond := Cond.codeWith yL_setMachine cL_setMachine 8 (some .int) [(0, 13, 16, 25), (0, 13, 21, 15)] :: lwG
set_option maxRecDepth 20000 in
theorem wl_setMachine : GoodIn lwG (va_wsS RL 109 yL_setMachine wsW_setMachine) := goodIn_app (lwG_of (in_idx [357, 358, 10] (by decide +kernel)) (by decide +kernel)) (fun w h => (List.mem_cons.mp h).elim (fun q => q ▸ ⟨List.mem_filter.mpr ⟨List.mem_of_getElem? (i := 359) (by decide +kernel), rfl⟩, good_of_word rfl⟩) (fun q => ⟨q, good_of_word (List.mem_filter.mp q).2⟩))
def wsW_setting : List Cond := Cond.codeWith yL_setting cL_setting 5 (some .int) [(0, 7, 10, 25), (0, 7, 15, 15)] :: lwG
set_option maxRecDepth 20000 in
theorem wl_setting : GoodIn lwG (va_wsS RL 96 yL_setting wsW_setting) := goodIn_app (lwG_of (in_idx [302, 303, 10] (by decide +kernel)) (by decide +kernel)) (fun w h => (List.mem_cons.mp h).elim (fun q => q ▸ ⟨List.mem_filter.mpr ⟨List.mem_of_getElem? (i := 304) (by decide +kernel), rfl⟩, good_of_word rfl⟩) (fun q => ⟨q, good_of_word (List.mem_filter.mp q).2⟩))
def wsW_slowest : List Cond := Cond.codeWith yL_slowest cL_slowest 4 (some .int) [(0, 6, 9, 15), (0, 6, 13, 18)] :: lwG
set_option maxRecDepth 20000 in
theorem wl_slowest : GoodIn lwG (va_wsS RL 123 yL_slowest wsW_slowest) := goodIn_app (lwG_of (in_idx [499, 500, 10] (by decide +kernel)) (by decide +kernel)) (fun w h => (List.mem_cons.mp h).elim (fun q => q ▸ ⟨List.mem_filter.mpr ⟨List.mem_of_getElem? (i := 501) (by decide +kernel), rfl⟩, good_of_word rfl⟩) (fun q => ⟨q, good_of_word (List.mem_filter.mp q).2⟩))
def wsW_stop : List Cond := Cond.codeWith yL_stop cL_stop 5 (some .int) [(0, 7, 10, 25), (0, 7, 15, 15)] :: lwG
set_option maxRecDepth 20000 in
theorem wl_stop : GoodIn lwG (va_wsS RL 100 yL_stop wsW_stop) := goodIn_app (lwG_of (in_idx [316, 317, 10] (by decide +kernel)) (by decide +kernel)) (fun w h => (List.mem_cons.mp h).elim (fun q => q ▸ ⟨List.mem_filter.mpr ⟨List.mem_of_getElem? (i := 318) (by decide +kernel), rfl⟩, good_of_word rfl⟩) (fun q => ⟨q, good_of_word (List.mem_filter.mp q).2⟩))
def wsW_undo : List Cond := Cond.codeWith yL_undo cL_undo 3 (some .int) [(0, 5, 8, 18)] :: lwG
set_option maxRecDepth 20000 in
theorem wl_undo : GoodIn lwG (va_wsS RL 142 yL_undo wsW_undo) := goodIn_app (lwG_of (in_idx [141, 142, 10] (by decide +kernel)) (by decide +kernel)) (fun w h => (List.mem_cons.mp h).elim (fun q => q ▸ ⟨List.mem_filter.mpr ⟨List.mem_of_getElem? (i := 143) (by decide +kernel), rfl⟩, good_of_word rfl⟩) (fun q => ⟨q, good_of_word (List.mem_filter.mp q).2⟩))
