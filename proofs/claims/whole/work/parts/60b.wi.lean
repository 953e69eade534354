/-! THE LAW, words of the two constructors -/
set_option maxRecDepth 20000 in
theorem wi_X5_init : ∀ w ∈ wsX5_init, w ∈ lw_tbl := wi_cons (List.mem_of_getElem? (i := 67) (by decide +kernel)) (wi_app (wi_app (wi_app (wi_app (wi_app (in_idx [68, 69, 70, 71, 72, 49, 162, 163, 122, 123, 51, 164, 142, 143, 52, 165, 74, 75, 76, 77, 103, 104, 79, 80, 50, 106, 82, 83, 84, 85, 86, 87, 124, 125, 126, 127, 128, 131, 145, 146, 147, 148] (by decide +kernel)) inX2) inX5) inX1) inX3) inX4)
set_option maxRecDepth 20000 in
theorem wg_X5_init : GoodIn lwG wsX5_init := lwG_of wi_X5_init (by decide +kernel)
set_option maxRecDepth 20000 in
theorem wi_X6_init : ∀ w ∈ wsX6_init, w ∈ lw_tbl := wi_cons (List.mem_of_getElem? (i := 679) (by decide +kernel)) (wi_app (in_idx [680, 69, 70, 103, 681, 682, 683, 686, 688] (by decide +kernel)) inX6)
set_option maxRecDepth 20000 in
theorem wg_X6_init : GoodIn lwG wsX6_init := lwG_of wi_X6_init (by decide +kernel)
