/-! what a method that throws stands on: its texts, the two statics of Throwable, words of the tables that no list of words holds -/
def exN (k : Nat) : String := if k = 1 then "java/lang/IllegalArgumentException" else if k = 2 then "java/lang/IllegalStateException" else "java/lang/IndexOutOfBoundsException"
abbrev exL : List String := ["java/lang/RuntimeException", "java/lang/Exception"]
def skL : List (Nat × String) := [(43, "a cycle or the capacity is out of range"), (57, "no machine can be added now"), (72, "a cycle or a mark is out of range"), (82, "the capacity is out of range"), (84, "the first tick or the duration is out of range"), (95, "no more stops can be planned"), (101, "seed, up, down or number is out of range"), (103, "so many stops cannot be planned"), (118, "there is no such stop"), (129, "ticks is out of range"), (134, "the present tick would be too high"), (164, "wanted is out of range"), (166, "places is out of range"), (173, "value is no byte of a text"), (178, "the text is full"), (194, "there is no saved state"), (208, "there is no such machine"), (210, "there are too few machines"), (212, "what is out of range")]
abbrev twA : List Cond := vx_atS RX5 45 "java/lang/IllegalArgumentException" exL ++ vx_atS RX5 59 "java/lang/IllegalStateException" exL ++ vx_atS RX5 120 "java/lang/IndexOutOfBoundsException" exL
def twL : List Cond := twA.filter (fun w => !goodWord w)
theorem twL_tabs : ∀ w ∈ twL, w.onTables = true := by decide +kernel
theorem twL_in : ∀ w ∈ twL, w ∈ tables_1 := by decide +kernel
