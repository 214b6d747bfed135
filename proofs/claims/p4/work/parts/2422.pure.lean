theorem kNz9 {r E : Int32} (h : r = E) (c : ¬ r = 0) : ¬ E = 0 := fun z => c (h.trans z)
theorem kNz8 {r E : Int32} (c : ¬ r = 0) (h : r = E) : ¬ E = 0 := fun z => c (h.trans z)
theorem kZr9 {r E : Int32} (h : r = E) (c : r = 0) : E = 0 := h.symm.trans c
