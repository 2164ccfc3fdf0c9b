theorem zz_test (x y : Int32) (h : x < y) : ¬ y ≤ x := by grind
theorem zz_test2 (x : Int32) (h0 : 0 ≤ x) (h : x < 12) : x + 1 ≤ 12 := by grind
theorem zz_test3 (x y : Int32) (h0 : 0 ≤ x) (h : x ≤ 1000000) (h1 : 1 ≤ y) (h2 : y ≤ 99) : (x * y).toInt = x.toInt * y.toInt := by grind
