theorem zz_try : zw32 5 = 5 := by decide
