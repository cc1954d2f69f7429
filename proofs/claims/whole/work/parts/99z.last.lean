theorem zz_probe : 1 = 1 := rfl
