theorem zz_trial : 1 + 1 = 2 := rfl
