theorem aa_test : 1 = 1 := rfl
