def hm_oth : List Cond := []
def hm_strs : List (String × Nat × String) := []
