def g_nc : List (String × String) := []
