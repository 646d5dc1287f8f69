theorem tk_5680 : (5680 : Int32).toInt = 5680 := rfl
