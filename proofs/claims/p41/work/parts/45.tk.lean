theorem tk_123456789 : (123456789 : Int32).toInt = 123456789 := rfl
