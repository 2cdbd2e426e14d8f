def i3 (a : Int) : Int32 := Int32.ofInt a
def i6 (a : Int) : Int64 := Int64.ofInt a
