theorem rtN_0 (L : List RT) (r : Int) : rtN L r = L.getD r.toNat (0, 0, 0) := rfl
