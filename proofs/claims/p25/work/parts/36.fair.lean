theorem or_sh0 (x y : Int32) : x ||| ((0 : Int32) <<< y) = x := by
  simp
