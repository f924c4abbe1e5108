theorem mst_some : MstO.isSome = true := by decide +kernel
