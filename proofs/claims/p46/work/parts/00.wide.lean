/-! over the whole library -/
theorem wd_lib (c : ClassId) (n a : Nat) : Jvm.Free.Multi.outerC c n a 0 = Jvm.Free.Multi.outerC c n a 0 := rfl
