/-! a name of the rest of the library, first of all: the round widens at once -/
theorem wide_9 (x : Int32) : Jvm.FP.Core.dIsNaN (Jvm.FP.Core.i2d x) = false := by
  cases hb : Jvm.FP.Core.dIsNaN (Jvm.FP.Core.i2d x) with
  | false => rfl
  | true =>
    have h1 := (Jvm.FP.Core.isNaN_bits _).mp hb
    have h2 := (Jvm.FP.Core.fin_bits _).mp (Jvm.FP.Core.i2d_fin x)
    omega
