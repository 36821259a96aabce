/-! the float 0 and the double 0 -/
theorem fl_nan : isNaN64 (FP.f2d FP.fconst0) = false := by decide +kernel
theorem fl_cmp (op : _) : Op.cmpValue (FP.dcmp (FP.f2d FP.fconst0) (FP.f2d FP.fconst0)) op = Int32.ofInt 0 := by cases op <;> decide +kernel
