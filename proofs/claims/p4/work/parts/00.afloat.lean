/-! quotients of whole numbers are numbers -/
theorem fp_n64 {b : UInt64} (h : FP.Core.dIsNaN b = false) : isNaN64 b = false := by
  have h1 : ¬ 9218868437227405312 < b.toNat % 2 ^ 63 := fun hx => by
    rw [(FP.Core.isNaN_bits b).mpr hx] at h
    cases h
  unfold isNaN64
  apply decide_eq_false
  intro hx
  have hx : (0x7ff0000000000000 : UInt64).toNat < (b &&& 0x7fffffffffffffff).toNat := UInt64.lt_iff_toNat_lt.mp hx
  rw [UInt64.toNat_and] at hx
  have e : b.toNat &&& (0x7fffffffffffffff : UInt64).toNat = b.toNat % 2 ^ 63 := Nat.and_two_pow_sub_one_eq_mod b.toNat 63
  rw [e] at hx
  exact h1 hx
theorem fp_n32 {b : UInt32} (h : FP.Core.fIsNaN b = false) : isNaN32 b = false := by
  have h1 : ¬ 2139095040 < b.toNat % 2 ^ 31 := fun hx => by
    rw [(FP.Core.isNaN_bits32 b).mpr hx] at h
    cases h
  unfold isNaN32
  apply decide_eq_false
  intro hx
  have hx : (0x7f800000 : UInt32).toNat < (b &&& 0x7fffffff).toNat := UInt32.lt_iff_toNat_lt.mp hx
  rw [UInt32.toNat_and] at hx
  have e : b.toNat &&& (0x7fffffff : UInt32).toNat = b.toNat % 2 ^ 31 := Nat.and_two_pow_sub_one_eq_mod b.toNat 31
  rw [e] at hx
  exact h1 hx
theorem fp_dq {x y : Int32} (hy : ¬ y = 0) : FP.Core.dIsNaN (FP.ddiv (FP.i2d x) (FP.i2d y)) = false := FP.Core.ddiv_out (FP.Core.i2d_fin x).notNaN (FP.Core.i2d_fin y) (fun hz => FP.Core.i2d_ne_zero hy ((FP.Core.zero_bits2 _).mp hz))
theorem fp_dd {x y : Int32} (hy : ¬ y = 0) : isNaN64 (FP.ddiv (FP.i2d x) (FP.i2d y)) = false := fp_n64 (fp_dq hy)
theorem fp_fq {x y : Int32} (hy : ¬ y = 0) : FP.Core.fIsNaN (FP.fdiv (FP.i2f x) (FP.i2f y)) = false := FP.Core.fdiv_out (FP.Core.i2f_fin x).notNaN (FP.Core.i2f_fin y) (fun hz => FP.Core.i2f_ne_zero hy ((FP.Core.zero_bits232 _).mp hz))
theorem fp_ff {x y : Int32} (hy : ¬ y = 0) : isNaN32 (FP.fdiv (FP.i2f x) (FP.i2f y)) = false := fp_n32 (fp_fq hy)
theorem fp_df {x y : Int32} (hy : ¬ y = 0) : FP.Core.fIsNaN (FP.d2f (FP.ddiv (FP.i2d x) (FP.i2d y))) = false := by
  have e := fp_dq (x := x) hy
  unfold FP.d2f
  rw [if_neg (by rw [e]; decide)]
  exact FP.Core.d2f_out e
theorem fp_d2 {x y : Int32} (hy : ¬ y = 0) : isNaN32 (FP.d2f (FP.ddiv (FP.i2d x) (FP.i2d y))) = false := fp_n32 (fp_df hy)
theorem fp_fd {a : UInt32} (h : FP.Core.fIsNaN a = false) : isNaN64 (FP.f2d a) = false := by
  unfold FP.f2d
  rw [if_neg (by rw [h]; decide)]
  exact fp_n64 (FP.Core.f2d_out h)
