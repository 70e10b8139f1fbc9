/-! part 8av: copyFrom tells -/
theorem zC_num {F : Nat → va_E} {a k : Nat} {v : Value} (h : zk_rd (F a) k = some v) : zp_n F a k = zp_num v := by
  unfold zp_n
  rw [h]