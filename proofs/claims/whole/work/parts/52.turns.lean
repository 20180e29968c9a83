/-! ===== by turns ===== -/
theorem dec_eq (x : Int32) : x - 1 = ((x ^^^ (-1)) + 1) ^^^ (-1) := by
  have h := neg_not (-x)
  rw [Int32.neg_neg, neg_not x] at h
  rw [h, Int32.add_sub_cancel]
  rw [← h]
theorem dec_bit (x : Int32) {i : Nat} (hi : i < 32) : bt (x - 1) i = (bt x i ^^ allB (x ^^^ (-1)) i) := by
  rw [dec_eq, b_not _ hi, inc_bit _ hi, b_not _ hi]
  cases bt x i <;> cases allB (x ^^^ (-1)) i <;> rfl
