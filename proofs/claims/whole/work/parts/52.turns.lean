/-! ===== by turns ===== -/
theorem dec_eq (x : Int32) : x - 1 = ((x ^^^ (-1)) + 1) ^^^ (-1) := by
  have h := neg_not (-x)
  rw [Int32.neg_neg, neg_not x] at h
  rw [h, Int32.add_sub_cancel]
  rw [← h]
theorem dec_bit (x : Int32) {i : Nat} (hi : i < 32) : bt (x - 1) i = (bt x i ^^ allB (x ^^^ (-1)) i) := by
  rw [dec_eq, b_not _ hi, inc_bit _ hi, b_not _ hi]
  cases bt x i <;> cases allB (x ^^^ (-1)) i <;> rfl
/-- and the one before -/
theorem ch_prev {N n : Nat} {p : Nat → Nat} {bg : Nat → Int32} {b : Int32} (hp : Pl N n p bg b) (i : Nat) : (chF bg (nI (i + 1)) n 0 0 - 1) &&& b = chF bg (nI i) n 0 0 := by
  obtain ⟨p1, p2, p3, p4, p5⟩ := id hp
  refine b_ext fun c hc => ?_
  rw [b_and]
  cases hb : bt b c with
  | false =>
    rw [Bool.and_false]
    refine (Bool.eq_false_iff.mpr fun z => ?_).symm
    obtain ⟨k, k1, k2, -⟩ := (ch_sub hp _ hc).mp z
    rw [(p5 c hc).mpr ⟨k, k1, k2⟩] at hb
    cases hb
  | true =>
    obtain ⟨k, k1, rfl⟩ := (p5 c hc).mp hb
    have e : nI i = nI (i + 1) - 1 := (nI_pred i).symm
    rw [Bool.and_true, dec_bit _ hc, ch_at hp _ k1, ch_at hp _ k1, e, dec_bit _ (show k < 32 by omega)]
    congr 1
    have h1 := allB_iff (chF bg (nI (i + 1)) n 0 0 ^^^ (-1)) (p k)
    have h2 := allB_iff (nI (i + 1) ^^^ (-1)) k
    refine Bool.eq_iff_iff.mpr ?_
    rw [h1, h2]
    constructor
    · intro h j hj
      have h4 := p4 k j hj k1
      have h5 := h (p j) h4
      rw [b_not _ (by omega), ch_at hp _ (by omega)] at h5
      rw [b_not _ (by omega)]
      exact h5
    · intro h j hj
      rw [b_not _ (by omega)]
      cases h6 : bt (chF bg (nI (i + 1)) n 0 0) j with
      | false => rfl
      | true =>
        exfalso
        obtain ⟨k', k2, rfl, k3⟩ := (ch_sub hp _ (by omega)).mp h6
        have h7 : k' < k := by
          rcases Nat.lt_trichotomy k' k with z | z | z
          · exact z
          · subst z; omega
          · have := p4 k' k z k2; omega
        have := h k' h7
        rw [b_not _ (by omega), k3] at this
        cases this
