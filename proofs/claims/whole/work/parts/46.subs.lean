/-! ===== the sets within a set, in their order ===== -/
def allB (x : Int32) : Nat → Bool
  | 0 => true
  | n + 1 => allB x n && bt x n
theorem allB_iff (x : Int32) : ∀ n, allB x n = true ↔ ∀ j, j < n → bt x j = true := by
  intro n
  induction n with
  | zero => exact ⟨fun _ j h => absurd h (by omega), fun _ => rfl⟩
  | succ n ih =>
    simp only [allB, Bool.and_eq_true]
    rw [ih]
    constructor
    · rintro ⟨h1, h2⟩ j hj
      rcases Nat.lt_succ_iff_lt_or_eq.mp hj with h | h
      · exact h1 j h
      · rw [h]; exact h2
    · intro h
      exact ⟨fun j hj => h j (by omega), h n (by omega)⟩
theorem carry1 (x : Int32) : ∀ i, i < 32 → BitVec.carry (i + 1) x.toBitVec (1 : Int32).toBitVec false = allB x (i + 1) := by
  intro i
  induction i with
  | zero =>
    intro _
    rw [BitVec.carry_succ, BitVec.carry_zero]
    show Bool.atLeastTwo (bt x 0) (bt 1 0) _ = (true && bt x 0)
    rw [b_1 0 (by omega)]
    cases bt x 0 <;> rfl
  | succ i ih =>
    intro hi
    rw [BitVec.carry_succ, ih (by omega)]
    show Bool.atLeastTwo (bt x (i + 1)) (bt 1 (i + 1)) _ = (allB x (i + 1) && bt x (i + 1))
    rw [b_1 (i + 1) hi]
    cases bt x (i + 1) <;> cases allB x (i + 1) <;> rfl
theorem inc_bit (x : Int32) {i : Nat} (hi : i < 32) : bt (x + 1) i = (bt x i ^^ allB x i) := by
  have e : bt (x + 1) i = (bt x i ^^ (bt 1 i ^^ BitVec.carry i x.toBitVec (1 : Int32).toBitVec false)) := by
    unfold bt
    rw [Int32.toBitVec_add, BitVec.getLsbD_add hi]
  rw [e, b_1 i hi]
  match i, hi with
  | 0, _ => rw [BitVec.carry_zero]; cases bt x 0 <;> rfl
  | i + 1, hi =>
    rw [carry1 x i (by omega)]
    simp
theorem neg_not (x : Int32) : -x = (x ^^^ (-1)) + 1 := by
  refine Int32.toBitVec_inj.mp ?_
  rw [Int32.toBitVec_neg, Int32.toBitVec_add, Int32.toBitVec_xor, BitVec.neg_eq_not_add]
  congr 1
  refine BitVec.eq_of_getLsbD_eq fun i hi => ?_
  rw [BitVec.getLsbD_not, BitVec.getLsbD_xor]
  have : (-1 : Int32).toBitVec.getLsbD i = true := b_m1 i hi
  rw [this]
  simp [hi]
theorem sub_sub {x b : Int32} (h : ∀ i, bt x i = true → bt b i = true) : x - b = (x ||| (b ^^^ (-1))) + 1 := by
  have h1 : x + (b ^^^ (-1)) = x ||| (b ^^^ (-1)) := by
    refine Int32.toBitVec_inj.mp ?_
    rw [Int32.toBitVec_add, Int32.toBitVec_or]
    refine BitVec.add_eq_or_of_and_eq_zero _ _ (BitVec.eq_of_getLsbD_eq fun i hi => ?_)
    rw [BitVec.getLsbD_and]
    show (bt x i && bt (b ^^^ (-1)) i) = _
    rw [b_not b hi]
    have := h i
    cases h9 : bt x i with
    | false => simp
    | true => rw [this h9]; simp
  rw [Int32.sub_eq_add_neg, neg_not, ← Int32.add_assoc, h1]
/-- n places, one above the other, that make up the set b -/
def Pl (N n : Nat) (p : Nat → Nat) (bg : Nat → Int32) (b : Int32) : Prop := n ≤ 24 ∧ N ≤ 24 ∧ (∀ k, k < n → bg k = nI (p k) ∧ p k < N) ∧ (∀ k j, j < k → k < n → p j < p k) ∧ ∀ c, c < 32 → (bt b c = true ↔ ∃ k, k < n ∧ p k = c)
theorem ch_bit {N n : Nat} {p : Nat → Nat} {bg : Nat → Int32} {b : Int32} (hp : Pl N n p bg b) (idx : Int32) {c : Nat} (hc : c < 32) : ∀ m j t, j + m = n → (bt (chF bg idx m j t) c = true ↔ bt t c = true ∨ ∃ k, j ≤ k ∧ k < n ∧ p k = c ∧ bt idx k = true) := by
  obtain ⟨p1, p2, p3, p4, p5⟩ := hp
  intro m
  induction m with
  | zero =>
    intro j t hj
    simp only [chF]
    exact ⟨Or.inl, fun h => h.resolve_right (by rintro ⟨k, k1, k2, -⟩; omega)⟩
  | succ m ih =>
    intro j t hj
    simp only [chF]
    obtain ⟨e1, e2⟩ := p3 j (by omega)
    rw [ih (j + 1) _ (by omega), b_or, Bool.or_eq_true, e1, bit_of (by omega)]
    have hb : bt (shl (if bt idx j = true then 1 else 0) (nI (p j))) c = true ↔ p j = c ∧ bt idx j = true := by
      by_cases h : bt idx j = true
      · rw [if_pos h, b_one (by omega) hc]
        simp [h, eq_comm]
      · rw [if_neg h, b_shl _ (by omega) _ hc, b_0]
        simp [h]
    rw [hb]
    constructor
    · rintro ((h | h) | ⟨k, k1, k2, k3⟩)
      · exact Or.inl h
      · exact Or.inr ⟨j, Nat.le_refl _, by omega, h⟩
      · exact Or.inr ⟨k, by omega, k2, k3⟩
    · rintro (h | ⟨k, k1, k2, k3⟩)
      · exact Or.inl (Or.inl h)
      · by_cases h9 : k = j
        · subst h9; exact Or.inl (Or.inr k3)
        · exact Or.inr ⟨k, by omega, k2, k3⟩
theorem ch_sub {N n : Nat} {p : Nat → Nat} {bg : Nat → Int32} {b : Int32} (hp : Pl N n p bg b) (idx : Int32) {c : Nat} (hc : c < 32) : bt (chF bg idx n 0 0) c = true ↔ ∃ k, k < n ∧ p k = c ∧ bt idx k = true := by
  rw [ch_bit hp idx hc n 0 0 (by omega), b_0]
  constructor
  · rintro (h | ⟨k, -, k2, k3⟩)
    · cases h
    · exact ⟨k, k2, k3⟩
  · rintro ⟨k, k2, k3⟩
    exact Or.inr ⟨k, Nat.zero_le k, k2, k3⟩
theorem pl_inj {N n : Nat} {p : Nat → Nat} {bg : Nat → Int32} {b : Int32} (hp : Pl N n p bg b) {k j : Nat} (hk : k < n) (hj : j < n) (h : p k = p j) : k = j := by
  obtain ⟨-, -, -, p4, -⟩ := hp
  rcases Nat.lt_trichotomy k j with z | z | z
  · have := p4 j k z hj; omega
  · exact z
  · have := p4 k j z hk; omega
theorem ch_at {N n : Nat} {p : Nat → Nat} {bg : Nat → Int32} {b : Int32} (hp : Pl N n p bg b) (idx : Int32) {k : Nat} (hk : k < n) : bt (chF bg idx n 0 0) (p k) = bt idx k := by
  have hlt := (hp.2.2.1 k hk).2
  have hN := hp.2.1
  have h := ch_sub hp idx (show p k < 32 by omega)
  cases h9 : bt idx k with
  | true => exact h.mpr ⟨k, hk, rfl, h9⟩
  | false =>
    refine Bool.eq_false_iff.mpr fun z => ?_
    obtain ⟨j, j1, j2, j3⟩ := h.mp z
    rw [pl_inj hp j1 hk j2, h9] at j3
    cases j3
/-- the next set in their order is the next index's -/
theorem ch_next {N n : Nat} {p : Nat → Nat} {bg : Nat → Int32} {b : Int32} (hp : Pl N n p bg b) (i : Nat) : (chF bg (nI i) n 0 0 - b) &&& b = chF bg (nI (i + 1)) n 0 0 := by
  obtain ⟨p1, p2, p3, p4, p5⟩ := id hp
  have hsub : ∀ c, bt (chF bg (nI i) n 0 0) c = true → bt b c = true := fun c h => by
    rcases Nat.lt_or_ge c 32 with h9 | h9
    · obtain ⟨k, k1, k2, -⟩ := (ch_sub hp _ h9).mp h
      exact (p5 c h9).mpr ⟨k, k1, k2⟩
    · rw [b_big h9] at h; cases h
  refine b_ext fun c hc => ?_
  rw [b_and]
  cases hb : bt b c with
  | false =>
    rw [Bool.and_false]
    refine (Bool.eq_false_iff.mpr fun z => ?_).symm
    obtain ⟨k, k1, k2, -⟩ := (ch_sub hp _ hc).mp z
    rw [(p5 c hc).mpr ⟨k, k1, k2⟩] at hb
    cases hb
  | true =>
    obtain ⟨k, k1, rfl⟩ := (p5 c hc).mp hb
    rw [Bool.and_true, sub_sub hsub, inc_bit _ hc, ch_at hp _ k1, ← nI_1, inc_bit _ (show k < 32 by omega), b_or, b_not _ hc, hb, ch_at hp _ k1]
    simp only [Bool.not_true, Bool.or_false]
    congr 1
    have h1 := allB_iff (chF bg (nI i) n 0 0 ||| (b ^^^ (-1))) (p k)
    have h2 := allB_iff (nI i) k
    have h3 : allB (chF bg (nI i) n 0 0 ||| (b ^^^ (-1))) (p k) = true ↔ allB (nI i) k = true := by
      rw [h1, h2]
      constructor
      · intro h j hj
        have h4 := p4 k j hj k1
        have h5 := h (p j) h4
        rw [b_or, ch_at hp _ (by omega), b_not _ (by omega), (p5 (p j) (by omega)).mpr ⟨j, by omega, rfl⟩] at h5
        simpa using h5
      · intro h j hj
        rw [b_or, b_not _ (by omega)]
        cases h6 : bt b j with
        | false => simp
        | true =>
          obtain ⟨k', k2, rfl⟩ := (p5 j (by omega)).mp h6
          have h7 : k' < k := by
            rcases Nat.lt_trichotomy k' k with z | z | z
            · exact z
            · subst z; omega
            · have := p4 k' k z k2; omega
          rw [ch_at hp _ k2, h k' h7]
          rfl
    cases z1 : allB (chF bg (nI i) n 0 0 ||| (b ^^^ (-1))) (p k) <;> cases z2 : allB (nI i) k
    · rfl
    · rw [h3.mpr z2] at z1; cases z1
    · rw [h3.mp z1] at z2; cases z2
    · rfl
