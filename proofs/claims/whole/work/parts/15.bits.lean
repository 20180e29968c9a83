
/-! ===== Int32 by its bits (the first rows began as the kit's text to paste, 'Int32 by its bits') ===== -/
def bt (x : Int32) (i : Nat) : Bool := x.toBitVec.getLsbD i
theorem b_ext {x y : Int32} (h : ∀ i, i < 32 → bt x i = bt y i) : x = y := Int32.toBitVec_inj.mp (BitVec.eq_of_getLsbD_eq (fun i hi => h i hi))
theorem b_or (x y : Int32) (i : Nat) : bt (x ||| y) i = (bt x i || bt y i) := by unfold bt; rw [Int32.toBitVec_or, BitVec.getLsbD_or]
theorem b_and (x y : Int32) (i : Nat) : bt (x &&& y) i = (bt x i && bt y i) := by unfold bt; rw [Int32.toBitVec_and, BitVec.getLsbD_and]
theorem b_xor (x y : Int32) (i : Nat) : bt (x ^^^ y) i = (bt x i ^^ bt y i) := by unfold bt; rw [Int32.toBitVec_xor, BitVec.getLsbD_xor]
theorem b_big {x : Int32} {i : Nat} (h : 32 ≤ i) : bt x i = false := BitVec.getLsbD_of_ge _ _ h
theorem b_m1 : ∀ i, i < 32 → bt (-1) i = true := by decide +kernel
theorem b_0 (i : Nat) : bt 0 i = false := BitVec.getLsbD_zero
theorem s_l : ∀ n, n < 32 → ((nI n &&& 31).toBitVec.smod 32).toNat = n := by decide +kernel
theorem s_u : ∀ n, n < 32 → (((nI n).toUInt32 &&& Int32.toUInt32 31).toBitVec % 32).toNat = n := by decide +kernel
theorem b_shl (n : Nat) (hn : n < 32) (x : Int32) {i : Nat} (hi : i < 32) : bt (shl x (nI n)) i = (decide (n ≤ i) && bt x (i - n)) := by
  unfold bt shl
  rw [Int32.toBitVec_shiftLeft]
  show (x.toBitVec <<< ((nI n &&& 31).toBitVec.smod 32).toNat).getLsbD i = _
  rw [s_l n hn, BitVec.getLsbD_shiftLeft]
  rcases Nat.lt_or_ge i n with h | h
  · simp [h, Nat.not_le.mpr h]
  · simp [hi, h, Nat.not_lt.mpr h]
theorem b_ushr (n : Nat) (hn : n < 32) (x : Int32) (i : Nat) : bt (ushr x (nI n)) i = bt x (n + i) := by
  show (x.toUInt32 >>> ((nI n).toUInt32 &&& Int32.toUInt32 31)).toBitVec.getLsbD i = x.toUInt32.toBitVec.getLsbD (n + i)
  rw [UInt32.toBitVec_shiftRight]
  show (x.toUInt32.toBitVec >>> (((nI n).toUInt32 &&& Int32.toUInt32 31).toBitVec % 32).toNat).getLsbD i = _
  rw [s_u n hn, BitVec.getLsbD_ushiftRight]
theorem b_sshr (n : Nat) (hn : n < 32) (x : Int32) {i : Nat} (hi : i < 32) : bt (sshr x (nI n)) i = if n + i < 32 then bt x (n + i) else bt x 31 := by
  unfold bt sshr
  rw [Int32.toBitVec_shiftRight]
  show (x.toBitVec.sshiftRight ((nI n &&& 31).toBitVec.smod 32).toNat).getLsbD i = _
  rw [s_l n hn, BitVec.getLsbD_sshiftRight, BitVec.msb_eq_getLsbD_last]
  simp [hi]
theorem b_1 : ∀ i, i < 32 → bt 1 i = decide (i = 0) := by decide +kernel
theorem b_one {c i : Nat} (hc : c < 32) (hi : i < 32) : bt (shl 1 (nI c)) i = decide (i = c) := by
  rw [b_shl c hc 1 hi]
  by_cases h : c ≤ i
  · rw [b_1 (i - c) (by omega)]
    simp only [h, decide_true, Bool.true_and]
    congr 1
    exact propext ⟨fun _ => by omega, fun _ => by omega⟩
  · simp only [h, decide_false, Bool.false_and]
    exact (decide_eq_false (by omega)).symm
theorem b_not (x : Int32) {i : Nat} (hi : i < 32) : bt (x ^^^ (-1)) i = !(bt x i) := by
  rw [b_xor, b_m1 i hi]
  cases bt x i <;> rfl
theorem b_zero {x : Int32} : x = 0 ↔ ∀ i, i < 32 → bt x i = false := by
  constructor
  · rintro rfl i _
    exact b_0 i
  · intro h
    exact b_ext (fun i hi => by rw [h i hi, b_0])
/-- 'has' looks at one bit -/
theorem has_iff {x : Int32} {c : Nat} (hc : c < 32) : hasF x (nI c) = 0 ↔ bt x c = false := by
  unfold hasF
  constructor
  · intro h
    split at h
    · rename_i k
      have := b_zero.mp k c hc
      rw [b_and, b_one hc hc] at this
      simpa using this
    · exact absurd h (by decide)
  · intro h
    rw [if_pos]
    refine b_zero.mpr (fun i hi => ?_)
    rw [b_and, b_one hc hi]
    by_cases e : i = c
    · subst e; rw [h]; rfl
    · simp [e]
theorem has_cases (x c : Int32) : hasF x c = 0 ∨ hasF x c = 1 := by
  unfold hasF
  split
  · exact Or.inl rfl
  · exact Or.inr rfl
theorem has_iff1 {x : Int32} {c : Nat} (hc : c < 32) : ¬ hasF x (nI c) = 0 ↔ bt x c = true := by
  rw [has_iff hc]
  cases bt x c <;> simp
theorem and1 (x : Int32) : x &&& 1 = if bt x 0 = true then 1 else 0 := by
  refine b_ext (fun i hi => ?_)
  rw [b_and, b_1 i hi]
  by_cases h : bt x 0 = true
  · rw [if_pos h, b_1 i hi]
    by_cases e : i = 0
    · subst e; rw [h]; rfl
    · simp [e]
  · rw [if_neg h, b_0]
    by_cases e : i = 0
    · subst e
      simpa using h
    · simp [e]
theorem bit_of {x : Int32} {c : Nat} (hc : c < 32) : sshr x (nI c) &&& 1 = if bt x c = true then 1 else 0 := by
  rw [and1, b_sshr c hc x (by decide), Nat.add_zero, if_pos hc]
/-! sets within the first n bits -/
def Sm (n : Nat) (x : Int32) : Prop := ∀ i, n ≤ i → bt x i = false
theorem Sm.or {n : Nat} {x y : Int32} (h : Sm n x) (k : Sm n y) : Sm n (x ||| y) := fun i hi => by rw [b_or, h i hi, k i hi]; rfl
theorem Sm.and {n : Nat} {x : Int32} (h : Sm n x) (y : Int32) : Sm n (x &&& y) := fun i hi => by rw [b_and, h i hi]; rfl
theorem Sm.and' {n : Nat} {x : Int32} (h : Sm n x) (y : Int32) : Sm n (y &&& x) := fun i hi => by rw [b_and, h i hi, Bool.and_false]
theorem Sm.mono {n m : Nat} {x : Int32} (h : Sm n x) (k : n ≤ m) : Sm m x := fun i hi => h i (Nat.le_trans k hi)
theorem Sm.one {n c : Nat} (hc : c < n) (hn : n ≤ 32) : Sm n (shl 1 (nI c)) := fun i hi => by
  by_cases h : i < 32
  · rw [b_one (by omega) h]
    exact decide_eq_false (by omega)
  · exact b_big (by omega)
theorem Sm.ext {n : Nat} {x y : Int32} (h : Sm n x) (k : Sm n y) (e : ∀ i, i < n → bt x i = bt y i) : x = y := b_ext (fun i _ => by
  by_cases hi : i < n
  · exact e i hi
  · rw [h i (by omega), k i (by omega)])
theorem Sm.zero (n : Nat) : Sm n 0 := fun i _ => b_0 i
/-- how many of the first n bits -/
def cnt (x : Int32) : Nat → Nat
  | 0 => 0
  | n + 1 => cnt x n + if bt x n = true then 1 else 0
theorem cnt_le (x : Int32) : ∀ n, cnt x n ≤ n := by
  intro n
  induction n with
  | zero => exact Nat.le_refl 0
  | succ n ih =>
    rw [cnt]
    split <;> omega
theorem cnt_mono {x y : Int32} (h : ∀ i, bt x i = true → bt y i = true) : ∀ n, cnt x n ≤ cnt y n := by
  intro n
  induction n with
  | zero => exact Nat.le_refl 0
  | succ n ih =>
    rw [cnt, cnt]
    by_cases e : bt x n = true
    · rw [if_pos e, if_pos (h n e)]; omega
    · rw [if_neg e]; omega
theorem cnt_lt {x y : Int32} (h : ∀ i, bt x i = true → bt y i = true) {c : Nat} (hx : bt x c = false) (hy : bt y c = true) : ∀ n, c < n → cnt x n < cnt y n := by
  intro n
  induction n with
  | zero => intro h; omega
  | succ n ih =>
    intro hc
    rw [cnt, cnt]
    by_cases e : c = n
    · subst e
      have := cnt_mono h c
      rw [hx, hy]
      simp
      omega
    · have := ih (by omega)
      by_cases e2 : bt x n = true
      · rw [if_pos e2, if_pos (h n e2)]; omega
      · rw [if_neg e2]; omega
theorem diff_bit {n : Nat} {x y : Int32} (hx : Sm n x) (hy : Sm n y) (h : ∀ i, bt x i = true → bt y i = true) (hne : ¬ y = x) : ∃ c, c < n ∧ bt x c = false ∧ bt y c = true := by
  apply Classical.byContradiction
  intro k
  refine hne (Sm.ext hy hx (fun i hi => ?_))
  cases e : bt x i
  · cases e2 : bt y i
    · rfl
    · exact absurd ⟨i, hi, e, e2⟩ k
  · exact h i e
/-! growing until nothing changes -/
def it (f : Int32 → Int32) : Nat → Int32 → Int32
  | 0, x => x
  | n + 1, x => it f n (f x)
theorem it_add (f : Int32 → Int32) : ∀ (n m : Nat) (x : Int32), it f (n + m) x = it f m (it f n x) := by
  intro n
  induction n with
  | zero => intro m x; rw [Nat.zero_add]; rfl
  | succ n ih => intro m x; rw [Nat.succ_add, it, ih]; rfl
theorem it_fixed {f : Int32 → Int32} {x : Int32} (h : f x = x) : ∀ n, it f n x = x := by
  intro n
  induction n with
  | zero => rfl
  | succ n ih => rw [it, h, ih]
theorem it_succ (f : Int32 → Int32) (n : Nat) (x : Int32) : it f (n + 1) x = f (it f n x) := by
  rw [it_add f n 1]
  rfl
theorem it_Sm {n : Nat} {f : Int32 → Int32} (hs : ∀ x, Sm n x → Sm n (f x)) : ∀ (k : Nat) (x : Int32), Sm n x → Sm n (it f k x) := by
  intro k
  induction k with
  | zero => intro x h; exact h
  | succ k ih => intro x h; exact ih (f x) (hs x h)
theorem it_up {f : Int32 → Int32} (hu : ∀ x i, bt x i = true → bt (f x) i = true) : ∀ (k : Nat) (x : Int32) (i : Nat), bt x i = true → bt (it f k x) i = true := by
  intro k
  induction k with
  | zero => intro x i h; exact h
  | succ k ih => intro x i h; exact ih (f x) i (hu x i h)
/-- each round that changes something adds a bit -/
theorem it_grow {n : Nat} {f : Int32 → Int32} (hu : ∀ x i, bt x i = true → bt (f x) i = true) (hs : ∀ x, Sm n x → Sm n (f x)) : ∀ (k : Nat) (x : Int32), Sm n x → f (it f k x) = it f k x ∨ cnt x n + k < cnt (f (it f k x)) n := by
  intro k
  induction k with
  | zero =>
    intro x h
    by_cases e : f x = x
    · exact Or.inl e
    · obtain ⟨c, h1, h2, h3⟩ := diff_bit h (hs x h) (hu x) e
      exact Or.inr (cnt_lt (hu x) h2 h3 n h1)
  | succ k ih =>
    intro x h
    by_cases e : f x = x
    · exact Or.inl (by rw [it_fixed e]; exact e)
    · obtain ⟨c, h1, h2, h3⟩ := diff_bit h (hs x h) (hu x) e
      have hlt := cnt_lt (hu x) h2 h3 n h1
      rcases ih (f x) (hs x h) with g | g
      · exact Or.inl g
      · refine Or.inr ?_
        show cnt x n + (k + 1) < cnt (f (it f k (f x))) n
        omega
theorem it_fix {n k : Nat} {f : Int32 → Int32} (hu : ∀ x i, bt x i = true → bt (f x) i = true) (hs : ∀ x, Sm n x → Sm n (f x)) {x : Int32} (h : Sm n x) (hk : n ≤ k) : f (it f k x) = it f k x := by
  rcases it_grow hu hs k x h with g | g
  · exact g
  · have := cnt_le (f (it f k x)) n
    omega
theorem it_same {n k j : Nat} {f : Int32 → Int32} (hu : ∀ x i, bt x i = true → bt (f x) i = true) (hs : ∀ x, Sm n x → Sm n (f x)) {x : Int32} (h : Sm n x) (hk : n ≤ k) (hj : f (it f j x) = it f j x) : it f j x = it f k x := by
  rcases Nat.le_total j k with l | l
  · obtain ⟨d, rfl⟩ := Nat.exists_eq_add_of_le l
    rw [it_add, it_fixed hj]
  · obtain ⟨d, rfl⟩ := Nat.exists_eq_add_of_le l
    rw [it_add, it_fixed (it_fix hu hs h hk)]
/-! ===== walks ===== -/
section WALKS
variable {N : Nat} {be : Nat → Bool} {ad : Nat → Nat → Bool}
/-- c is come to from a by at most k steps, each to a cell that bears -/
def Wk (N : Nat) (be : Nat → Bool) (ad : Nat → Nat → Bool) (a : Nat) : Nat → Nat → Prop
  | 0, c => c = a
  | k + 1, c => Wk N be ad a k c ∨ (be c = true ∧ ∃ d, d < N ∧ ad d c = true ∧ Wk N be ad a k d)
theorem Wk.mono {a k c : Nat} (h : Wk N be ad a k c) : ∀ j, Wk N be ad a (k + j) c := by
  intro j
  induction j with
  | zero => exact h
  | succ j ih => exact Or.inl ih
theorem Wk.le {a k m c : Nat} (h : Wk N be ad a k c) (l : k ≤ m) : Wk N be ad a m c := by
  obtain ⟨d, rfl⟩ := Nat.exists_eq_add_of_le l
  exact h.mono d
theorem Wk.bear {a : Nat} (ha : be a = true) : ∀ (k c : Nat), Wk N be ad a k c → be c = true := by
  intro k
  induction k with
  | zero => rintro c rfl; exact ha
  | succ k ih =>
    rintro c (h | ⟨h, _⟩)
    · exact ih c h
    · exact h
theorem Wk.left {a x : Nat} (hx : x < N) (ha : be a = true) (hxa : ad x a = true) : ∀ (k c : Nat), Wk N be ad a k c → Wk N be ad x (k + 1) c := by
  intro k
  induction k with
  | zero => rintro c rfl; exact Or.inr ⟨ha, x, hx, hxa, rfl⟩
  | succ k ih =>
    rintro c (h | ⟨h, d, h1, h2, h3⟩)
    · exact Or.inl (ih c h)
    · exact Or.inr ⟨h, d, h1, h2, ih d h3⟩
theorem Wk.sym (hs : ∀ x y, ad x y = ad y x) {a : Nat} (ha : be a = true) : ∀ (k c : Nat), c < N → Wk N be ad a k c → Wk N be ad c k a := by
  intro k
  induction k with
  | zero => rintro c _ rfl; rfl
  | succ k ih =>
    rintro c hc (h | ⟨h, d, h1, h2, h3⟩)
    · exact Or.inl (ih c hc h)
    · exact Wk.left hc (Wk.bear ha k d h3) (by rw [hs]; exact h2) k a (ih d h1 h3)
theorem Wk.trans {a b : Nat} {k : Nat} (h : Wk N be ad a k b) : ∀ (j c : Nat), Wk N be ad b j c → Wk N be ad a (k + j) c := by
  intro j
  induction j with
  | zero => rintro c rfl; exact h
  | succ j ih =>
    rintro c (g | ⟨g, d, g1, g2, g3⟩)
    · exact Or.inl (ih c g)
    · exact Or.inr ⟨g, d, g1, g2, ih d g3⟩
theorem Wk.lt {a : Nat} (ha : a < N) (hbn : ∀ c, be c = true → c < N) : ∀ (k c : Nat), Wk N be ad a k c → c < N := by
  intro k
  induction k with
  | zero => rintro c rfl; exact ha
  | succ k ih =>
    rintro c (h | ⟨h, _⟩)
    · exact ih c h
    · exact hbn c h
/-- the steps of a way between two cells that bear; -9: none -/
def IsSt (N : Nat) (be : Nat → Bool) (ad : Nat → Nat → Bool) (a b : Nat) (r : Int32) : Prop := (r = -9 ∧ ∀ k, ¬ (be a = true ∧ Wk N be ad a k b ∧ be b = true)) ∨ ∃ k, k < 2 ^ 31 ∧ r = nI k ∧ be a = true ∧ be b = true ∧ Wk N be ad a k b ∧ ∀ j, j < k → ¬ Wk N be ad a j b
theorem nI_ne9 {k : Nat} (h : k < 2 ^ 31) : ¬ nI k = -9 := by
  intro e
  have h1 := nI_toInt h
  rw [e] at h1
  have : (-9 : Int32).toInt = -9 := by decide
  omega
theorem IsSt.uniq {a b : Nat} {r r' : Int32} (h : IsSt N be ad a b r) (k : IsSt N be ad a b r') : r = r' := by
  rcases h with ⟨h1, h2⟩ | ⟨x, h0, h1, h2, h3, h4, h5⟩ <;> rcases k with ⟨k1, k2⟩ | ⟨y, k0, k1, k2, k3, k4, k5⟩
  · rw [h1, k1]
  · exact absurd ⟨k2, k4, k3⟩ (h2 y)
  · exact absurd ⟨h2, h4, h3⟩ (k2 x)
  · have : x = y := by
      rcases Nat.lt_trichotomy x y with l | l | l
      · exact absurd h4 (k5 x l)
      · exact l
      · exact absurd k4 (h5 y l)
    rw [h1, k1, this]
theorem IsSt.sym (hs : ∀ x y, ad x y = ad y x) {a b : Nat} (ha : a < N) (hb : b < N) {r : Int32} (h : IsSt N be ad a b r) : IsSt N be ad b a r := by
  rcases h with ⟨h1, h2⟩ | ⟨x, h0, h1, h2, h3, h4, h5⟩
  · exact Or.inl ⟨h1, fun k ⟨q1, q2, q3⟩ => h2 k ⟨q3, Wk.sym hs q1 k a ha q2, q1⟩⟩
  · exact Or.inr ⟨x, h0, h1, h3, h2, Wk.sym hs h2 x b hb h4, fun j hj q => h5 j hj (Wk.sym hs h3 j a ha q)⟩
end WALKS
/-! steps as sets of bits -/
section STEPS
variable {N : Nat} {be : Nat → Bool} {ad : Nat → Nat → Bool}
def StepOK (N : Nat) (be : Nat → Bool) (ad : Nat → Nat → Bool) (f : Int32 → Int32) : Prop := ∀ x, Sm N x → Sm N (f x) ∧ ∀ c, c < N → (bt (f x) c = true ↔ bt x c = true ∨ (be c = true ∧ ∃ d, d < N ∧ ad d c = true ∧ bt x d = true))
theorem it_Wk {f : Int32 → Int32} (hf : StepOK N be ad f) (hN : N ≤ 24) {a : Nat} (ha : a < N) : ∀ (k c : Nat), c < N → (bt (it f k (shl 1 (nI a))) c = true ↔ Wk N be ad a k c) := by
  intro k
  induction k with
  | zero =>
    intro c hc
    show bt (shl 1 (nI a)) c = true ↔ c = a
    rw [b_one (by omega) (by omega)]
    simp
  | succ k ih =>
    intro c hc
    have hs : Sm N (it f k (shl 1 (nI a))) := it_Sm (fun x h => (hf x h).1) k _ (Sm.one ha (by omega))
    rw [it_succ, (hf _ hs).2 c hc, ih c hc]
    constructor
    · rintro (h | ⟨h, d, h1, h2, h3⟩)
      · exact Or.inl h
      · exact Or.inr ⟨h, d, h1, h2, (ih d h1).mp h3⟩
    · rintro (h | ⟨h, d, h1, h2, h3⟩)
      · exact Or.inl h
      · exact Or.inr ⟨h, d, h1, h2, (ih d h1).mpr h3⟩
def mkS (p : Nat → Bool) : Nat → Int32
  | 0 => 0
  | n + 1 => mkS p n ||| if p n = true then shl 1 (nI n) else 0
theorem b_mkS (p : Nat → Bool) : ∀ n, n ≤ 32 → ∀ i, i < 32 → bt (mkS p n) i = (decide (i < n) && p i) := by
  intro n
  induction n with
  | zero => intro _ i _; rw [mkS, b_0]; simp
  | succ n ih =>
    intro hn i hi
    rw [mkS, b_or, ih (by omega) i hi]
    by_cases h : p n = true
    · rw [if_pos h, b_one (by omega) hi]
      by_cases e : i = n
      · subst e; simp [h]
      · have : decide (i < n + 1) = decide (i < n) := decide_eq_decide.mpr ⟨fun _ => by omega, fun _ => by omega⟩
        rw [this]; simp [e]
    · rw [if_neg h, b_0, Bool.or_false]
      by_cases e : i = n
      · subst e; simp at h; simp [h]
      · have : decide (i < n + 1) = decide (i < n) := decide_eq_decide.mpr ⟨fun _ => by omega, fun _ => by omega⟩
        rw [this]
theorem Sm.mk {p : Nat → Bool} {n : Nat} (hn : n ≤ 32) : Sm n (mkS p n) := fun i hi => by
  by_cases h : i < 32
  · rw [b_mkS p n hn i h]
    simp [Nat.not_lt.mpr hi]
  · exact b_big (by omega)
def anyB (p : Nat → Bool) : Nat → Bool
  | 0 => false
  | n + 1 => anyB p n || p n
theorem anyB_iff {p : Nat → Bool} : ∀ n, anyB p n = true ↔ ∃ d, d < n ∧ p d = true := by
  intro n
  induction n with
  | zero => simp [anyB]
  | succ n ih =>
    rw [anyB, Bool.or_eq_true, ih]
    constructor
    · rintro (⟨d, h1, h2⟩ | h)
      · exact ⟨d, by omega, h2⟩
      · exact ⟨n, by omega, h⟩
    · rintro ⟨d, h1, h2⟩
      by_cases e : d = n
      · subst e; exact Or.inr h2
      · exact Or.inl ⟨d, by omega, h2⟩
def stG (N : Nat) (be : Nat → Bool) (ad : Nat → Nat → Bool) (x : Int32) : Int32 := x ||| mkS (fun c => be c && anyB (fun d => ad d c && bt x d) N) N
theorem stG_ok (hN : N ≤ 24) : StepOK N be ad (stG N be ad) := by
  intro x hx
  refine ⟨hx.or (Sm.mk (by omega)), fun c hc => ?_⟩
  unfold stG
  rw [b_or, b_mkS _ N (by omega) c (by omega), Bool.or_eq_true]
  simp only [hc, decide_true, Bool.true_and, Bool.and_eq_true, anyB_iff]
theorem Wk_cap (hN : N ≤ 24) {a : Nat} (ha : a < N) {k c : Nat} (hc : c < N) (h : Wk N be ad a k c) : Wk N be ad a 24 c := by
  have hf := stG_ok (N := N) (be := be) (ad := ad) hN
  have hs : ∀ x, Sm N x → Sm N (stG N be ad x) := fun x hx => (hf x hx).1
  have hu : ∀ x i, bt x i = true → bt (stG N be ad x) i = true := fun x i hi => by unfold stG; rw [b_or, hi]; rfl
  rcases Nat.le_total k 24 with l | l
  · exact Wk.le h l
  · refine (it_Wk hf hN ha 24 c hc).mp ?_
    have := (it_Wk hf hN ha k c hc).mpr h
    obtain ⟨d, rfl⟩ := Nat.exists_eq_add_of_le l
    rw [it_add, it_fixed (it_fix hu hs (Sm.one ha (by omega)) hN)] at this
    exact this
end STEPS
theorem dif_comm (a b : Nat) : dif a b = dif b a := by unfold dif; omega
theorem adjB_comm (w a b : Nat) : adjB w a b = adjB w b a := by
  unfold adjB
  rw [dif_comm (a % w), dif_comm (a / w)]
