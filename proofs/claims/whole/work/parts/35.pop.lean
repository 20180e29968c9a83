/-! ===== counting bits ===== -/
def tn (x : Int32) : Nat := x.toBitVec.toNat
theorem tn_inj {x y : Int32} (h : tn x = tn y) : x = y := Int32.toBitVec_inj.mp (BitVec.eq_of_toNat_eq h)
theorem tn_lt (x : Int32) : tn x < 2 ^ 32 := x.toBitVec.isLt
theorem bt_tn (x : Int32) (i : Nat) : bt x i = (tn x).testBit i := rfl
theorem tn_and (x y : Int32) : tn (x &&& y) = tn x &&& tn y := by unfold tn; rw [Int32.toBitVec_and, BitVec.toNat_and]
theorem tn_add {x y : Int32} (h : tn x + tn y < 2 ^ 32) : tn (x + y) = tn x + tn y := by
  unfold tn at h ⊢
  rw [Int32.toBitVec_add, BitVec.toNat_add, Nat.mod_eq_of_lt h]
theorem tn_sub {x y : Int32} (h : tn y ≤ tn x) : tn (x - y) = tn x - tn y := by
  have h1 := tn_lt x
  unfold tn at h h1 ⊢
  rw [Int32.toBitVec_sub, BitVec.toNat_sub]
  omega
theorem tn_ushr (n : Nat) (hn : n < 32) (x : Int32) : tn (ushr x (nI n)) = tn x / 2 ^ n := by
  refine Nat.eq_of_testBit_eq fun i => ?_
  rw [← bt_tn, b_ushr n hn, bt_tn, Nat.testBit_div_two_pow, Nat.add_comm]
theorem tn_nI {n : Nat} (h : n < 2 ^ 32) : tn (nI n) = n := by
  unfold tn nI
  rw [Int32.toBitVec_ofNat', BitVec.toNat_ofNat, Nat.mod_eq_of_lt h]
theorem land8 {A M c m : Nat} (hc : c < 256) (hm : m < 256) : (256 * A + c) &&& (256 * M + m) = 256 * (A &&& M) + (c &&& m) := by
  have h1 : ((256 * A + c) &&& (256 * M + m)) / 2 ^ 8 = A &&& M := by
    rw [Nat.and_div_two_pow, show (256 * A + c) / 2 ^ 8 = A by omega, show (256 * M + m) / 2 ^ 8 = M by omega]
  have h2 : ((256 * A + c) &&& (256 * M + m)) % 2 ^ 8 = c &&& m := by
    rw [Nat.and_mod_two_pow, show (256 * A + c) % 2 ^ 8 = c by omega, show (256 * M + m) % 2 ^ 8 = m by omega]
  omega
theorem land3 {a b c m : Nat} (ha : a < 256) (hb : b < 256) (hc : c < 256) (hm : m < 256) : (a + 256 * b + 65536 * c) &&& (m + 256 * m + 65536 * m + 16777216 * m) = (a &&& m) + 256 * (b &&& m) + 65536 * (c &&& m) := by
  rw [show a + 256 * b + 65536 * c = 256 * (256 * (256 * 0 + c) + b) + a by omega, show m + 256 * m + 65536 * m + 16777216 * m = 256 * (256 * (256 * m + m) + m) + m by omega, land8 ha hm, land8 hb hm, land8 hc hm, Nat.zero_and]
  omega
def pa (b : Nat) : Nat := b - ((b / 2) &&& 85)
def pb (c : Nat) : Nat := (c &&& 51) + ((c / 4) &&& 51)
def pq (b : Nat) : Nat := pb (pa b)
def pp (b : Nat) : Nat := b % 2 + b / 2 % 2 + b / 4 % 2 + b / 8 % 2 + b / 16 % 2 + b / 32 % 2 + b / 64 % 2 + b / 128 % 2
set_option maxRecDepth 100000 in
theorem tb1 : ∀ b, b < 256 → (∀ e, e < 2 → (b / 2 + 128 * e) &&& 85 = (b / 2) &&& 85) ∧ (b / 2) &&& 85 ≤ b := by decide +kernel
set_option maxRecDepth 100000 in
theorem tb2 : ∀ c, c < 256 → ∀ e, e < 4 → (c / 4 + 64 * e) &&& 51 = (c / 4) &&& 51 := by decide +kernel
set_option maxRecDepth 100000 in
theorem tb2' : ∀ c, c < 256 → (c &&& 51) + ((c / 4) &&& 51) < 256 := by decide +kernel
set_option maxRecDepth 100000 in
theorem tb3 : ∀ b, b < 256 → pq b ≤ 68 ∧ pq b % 16 ≤ 4 ∧ ∀ e, e < 5 → (pq b + pq b / 16 + 16 * e) &&& 15 = pp b := by decide +kernel
theorem pp_le (b : Nat) : pp b ≤ 8 := by unfold pp; omega
/-- of 24 bits, three bytes' worth -/
theorem pc_bytes {x : Int32} {u v w : Nat} (hu : u < 256) (hv : v < 256) (hw : w < 256) (hx : tn x = u + 256 * v + 65536 * w) : pcF x = nI (pp u + pp v + pp w) := by
  obtain ⟨u1, u2⟩ := tb1 u hu
  obtain ⟨v1, v2⟩ := tb1 v hv
  obtain ⟨w1, w2⟩ := tb1 w hw
  have m1 : tn (1431655765 : Int32) = 85 + 256 * 85 + 65536 * 85 + 16777216 * 85 := by decide +kernel
  have m2 : tn (858993459 : Int32) = 51 + 256 * 51 + 65536 * 51 + 16777216 * 51 := by decide +kernel
  have m4 : tn (252645135 : Int32) = 15 + 256 * 15 + 65536 * 15 + 16777216 * 15 := by decide +kernel
  -- first
  have e1 : tn (ushr x 1 &&& 1431655765) = ((u / 2) &&& 85) + 256 * ((v / 2) &&& 85) + 65536 * ((w / 2) &&& 85) := by
    rw [tn_and, show (1 : Int32) = nI 1 from rfl, tn_ushr 1 (by decide), hx, m1, show (u + 256 * v + 65536 * w) / 2 ^ 1 = (u / 2 + 128 * (v % 2)) + 256 * (v / 2 + 128 * (w % 2)) + 65536 * (w / 2 + 128 * 0) by omega, land3 (by omega) (by omega) (by omega) (by omega), u1 _ (by omega), v1 _ (by omega), w1 0 (by omega)]
  have e2 : tn (x - (ushr x 1 &&& 1431655765)) = pa u + 256 * pa v + 65536 * pa w := by
    rw [tn_sub (by rw [e1, hx]; omega), e1, hx]
    unfold pa
    omega
  have a1 : pa u < 256 := by unfold pa; omega
  have a2 : pa v < 256 := by unfold pa; omega
  have a3 : pa w < 256 := by unfold pa; omega
  generalize ha : x - (ushr x 1 &&& 1431655765) = a at e2
  have e3 : tn (a &&& 858993459) = (pa u &&& 51) + 256 * (pa v &&& 51) + 65536 * (pa w &&& 51) := by
    rw [tn_and, e2, m2, land3 a1 a2 a3 (by omega)]
  have e4 : tn (ushr a 2 &&& 858993459) = ((pa u / 4) &&& 51) + 256 * ((pa v / 4) &&& 51) + 65536 * ((pa w / 4) &&& 51) := by
    rw [tn_and, show (2 : Int32) = nI 2 from rfl, tn_ushr 2 (by decide), e2, m2, show (pa u + 256 * pa v + 65536 * pa w) / 2 ^ 2 = (pa u / 4 + 64 * (pa v % 4)) + 256 * (pa v / 4 + 64 * (pa w % 4)) + 65536 * (pa w / 4 + 64 * 0) by omega, land3 (by omega) (by omega) (by omega) (by omega), tb2 _ a1 _ (by omega), tb2 _ a2 _ (by omega), tb2 _ a3 0 (by omega)]
  have k1 := tb2' _ a1
  have k2 := tb2' _ a2
  have k3 := tb2' _ a3
  have e5 : tn ((a &&& 858993459) + (ushr a 2 &&& 858993459)) = pq u + 256 * pq v + 65536 * pq w := by
    rw [tn_add (by rw [e3, e4]; omega), e3, e4]
    unfold pq pb
    omega
  generalize hb : (a &&& 858993459) + (ushr a 2 &&& 858993459) = b at e5
  obtain ⟨q1, q2, q3⟩ := tb3 u hu
  obtain ⟨r1, r2, r3⟩ := tb3 v hv
  obtain ⟨s1, s2, s3⟩ := tb3 w hw
  have e6 : tn (ushr b 4) = (pq u / 16 + 16 * (pq v % 16)) + 256 * (pq v / 16 + 16 * (pq w % 16)) + 65536 * (pq w / 16) := by
    rw [show (4 : Int32) = nI 4 from rfl, tn_ushr 4 (by decide), e5]
    omega
  have e7 : tn ((b + ushr b 4) &&& 252645135) = pp u + 256 * pp v + 65536 * pp w := by
    rw [tn_and, tn_add (by rw [e5, e6]; omega), e5, e6, m4, show (pq u + 256 * pq v + 65536 * pq w) + ((pq u / 16 + 16 * (pq v % 16)) + 256 * (pq v / 16 + 16 * (pq w % 16)) + 65536 * (pq w / 16)) = (pq u + pq u / 16 + 16 * (pq v % 16)) + 256 * (pq v + pq v / 16 + 16 * (pq w % 16)) + 65536 * (pq w + pq w / 16 + 16 * 0) by omega, land3 (by omega) (by omega) (by omega) (by omega), q3 _ (by omega), r3 _ (by omega), s3 0 (by omega)]
  have p1 := pp_le u
  have p2 := pp_le v
  have p3 := pp_le w
  generalize hc : (b + ushr b 4) &&& 252645135 = c at e7
  have e8 : tn (c + ushr c 8) = (pp u + pp v) + 256 * (pp v + pp w) + 65536 * pp w := by
    have h8 : tn (ushr c 8) = pp v + 256 * pp w := by
      rw [show (8 : Int32) = nI 8 from rfl, tn_ushr 8 (by decide), e7]
      omega
    rw [tn_add (by rw [e7, h8]; omega), e7, h8]
    omega
  have e9 : tn (((c + ushr c 8) + ushr (c + ushr c 8) 16) &&& 63) = pp u + pp v + pp w := by
    have h9 : tn (ushr (c + ushr c 8) 16) = pp w := by
      rw [show (16 : Int32) = nI 16 from rfl, tn_ushr 16 (by decide), e8]
      omega
    rw [tn_and, show tn (63 : Int32) = 2 ^ 6 - 1 by decide +kernel, Nat.and_two_pow_sub_one_eq_mod, tn_add (by rw [e8, h9]; omega), e8, h9]
    omega
  refine tn_inj ?_
  rw [tn_nI (by omega), ← e9]
  subst hc
  subst hb
  subst ha
  rfl
theorem bt_dm (x : Int32) (i : Nat) : (if bt x i = true then 1 else 0) = tn x / 2 ^ i % 2 := by
  rw [bt_tn, Nat.testBit_eq_decide_div_mod_eq]
  have : tn x / 2 ^ i % 2 < 2 := Nat.mod_lt _ (by decide)
  by_cases h : tn x / 2 ^ i % 2 = 1
  · rw [h]; simp
  · rw [if_neg (by simpa using h)]; omega
theorem tn_sm {x : Int32} (h : Sm 24 x) : tn x < 2 ^ 24 := Nat.lt_pow_two_of_testBit _ (fun i hi => by rw [← bt_tn]; exact h i hi)
theorem pp_mod (Y : Nat) : pp (Y % 256) = Y % 2 + Y / 2 % 2 + Y / 4 % 2 + Y / 8 % 2 + Y / 16 % 2 + Y / 32 % 2 + Y / 64 % 2 + Y / 128 % 2 := by
  unfold pp
  rw [show Y % 256 % 2 = Y % 2 by omega, show Y % 256 / 2 % 2 = Y / 2 % 2 by omega, show Y % 256 / 4 % 2 = Y / 4 % 2 by omega, show Y % 256 / 8 % 2 = Y / 8 % 2 by omega, show Y % 256 / 16 % 2 = Y / 16 % 2 by omega, show Y % 256 / 32 % 2 = Y / 32 % 2 by omega, show Y % 256 / 64 % 2 = Y / 64 % 2 by omega, show Y % 256 / 128 % 2 = Y / 128 % 2 by omega]
theorem cnt24 (x : Int32) : cnt x 24 = pp (tn x % 256) + pp (tn x / 256 % 256) + pp (tn x / 65536 % 256) := by
  rw [pp_mod, pp_mod, pp_mod]
  simp only [cnt, bt_dm, Nat.div_div_eq_div_mul, Nat.reduceMul, Nat.reducePow, Nat.div_one, Nat.zero_add, Nat.add_assoc]
theorem pc_cnt {x : Int32} (h : Sm 24 x) : pcF x = nI (cnt x 24) := by
  have h1 := tn_sm h
  rw [cnt24, pc_bytes (u := tn x % 256) (v := tn x / 256 % 256) (w := tn x / 65536 % 256) (by omega) (by omega) (by omega) (by omega)]
theorem cnt_ext {x : Int32} {n : Nat} (h : Sm n x) : ∀ m, cnt x (n + m) = cnt x n := by
  intro m
  induction m with
  | zero => rfl
  | succ m ih =>
    show cnt x (n + m) + (if bt x (n + m) = true then 1 else 0) = _
    rw [ih, h (n + m) (by omega)]
    rfl
theorem pc_N {x : Int32} {N : Nat} (h : Sm N x) (hN : N ≤ 24) : pcF x = nI (cnt x N) := by
  rw [pc_cnt (h.mono hN), show 24 = N + (24 - N) by omega, cnt_ext h]
theorem onF_cnt (x : Int32) : ∀ n j, j + n ≤ 24 → onF x n j (nI (cnt x j)) = nI (cnt x (j + n)) := by
  intro n
  induction n with
  | zero => intro j _; rfl
  | succ n ih =>
    intro j hj
    simp only [onF]
    rw [bit_of (by omega)]
    have e : nI (cnt x j) + (if bt x j = true then 1 else 0) = nI (cnt x (j + 1)) := by
      show _ = nI (cnt x j + (if bt x j = true then 1 else 0))
      rw [← nI_add]
      by_cases h : bt x j = true
      · rw [if_pos h, if_pos h]; rfl
      · rw [if_neg h, if_neg h]; rfl
    rw [e, ih (j + 1) (by omega), show j + 1 + n = j + (n + 1) by omega]
theorem on_cnt (x : Int32) : onV x = nI (cnt x 24) := by
  have h := onF_cnt x 24 0 (by omega)
  rw [Nat.zero_add] at h
  exact h
theorem pc_on {x : Int32} (h : Sm 24 x) : pcF x = onV x := by rw [pc_cnt h, on_cnt]
theorem cntN {x : Int32} {N : Nat} (h : Sm N x) (hN : N ≤ 24) : cnt x 24 = cnt x N := by
  rw [show 24 = N + (24 - N) by omega, cnt_ext h]
