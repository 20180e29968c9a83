/-! ===== apart ===== -/
theorem nI_tn (x : Int32) : nI (tn x) = x := tn_inj (tn_nI (tn_lt x))
theorem ch_any {N n : Nat} {p : Nat → Nat} {bg : Nat → Int32} {b q : Int32} (hp : Pl N n p bg b) (hq : ∀ c, bt q c = true → bt b c = true) : ∃ i, i < 2 ^ n ∧ chF bg (nI i) n 0 0 = q := by
  have hn := hp.1
  have hm := b_mkS (fun k => bt q (p k)) n (by omega)
  have hsm : Sm n (mkS (fun k => bt q (p k)) n) := Sm.mk (by omega)
  refine ⟨tn (mkS (fun k => bt q (p k)) n), Nat.lt_pow_two_of_testBit _ (fun i hi => by rw [← bt_tn]; exact hsm i hi), ?_⟩
  rw [nI_tn]
  refine b_ext fun c hc => Bool.eq_iff_iff.mpr ?_
  rw [ch_sub hp _ hc]
  constructor
  · rintro ⟨k, k1, rfl, k3⟩
    rw [hm k (by omega), decide_eq_true k1, Bool.true_and] at k3
    exact k3
  · intro z
    obtain ⟨k, k1, k2⟩ := (hp.2.2.2.2 c hc).mp (hq c z)
    exact ⟨k, k1, k2, by rw [hm k (by omega), decide_eq_true k1, Bool.true_and, k2]; exact z⟩
theorem lc_cnt {x : Int32} {N : Nat} (hN : N ≤ 24) : ∀ n j (st : LB), j + n = N → st.1 = cnt x j → (lcG x n j st).1 = cnt x N := by
  intro n
  induction n with
  | zero => intro j st hj h; rw [show N = j by omega]; exact h
  | succ n ih =>
    intro j st hj h
    simp only [lcG]
    refine ih (j + 1) _ (by omega) ?_
    show _ = cnt x j + if bt x j = true then 1 else 0
    rw [bit_of (by omega)]
    by_cases h9 : bt x j = true
    · rw [if_pos h9, if_pos rfl, if_pos h9, ← h]
    · rw [if_neg h9, if_neg (by decide), if_neg h9, ← h]; rfl
section AP
variable {N w n a b : Nat} {nf : Int32 → Int32} {nr bg : Nat → Int32} {p : Nat → Nat} {others two : Int32}
theorem br_self {x : Int32} (h : Sm N x) : BrOK N (fun c => bt x c) x := ⟨h, fun _ _ => rfl⟩
theorem jo_iff (hr : NrR N w nr) (hn : NearOK N w nf) (hN : N ≤ 24) (ha : a < N) (hb : b < N) {x : Int32} (hx : Sm N x) (h1 : bt x a = true) (h2 : bt x b = true) : joF nf (nI a) (nI b) x = 0 ↔ sshr (rcV nr N a x) (nI b) &&& 1 = 0 := by
  unfold joF
  rw [bit_of (by omega), rc_sp hr hn (br_self hx) hN ha]
  have k1 : ¬ hasF x (nI a) = 0 := (has_iff1 (by omega)).mpr h1
  have k2 : ¬ hasF x (nI b) = 0 := (has_iff1 (by omega)).mpr h2
  have k3 := has_iff (x := spF nf x 24 (shl 1 (nI a))) (show b < 32 by omega)
  cases h9 : bt (spF nf x 24 (shl 1 (nI a))) b with
  | true =>
    rw [if_pos rfl, if_neg (by rintro (z | z | z); exact k1 z; exact k2 z; rw [k3.mp z] at h9; cases h9)]
  | false =>
    rw [if_neg Bool.false_ne_true, if_pos (Or.inr (Or.inr (k3.mpr h9)))]
theorem ap_eq (hr : NrR N w nr) (hn : NearOK N w nf) (hN : N ≤ 24) (hp : Pl N n p bg others) (ho : Sm N others) (ha : a < N) (hb : b < N) (ht : Sm N two) (hta : bt two a = true) (htb : bt two b = true) {F0 : Nat} (hF : F0 ≤ 24) : ∀ r k L, L ≤ 99 →
    ∃ L', L' ≤ L ∧ faF nf (nI a) (nI b) others two r (chF bg (nI k) n 0 0) (nI (min F0 L)) = nI (min F0 L') ∧ apF nr bg N n a b others two r k (nI L) = nI L' ∧ ∀ i, k ≤ i → i < k + r → sshr (rcV nr N a ((others &&& (chF bg (nI i) n 0 0 ^^^ (-1))) ||| two)) (nI b) &&& 1 = 0 → L' ≤ cnt (chF bg (nI i) n 0 0) N := by
  intro r
  induction r with
  | zero => intro k L _; exact ⟨L, Nat.le_refl _, rfl, rfl, fun i h1 h2 => absurd h2 (by omega)⟩
  | succ r ih =>
    intro k L hL
    simp only [faF, apF]
    rw [ch_next hp k]
    obtain ⟨c1, c2⟩ := ch_Sm hp (nI k)
    generalize hpt : chF bg (nI k) n 0 0 = part at c1 c2
    have hor : two ||| (others &&& (part ^^^ (-1))) = (others &&& (part ^^^ (-1))) ||| two := b_ext fun i _ => by rw [b_or, b_or, Bool.or_comm]
    have hx : Sm N ((others &&& (part ^^^ (-1))) ||| two) := (ho.and _).or ht
    have hj := jo_iff hr hn hN ha hb hx (by rw [b_or, hta, Bool.or_true]) (by rw [b_or, htb, Bool.or_true])
    have hc := cnt_le part N
    have hpc : pcF part = nI (cnt part N) := pc_N c1 hN
    have hon : onV part = nI (cnt part N) := by rw [← pc_on (c1.mono hN), hpc]
    have hm1 : min F0 L ≤ F0 := Nat.min_le_left _ _
    unfold apG
    rw [hor, hpc, hon]
    by_cases hS : joF nf (nI a) (nI b) ((others &&& (part ^^^ (-1))) ||| two) = 0
    · have hS2 := hj.mp hS
      by_cases hl : cnt part N < L
      · obtain ⟨L', l1, l2, l3, l4⟩ := ih (k + 1) (cnt part N) (by omega)
        have hl4 : ∀ i, k ≤ i → i < k + (r + 1) → sshr (rcV nr N a ((others &&& (chF bg (nI i) n 0 0 ^^^ (-1))) ||| two)) (nI b) &&& 1 = 0 → L' ≤ cnt (chF bg (nI i) n 0 0) N := fun i i1 i2 hi => by
          by_cases h9 : i = k
          · subst h9; rw [hpt]; exact l1
          · exact l4 i (by omega) (by omega) hi
        by_cases hf : min F0 L ≤ cnt part N
        · rw [if_pos (Or.inl (nI_le hf (by omega))), if_pos (And.intro (nI_lt hl (by omega)) hS2)]
          exact ⟨L', by omega, by rw [← l2, show min F0 (cnt part N) = min F0 L by omega], l3, hl4⟩
        · rw [if_neg (not_or.mpr ⟨nI_ge (by omega) (by omega), fun z => z hS⟩), if_pos (And.intro (nI_lt hl (by omega)) hS2)]
          exact ⟨L', by omega, by rw [← l2, show min F0 (cnt part N) = cnt part N by omega], l3, hl4⟩
      · rw [if_pos (Or.inl (nI_le (by omega) (by omega))), if_neg (fun z => nI_nlt (Nat.le_of_not_lt hl) (by omega) z.1)]
        obtain ⟨L', l1, l2, l3, l4⟩ := ih (k + 1) L hL
        refine ⟨L', l1, l2, l3, fun i i1 i2 hi => ?_⟩
        by_cases h9 : i = k
        · subst h9; rw [hpt]; omega
        · exact l4 i (by omega) (by omega) hi
    · rw [if_pos (Or.inr hS), if_neg (fun z => hS (hj.mpr z.2))]
      obtain ⟨L', l1, l2, l3, l4⟩ := ih (k + 1) L hL
      refine ⟨L', l1, l2, l3, fun i i1 i2 hi => ?_⟩
      by_cases h9 : i = k
      · subst h9
        rw [hpt] at hi
        exact absurd (hj.mpr hi) hS
      · exact l4 i (by omega) (by omega) hi
end AP
