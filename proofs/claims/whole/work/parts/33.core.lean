/-! ===== the class's searches over bit sets are the reference's distances ===== -/
def NearOK (N w : Nat) (nr : Int32 → Int32) : Prop := ∀ x, Sm N x → Sm N (nr x) ∧ ∀ c, c < N → (bt (nr x) c = true ↔ ∃ d, d < N ∧ adjB w d c = true ∧ bt x d = true)
def BrOK (N : Nat) (be : Nat → Bool) (bear : Int32) : Prop := Sm N bear ∧ ∀ c, c < N → bt bear c = be c
def stp (nr : Int32 → Int32) (bear x : Int32) : Int32 := x ||| (nr x &&& bear)
section CORE
variable {N w : Nat} {nr : Int32 → Int32} {be : Nat → Bool} {bear : Int32}
theorem stp_ok (hn : NearOK N w nr) (hb : BrOK N be bear) : StepOK N be (adjB w) (stp nr bear) := by
  intro x hx
  obtain ⟨h1, h2⟩ := hn x hx
  refine ⟨hx.or (h1.and bear), fun c hc => ?_⟩
  unfold stp
  rw [b_or, b_and, Bool.or_eq_true, Bool.and_eq_true, h2 c hc, hb.2 c hc]
  constructor
  · rintro (h | ⟨h, k⟩)
    · exact Or.inl h
    · exact Or.inr ⟨k, h⟩
  · rintro (h | ⟨k, h⟩)
    · exact Or.inl h
    · exact Or.inr ⟨h, k⟩
theorem stp_up (nr : Int32 → Int32) (bear : Int32) : ∀ x i, bt x i = true → bt (stp nr bear x) i = true := by
  intro x i h
  unfold stp
  rw [b_or, h]
  rfl
theorem spF_it (nr : Int32 → Int32) (bear : Int32) : ∀ n r, spF nr bear n r = it (stp nr bear) n r := by
  intro n
  induction n with
  | zero => intro r; rfl
  | succ n ih =>
    intro r
    show (if r ||| (nr r &&& bear) = r then r else spF nr bear n (r ||| (nr r &&& bear))) = it (stp nr bear) n (stp nr bear r)
    by_cases h : r ||| (nr r &&& bear) = r
    · rw [if_pos h]
      have h2 : stp nr bear r = r := h
      rw [h2, it_fixed h2]
    · rw [if_neg h, ih]
      rfl
theorem cnt_one {a : Nat} (ha : a < N) (hN : N ≤ 24) : 1 ≤ cnt (shl 1 (nI a)) N := by
  have h := cnt_lt (x := 0) (y := shl 1 (nI a)) (fun i h => by rw [b_0] at h; cases h) (b_0 a) (by rw [b_one (by omega) (by omega)]; simp) N ha
  omega
/-- 23 rounds are enough -/
theorem fix23 (hn : NearOK N w nr) (hb : BrOK N be bear) (hN : N ≤ 24) {a : Nat} (ha : a < N) : stp nr bear (it (stp nr bear) 23 (shl 1 (nI a))) = it (stp nr bear) 23 (shl 1 (nI a)) := by
  have hs : ∀ x, Sm N x → Sm N (stp nr bear x) := fun x h => (stp_ok hn hb x h).1
  rcases it_grow (stp_up nr bear) hs 23 (shl 1 (nI a)) (Sm.one ha (by omega)) with h | h
  · exact h
  · have h1 := cnt_one ha hN
    have h2 := cnt_le (stp nr bear (it (stp nr bear) 23 (shl 1 (nI a)))) N
    omega
theorem it_back {f : Int32 → Int32} (hu : ∀ x i, bt x i = true → bt (f x) i = true) {x : Int32} {i j k : Nat} (h : bt (it f j x) i = true) (hjk : j ≤ k) : bt (it f k x) i = true := by
  rw [show k = j + (k - j) by omega, it_add]
  exact it_up hu _ _ _ h
theorem it_stop {f : Int32 → Int32} {x : Int32} {j k : Nat} (h : f (it f j x) = it f j x) (hjk : j ≤ k) : it f k x = it f j x := by
  rw [show k = j + (k - j) by omega, it_add, it_fixed h]
theorem stF_ok (hn : NearOK N w nr) (hb : BrOK N be bear) (hN : N ≤ 24) {a b : Nat} (ha : a < N) (hbN : b < N) : ∀ n k, k + n = 24 → (∀ j, j < k → bt (it (stp nr bear) j (shl 1 (nI a))) b = false) →
    (stF nr bear (nI b) n k (it (stp nr bear) k (shl 1 (nI a))) = -9 ∧ ∀ j, bt (it (stp nr bear) j (shl 1 (nI a))) b = false) ∨ ∃ j, j < 24 ∧ stF nr bear (nI b) n k (it (stp nr bear) k (shl 1 (nI a))) = nI j ∧ bt (it (stp nr bear) j (shl 1 (nI a))) b = true ∧ ∀ i, i < j → bt (it (stp nr bear) i (shl 1 (nI a))) b = false := by
  intro n
  induction n with
  | zero =>
    intro k hk hj
    refine Or.inl ⟨rfl, fun j => ?_⟩
    cases h : bt (it (stp nr bear) j (shl 1 (nI a))) b with
    | false => rfl
    | true =>
      by_cases h9 : j < k
      · rw [hj j h9] at h; cases h
      · have e := it_stop (fix23 hn hb hN ha) (show 23 ≤ j by omega)
        rw [e, hj 23 (by omega)] at h
        cases h
  | succ n ih =>
    intro k hk hj
    simp only [stF]
    by_cases h1 : hasF (it (stp nr bear) k (shl 1 (nI a))) (nI b) = 0
    · have h1b := (has_iff (by omega)).mp h1
      rw [if_pos h1]
      have hj' : ∀ j, j < k + 1 → bt (it (stp nr bear) j (shl 1 (nI a))) b = false := fun j hjk => by
        rcases Nat.lt_succ_iff_lt_or_eq.mp hjk with h | h
        · exact hj j h
        · rw [h]; exact h1b
      by_cases h2 : it (stp nr bear) k (shl 1 (nI a)) ||| (nr (it (stp nr bear) k (shl 1 (nI a))) &&& bear) = it (stp nr bear) k (shl 1 (nI a))
      · rw [if_pos h2]
        refine Or.inl ⟨rfl, fun j => ?_⟩
        by_cases h9 : j < k + 1
        · exact hj' j h9
        · rw [it_stop h2 (show k ≤ j by omega)]
          exact h1b
      · rw [if_neg h2]
        have e : it (stp nr bear) k (shl 1 (nI a)) ||| (nr (it (stp nr bear) k (shl 1 (nI a))) &&& bear) = it (stp nr bear) (k + 1) (shl 1 (nI a)) := by
          rw [it_succ]
          rfl
        rw [e]
        exact ih (k + 1) (by omega) hj'
    · rw [if_neg h1]
      exact Or.inr ⟨k, by omega, rfl, (has_iff1 (by omega)).mp h1, hj⟩
theorem fsF_St (hn : NearOK N w nr) (hb : BrOK N be bear) (hN : N ≤ 24) {a b : Nat} (ha : a < N) (hbN : b < N) : IsSt N be (adjB w) a b (fsF nr (nI a) (nI b) bear) := by
  unfold fsF
  by_cases h0 : hasF bear (nI a) = 0 ∨ hasF bear (nI b) = 0
  · rw [if_pos h0]
    refine Or.inl ⟨rfl, fun k h => ?_⟩
    rcases h0 with h0 | h0
    · have := (has_iff (by omega)).mp h0
      rw [hb.2 a ha, h.1] at this
      cases this
    · have := (has_iff (by omega)).mp h0
      rw [hb.2 b hbN, h.2.2] at this
      cases this
  · rw [if_neg h0]
    obtain ⟨p1, p2⟩ := not_or.mp h0
    have q1 : be a = true := by rw [← hb.2 a ha]; exact (has_iff1 (by omega)).mp p1
    have q2 : be b = true := by rw [← hb.2 b hbN]; exact (has_iff1 (by omega)).mp p2
    have hW := it_Wk (stp_ok hn hb) hN ha
    rcases stF_ok hn hb hN ha hbN 24 0 (by omega) (fun j h => absurd h (by omega)) with ⟨h1, h2⟩ | ⟨j, h1, h2, h3, h4⟩
    · refine Or.inl ⟨h1, fun k h => ?_⟩
      have := (hW k b hbN).mpr h.2.1
      rw [h2 k] at this
      cases this
    · refine Or.inr ⟨j, by omega, h2, q1, q2, (hW j b hbN).mp h3, fun i hi h => ?_⟩
      have := (hW i b hbN).mpr h
      rw [h4 i hi] at this
      cases this
theorem fsF_dv (hn : NearOK N w nr) (hb : BrOK N be bear) (hN : N ≤ 24) {a b : Nat} (ha : a < N) (hbN : b < N) : fsF nr (nI a) (nI b) bear = dv N be (adjB w) a b :=
  (fsF_St hn hb hN ha hbN).uniq (dv_St hN ha hbN (adjB_comm w))
theorem near1 (hn : NearOK N w nr) (hN : N ≤ 24) {p c : Nat} (hp : p < N) (hc : c < N) : bt (nr (shl 1 (nI p))) c = adjB w p c := by
  have h := (hn _ (Sm.one hp (by omega))).2 c hc
  cases h1 : adjB w p c with
  | true => exact h.mpr ⟨p, hp, h1, by rw [b_one (by omega) (by omega)]; simp⟩
  | false =>
    cases h2 : bt (nr (shl 1 (nI p))) c with
    | false => rfl
    | true =>
      obtain ⟨d, d1, d2, d3⟩ := h.mp h2
      rw [b_one (by omega) (by omega)] at d3
      have : d = p := of_decide_eq_true d3
      rw [this, h1] at d2
      cases d2
theorem ncF_at {a b left nx : Int32} {x : Nat} (hx : x < 24) (h1 : ∀ e, e < x → hasF nx (nI e) = 0 ∨ ¬ fsF nr (nI e) b bear = left - 1) (h2 : ¬ hasF nx (nI x) = 0 ∧ fsF nr (nI x) b bear = left - 1) : ∀ n j, j + n = 24 → j ≤ x → ncF nr a b bear left nx n j = nI x := by
  intro n
  induction n with
  | zero => intro j h3 h4; omega
  | succ n ih =>
    intro j h3 h4
    simp only [ncF]
    rcases Nat.lt_or_ge j x with h5 | h5
    · by_cases h6 : hasF nx (nI j) = 0
      · rw [if_pos h6]; exact ih (j + 1) (by omega) (by omega)
      · rw [if_neg h6, if_neg ((h1 j h5).resolve_left h6)]
        exact ih (j + 1) (by omega) (by omega)
    · have : j = x := by omega
      subst this
      rw [if_neg h2.1, if_pos h2.2]
theorem nextF_nx (hn : NearOK N w nr) (hb : BrOK N be bear) (hN : N ≤ 24) {p b : Nat} (hp : p < N) (hbN : b < N) (hpb : be p = true) (h0 : 0 < dF N be (adjB w) b p) (h9 : dF N be (adjB w) b p < 99) : nextF nr (nI p) (nI b) bear = nI (nxN N be (adjB w) (dF N be (adjB w) b) p) := by
  obtain ⟨n1, n2, n3, n4⟩ := nxN_ok hN hbN (adjB_comm w) hp hpb h0 h9
  have hle := (dF_ok (be := be) (ad := adjB w) hN hbN).2
  have hleft : fsF nr (nI p) (nI b) bear = nI (dF N be (adjB w) b p) := by
    rw [fsF_dv hn hb hN hp hbN]
    unfold dv
    rw [if_neg (by rintro (h | h); rw [hpb] at h; cases h; omega)]
  have hC : ∀ e, e < N → ((¬ hasF (nr (shl 1 (nI p)) &&& bear) (nI e) = 0 ∧ fsF nr (nI e) (nI b) bear = nI (dF N be (adjB w) b p) - 1) ↔ nxP be (adjB w) (dF N be (adjB w) b) p e = true) := by
    intro e he
    rw [has_iff1 (by omega), b_and, near1 hn hN hp he, hb.2 e he, fsF_dv hn hb hN he hbN]
    unfold nxP dv
    simp only [Bool.and_eq_true, beq_iff_eq]
    constructor
    · rintro ⟨⟨k1, k2⟩, k3⟩
      refine ⟨k2, k1, ?_⟩
      by_cases h : be e = false ∨ dF N be (adjB w) b e = 99
      · rw [if_pos h] at k3
        exfalso
        have e1 : nI (dF N be (adjB w) b p) - 1 = nI (dF N be (adjB w) b p - 1) := by
          obtain ⟨m, hm⟩ : ∃ m, dF N be (adjB w) b p = m + 1 := ⟨_, (Nat.succ_pred_eq_of_pos h0).symm⟩
          rw [hm, nI_pred]
          rfl
        rw [e1] at k3
        exact nI_ne9 (by omega) k3.symm
      · rw [if_neg h] at k3
        exact (eq_m1 (hle e) (hle p)).mp k3
    · rintro ⟨k1, k2, k3⟩
      refine ⟨⟨k2, k1⟩, ?_⟩
      rw [if_neg (by rintro (h | h); rw [k1] at h; cases h; omega)]
      exact (eq_m1 (hle e) (hle p)).mpr k3
  unfold nextF
  rw [hleft]
  refine ncF_at (by omega) (fun e he => ?_) ((hC _ n1).mpr ?_) 24 0 (by omega) (by omega)
  · rcases ls_spec (nxP be (adjB w) (dF N be (adjB w) b) p) N 0 with ⟨h, -⟩ | ⟨-, -, -, h⟩
    · unfold nxN at n1; omega
    · have h5 := h e (by omega) he
      have h6 := mt (hC e (Nat.lt_trans he n1)).mp (by rw [h5]; exact Bool.false_ne_true)
      exact (Decidable.not_and_iff_not_or_not.mp h6).imp_left Decidable.not_not.mp
  · unfold nxP
    simp only [Bool.and_eq_true, beq_iff_eq]
    exact ⟨n2, n3, n4⟩
theorem wyF_wy (hn : NearOK N w nr) (hb : BrOK N be bear) (hN : N ≤ 24) {b : Nat} (hbN : b < N) : ∀ n p, p < N → be p = true → n ≤ dF N be (adjB w) b p → dF N be (adjB w) b p < 99 → wyF nr (nI b) bear n (nI p) = nI (wyN N be (adjB w) (dF N be (adjB w) b) n p) := by
  intro n
  induction n with
  | zero => intro p _ _ _ _; rfl
  | succ n ih =>
    intro p hp hpb h1 h9
    obtain ⟨n1, n2, n3, n4⟩ := nxN_ok hN hbN (adjB_comm w) hp hpb (by omega) h9
    simp only [wyF, wyN]
    rw [nextF_nx hn hb hN hp hbN hpb (by omega) h9]
    exact ih _ n1 n2 (by omega) (by omega)
end CORE
