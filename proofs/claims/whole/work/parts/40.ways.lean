/-! ===== steps, way, likes ===== -/
theorem fsF_val {N w : Nat} {nr : Int32 → Int32} {be : Nat → Bool} {bear : Int32} (hn : NearOK N w nr) (hb : BrOK N be bear) (hN : N ≤ 24) {a b : Nat} (ha : a < N) (hbN : b < N) : dv N be (adjB w) a b = -9 ∨ ∃ d, d < 24 ∧ dv N be (adjB w) a b = nI d := by
  rw [← fsF_dv hn hb hN ha hbN]
  unfold fsF
  by_cases h0 : hasF bear (nI a) = 0 ∨ hasF bear (nI b) = 0
  · exact Or.inl (if_pos h0)
  · rw [if_neg h0]
    rcases stF_ok hn hb hN ha hbN 24 0 (by omega) (fun j h => absurd h (by omega)) with ⟨h1, -⟩ | ⟨j, h1, h2, -⟩
    · exact Or.inl h1
    · exact Or.inr ⟨j, h1, h2⟩
section P3
variable {g : GG} {M : Mem} {w h W sk t : Nat} {ea eb : Nat → Nat}
theorem rel_fs (hr : RelS M w h W sk t ea eb) {a b : Nat} (ha : a < w * h) (hb : b < w * h) : fsF (nearM M) (nI a) (nI b) (bearM M) = dvM M (w * h) w a b :=
  fsF_dv (rel_near hr) (rel_br hr) hr.1.1.le.1 ha hb
theorem p_steps : ∀ a b : Int32, PairI g Rel mX6_steps mX7_steps [.int a, .int b] := by
  intro a b M hM
  obtain ⟨w, h, W, sk, t, ea, eb, hr⟩ := hM
  have hR : Rel (th M) := ⟨w, h, W, sk, t, ea, eb, rel_th hr⟩
  refine pair_ri sp_steps ?_
  unfold stepsV
  rcases cellC hr a with ⟨h1, h2⟩ | ⟨c, hc, rfl, h1, h2⟩
  · rw [if_pos (Or.inl h1)]
    exact nxt_ri (sm_steps_bad (Or.inl h2)) rfl hR
  · rcases cellC hr b with ⟨k1, k2⟩ | ⟨d, hd, rfl, k1, k2⟩
    · rw [if_pos (Or.inr k1)]
      exact nxt_ri (sm_steps_bad (Or.inr k2)) rfl hR
    · rw [if_neg (not_or.mpr ⟨h1, k1⟩), rel_fs hr hc hd]
      refine nxt_si (sm_steps (rel_MW hr (by omega)) hc hd (not_or.mpr ⟨h2, k2⟩)) fun x m hx => ?_
      obtain ⟨e1, f, e2⟩ := hx
      rw [e1, e2]
      exact ⟨rfl, w, h, W, sk, t, ea, eb, rel_34 (rel_th hr) f⟩
theorem p_way : ∀ a b i : Int32, PairI g Rel mX6_way mX7_way [.int a, .int b, .int i] := by
  intro a b i M hM
  obtain ⟨w, h, W, sk, t, ea, eb, hr⟩ := hM
  have hR : Rel (th M) := ⟨w, h, W, sk, t, ea, eb, rel_th hr⟩
  refine pair_ri sp_way ?_
  unfold wayV
  rcases cellC hr a with ⟨h1, h2⟩ | ⟨c, hc, rfl, h1, h2⟩
  · rw [if_pos (Or.inl h1)]
    exact nxt_ri (sm_way_bad (Or.inl h2)) rfl hR
  · rcases cellC hr b with ⟨k1, k2⟩ | ⟨d, hd, rfl, k1, k2⟩
    · rw [if_pos (Or.inr (Or.inl k1))]
      exact nxt_ri (sm_way_bad (Or.inr (Or.inl k2))) rfl hR
    · by_cases hi : i < 0
      · rw [if_pos (Or.inr (Or.inr hi))]
        exact nxt_ri (sm_way_bad (Or.inr (Or.inr hi))) rfl hR
      · obtain ⟨n, hn, rfl⟩ : ∃ n, n < 2 ^ 31 ∧ i = nI n := by
          have h0 : (0 : Int32).toInt = 0 := by decide
          rw [Int32.lt_iff_toInt_lt, h0] at hi
          have h9 := i.toInt_lt
          exact ⟨i.toInt.toNat, by omega, Int32.toInt_inj.mp (by rw [nI_toInt (by omega)]; omega)⟩
        rw [if_neg (not_or.mpr ⟨h1, not_or.mpr ⟨k1, hi⟩⟩), rel_fs hr hc hd]
        refine nxt_si (sm_way (rel_MW hr (by omega)) hc hd hn (not_or.mpr ⟨h2, k2⟩)) fun x m hx => ?_
        obtain ⟨e1, f, e2⟩ := hx
        rw [e1, e2]
        refine ⟨?_, w, h, W, sk, t, ea, eb, rel_34 (rel_th hr) f⟩
        unfold wayM
        by_cases z1 : dvM M (w * h) w c d = -9
        · rw [if_pos z1, if_pos z1]
        · rw [if_neg z1, if_neg z1]
          by_cases z2 : dvM M (w * h) w c d < nI n
          · rw [if_pos z2, if_pos z2]
          · rw [if_neg z2, if_neg z2, nI_clamp hn]
            have hle := (dF_ok (be := beS (M.1 31)) (ad := adjB w) hr.1.1.le.1 hd).2 c
            unfold dvM dv at z1 z2
            by_cases z3 : beS (M.1 31) c = false ∨ dF (w * h) (beS (M.1 31)) (adjB w) d c = 99
            · exact absurd (if_pos z3) z1
            · rw [if_neg z3] at z2
              obtain ⟨z4, z5⟩ := not_or.mp z3
              have z6 : n ≤ dF (w * h) (beS (M.1 31)) (adjB w) d c := Nat.le_of_not_lt fun z => z2 (nI_lt z hn)
              exact (wyF_wy (rel_near hr) (rel_br hr) hr.1.1.le.1 hd n c hc (by simpa using z4) z6 (by omega)).symm
/-! likes: 24 and 25 here, 99 and 100 there -/
def uL (p : Nat) : Nat := if p = 24 then 99 else if p = 25 then 100 else p
theorem uL_lt : ∀ p, p < 26 → ∀ q, q < 26 → (uL q < uL p ↔ q < p) ∧ uL p < 101 := by decide +kernel
theorem br_upd {N : Nat} {s : Nat → Int32} {bear : Int32} (hb : BrOK N (beS s) bear) (hN : N ≤ 24) {c : Nat} (hc : c < N) : BrOK N (beS (upd s c 2)) (bear ||| shl 1 (nI c)) := by
  refine ⟨hb.1.or (Sm.one hc (by omega)), fun e he => ?_⟩
  rw [b_or, b_one (by omega) (by omega), hb.2 e he]
  unfold beS upd
  by_cases h9 : e = c
  · rw [if_pos h9, decide_eq_true h9, Bool.or_true]
    rfl
  · rw [if_neg h9, decide_eq_false h9, Bool.or_false]
theorem lk_tail {bog : Int32} {N : Nat} {nr : Int32 → Int32} {a b bear : Int32} (hb : Sm N bog) : ∀ n j best few, N ≤ j → j + n = 24 → btlF nr a b bear bog n j best few = best := by
  intro n
  induction n with
  | zero => intro j best few _ _; rfl
  | succ n ih =>
    intro j best few h1 h2
    simp only [btlF]
    rw [if_pos ((has_iff (by omega)).mpr (hb j h1))]
    exact ih (j + 1) best few (by omega) (by omega)
theorem lk_eq {N w : Nat} {nr : Int32 → Int32} {s : Nat → Int32} {bear bog : Int32} (hn : NearOK N w nr) (hb : BrOK N (beS s) bear) (hN : N ≤ 24) (hbog : Sm N bog) (hs : ∀ c, c < N → (s c = 1 ↔ bt bog c = true)) {a b : Nat} (ha : a < N) (hbN : b < N) : ∀ n j best p, p < 26 → j + n = N → btlF nr (nI a) (nI b) bear bog (n + (24 - N)) j best (nI p) = lkF N (adjB w) a b s n j best (nI (uL p)) := by
  intro n
  induction n with
  | zero =>
    intro j best p _ hj
    exact lk_tail hbog _ j best _ (by omega) (by omega)
  | succ n ih =>
    intro j best p hp hj
    rw [show n + 1 + (24 - N) = (n + (24 - N)) + 1 by omega]
    simp only [btlF, lkF]
    by_cases h1 : s j = 1
    · rw [if_pos h1, if_neg ((has_iff1 (by omega)).mpr ((hs j (by omega)).mp h1))]
      have hb2 := br_upd hb hN (show j < N by omega)
      rw [fsF_dv hn hb2 hN ha hbN]
      obtain ⟨q, hq, e1, e2⟩ : ∃ q, q < 25 ∧ lenF (dv N (beS (upd s j 2)) (adjB w) a b) = nI q ∧ (if dv N (beS (upd s j 2)) (adjB w) a b = -9 then 99 else dv N (beS (upd s j 2)) (adjB w) a b) = nI (uL q) := by
        rcases fsF_val hn hb2 hN ha hbN with e | ⟨d, hd, e⟩
        · rw [e]
          exact ⟨24, by decide, rfl, rfl⟩
        · rw [e]
          unfold lenF
          rw [if_neg (nI_ne9 (by omega)), if_neg (nI_ne9 (by omega))]
          refine ⟨d, by omega, rfl, ?_⟩
          unfold uL
          rw [if_neg (by omega), if_neg (by omega)]
      rw [e1, e2]
      obtain ⟨u1, u2⟩ := uL_lt p hp q (by omega)
      obtain ⟨-, u3⟩ := uL_lt q (by omega) q (by omega)
      by_cases h2 : p ≤ q
      · rw [if_pos (nI_le h2 (by omega)), if_neg (nI_nlt (by have := mt u1.mp (by omega); omega) (by omega))]
        exact ih (j + 1) best p hp (by omega)
      · rw [if_neg (nI_ge (by omega) (by omega)), if_pos (nI_lt (u1.mpr (by omega)) (by omega))]
        exact ih (j + 1) (nI j) q (by omega) (by omega)
    · rw [if_neg h1, if_pos ((has_iff (by omega)).mpr (Bool.eq_false_iff.mpr (mt (hs j (by omega)).mpr h1)))]
      exact ih (j + 1) best p hp (by omega)
theorem rel_EN (hr : RelS M w h W sk t ea eb) {k : Nat} (hk : k < W) : EN M (w * h) k (ea k) (eb k) := by
  obtain ⟨k1, k2, k3, k4, k5, k6⟩ := hr.2.2.2.2.2.1 k hk
  have := hr.1.2.1
  exact ⟨k3, k4, k5, k6, by omega⟩
theorem rel_ends (hr : RelS M w h W sk t ea eb) {k : Nat} (hk : k < W) : atF 4 (M.1 5) (nI k) = nI (ea k) ∧ atF 4 (M.1 6) (nI k) = nI (eb k) := by
  obtain ⟨k1, k2, -⟩ := hr.2.2.2.2.2.1 k hk
  have := hr.1.2.1
  rw [at_nI (by omega) (by decide), at_nI (by omega) (by decide)]
  exact ⟨k1, k2⟩
theorem rel_liked (hr : RelS M w h W sk t ea eb) {k : Nat} (hk : k < W) : likedF M (nI k) = lkM M (w * h) w (ea k) (eb k) := by
  obtain ⟨e1, e2⟩ := rel_ends hr hk
  obtain ⟨-, -, -, -, k5, k6⟩ := hr.2.2.2.2.2.1 k hk
  obtain ⟨n1, n2, n3, n4⟩ := hr.2.2.2.2.2.2.2.2.1
  have hle := hr.1.1.le.1
  unfold likedF lkM
  rw [e1, e2]
  have := lk_eq (rel_near hr) (rel_br hr) hle n1 (fun c hc => (n3 c hc).2.1) k5 k6 (w * h) 0 (-9) 25 (by decide) (by omega)
  rw [show w * h + (24 - w * h) = 24 by omega] at this
  exact this
theorem rel_st (hr : RelS M w h W sk t ea eb) {k : Nat} (hk : k < W) : stM M (nI k) = dvM M (w * h) w (ea k) (eb k) := by
  obtain ⟨e1, e2⟩ := rel_ends hr hk
  obtain ⟨-, -, -, -, k5, k6⟩ := hr.2.2.2.2.2.1 k hk
  unfold stM
  rw [e1, e2]
  exact rel_fs hr k5 k6
theorem p_likes : ∀ a : Int32, PairI g Rel mX6_likes mX7_likes [.int a] := by
  intro a M hM
  obtain ⟨w, h, W, sk, t, ea, eb, hr⟩ := hM
  have hR : Rel (th M) := ⟨w, h, W, sk, t, ea, eb, rel_th hr⟩
  refine pair_ri sp_likes ?_
  unfold likesV
  rcases walkC hr a with ⟨h1, h2⟩ | ⟨k, hk, rfl, h1, h2⟩
  · rw [if_pos h1]
    exact nxt_ri (sm_likes_bad h2) rfl hR
  · rw [if_neg h1, rel_liked hr hk]
    obtain ⟨-, -, -, -, k5, k6⟩ := hr.2.2.2.2.2.1 k hk
    refine nxt_si (sm_likes (rel_MW hr (by omega)) (rel_EN hr hk) h2) fun x m hx => ?_
    obtain ⟨z1, f, z2⟩ := hx
    rw [z1, z2]
    exact ⟨rfl, w, h, W, sk, t, ea, eb, rel_34 (rel_th hr) f⟩
end P3
