/-! ===== cell, walker, now, anew, keep, back ===== -/
theorem at_nI {n j : Nat} {f : Nat → Int32} (hj : j < n) (hn : n < 2 ^ 31) : atF n f (nI j) = f j := by
  unfold atF
  rw [if_neg, nI_clamp (by omega)]
  rintro (z | z)
  · exact nI_pos (by omega) z
  · exact nI_ge hj hn z
section ST
variable {N sk : Nat} {bog stones : Int32} {bears layers passed s : Nat → Int32}
theorem NowR.congr {be' la' pa' s' : Nat → Int32} (hN : N ≤ 24) (h : NowR N sk bog stones bears layers passed s) (h1 : ∀ c, c < 24 → be' c = bears c) (h2 : ∀ c, c < 24 → la' c = layers c) (h3 : ∀ k, k < 4 → pa' k = passed k) (h4 : ∀ j, j < 76 → s' j = s j) : NowR N sk bog stones be' la' pa' s' := by
  obtain ⟨n1, n2, n3, n4⟩ := h
  refine ⟨n1, n2, fun c hc => ?_, fun k hk => by rw [h3 k hk, h4 _ (by omega)]; exact n4 k hk⟩
  rw [h1 c (by omega), h2 c (by omega), h4 c (by omega), h4 (24 + c) (by omega), h4 (48 + c) (by omega)]
  exact n3 c hc
theorem mma_cnt {x k : Int32} (h : ∀ c, c < N → (bt x c = true ↔ s c = k)) : ∀ n j, j + n = N → mmaF s k n j (nI (cnt x j)) = nI (cnt x N) := by
  intro n
  induction n with
  | zero => intro j hj; rw [show j = N by omega]; rfl
  | succ n ih =>
    intro j hj
    simp only [mmaF]
    have e : nI (cnt x j) + (if s j = k then 1 else 0) = nI (cnt x (j + 1)) := by
      show _ = nI (cnt x j + (if bt x j = true then 1 else 0))
      rw [← nI_add]
      by_cases h9 : s j = k
      · rw [if_pos h9, if_pos ((h j (by omega)).mpr h9)]; rfl
      · rw [if_neg h9, if_neg (mt (h j (by omega)).mp h9)]; rfl
    rw [e]
    exact ih (j + 1) (by omega)
theorem mma_pc {x k : Int32} (hN : N ≤ 24) (hx : Sm N x) (h : ∀ c, c < N → (bt x c = true ↔ s c = k)) : mmaF s k N 0 0 = pcF x := by
  rw [pc_N hx hN]
  exact mma_cnt h N 0 (by omega)
end ST
section P1
variable {g : GG} {M : Mem} {w h W sk t : Nat} {ea eb : Nat → Nat}
theorem w02 (what : Int32) : (what < 0 ∨ 2 < what) ∨ what = 0 ∨ what = 1 ∨ what = 2 := by
  have h0 : (0 : Int32).toInt = 0 := by decide
  have h2 : (2 : Int32).toInt = 2 := by decide
  rw [Int32.lt_iff_toInt_lt, Int32.lt_iff_toInt_lt, h0, h2]
  rcases (show (what.toInt < 0 ∨ 2 < what.toInt) ∨ what.toInt = 0 ∨ what.toInt = 1 ∨ what.toInt = 2 by omega) with h | h | h | h
  · exact Or.inl h
  · exact Or.inr (Or.inl (Int32.toInt_inj.mp h))
  · exact Or.inr (Or.inr (Or.inl (Int32.toInt_inj.mp h)))
  · exact Or.inr (Or.inr (Or.inr (Int32.toInt_inj.mp h)))
theorem w03 (what : Int32) : (what < 0 ∨ 3 < what) ∨ what = 0 ∨ what = 1 ∨ what = 2 ∨ what = 3 := by
  have h0 : (0 : Int32).toInt = 0 := by decide
  have h2 : (3 : Int32).toInt = 3 := by decide
  rw [Int32.lt_iff_toInt_lt, Int32.lt_iff_toInt_lt, h0, h2]
  rcases (show (what.toInt < 0 ∨ 3 < what.toInt) ∨ what.toInt = 0 ∨ what.toInt = 1 ∨ what.toInt = 2 ∨ what.toInt = 3 by omega) with h | h | h | h | h
  · exact Or.inl h
  · exact Or.inr (Or.inl (Int32.toInt_inj.mp h))
  · exact Or.inr (Or.inr (Or.inl (Int32.toInt_inj.mp h)))
  · exact Or.inr (Or.inr (Or.inr (Or.inl (Int32.toInt_inj.mp h))))
  · exact Or.inr (Or.inr (Or.inr (Or.inr (Int32.toInt_inj.mp h))))
theorem out_ne {what hi : Int32} (k : Int32) (h : what < 0 ∨ hi < what) (h0 : ¬ k < 0) (h1 : ¬ hi < k) : ¬ what = k := by
  rintro rfl
  rcases h with h | h
  · exact h0 h
  · exact h1 h
theorem ground_s (hr : RelS M w h W sk t ea eb) {c : Nat} (hc : c < w * h) : groundF M (nI c) = M.1 31 c := by
  have hle := hr.1.1.le
  obtain ⟨n1, n2, n3, n4⟩ := hr.2.2.2.2.2.2.2.2.1
  obtain ⟨k0, k1, k2, -⟩ := n3 c hc
  unfold groundF
  by_cases h2 : bt (M.1 13 1) c = true
  · rw [if_neg ((has_iff1 (by omega)).mpr h2), k2.mpr h2]
  · rw [if_pos ((has_iff (by omega)).mpr (Bool.eq_false_iff.mpr h2))]
    by_cases h1 : bt (M.1 13 0) c = true
    · rw [if_neg ((has_iff1 (by omega)).mpr h1), k1.mpr h1]
    · rw [if_pos ((has_iff (by omega)).mpr (Bool.eq_false_iff.mpr h1))]
      rcases k0 with k | k | k
      · exact k.symm
      · exact absurd (k1.mp k) h1
      · exact absurd (k2.mp k) h2
theorem p_cell : ∀ a b : Int32, PairI g Rel mX6_cell mX7_cell [.int a, .int b] := by
  intro a what M hM
  obtain ⟨w, h, W, sk, t, ea, eb, hr⟩ := hM
  have hR : Rel (th M) := ⟨w, h, W, sk, t, ea, eb, rel_th hr⟩
  have hle := hr.1.1.le
  refine pair_ri sp_cell ?_
  rcases cellC hr a with ⟨h1, h2⟩ | ⟨c, hc, rfl, h1, h2⟩
  · refine nxt_ri (sm_cell_bad (Or.inl h2)) ?_ hR
    unfold cellV
    rw [if_pos h1]
  · obtain ⟨n1, n2, n3, n4⟩ := hr.2.2.2.2.2.2.2.2.1
    obtain ⟨k0, k1, k2, k3, k4, -⟩ := n3 c hc
    have hg : ∀ b : Nat, b ≤ 2 → ¬ (mCellF M (nI c) = 0 ∨ inF (nI b) 0 2 = 0) := fun b hb => by
      rintro (z | z)
      · exact h2 z
      · refine in_yes ?_ z
        rintro (z | z)
        · exact nI_pos (by omega) z
        · exact absurd z (show ¬ nI 2 < nI b from nI_nlt hb (by decide))
    unfold cellV
    rw [if_neg h1]
    rcases w02 what with hw | rfl | rfl | rfl
    · rw [if_neg (out_ne 0 hw (by decide) (by decide)), if_neg (out_ne 1 hw (by decide) (by decide)), if_neg (out_ne 2 hw (by decide) (by decide))]
      exact nxt_ri (sm_cell_bad (Or.inr (in_no hw))) rfl hR
    · refine nxt_ri (sm_cell (w := 0) (by omega) (by decide) (hg 0 (by decide))) ?_ hR
      rw [if_pos rfl, ground_s hr hc, show 24 * 0 + c = c by omega]
    · refine nxt_ri (sm_cell (w := 1) (by omega) (by decide) (hg 1 (by decide))) ?_ hR
      rw [if_neg (by decide), if_pos rfl, at_nI (by omega) (by decide), k3]
    · refine nxt_ri (sm_cell (w := 2) (by omega) (by decide) (hg 2 (by decide))) ?_ hR
      rw [if_neg (by decide), if_neg (by decide), if_pos rfl, at_nI (by omega) (by decide), k4]
theorem lb_tail (hr : RelS M w h W sk t ea eb) (k : Int32) : ∀ n j v, w * h ≤ j → j + n = 24 → lbF M k n j v = v := by
  obtain ⟨n1, n2, n3, n4⟩ := hr.2.2.2.2.2.2.2.2.1
  intro n
  induction n with
  | zero => intro j v _ _; rfl
  | succ n ih =>
    intro j v h1 h2
    simp only [lbF]
    rw [if_pos ((has_iff (by omega)).mpr (n2 j h1))]
    exact ih (j + 1) v (by omega) (by omega)
theorem lb_mlb (hr : RelS M w h W sk t ea eb) {k : Int32} (hk : ¬ k = -9) : ∀ n j v, j + n = w * h → lbF M k (n + (24 - w * h)) j v = mlbF (M.1 31) k n j v := by
  have hle := hr.1.1.le
  obtain ⟨n1, n2, n3, n4⟩ := hr.2.2.2.2.2.2.2.2.1
  intro n
  induction n with
  | zero =>
    intro j v hj
    exact lb_tail hr k _ j v (by omega) (by omega)
  | succ n ih =>
    intro j v hj
    rw [show n + 1 + (24 - w * h) = (n + (24 - w * h)) + 1 by omega]
    simp only [lbF, mlbF]
    obtain ⟨k0, k1, k2, k3, k4, k5, k6⟩ := n3 j (by omega)
    rw [at_nI (by omega) (by decide), k4]
    by_cases h1 : hasF (M.1 13 1) (nI j) = 0
    · rw [if_pos h1]
      have h2 : ¬ M.1 31 j = 2 := fun z => by
        have := (has_iff (by omega)).mp h1
        rw [k2.mp z] at this
        cases this
      rw [if_neg (fun z => hk (by rw [← z, k6 h2])), Int32.add_zero]
      exact ih (j + 1) v (by omega)
    · rw [if_neg h1]
      by_cases h3 : M.1 31 (48 + j) = k
      · rw [if_pos h3, if_pos h3]
        exact ih (j + 1) (v + 1) (by omega)
      · rw [if_neg h3, if_neg h3, Int32.add_zero]
        exact ih (j + 1) v (by omega)
theorem lb_all (hr : RelS M w h W sk t ea eb) {k : Int32} (hk : ¬ k = -9) : lbF M k 24 0 0 = mlbF (M.1 31) k (w * h) 0 0 := by
  have hle := hr.1.1.le
  have := lb_mlb hr hk (w * h) 0 0 (by omega)
  rw [show w * h + (24 - w * h) = 24 by omega] at this
  exact this
theorem pb_all (hr : RelS M w h W sk t ea eb) : pbF M 4 0 0 = mpaF (M.1 31) := by
  obtain ⟨n1, n2, n3, n4⟩ := hr.2.2.2.2.2.2.2.2.1
  show (((0 + atF 4 (M.1 16) (nI 0)) + atF 4 (M.1 16) (nI 1)) + atF 4 (M.1 16) (nI 2)) + atF 4 (M.1 16) (nI 3) = _
  rw [at_nI (by decide) (by decide), at_nI (by decide) (by decide), at_nI (by decide) (by decide), at_nI (by decide) (by decide), n4 0 (by decide), n4 1 (by decide), n4 2 (by decide), n4 3 (by decide), Int32.zero_add]
  rfl
theorem p_walker : ∀ a b : Int32, PairI g Rel mX6_walker mX7_walker [.int a, .int b] := by
  intro a what M hM
  obtain ⟨w, h, W, sk, t, ea, eb, hr⟩ := hM
  have hR : Rel (th M) := ⟨w, h, W, sk, t, ea, eb, rel_th hr⟩
  have hle := hr.1.1.le
  have hW := hr.1.2.1
  refine pair_ri sp_walker ?_
  rcases walkC hr a with ⟨h1, h2⟩ | ⟨k, hk, rfl, h1, h2⟩
  · refine nxt_ri (sm_walker_bad (Or.inl h2)) ?_ hR
    unfold walkerV
    rw [if_pos h1]
  · obtain ⟨n1, n2, n3, n4⟩ := hr.2.2.2.2.2.2.2.2.1
    obtain ⟨k1, k2, k3, k4, k5, k6⟩ := hr.2.2.2.2.2.1 k hk
    have hg : ∀ b : Nat, b ≤ 3 → ¬ (mWalkF M (nI k) = 0 ∨ inF (nI b) 0 3 = 0) := fun b hb => by
      rintro (z | z)
      · exact h2 z
      · refine in_yes ?_ z
        rintro (z | z)
        · exact nI_pos (by omega) z
        · exact absurd z (show ¬ nI 3 < nI b from nI_nlt hb (by decide))
    obtain ⟨hN, hwh⟩ := rel_N hr
    unfold walkerV
    rw [if_neg h1]
    rcases w03 what with hw | rfl | rfl | rfl | rfl
    · rw [if_neg (out_ne 0 hw (by decide) (by decide)), if_neg (out_ne 1 hw (by decide) (by decide)), if_neg (out_ne 2 hw (by decide) (by decide)), if_neg (out_ne 3 hw (by decide) (by decide))]
      exact nxt_ri (sm_walker_bad (Or.inr (in_no hw))) rfl hR
    · refine nxt_ri (sm_walker0 hN hwh (by omega) (hg 0 (by decide))) ?_ hR
      rw [if_pos rfl, at_nI (by omega) (by decide), k1, k3]
    · refine nxt_ri (sm_walker1 hN hwh (by omega) (hg 1 (by decide))) ?_ hR
      rw [if_neg (by decide), if_pos rfl, at_nI (by omega) (by decide), k2, k4]
    · refine nxt_ri (sm_walker2 hN hwh (by omega) (hg 2 (by decide))) ?_ hR
      rw [if_neg (by decide), if_neg (by decide), if_pos rfl, at_nI (by omega) (by decide), n4 k (by omega)]
    · refine nxt_ri (sm_walker3 hN hwh (by omega) (hg 3 (by decide))) ?_ hR
      rw [if_neg (by decide), if_neg (by decide), if_neg (by decide), if_pos rfl, lb_all hr (nI_ne9 (by omega))]
theorem p_now : ∀ a : Int32, PairI g Rel mX6_now mX7_now [.int a] := by
  intro what M hM
  obtain ⟨w, h, W, sk, t, ea, eb, hr⟩ := hM
  have hR : Rel (th M) := ⟨w, h, W, sk, t, ea, eb, rel_th hr⟩
  obtain ⟨hN, hwh⟩ := rel_N hr
  refine pair_ri sp_now (nxt_ri (sm_now hN hwh) ?_ hR)
  obtain ⟨n1, n2, n3, n4⟩ := hr.2.2.2.2.2.2.2.2.1
  have hb := rel_br hr
  unfold mnowV nowV
  rcases w03 what with hw | rfl | rfl | rfl | rfl
  · rw [if_pos (in_no hw), if_neg (out_ne 0 hw (by decide) (by decide)), if_neg (out_ne 1 hw (by decide) (by decide)), if_neg (out_ne 2 hw (by decide) (by decide)), if_neg (out_ne 3 hw (by decide) (by decide))]
  · rw [if_neg (by decide), if_pos (by decide), if_pos rfl]
    refine mma_pc hN (hb.1.and _) fun c hc => ?_
    obtain ⟨k0, k1, k2, -⟩ := n3 c hc
    have h1 : bt (bearM M) c = beS (M.1 31) c := hb.2 c hc
    rw [b_and, Bool.and_eq_true, b_not _ (by omega)]
    show bt (bearM M) c = true ∧ _ ↔ _
    rw [h1]
    unfold beS
    constructor
    · rintro ⟨z1, z2⟩
      rcases k0 with k | k | k
      · exact k
      · rw [k] at z1; cases z1
      · rw [k2.mp k] at z2; cases z2
    · intro z
      refine ⟨by rw [z]; rfl, ?_⟩
      cases hb2 : bt (M.1 13 1) c with
      | false => rfl
      | true =>
        rw [k2.mpr hb2] at z
        exact absurd z (by decide)
  · rw [if_neg (by decide), if_pos (by decide), if_neg (by decide), if_pos rfl]
    exact mma_pc hN n1 fun c hc => (n3 c hc).2.1.symm
  · rw [if_neg (by decide), if_pos (by decide), if_neg (by decide), if_neg (by decide), if_pos rfl]
    exact mma_pc hN n2 fun c hc => (n3 c hc).2.2.1.symm
  · rw [if_neg (by decide), if_neg (by decide), if_neg (by decide), if_neg (by decide), if_neg (by decide), if_pos rfl]
    exact (pb_all hr).symm
end P1
