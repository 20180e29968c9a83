/-! ===== joined ===== -/
theorem sub_iff (x y : Int32) : x &&& (y ^^^ (-1)) = 0 ↔ y &&& x = x := by
  constructor
  · intro h
    refine b_ext fun i hi => ?_
    have := b_zero.mp h i hi
    rw [b_and, b_not _ hi] at this
    rw [b_and]
    cases h1 : bt x i <;> cases h2 : bt y i
    · rfl
    · rfl
    · rw [h1, h2] at this; cases this
    · rfl
  · intro h
    refine b_zero.mpr fun i hi => ?_
    rw [b_and, b_not _ hi]
    have : bt (y &&& x) i = bt x i := by rw [h]
    rw [b_and] at this
    cases h1 : bt x i <;> cases h2 : bt y i
    · rfl
    · rfl
    · rw [h1, h2] at this; cases this
    · rfl
theorem low_bit {x : Int32} {b : Nat} (hb : b < 32) (h1 : bt x b = true) (h0 : ∀ e, e < b → bt x e = false) : x &&& -x = shl 1 (nI b) := by
  refine b_ext fun i hi => ?_
  rw [b_and, neg_not, inc_bit _ hi, b_not _ hi, b_one hb hi]
  have hA := allB_iff (x ^^^ (-1)) i
  rcases Nat.lt_trichotomy i b with z | z | z
  · rw [h0 i z, decide_eq_false (by omega)]; rfl
  · subst z
    rw [h1, hA.mpr (fun j hj => by rw [b_not _ (by omega), h0 j hj]; rfl)]
    simp
  · have : allB (x ^^^ (-1)) i = false := Bool.eq_false_iff.mpr fun w => by
      have := hA.mp w b z
      rw [b_not _ hb, h1] at this
      cases this
    rw [this, decide_eq_false (by omega)]
    cases bt x i <;> rfl
theorem low_ex {x : Int32} {N : Nat} (hx : Sm N x) (hN : N ≤ 24) (h : ¬ x = 0) : ∃ b, b < N ∧ bt x b = true ∧ ∀ e, e < b → bt x e = false := by
  rcases ls_spec (fun e => bt x e) N 0 with ⟨-, z⟩ | ⟨-, z1, z2, z3⟩
  · refine absurd (b_zero.mpr fun i hi => ?_) h
    rcases Nat.lt_or_ge i N with h9 | h9
    · exact z i (Nat.zero_le i) (by omega)
    · exact hx i h9
  · exact ⟨_, by omega, z2, fun e he => z3 e (Nat.zero_le e) he⟩
theorem ja_iff {nr : Int32 → Int32} {set bear : Int32} {b : Nat} (hb : b < 32) (h1 : bt set b = true) (h0 : ∀ e, e < b → bt set e = false) : (¬ jaF nr set bear = 0) ↔ bear &&& set = set ∧ spF nr bear 24 (shl 1 (nI b)) &&& set = set := by
  unfold jaF
  rw [low_bit hb h1 h0, ← sub_iff, ← sub_iff]
  by_cases z1 : set &&& (bear ^^^ (-1)) = 0
  · rw [if_neg (fun z => z z1)]
    by_cases z2 : set &&& (spF nr bear 24 (shl 1 (nI b)) ^^^ (-1)) = 0
    · rw [if_neg (fun z => z z2)]
      exact ⟨fun _ => ⟨z1, z2⟩, fun _ => by decide⟩
    · rw [if_pos z2]
      exact ⟨fun z => absurd rfl z, fun z => absurd z.2 z2⟩
  · rw [if_pos z1]
    exact ⟨fun z => absurd rfl z, fun z => absurd z.1 z1⟩
/-- the same count and within: the same set -/
theorem cnt_eq_sub {N : Nat} {x y : Int32} (hx : Sm N x) (hy : Sm N y) (h : ∀ i, bt x i = true → bt y i = true) (hc : cnt y N ≤ cnt x N) : x = y := by
  refine hx.ext hy fun i hi => ?_
  cases h1 : bt x i with
  | true => exact (h i h1).symm
  | false =>
    cases h2 : bt y i with
    | false => rfl
    | true =>
      have := cnt_lt h h1 h2 N hi
      omega
theorem pc_le {x y : Int32} {N : Nat} (hN : N ≤ 24) (hx : Sm N x) (hy : Sm N y) : pcF x ≤ pcF y ↔ cnt x N ≤ cnt y N := by
  have h1 := cnt_le x N
  have h2 := cnt_le y N
  rw [pc_N hx hN, pc_N hy hN, nI_leI (by omega) (by omega)]
theorem on_lt {x y : Int32} {N : Nat} (hN : N ≤ 24) (hx : Sm N x) (hy : Sm N y) : onV x < onV y ↔ cnt x N < cnt y N := by
  have h1 := cnt_le x N
  have h2 := cnt_le y N
  rw [← pc_on (hx.mono hN), ← pc_on (hy.mono hN), pc_N hx hN, pc_N hy hN]
  constructor
  · intro z
    exact Nat.lt_of_not_le fun w => nI_nlt w (by omega) z
  · intro z
    exact nI_lt z (by omega)
theorem ch_Sm {N n : Nat} {p : Nat → Nat} {bg : Nat → Int32} {b : Int32} (hp : Pl N n p bg b) (idx : Int32) : Sm N (chF bg idx n 0 0) ∧ ∀ i, bt (chF bg idx n 0 0) i = true → bt b i = true := by
  constructor
  · intro i hi
    rcases Nat.lt_or_ge i 32 with h9 | h9
    · refine Bool.eq_false_iff.mpr fun z => ?_
      obtain ⟨k, k1, k2, -⟩ := (ch_sub hp idx h9).mp z
      have := (hp.2.2.1 k k1).2
      omega
    · exact b_big h9
  · intro i z
    rcases Nat.lt_or_ge i 32 with h9 | h9
    · obtain ⟨k, k1, k2, -⟩ := (ch_sub hp idx h9).mp z
      exact (hp.2.2.2.2 i h9).mpr ⟨k, k1, k2⟩
    · rw [b_big h9] at z; cases z
theorem ch_zero {N n : Nat} {p : Nat → Nat} {bg : Nat → Int32} {b : Int32} (hp : Pl N n p bg b) : chF bg (nI 0) n 0 0 = 0 := b_zero.mpr fun i hi => Bool.eq_false_iff.mpr fun z => by
  obtain ⟨k, k1, k2, k3⟩ := (ch_sub hp _ hi).mp z
  rw [show nI 0 = 0 from nI_0, b_0] at k3
  cases k3
theorem sm_ne9 {x : Int32} (h : Sm 24 x) : ¬ x = -9 := fun z => by
  have := h 31 (by omega)
  rw [z] at this
  revert this
  decide
section JN
variable {N w n b : Nat} {nf : Int32 → Int32} {nr bg : Nat → Int32} {p : Nat → Nat} {be : Nat → Bool} {bear bog set : Int32}
theorem br_or (hb : BrOK N be bear) {x : Int32} (hx : Sm N x) : BrOK N (fun c => be c || bt x c) (bear ||| x) := ⟨hb.1.or hx, fun c hc => by rw [b_or, hb.2 c hc]⟩
/-- the class's and the reference's search over the sets, side by side -/
theorem join_eq (hr : NrR N w nr) (hn : NearOK N w nf) (hb : BrOK N be bear) (hN : N ≤ 24) (hp : Pl N n p bg bog) (hbog : Sm N bog) (hbN : b < N) (hs1 : bt set b = true) (hs0 : ∀ e, e < b → bt set e = false) :
    ∀ r k best fd, ((fd = -9 ∧ best = bog) ∨ (fd = best ∧ Sm N best)) → (ljF nf set bear bog r (chF bg (nI k) n 0 0) best = bog ∧ jnF nr bg N n b bear set r k fd = -9) ∨ (ljF nf set bear bog r (chF bg (nI k) n 0 0) best = jnF nr bg N n b bear set r k fd ∧ Sm N (jnF nr bg N n b bear set r k fd)) := by
  intro r
  induction r with
  | zero =>
    intro k best fd h
    rcases h with ⟨h1, h2⟩ | ⟨h1, h2⟩
    · exact Or.inl ⟨h2, h1⟩
    · exact Or.inr ⟨h1.symm, by rw [h1]; exact h2⟩
  | succ r ih =>
    intro k best fd h
    simp only [ljF, jnF]
    rw [ch_next hp k]
    obtain ⟨c1, c2⟩ := ch_Sm hp (nI k)
    generalize chF bg (nI k) n 0 0 = part at c1 c2
    have hbr := br_or hb c1
    have hj : (¬ jaF nf set (bear ||| part) = 0) ↔ (bear ||| part) &&& set = set ∧ rcV nr N b (bear ||| part) &&& set = set := by
      rw [ja_iff (by omega) hs1 hs0, rc_sp hr hn hbr hN hbN]
    unfold jnG
    by_cases hJ : jaF nf set (bear ||| part) = 0
    · rw [if_pos (Or.inr hJ), if_neg (fun z => hj.mpr z.2 hJ)]
      exact ih (k + 1) best fd h
    · have hJ2 := hj.mp hJ
      rcases h with ⟨h1, h2⟩ | ⟨h1, h2⟩
      · subst h1 h2
        rw [if_pos (show ((-9 : Int32) = -9 ∨ onV part < onV (-9)) ∧ _ ∧ _ from ⟨Or.inl rfl, hJ2⟩)]
        by_cases hc : pcF best ≤ pcF part
        · rw [if_pos (Or.inl hc)]
          have e := cnt_eq_sub c1 hbog c2 ((pc_le hN hbog c1).mp hc)
          subst e
          exact ih (k + 1) _ _ (Or.inr ⟨rfl, c1⟩)
        · rw [if_neg (not_or.mpr ⟨hc, hJ⟩)]
          exact ih (k + 1) part part (Or.inr ⟨rfl, c1⟩)
      · subst h1
        have h9 : ¬ fd = -9 := sm_ne9 (h2.mono hN)
        by_cases hc : pcF fd ≤ pcF part
        · rw [if_pos (Or.inl hc), if_neg (by
            rintro ⟨z | z, -⟩
            · exact h9 z
            · have z1 := (on_lt hN c1 h2).mp z
              have z2 := (pc_le hN h2 c1).mp hc
              omega)]
          exact ih (k + 1) fd fd (Or.inr ⟨rfl, h2⟩)
        · rw [if_neg (not_or.mpr ⟨hc, hJ⟩), if_pos ⟨Or.inr ((on_lt hN c1 h2).mpr (by have := mt (pc_le hN h2 c1).mpr hc; omega)), hJ2⟩]
          exact ih (k + 1) part part (Or.inr ⟨rfl, c1⟩)
end JN
