/-! ===== the class's state and the reference's are the same moor ===== -/
theorem spec_mono {g : GG} {μ : MD} {vs : List Value} {M : Mem} {Q Q' : Option Value → Mem → Prop} (h : Spec g μ vs M Q) (hq : ∀ r m, Q r m → Q' r m) : Spec g μ vs M Q' := by
  intro p e h1 h2 h3 s m args below h4 h5 h6 h7
  obtain ⟨n, o, k1, k2, k3, ⟨⟨⟨r, M', e1, e2, e3⟩, k4⟩, k5⟩⟩ := h p e h1 h2 h3 s m args below h4 h5 h6 h7
  exact ⟨n, o, k1, k2, k3, ⟨⟨⟨r, M', e1, hq r M' e2, e3⟩, k4⟩, k5⟩⟩
def Nxt (g : GG) (ν : MD) (As : List Value) (Rel : Mem → Prop) (v : Int32) (M1 : Mem) : Prop := SI g ν (ob g 25 :: As) M1 (fun x m => x = v ∧ Rel m)
theorem pair_si {g : GG} {Rel : Mem → Prop} {μ ν : MD} {As : List Value} {M : Mem} (h : SI g μ (ob g 0 :: As) M (Nxt g ν As Rel)) : Spec g μ (ob g 0 :: As) M (fun r M1 => ∃ v : Int32, r = some (.int v) ∧ Spec g ν (ob g 25 :: As) M1 (fun r' M2 => r' = some (.int v) ∧ Rel M2)) := by
  refine spec_mono h fun r m hx => ?_
  obtain ⟨x, h1, h2⟩ := hx
  refine ⟨x, h1, spec_mono h2 fun r' m' hy => ?_⟩
  obtain ⟨y, h3, h4, h5⟩ := hy
  exact ⟨by rw [h3, h4], h5⟩
theorem pair_ri {g : GG} {Rel : Mem → Prop} {μ ν : MD} {As : List Value} {M M1 : Mem} {v : Int32} (h : RI g μ (ob g 0 :: As) M v M1) (h2 : Nxt g ν As Rel v M1) : Spec g μ (ob g 0 :: As) M (fun r M1 => ∃ v : Int32, r = some (.int v) ∧ Spec g ν (ob g 25 :: As) M1 (fun r' M2 => r' = some (.int v) ∧ Rel M2)) := by
  refine pair_si (spec_mono h fun r m hx => ?_)
  obtain ⟨h3, h4⟩ := hx
  exact ⟨v, h3, by rw [h4]; exact h2⟩
theorem nxt_ri {g : GG} {Rel : Mem → Prop} {ν : MD} {As : List Value} {M1 M2 : Mem} {v v' : Int32} (h : RI g ν (ob g 25 :: As) M1 v' M2) (e : v' = v) (hR : Rel M2) : Nxt g ν As Rel v M1 := by
  refine spec_mono h fun r m hx => ?_
  obtain ⟨h3, h4⟩ := hx
  exact ⟨v', h3, e, by rw [h4]; exact hR⟩
theorem nxt_si {g : GG} {Rel : Mem → Prop} {ν : MD} {As : List Value} {M1 : Mem} {v : Int32} {P : Int32 → Mem → Prop} (h : SI g ν (ob g 25 :: As) M1 P) (k : ∀ x m, P x m → x = v ∧ Rel m) : Nxt g ν As Rel v M1 := by
  refine spec_mono h fun r m hx => ?_
  obtain ⟨x, h3, h4⟩ := hx
  exact ⟨x, h3, k x m h4⟩
/-- a moor as the class has it (sets of bits, rows) and as the reference has it (one row of codes) -/
def NowR (N sk : Nat) (bog stones : Int32) (bears layers passed s : Nat → Int32) : Prop :=
  Sm N bog ∧ Sm N stones ∧ (∀ c, c < N → (s c = 0 ∨ s c = 1 ∨ s c = 2) ∧ (s c = 1 ↔ bt bog c = true) ∧ (s c = 2 ↔ bt stones c = true) ∧ bears c = s (24 + c) ∧ layers c = s (48 + c) ∧ (s c = 2 → ∃ b, s (24 + c) = nI b ∧ b ≤ sk ∧ (0 < sk → 1 ≤ b)) ∧ (¬ s c = 2 → s (48 + c) = -9)) ∧ ∀ k, k < 4 → passed k = s (72 + k)
def ToldR (w h W sk : Nat) (f : Nat → Int32) : Prop := f 0 = nI w ∧ f 1 = nI h ∧ f 2 = nI (w * h) ∧ f 5 = nI sk ∧ f 7 = nI W
def WaysR (w h : Nat) (f : Nat → Int32) : Prop := f 0 = nI w ∧ f 1 = meB w h 1 ∧ f 2 = meB w h 2 ∧ f 3 = meB w h 3
def ModR (w h W sk : Nat) (f : Nat → Int32) : Prop := f 8 = nI w ∧ f 9 = nI h ∧ f 10 = nI W ∧ f 11 = nI sk
def TextR (t : Nat) (a b : Int32) (f k : Nat → Int32) : Prop := t ≤ 300 ∧ a = nI t ∧ b = nI t ∧ ∀ i, i < t → f i = k i
def WalkR (N W : Nat) (ea eb : Nat → Nat) (fr to en : Nat → Int32) : Prop := ∀ k, k < W → fr k = nI (ea k) ∧ to k = nI (eb k) ∧ en (2 * k) = nI (ea k) ∧ en (2 * k + 1) = nI (eb k) ∧ ea k < N ∧ eb k < N
def GroR (N : Nat) (bog stones : Int32) (to : Nat → Int32) : Prop := Sm N bog ∧ Sm N stones ∧ ∀ c, c < N → (to c = 0 ∨ to c = 1 ∨ to c = 2) ∧ (to c = 1 ↔ bt bog c = true) ∧ (to c = 2 ↔ bt stones c = true)
def RelS (M : Mem) (w h W sk t : Nat) (ea eb : Nat → Nat) : Prop :=
  (Shp w h ∧ W ≤ 4 ∧ sk ≤ 9) ∧ ToldR w h W sk (M.1 4) ∧ WaysR w h (M.1 11) ∧ ModR w h W sk (M.1 25) ∧ TextR t (M.1 2 1) (M.1 25 3) (M.1 3) (M.1 26) ∧ WalkR (w * h) W ea eb (M.1 5) (M.1 6) (M.1 29) ∧ GroR (w * h) (M.1 4 3) (M.1 4 4) (M.1 27) ∧ M.2 0 = M.2 25 ∧
  NowR (w * h) sk (M.1 13 0) (M.1 13 1) (M.1 14) (M.1 15) (M.1 16) (M.1 31) ∧
  (M.1 17 5 = M.1 33 0 ∧ (¬ M.1 33 0 = 0 → NowR (w * h) sk (M.1 17 0) (M.1 17 1) (M.1 18) (M.1 19) (M.1 20) (fun j => M.1 32 j))) ∧
  (M.1 21 5 = M.1 33 1 ∧ (¬ M.1 33 1 = 0 → NowR (w * h) sk (M.1 21 0) (M.1 21 1) (M.1 22) (M.1 23) (M.1 24) (fun j => M.1 32 (76 + j))))
def Rel (M : Mem) : Prop := ∃ (w h W sk t : Nat) (ea eb : Nat → Nat), RelS M w h W sk t ea eb
theorem rel_0 : Rel M0 := by
  refine ⟨0, 0, 0, 0, 0, fun _ => 0, fun _ => 0, ⟨Or.inl ⟨rfl, rfl⟩, by decide, by decide⟩, ⟨rfl, rfl, rfl, rfl, rfl⟩, ⟨rfl, by decide +kernel, by decide +kernel, by decide +kernel⟩, ⟨rfl, rfl, rfl, rfl⟩, ⟨by decide, rfl, rfl, fun _ _ => rfl⟩, fun k hk => absurd hk (by omega), ⟨Sm.zero _, Sm.zero _, fun c hc => absurd hc (by omega)⟩, rfl, ⟨Sm.zero _, Sm.zero _, fun c hc => absurd hc (by omega), fun _ _ => rfl⟩, ⟨rfl, fun h => absurd rfl h⟩, ⟨rfl, fun h => absurd rfl h⟩⟩
section REL
variable {g : GG} {M : Mem} {w h W sk t : Nat} {ea eb : Nat → Nat}
theorem rel_th (hr : RelS M w h W sk t ea eb) : RelS (th M) w h W sk t ea eb := hr
theorem rel_34 (hr : RelS M w h W sk t ea eb) (f : Nat → Int32) : RelS (setO M 34 f) w h W sk t ea eb := hr
theorem ti_sub1 {n : Nat} (h : n < 2 ^ 31) : (nI n - 1).toInt = (n : Int) - 1 := by
  rw [Int32.toInt_sub, nI_toInt h, show (1 : Int32).toInt = 1 by decide, Int.bmod_eq_of_le (by omega) (by omega)]
theorem rng {n : Nat} (hn : n < 2 ^ 31) (c : Int32) : ((c < 0 ∨ nI n ≤ c) ∧ (c < 0 ∨ nI n - 1 < c)) ∨ ∃ j, j < n ∧ c = nI j ∧ ¬ (c < 0 ∨ nI n ≤ c) ∧ ¬ (c < 0 ∨ nI n - 1 < c) := by
  have h0 : (0 : Int32).toInt = 0 := by decide
  simp only [Int32.lt_iff_toInt_lt, Int32.le_iff_toInt_le, ti_sub1 hn, nI_toInt hn, h0]
  by_cases h1 : c.toInt < 0
  · exact Or.inl ⟨Or.inl h1, Or.inl h1⟩
  · by_cases h2 : (n : Int) ≤ c.toInt
    · exact Or.inl ⟨Or.inr h2, Or.inr (by omega)⟩
    · refine Or.inr ⟨c.toInt.toNat, by omega, ?_, by omega, by omega⟩
      exact Int32.toInt_inj.mp (by rw [nI_toInt (by omega)]; omega)
theorem cellC (hr : RelS M w h W sk t ea eb) (c : Int32) : (isCellF M c = 0 ∧ mCellF M c = 0) ∨ ∃ j, j < w * h ∧ c = nI j ∧ ¬ isCellF M c = 0 ∧ ¬ mCellF M c = 0 := by
  have hle := hr.1.1.le
  have e1 : M.1 4 2 = nI (w * h) := hr.2.1.2.2.1
  have e2 : M.1 25 8 * M.1 25 9 - 1 = nI (w * h) - 1 := by rw [hr.2.2.2.1.1, hr.2.2.2.1.2.1]; unfold nI; rw [← Int32.ofNat_mul]
  unfold isCellF mCellF inF
  rw [e1, e2]
  rcases rng (n := w * h) (by omega) c with ⟨h1, h2⟩ | ⟨j, h1, h2, h3, h4⟩
  · left; rw [if_pos h1, if_pos h2]; exact ⟨rfl, rfl⟩
  · right; refine ⟨j, h1, h2, ?_, ?_⟩
    · rw [if_neg h3]; decide
    · rw [if_neg h4]; decide
theorem walkC (hr : RelS M w h W sk t ea eb) (c : Int32) : (isWalkerF M c = 0 ∧ mWalkF M c = 0) ∨ ∃ j, j < W ∧ c = nI j ∧ ¬ isWalkerF M c = 0 ∧ ¬ mWalkF M c = 0 := by
  have hle := hr.1.2.1
  have e1 : M.1 4 7 = nI W := hr.2.1.2.2.2.2
  have e2 : M.1 25 10 - 1 = nI W - 1 := by rw [hr.2.2.2.1.2.2.1]
  unfold isWalkerF mWalkF inF
  rw [e1, e2]
  rcases rng (n := W) (by omega) c with ⟨h1, h2⟩ | ⟨j, h1, h2, h3, h4⟩
  · left; rw [if_pos h1, if_pos h2]; exact ⟨rfl, rfl⟩
  · right; refine ⟨j, h1, h2, ?_, ?_⟩
    · rw [if_neg h3]; decide
    · rw [if_neg h4]; decide
theorem rel_N (hr : RelS M w h W sk t ea eb) : w * h ≤ 24 ∧ M.1 25 8 * M.1 25 9 = nI (w * h) := ⟨hr.1.1.le.1, by rw [hr.2.2.2.1.1, hr.2.2.2.1.2.1]; unfold nI; rw [← Int32.ofNat_mul]⟩
theorem rel_MW (hr : RelS M w h W sk t ea eb) (hN : 0 < w * h) : MW M (w * h) w := by
  refine ⟨(rel_N hr).1, (rel_N hr).2, hr.2.2.2.1.1, Nat.pos_of_mul_pos_right hN, ?_⟩
  have := hr.1.1.le
  omega
theorem rel_near (hr : RelS M w h W sk t ea eb) : NearOK (w * h) w (nearM M) := by
  have e : nearM M = nrB w h := by
    funext x
    obtain ⟨h1, h2, h3, h4⟩ := hr.2.2.1
    unfold nearM nrB
    rw [h1, h2, h3, h4]
  rw [e]
  exact near_ok hr.1.1
theorem rel_br (hr : RelS M w h W sk t ea eb) : BrOK (w * h) (beS (M.1 31)) (bearM M) := by
  have hle := hr.1.1.le
  have hall := all_tab w (by omega) h (by omega)
  have e : M.1 11 1 = meB w h 1 := hr.2.2.1.2.1
  obtain ⟨n1, n2, n3, n4⟩ := hr.2.2.2.2.2.2.2.2.1
  refine ⟨?_, fun c hc => ?_⟩
  · unfold bearM
    rw [e]
    refine Sm.and (fun i hi => ?_) _
    rcases Nat.lt_or_ge i 32 with h9 | h9
    · rw [hall i h9]; simp; omega
    · exact b_big h9
  · unfold bearM beS
    rw [b_and, e, hall c (by omega), b_not _ (by omega)]
    obtain ⟨k1, k2, -⟩ := n3 c hc
    rw [decide_eq_true hc, Bool.true_and]
    cases hb : bt (M.1 13 0) c with
    | true => rw [k2.mpr hb]; rfl
    | false =>
      have : ¬ M.1 31 c = 1 := fun z => by rw [k2.mp z] at hb; cases hb
      simp [this]
theorem p_count : ∀ a : Int32, PairI g Rel mX6_count mX7_count [.int a] := by
  intro a M hM
  obtain ⟨w, h, W, sk, t, ea, eb, hr⟩ := hM
  refine pair_ri sp_count (nxt_ri sm_count ?_ ⟨w, h, W, sk, t, ea, eb, rel_th hr⟩)
  obtain ⟨-, ⟨a1, a2, a3, a4, a5⟩, -, ⟨b1, b2, b3, b4⟩, ⟨-, c1, c2, -⟩, -⟩ := hr
  unfold mcountV countV
  rw [a1, a2, a4, a5, b1, b2, b3, b4, c1, c2]
theorem p_clear : PairI g Rel mX6_clear mX7_clear [] := by
  intro M hM
  obtain ⟨w, h, W, sk, t, ea, eb, hr⟩ := hM
  refine pair_ri sp_clear (nxt_ri sm_clear ?_ ⟨w, h, W, sk, 0, ea, eb, ?_⟩)
  · obtain ⟨-, -, -, -, ⟨-, c1, c2, -⟩, -⟩ := hr
    rw [c1]
    exact c2
  · exact ⟨hr.1, hr.2.1, hr.2.2.1, hr.2.2.2.1, ⟨by decide, rfl, rfl, fun i hi => absurd hi (by omega)⟩, hr.2.2.2.2.2⟩
theorem p_trace : PairL g Rel mX6_trace mX7_trace [] := by
  intro M hM
  obtain ⟨w, h, W, sk, t, ea, eb, hr⟩ := hM
  refine spec_mono sp_trace fun r m hx => ?_
  obtain ⟨h1, h2⟩ := hx
  refine ⟨M.2 0, h1, ?_⟩
  rw [h2]
  refine spec_mono sm_trace fun r m hx => ?_
  obtain ⟨h3, h4⟩ := hx
  rw [h3, h4, hr.2.2.2.2.2.2.2.1]
  exact ⟨rfl, w, h, W, sk, t, ea, eb, rel_th hr⟩
end REL
