/-! ===== going and laying ===== -/
def pend (sk : Nat) (s : Nat → Int32) (c : Nat) : Prop := s c = 2 ∧ 0 < sk ∧ s (24 + c) = 0
theorem sk_pos {sk : Nat} (h : sk < 2 ^ 31) : (¬ nI sk ≤ 0) ↔ 0 < sk := by
  constructor
  · intro z
    rcases Nat.eq_zero_or_pos sk with e | e
    · subst e; exact absurd (by decide) z
    · exact e
  · intro z
    exact nI_nle z h
theorem skS_ok {sk : Nat} (hk : sk < 2 ^ 31) : ∀ n d (s : Nat → Int32), d + n ≤ 24 → (∀ c, d ≤ c → c < d + n → (pend sk s c → skS (nI sk) n d s c = 1 ∧ skS (nI sk) n d s (48 + c) = -9) ∧ (¬ pend sk s c → skS (nI sk) n d s c = s c ∧ skS (nI sk) n d s (48 + c) = s (48 + c))) ∧ ∀ i, (¬ (d ≤ i ∧ i < d + n) ∧ ¬ (48 + d ≤ i ∧ i < 48 + d + n)) → skS (nI sk) n d s i = s i := by
  intro n
  induction n with
  | zero => intro d s _; exact ⟨fun c h1 h2 => absurd h2 (by omega), fun i _ => rfl⟩
  | succ n ih =>
    intro d s hd
    simp only [skS]
    by_cases hp : s d = 2 ∧ ¬ nI sk ≤ 0 ∧ s (24 + d) = 0
    · rw [if_pos hp]
      obtain ⟨h1, h2⟩ := ih (d + 1) (upd (upd s d 1) (48 + d) (-9)) (by omega)
      have hpd : pend sk s d := ⟨hp.1, (sk_pos hk).mp hp.2.1, hp.2.2⟩
      have e : ∀ i, ¬ i = d → ¬ i = 48 + d → upd (upd s d 1) (48 + d) (-9) i = s i := fun i k1 k2 => by
        unfold upd
        rw [if_neg k2, if_neg k1]
      refine ⟨fun c k1 k2 => ?_, fun i k => ?_⟩
      · by_cases h9 : c = d
        · subst h9
          refine ⟨fun _ => ?_, fun z => absurd hpd z⟩
          rw [h2 c (by omega), h2 (48 + c) (by omega)]
          unfold upd
          rw [if_neg (by omega), if_pos rfl, if_pos rfl]
          exact ⟨rfl, rfl⟩
        · have h3 := h1 c (by omega) (by omega)
          unfold pend at h3 ⊢
          rw [e c (by omega) (by omega), e (24 + c) (by omega) (by omega), e (48 + c) (by omega) (by omega)] at h3
          exact h3
      · rw [h2 i (by omega), e i (by omega) (by omega)]
    · rw [if_neg hp]
      obtain ⟨h1, h2⟩ := ih (d + 1) s (by omega)
      have hpd : ¬ pend sk s d := fun z => hp ⟨z.1, (sk_pos hk).mpr z.2.1, z.2.2⟩
      refine ⟨fun c k1 k2 => ?_, fun i k => h2 i (by omega)⟩
      by_cases h9 : c = d
      · subst h9
        refine ⟨fun z => absurd z hpd, fun _ => ?_⟩
        rw [h2 c (by omega), h2 (48 + c) (by omega)]
        exact ⟨rfl, rfl⟩
      · exact h1 c (by omega) (by omega)
/-- the row behind the going, all that has nothing left to bear sunk -/
def skA (N sk : Nat) (s : Nat → Int32) : Nat → Int32 := skS (nI sk) N 0 s
section PASS
variable {N sk : Nat} {s : Nat → Int32}
theorem skA_c (hN : N ≤ 24) (hk : sk ≤ 9) {c : Nat} (hc : c < N) : (pend sk s c → skA N sk s c = 1 ∧ skA N sk s (48 + c) = -9) ∧ (¬ pend sk s c → skA N sk s c = s c ∧ skA N sk s (48 + c) = s (48 + c)) :=
  (skS_ok (by omega) N 0 s (by omega)).1 c (by omega) (by omega)
theorem skA_o (hN : N ≤ 24) (hk : sk ≤ 9) {i : Nat} (h1 : N ≤ i) (h2 : ¬ (48 ≤ i ∧ i < 48 + N)) : skA N sk s i = s i :=
  (skS_ok (by omega) N 0 s (by omega)).2 i (by omega)
theorem NowR.congr2 {bog stones : Int32} {bears layers passed s' : Nat → Int32} (h : NowR N sk bog stones bears layers passed s) (h1 : ∀ c, c < N → s' c = s c ∧ s' (24 + c) = s (24 + c) ∧ s' (48 + c) = s (48 + c)) (h4 : ∀ k, k < 4 → s' (72 + k) = s (72 + k)) : NowR N sk bog stones bears layers passed s' := by
  obtain ⟨n1, n2, n3, n4⟩ := h
  refine ⟨n1, n2, fun c hc => ?_, fun k hk => by rw [h4 k hk]; exact n4 k hk⟩
  obtain ⟨e1, e2, e3⟩ := h1 c hc
  rw [e1, e2, e3]
  exact n3 c hc
theorem no_pend {bog stones : Int32} {bears layers passed : Nat → Int32} (hk : sk ≤ 9) (h : NowR N sk bog stones bears layers passed s) {c : Nat} (hc : c < N) : ¬ pend sk s c := by
  rintro ⟨h1, h2, h3⟩
  obtain ⟨-, -, -, -, -, h4, -⟩ := h.2.2.1 c hc
  obtain ⟨b, b1, b2, b3⟩ := h4 h1
  rw [h3] at b1
  exact nI_ne0 (by have := b3 h2; omega) (by omega) b1.symm
theorem now_skA {bog stones : Int32} {bears layers passed : Nat → Int32} (hN : N ≤ 24) (hk : sk ≤ 9) (h : NowR N sk bog stones bears layers passed s) : NowR N sk bog stones bears layers passed (skA N sk s) := by
  refine h.congr2 (fun c hc => ?_) fun k hk4 => ?_
  · obtain ⟨h1, h2⟩ := (skA_c hN hk hc).2 (no_pend hk h hc)
    exact ⟨h1, skA_o hN hk (by omega) (by omega), h2⟩
  · exact skA_o hN hk (by omega) (by omega)
def mst (sk : Nat) (s : Nat → Int32) (q : Nat) : Nat → Int32 := upd s (24 + q) (s (24 + q) - if s q = 2 ∧ ¬ nI sk ≤ 0 then 1 else 0)
theorem upd_same (f : Nat → Int32) (c : Nat) : upd f c (f c) = f := by
  funext j
  unfold upd
  by_cases h : j = c
  · rw [if_pos h, h]
  · rw [if_neg h]
theorem upd_at (f : Nat → Int32) (c : Nat) (x : Int32) : upd f c x c = x := by unfold upd; rw [if_pos rfl]
theorem upd_off (f : Nat → Int32) {c j : Nat} (x : Int32) (h : ¬ j = c) : upd f c x j = f j := by unfold upd; rw [if_neg h]
theorem sm_off (hN : N ≤ 24) {x : Int32} (hx : Sm N x) (q : Nat) : Sm N (x &&& (shl 1 (nI q) ^^^ (-1))) := hx.and _
theorem b_off {x : Int32} {q c : Nat} (hq : q < 24) (hc : c < 24) : bt (x &&& (shl 1 (nI q) ^^^ (-1))) c = (bt x c && !decide (c = q)) := by
  rw [b_and, b_not _ (by omega), b_one (by omega) (by omega)]
theorem b_on {x : Int32} {q c : Nat} (hq : q < 24) (hc : c < 24) : bt (x ||| shl 1 (nI q)) c = (bt x c || decide (c = q)) := by
  rw [b_or, b_one (by omega) (by omega)]
theorem mem3 (M : Mem) (q : Nat) (x0 x1 v z : Int32) : upI (upI (upI (upI M 14 q v) 13 1 x1) 13 0 x0) 15 q z = setO (setO (setO M 13 (upd (upd (M.1 13) 1 x1) 0 x0)) 14 (upd (M.1 14) q v)) 15 (upd (M.1 15) q z) := by
  refine Prod.ext (funext fun a => ?_) rfl
  show (if a = 15 then upd (M.1 15) q z else if a = 13 then upd (upd (M.1 13) 1 x1) 0 x0 else if a = 13 then _ else if a = 14 then upd (M.1 14) q v else M.1 a) = (if a = 15 then _ else if a = 14 then _ else if a = 13 then _ else M.1 a)
  by_cases c1 : a = 15
  · simp [c1]
  · by_cases c2 : a = 14
    · simp [c2]
    · by_cases c3 : a = 13
      · simp [c3]
      · simp [c1, c2, c3]
theorem step_now {M : Mem} (hN : N ≤ 24) (hk : sk ≤ 9) {q : Nat} (hq : q < N) (hp : ¬ pend sk s q) (h : NowR N sk (M.1 13 0) (M.1 13 1) (M.1 14) (M.1 15) (M.1 16) (skA N sk s)) :
    ∃ f13 f14 f15, stepM M (nI q) = setO (setO (setO M 13 f13) 14 f14) 15 f15 ∧ NowR N sk (f13 0) (f13 1) f14 f15 (M.1 16) (skA N sk (mst sk s q)) := by
  obtain ⟨n1, n2, n3, n4⟩ := h
  obtain ⟨k0, k1, k2, k3, k4, k5, k6⟩ := n3 q hq
  obtain ⟨a1, a2⟩ := (skA_c hN hk hq).2 hp
  have a3 : skA N sk s (24 + q) = s (24 + q) := skA_o hN hk (by omega) (by omega)
  have hself : ∃ f13 f14 f15, M = setO (setO (setO M 13 f13) 14 f14) 15 f15 ∧ f13 = M.1 13 ∧ f14 = M.1 14 ∧ f15 = M.1 15 := ⟨M.1 13, M.1 14, M.1 15, by rw [setO_self, setO_self, setO_self], rfl, rfl, rfl⟩
  have hstay : stepM M (nI q) = M → mst sk s q = s → ∃ f13 f14 f15, stepM M (nI q) = setO (setO (setO M 13 f13) 14 f14) 15 f15 ∧ NowR N sk (f13 0) (f13 1) f14 f15 (M.1 16) (skA N sk (mst sk s q)) := by
    intro e1 e2
    obtain ⟨f13, f14, f15, g1, rfl, rfl, rfl⟩ := hself
    exact ⟨_, _, _, e1.trans g1, by rw [e2]; exact ⟨n1, n2, n3, n4⟩⟩
  by_cases h2 : s q = 2
  · by_cases h0 : 0 < sk
    · -- it bears b
      obtain ⟨b, b1, b2, b3⟩ := k5 (by rw [a1]; exact h2)
      have hb1 := b3 h0
      have hbit : ¬ hasF (M.1 13 1) (nI q) = 0 := (has_iff1 (by omega)).mpr (k2.mp (by rw [a1]; exact h2))
      have hat : atF 24 (M.1 14) (nI q) = nI b := by rw [at_nI (by omega) (by decide), k3, b1]
      have hm : mst sk s q = upd s (24 + q) (nI (b - 1)) := by
        unfold mst
        rw [if_pos ⟨h2, (sk_pos (by omega)).mpr h0⟩, ← a3, b1]
        obtain ⟨b', rfl⟩ : ∃ b', b = b' + 1 := ⟨b - 1, by omega⟩
        rw [nI_pred]
        rfl
      have hoth : ∀ c, c < N → ¬ c = q → (pend sk (mst sk s q) c ↔ pend sk s c) := fun c hc hcq => by
        unfold pend
        rw [hm, upd_off _ _ (by omega), upd_off _ _ (by omega)]
      have hS : ∀ c, c < N → ¬ c = q → skA N sk (mst sk s q) c = skA N sk s c ∧ skA N sk (mst sk s q) (24 + c) = skA N sk s (24 + c) ∧ skA N sk (mst sk s q) (48 + c) = skA N sk s (48 + c) := fun c hc hcq => by
        obtain ⟨z1, z2⟩ := skA_c (s := s) hN hk hc
        obtain ⟨y1, y2⟩ := skA_c (s := mst sk s q) hN hk hc
        have e2 : skA N sk (mst sk s q) (24 + c) = skA N sk s (24 + c) := by
          rw [skA_o hN hk (by omega) (by omega), skA_o hN hk (by omega) (by omega), hm, upd_off _ _ (by omega)]
        by_cases hpc : pend sk s c
        · obtain ⟨u1, u2⟩ := z1 hpc
          obtain ⟨v1, v2⟩ := y1 ((hoth c hc hcq).mpr hpc)
          exact ⟨by rw [u1, v1], e2, by rw [u2, v2]⟩
        · obtain ⟨u1, u2⟩ := z2 hpc
          obtain ⟨v1, v2⟩ := y2 (mt (hoth c hc hcq).mp hpc)
          exact ⟨by rw [u1, v1, hm, upd_off _ _ (by omega)], e2, by rw [u2, v2, hm, upd_off _ _ (by omega)]⟩
      have hS24 : skA N sk (mst sk s q) (24 + q) = nI (b - 1) := by
        rw [skA_o hN hk (by omega) (by omega), hm, upd_at]
      have hS72 : ∀ k, k < 4 → skA N sk (mst sk s q) (72 + k) = skA N sk s (72 + k) := fun k hk4 => by
        rw [skA_o hN hk (by omega) (by omega), skA_o hN hk (by omega) (by omega), hm, upd_off _ _ (by omega)]
      have hmq : mst sk s q q = 2 := by rw [hm, upd_off _ _ (by omega)]; exact h2
      unfold stepM
      rw [hat, if_neg (by rintro (z | z); exact hbit z; exact nI_ne0 (by omega) (by omega) z)]
      by_cases hb : b = 1
      · subst hb
        rw [if_pos (show nI 1 = (1 : Int32) from rfl), put_in (by omega) (by decide)]
        unfold sinkM
        have g1 : (upI M 14 q (nI 1 - 1)).1 13 1 = M.1 13 1 := rfl
        have g2 : (upI M 14 q (nI 1 - 1)).1 13 0 = M.1 13 0 := rfl
        rw [put_in (by omega) (by decide), g1, g2, mem3]
        have hpd : pend sk (mst sk s q) q := ⟨hmq, h0, by rw [hm, upd_at]; rfl⟩
        obtain ⟨y1, y2⟩ := (skA_c hN hk hq).1 hpd
        refine ⟨upd (upd (M.1 13) 1 (M.1 13 1 &&& (shl 1 (nI q) ^^^ (-1)))) 0 (M.1 13 0 ||| shl 1 (nI q)), upd (M.1 14) q (nI 1 - 1), upd (M.1 15) q (-9), ?_, ?_⟩
        · rfl
        · show NowR N sk (M.1 13 0 ||| shl 1 (nI q)) (M.1 13 1 &&& (shl 1 (nI q) ^^^ (-1))) (upd (M.1 14) q (nI 1 - 1)) (upd (M.1 15) q (-9)) (M.1 16) _
          refine ⟨n1.or (Sm.one hq (by omega)), n2.and _, fun c hc => ?_, fun k hk4 => by rw [hS72 k hk4]; exact n4 k hk4⟩
          rw [b_on (by omega) (by omega), b_off (by omega) (by omega)]
          by_cases hcq : c = q
          · subst hcq
            rw [y1, y2, hS24, upd_at, upd_at]
            refine ⟨Or.inr (Or.inl rfl), by simp, by simp, nI_pred 0, rfl, fun z => absurd z (by decide), fun _ => rfl⟩
          · obtain ⟨e1, e2, e3⟩ := hS c hc hcq
            rw [e1, e2, e3, upd_off _ _ hcq, upd_off _ _ hcq, decide_eq_false hcq, Bool.or_false, Bool.not_false, Bool.and_true]
            exact n3 c hc
      · rw [if_neg (show ¬ nI b = (1 : Int32) from fun z => hb ((nI_eq (a := b) (b := 1) (by omega) (by omega)).mp z)), put_in (by omega) (by decide)]
        have hpd : ¬ pend sk (mst sk s q) q := fun z => by
          have := z.2.2
          rw [hm, upd_at] at this
          exact nI_ne0 (by omega) (by omega) this
        obtain ⟨y1, y2⟩ := (skA_c hN hk hq).2 hpd
        refine ⟨M.1 13, upd (M.1 14) q (nI b - 1), M.1 15, ?_, ?_⟩
        · refine Prod.ext (funext fun a => ?_) rfl
          show (if a = 14 then _ else M.1 a) = (if a = 15 then _ else if a = 14 then _ else if a = 13 then _ else M.1 a)
          by_cases c1 : a = 15
          · subst c1; rfl
          · by_cases c2 : a = 14
            · subst c2; rfl
            · by_cases c3 : a = 13
              · subst c3; rfl
              · simp [c1, c2, c3]
        · refine ⟨n1, n2, fun c hc => ?_, fun k hk4 => by rw [hS72 k hk4]; exact n4 k hk4⟩
          by_cases hcq : c = q
          · subst hcq
            obtain ⟨b', rfl⟩ : ∃ b', b = b' + 1 := ⟨b - 1, by omega⟩
            rw [y1, y2, hS24, upd_at, nI_pred, hmq, hm, upd_off _ _ (by omega)]
            rw [a1, h2] at k1 k2
            refine ⟨Or.inr (Or.inr rfl), k1, k2, rfl, by rw [k4, a2], fun _ => ⟨b', rfl, by omega, fun _ => by omega⟩, fun z => absurd rfl z⟩
          · obtain ⟨e1, e2, e3⟩ := hS c hc hcq
            rw [e1, e2, e3, upd_off _ _ hcq]
            exact n3 c hc
    · refine hstay ?_ ?_
      · obtain ⟨b, b1, b2, b3⟩ := k5 (by rw [a1]; exact h2)
        unfold stepM
        rw [if_pos (Or.inr (by rw [at_nI (by omega) (by decide), k3, b1, show b = 0 by omega]; rfl))]
      · unfold mst
        rw [if_neg (fun z => h0 ((sk_pos (by omega)).mp z.2)), Int32.sub_zero, upd_same]
  · refine hstay ?_ ?_
    · unfold stepM
      rw [if_pos (Or.inl ((has_iff (by omega)).mpr (Bool.eq_false_iff.mpr (mt k2.mpr (by rw [a1]; exact h2)))))]
    · unfold mst
      rw [if_neg (fun z => h2 z.1), Int32.sub_zero, upd_same]
theorem mst_pend (hk : sk ≤ 9) {q c : Nat} (hq : q < 24) (hc : c < 24) (hcq : ¬ c = q) : pend sk (mst sk s q) c ↔ pend sk s c := by
  unfold pend mst
  rw [upd_off _ _ (by omega), upd_off _ _ (by omega)]
theorem lay_now {M : Mem} {S : Nat → Int32} (hN : N ≤ 24) (hk : sk ≤ 9) {k c : Nat} (hc : c < N) (hk4 : k < 4) (h : NowR N sk (M.1 13 0) (M.1 13 1) (M.1 14) (M.1 15) (M.1 16) S) :
    ∃ f13 f14 f15 f16, layM M (nI k) (nI c) (nI sk) = setO (setO (setO (setO M 13 f13) 14 f14) 15 f15) 16 f16 ∧ NowR N sk (f13 0) (f13 1) f14 f15 f16 (laS (nI sk) k c S) := by
  obtain ⟨n1, n2, n3, n4⟩ := h
  have e1 : layG M (nI k) (nI c) (nI sk) = upI (upI (upI (upI M 13 0 (M.1 13 0 &&& (shl 1 (nI c) ^^^ (-1)))) 13 1 (M.1 13 1 ||| shl 1 (nI c))) 14 c (nI sk)) 15 c (nI k) := by
    unfold layG
    rw [put_in (by omega) (by decide), put_in (by omega) (by decide)]
  have e2 : layM M (nI k) (nI c) (nI sk) = upI (layG M (nI k) (nI c) (nI sk)) 16 k (M.1 16 k + 1) := by
    unfold layM
    rw [put_in hk4 (by decide), at_nI hk4 (by decide), e1]
    rfl
  refine ⟨upd (upd (M.1 13) 0 (M.1 13 0 &&& (shl 1 (nI c) ^^^ (-1)))) 1 (M.1 13 1 ||| shl 1 (nI c)), upd (M.1 14) c (nI sk), upd (M.1 15) c (nI k), upd (M.1 16) k (M.1 16 k + 1), ?_, ?_⟩
  · rw [e2, e1]
    refine Prod.ext (funext fun a => ?_) rfl
    show (if a = 16 then _ else if a = 15 then _ else if a = 14 then _ else if a = 13 then _ else if a = 13 then _ else M.1 a) = (if a = 16 then _ else if a = 15 then _ else if a = 14 then _ else if a = 13 then _ else M.1 a)
    by_cases c0 : a = 16
    · subst c0; rfl
    · by_cases c1 : a = 15
      · subst c1; rfl
      · by_cases c2 : a = 14
        · subst c2; rfl
        · by_cases c3 : a = 13
          · subst c3; rfl
          · simp [c0, c1, c2, c3]
  · show NowR N sk (M.1 13 0 &&& (shl 1 (nI c) ^^^ (-1))) (M.1 13 1 ||| shl 1 (nI c)) (upd (M.1 14) c (nI sk)) (upd (M.1 15) c (nI k)) (upd (M.1 16) k (M.1 16 k + 1)) _
    unfold laS
    dsimp only
    refine ⟨n1.and _, n2.or (Sm.one hc (by omega)), fun d hd => ?_, fun j hj => ?_⟩
    · rw [b_on (by omega) (by omega), b_off (by omega) (by omega), upd_off _ _ (show ¬ d = 72 + k by omega), upd_off _ _ (show ¬ 24 + d = 72 + k by omega), upd_off _ _ (show ¬ 48 + d = 72 + k by omega)]
      by_cases hdc : d = c
      · subst hdc
        rw [upd_off _ _ (show ¬ d = 48 + d by omega), upd_off _ _ (show ¬ d = 24 + d by omega), upd_at, upd_off _ _ (show ¬ 24 + d = 48 + d by omega), upd_at, upd_at, upd_at, upd_at]
        exact ⟨Or.inr (Or.inr rfl), by simp, by simp, rfl, rfl, fun _ => ⟨sk, rfl, Nat.le_refl _, fun z => z⟩, fun z => absurd rfl z⟩
      · rw [upd_off _ _ (show ¬ d = 48 + c by omega), upd_off _ _ (show ¬ d = 24 + c by omega), upd_off _ _ hdc, upd_off _ _ (show ¬ 24 + d = 48 + c by omega), upd_off _ _ (show ¬ 24 + d = 24 + c by omega), upd_off _ _ (show ¬ 24 + d = c by omega), upd_off _ _ (show ¬ 48 + d = 48 + c by omega), upd_off _ _ (show ¬ 48 + d = 24 + c by omega), upd_off _ _ (show ¬ 48 + d = c by omega), upd_off _ _ hdc, upd_off _ _ hdc, decide_eq_false hdc, Bool.or_false, Bool.not_false, Bool.and_true]
        exact n3 d hd
    · by_cases hjk : j = k
      · subst hjk
        rw [upd_at, upd_at, upd_off _ _ (show ¬ 72 + j = 48 + c by omega), upd_off _ _ (show ¬ 72 + j = 24 + c by omega), upd_off _ _ (show ¬ 72 + j = c by omega), n4 j hj]
      · rw [upd_off _ _ hjk, upd_off _ _ (show ¬ 72 + j = 72 + k by omega), upd_off _ _ (show ¬ 72 + j = 48 + c by omega), upd_off _ _ (show ¬ 72 + j = 24 + c by omega), upd_off _ _ (show ¬ 72 + j = c by omega)]
        exact n4 j hj
end PASS
