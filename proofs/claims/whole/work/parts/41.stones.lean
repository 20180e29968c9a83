/-! ===== stones: the costs of ways over bog ===== -/
def Cs (N : Nat) (ow : Nat → Nat) (ad : Nat → Nat → Bool) (a : Nat) : Nat → Nat → Nat → Prop
  | 0, k, c => c = a ∧ ow a ≤ k
  | n + 1, k, c => Cs N ow ad a n k c ∨ ∃ d, d < N ∧ ad d c = true ∧ ∃ k', k' + ow c ≤ k ∧ Cs N ow ad a n k' d
section CS
variable {N : Nat} {ow : Nat → Nat} {ad : Nat → Nat → Bool}
theorem cs_mono {a : Nat} : ∀ n k c k2, Cs N ow ad a n k c → k ≤ k2 → Cs N ow ad a n k2 c := by
  intro n
  induction n with
  | zero => intro k c k2 h hk; exact ⟨h.1, Nat.le_trans h.2 hk⟩
  | succ n ih =>
    intro k c k2 h hk
    rcases h with h | ⟨d, h1, h2, k', h3, h4⟩
    · exact Or.inl (ih k c k2 h hk)
    · exact Or.inr ⟨d, h1, h2, k', by omega, h4⟩
theorem cs_ge {a : Nat} : ∀ n k c, Cs N ow ad a n k c → ow a ≤ k := by
  intro n
  induction n with
  | zero => intro k c h; exact h.2
  | succ n ih =>
    intro k c h
    rcases h with h | ⟨d, h1, h2, k', h3, h4⟩
    · exact ih k c h
    · have := ih k' d h4
      omega
theorem cs_left {a x : Nat} (ha : a < N) (hx : x < N) (hxa : ad x a = true) : ∀ n k c, Cs N ow ad a n k c → Cs N ow ad x (n + 1) (k + ow x) c := by
  intro n
  induction n with
  | zero =>
    intro k c h
    obtain ⟨rfl, h⟩ := h
    exact Or.inr ⟨x, hx, hxa, ow x, by omega, rfl, Nat.le_refl _⟩
  | succ n ih =>
    intro k c h
    rcases h with h | ⟨d, h1, h2, k', h3, h4⟩
    · exact Or.inl (ih k c h)
    · exact Or.inr ⟨d, h1, h2, k' + ow x, by omega, ih k' d h4⟩
theorem cs_sym (hs : ∀ x y, ad x y = ad y x) {a : Nat} : ∀ n k c, c < N → Cs N ow ad a n k c → Cs N ow ad c n k a := by
  intro n
  induction n with
  | zero => intro k c _ h; obtain ⟨rfl, h⟩ := h; exact ⟨rfl, h⟩
  | succ n ih =>
    intro k c hc h
    rcases h with h | ⟨d, h1, h2, k', h3, h4⟩
    · exact Or.inl (ih k c hc h)
    · have h5 := cs_left h1 hc (by rw [hs]; exact h2) n k' a (ih k' d h1 h4)
      exact cs_mono _ _ _ _ h5 h3
/-- what a set holds when it is all that is come to for k -/
def Lv (N : Nat) (ow : Nat → Nat) (ad : Nat → Nat → Bool) (a k : Nat) (r : Int32) : Prop := Sm N r ∧ (∀ c, c < N → bt r c = true → ∃ n, Cs N ow ad a n k c) ∧ ∀ n c, c < N → Cs N ow ad a n k c → bt r c = true
end CS
section CL
variable {N w : Nat} {nr : Int32 → Int32} {be : Nat → Bool} {bear : Int32} {ow : Nat → Nat}
theorem sp_sound (hn : NearOK N w nr) (hb : BrOK N be bear) (hbe : ∀ c, be c = true → ow c = 0) {a k : Nat} : ∀ j x, Sm N x → (∀ c, c < N → bt x c = true → ∃ n, Cs N ow (adjB w) a n k c) → ∀ c, c < N → bt (it (stp nr bear) j x) c = true → ∃ n, Cs N ow (adjB w) a n k c := by
  intro j
  induction j with
  | zero => intro x _ h; exact h
  | succ j ih =>
    intro x hx h c hc hbt
    obtain ⟨s1, s2⟩ := stp_ok hn hb x hx
    refine ih (stp nr bear x) s1 (fun d hd hd2 => ?_) c hc hbt
    rcases (s2 d hd).mp hd2 with z | ⟨z, e, e1, e2, e3⟩
    · exact h d hd z
    · obtain ⟨n, hn2⟩ := h e e1 e3
      exact ⟨n + 1, Or.inr ⟨e, e1, e2, k, by rw [hbe d z]; omega, hn2⟩⟩
theorem sp_closed (hn : NearOK N w nr) (hb : BrOK N be bear) (hN : N ≤ 24) {x : Int32} (hx : Sm N x) : Sm N (spF nr bear 24 x) ∧ (∀ c, bt x c = true → bt (spF nr bear 24 x) c = true) ∧ ∀ c d, c < N → d < N → adjB w d c = true → be c = true → bt (spF nr bear 24 x) d = true → bt (spF nr bear 24 x) c = true := by
  have hs : ∀ x, Sm N x → Sm N (stp nr bear x) := fun x h => (stp_ok hn hb x h).1
  rw [spF_it]
  have h1 := it_Sm hs 24 x hx
  refine ⟨h1, fun c hc => it_up (stp_up nr bear) 24 x c hc, fun c d hc hd ha hbc hbd => ?_⟩
  have hf := it_fix (stp_up nr bear) hs hx hN
  rw [← hf]
  exact ((stp_ok hn hb _ h1).2 c hc).mpr (Or.inr ⟨hbc, d, hd, ha, hbd⟩)
theorem lv_first (hn : NearOK N w nr) (hb : BrOK N be bear) (hN : N ≤ 24) (hbe : ∀ c, be c = true → ow c = 0) (hbe2 : ∀ c, c < N → ow c = 0 → be c = true) {a : Nat} (ha : a < N) : Lv N ow (adjB w) a (ow a) (spF nr bear 24 (shl 1 (nI a))) := by
  have hx := Sm.one ha (show N ≤ 32 by omega)
  obtain ⟨c1, c2, c3⟩ := sp_closed hn hb hN hx
  refine ⟨c1, fun c hc hbt => ?_, ?_⟩
  · rw [spF_it] at hbt
    refine sp_sound hn hb hbe 24 _ hx (fun d hd hd2 => ?_) c hc hbt
    rw [b_one (by omega) (by omega)] at hd2
    exact ⟨0, of_decide_eq_true hd2, Nat.le_refl _⟩
  · intro n
    induction n with
    | zero =>
      intro c hc h
      rw [h.1]
      exact c2 a (by rw [b_one (by omega) (by omega)]; simp)
    | succ n ih =>
      intro c hc h
      rcases h with h | ⟨d, h1, h2, k', h3, h4⟩
      · exact ih c hc h
      · have h5 := cs_ge n k' d h4
        have h6 : k' = ow a := by omega
        rw [h6] at h4
        exact c3 c d hc h1 h2 (hbe2 c hc (by omega)) (ih d h1 h4)
theorem lv_next (hn : NearOK N w nr) (hb : BrOK N be bear) (hN : N ≤ 24) (hbe : ∀ c, be c = true → ow c = 0) (hbe2 : ∀ c, c < N → ow c = 0 → be c = true) (how : ∀ c, ow c ≤ 1) {a k : Nat} (ha : a < N) (hk : ow a ≤ k) {r : Int32} (h : Lv N ow (adjB w) a k r) : Lv N ow (adjB w) a (k + 1) (spF nr bear 24 (r ||| nr r)) := by
  obtain ⟨r1, r2, r3⟩ := h
  obtain ⟨n1, n2⟩ := hn r r1
  have hx : Sm N (r ||| nr r) := r1.or n1
  obtain ⟨c1, c2, c3⟩ := sp_closed hn hb hN hx
  refine ⟨c1, fun c hc hbt => ?_, ?_⟩
  · rw [spF_it] at hbt
    refine sp_sound hn hb hbe 24 _ hx (fun d hd hd2 => ?_) c hc hbt
    rw [b_or, Bool.or_eq_true] at hd2
    rcases hd2 with z | z
    · obtain ⟨n, hn2⟩ := r2 d hd z
      exact ⟨n, cs_mono _ _ _ _ hn2 (by omega)⟩
    · obtain ⟨e, e1, e2, e3⟩ := (n2 d hd).mp z
      obtain ⟨n, hn2⟩ := r2 e e1 e3
      have := how d
      exact ⟨n + 1, Or.inr ⟨e, e1, e2, k, by omega, hn2⟩⟩
  · intro n
    induction n with
    | zero =>
      intro c hc h
      obtain ⟨h1, h2⟩ := h
      subst h1
      exact c2 c (by rw [b_or, r3 0 c hc ⟨rfl, hk⟩]; rfl)
    | succ n ih =>
      intro c hc h
      rcases h with h | ⟨d, h1, h2, k', h3, h4⟩
      · exact ih c hc h
      · by_cases h9 : ow c = 0
        · exact c3 c d hc h1 h2 (hbe2 c hc h9) (ih d h1 (cs_mono _ _ _ _ h4 (by omega)))
        · refine c2 c ?_
          rw [b_or, (n2 c hc).mpr ⟨d, h1, h2, r3 n d h1 (cs_mono _ _ _ _ h4 (by omega))⟩, Bool.or_true]
theorem fst_ok (hn : NearOK N w nr) (hb : BrOK N be bear) (hN : N ≤ 24) (hbe : ∀ c, be c = true → ow c = 0) (hbe2 : ∀ c, c < N → ow c = 0 → be c = true) (how : ∀ c, ow c ≤ 1) {a b : Nat} (ha : a < N) (hbN : b < N) (h24 : ∃ n, Cs N ow (adjB w) a n 24 b) : ∀ n k r, n + k = 24 → ow a ≤ k → Lv N ow (adjB w) a k r → (∀ j n, j < k → ¬ Cs N ow (adjB w) a n j b) →
    ∃ m, m ≤ 24 ∧ fstF nr bear (nI b) n k r = nI m ∧ (∃ n, Cs N ow (adjB w) a n m b) ∧ ∀ j n, j < m → ¬ Cs N ow (adjB w) a n j b := by
  intro n
  induction n with
  | zero =>
    intro k r hk _ _ hj
    have : k = 24 := by omega
    subst this
    exact ⟨24, by omega, rfl, h24, hj⟩
  | succ n ih =>
    intro k r hk hka hl hj
    simp only [fstF]
    by_cases h1 : hasF r (nI b) = 0
    · rw [if_pos h1]
      refine ih (k + 1) _ (by omega) (by omega) (lv_next hn hb hN hbe hbe2 how ha hka hl) fun j n hjk h => ?_
      rcases Nat.lt_succ_iff_lt_or_eq.mp hjk with z | z
      · exact hj j n z h
      · subst z
        have := hl.2.2 n b hbN h
        rw [(has_iff (by omega)).mp h1] at this
        cases this
    · rw [if_neg h1]
      exact ⟨k, by omega, rfl, hl.2.1 b hbN ((has_iff1 (by omega)).mp h1), hj⟩
theorem wk_cs (how : ∀ c, ow c ≤ 1) {a : Nat} : ∀ n c, Wk N (fun _ => true) (adjB w) a n c → Cs N ow (adjB w) a n (n + 1) c := by
  intro n
  induction n with
  | zero => intro c h; have := how a; exact ⟨h, by omega⟩
  | succ n ih =>
    intro c h
    rcases h with h | ⟨-, d, h1, h2, h3⟩
    · exact Or.inl (cs_mono _ _ _ _ (ih c h) (by omega))
    · have := how c
      exact Or.inr ⟨d, h1, h2, n + 1, by omega, ih d h3⟩
theorem stones_ok (hn : NearOK N w nr) (hb : BrOK N be bear) (hN : N ≤ 24) (hbe : ∀ c, be c = true → ow c = 0) (hbe2 : ∀ c, c < N → ow c = 0 → be c = true) (how : ∀ c, ow c ≤ 1) {a b : Nat} (ha : a < N) (hbN : b < N) (h24 : ∃ n, Cs N ow (adjB w) a n 24 b) :
    ∃ m, m ≤ 24 ∧ stonesF nr (nI a) (nI b) bear = nI m ∧ (∃ n, Cs N ow (adjB w) a n m b) ∧ ∀ j n, j < m → ¬ Cs N ow (adjB w) a n j b := by
  have h1 := lv_first hn hb hN hbe hbe2 ha
  unfold stonesF
  by_cases h0 : hasF bear (nI a) = 0
  · rw [if_pos h0]
    have e : ow a = 1 := by
      have z := (has_iff (by omega)).mp h0
      rw [hb.2 a ha] at z
      have := how a
      by_cases h9 : ow a = 0
      · rw [hbe2 a ha h9] at z; cases z
      · omega
    rw [e] at h1
    refine fst_ok hn hb hN hbe hbe2 how ha hbN h24 23 1 _ (by omega) (by omega) h1 fun j n hj h => ?_
    have := cs_ge n j b h
    omega
  · rw [if_neg h0]
    have e : ow a = 0 := hbe a (by rw [← hb.2 a ha]; exact (has_iff1 (by omega)).mp h0)
    rw [e] at h1
    exact fst_ok hn hb hN hbe hbe2 how ha hbN h24 24 0 _ (by omega) (by omega) h1 fun j n hj h => absurd hj (by omega)
end CL
/-! the reference's costs -/
def JC (N : Nat) (ow : Nat → Nat) (w b : Nat) (F : Nat → Nat) : Prop := (∀ c, c < N → F c < 99 → ∃ n, Cs N ow (adjB w) b n (F c) c) ∧ F b ≤ ow b ∧ ∀ c, c < N → F c ≤ 99
theorem JC_step {N w b : Nat} {ow : Nat → Nat} : ∀ (F : Nat → Nat) (c d : Nat), c < N → d < N → adjB w c d = true → F d + ow c < F c → JC N ow w b F → JC N ow w b (updN F c (F d + ow c)) := by
  intro F c d hc hd ha hl ⟨j1, j2, j3⟩
  have h9 := j3 c hc
  refine ⟨fun e he h => ?_, ?_, fun e he => ?_⟩
  · unfold updN at h ⊢
    by_cases z : e = c
    · rw [if_pos z] at h ⊢
      obtain ⟨n, hn⟩ := j1 d hd (by omega)
      subst z
      exact ⟨n + 1, Or.inr ⟨d, hd, by rw [adjB_comm]; exact ha, F d, Nat.le_refl _, hn⟩⟩
    · rw [if_neg z] at h ⊢
      exact j1 e he h
  · unfold updN
    by_cases z : b = c
    · rw [if_pos z]; subst z; omega
    · rw [if_neg z]; exact j2
  · unfold updN
    by_cases z : e = c
    · rw [if_pos z]; omega
    · rw [if_neg z]; exact j3 e he
theorem JC_0 {N w b : Nat} {s : Nat → Int32} : JC N (owN s) w b (F0c s b) := by
  refine ⟨fun c hc h => ?_, ?_, fun c hc => ?_⟩
  · unfold F0c at h ⊢
    by_cases z : c = b
    · rw [if_pos z]; exact ⟨0, z, by rw [z]; exact Nat.le_refl _⟩
    · rw [if_neg z] at h; omega
  · unfold F0c; rw [if_pos rfl]; exact Nat.le_refl _
  · unfold F0c owN
    split
    · split <;> omega
    · omega
theorem JC_low {N w b : Nat} {ow : Nat → Nat} {F : Nat → Nat} (hj : JC N ow w b F) (hS : StableR (adjB w) ow N F) : ∀ n k c, c < N → Cs N ow (adjB w) b n k c → F c ≤ k := by
  intro n
  induction n with
  | zero => intro k c _ h; rw [h.1]; exact Nat.le_trans hj.2.1 h.2
  | succ n ih =>
    intro k c hc h
    rcases h with h | ⟨d, h1, h2, k', h3, h4⟩
    · exact ih k c hc h
    · have h5 := hS c hc d h1 (by rw [adjB_comm]; exact h2)
      have h6 := ih k' d h1 h4
      omega
theorem JC_min {N w a b m : Nat} {ow : Nat → Nat} {F : Nat → Nat} (ha : a < N) (hb : b < N) (hj : JC N ow w b F) (hS : StableR (adjB w) ow N F) (hm : m ≤ 24) (h1 : ∃ n, Cs N ow (adjB w) a n m b) (h2 : ∀ j n, j < m → ¬ Cs N ow (adjB w) a n j b) : F a = m := by
  obtain ⟨n, h1⟩ := h1
  have h3 := JC_low hj hS n m a ha (cs_sym (adjB_comm w) n m b hb h1)
  obtain ⟨n', h4⟩ := hj.1 a ha (by omega)
  have h5 := cs_sym (adjB_comm w) n' _ a ha h4
  have h6 : ¬ F a < m := fun z => h2 _ n' z h5
  omega
set_option maxRecDepth 100000 in
theorem con_tab : ∀ w, w < 7 → ∀ h, h < 5 → (1 ≤ w ∧ 1 ≤ h) → ∀ a, a < w * h → it (stp (nrB w h) (meB w h 1)) 5 (shl 1 (nI a)) = meB w h 1 := by decide +kernel
theorem con_ok {w h : Nat} (hs : Shp w h) {a b : Nat} (ha : a < w * h) (hb : b < w * h) : Wk (w * h) (fun _ => true) (adjB w) a 5 b := by
  have hle := hs.le
  have hn := near_ok hs
  have hall := all_tab w (by omega) h (by omega)
  have hbr : BrOK (w * h) (fun _ => true) (meB w h 1) := by
    refine ⟨fun i hi => ?_, fun c hc => ?_⟩
    · rcases Nat.lt_or_ge i 32 with h9 | h9
      · rw [hall i h9]; simp; omega
      · exact b_big h9
    · rw [hall c (by omega), decide_eq_true hc]
  refine (it_Wk (stp_ok hn hbr) hle.1 ha 5 b hb).mp ?_
  rcases hs with ⟨rfl, rfl⟩ | ⟨h1, h2, h3, h4⟩
  · omega
  · rw [con_tab w (by omega) h (by omega) ⟨h1, h3⟩ a ha, hall b (by omega), decide_eq_true hb]
section P4
variable {g : GG} {M : Mem} {w h W sk t : Nat} {ea eb : Nat → Nat}
theorem be_ow (s : Nat → Int32) (c : Nat) : beS s c = true ↔ owN s c = 0 := by
  unfold beS owN
  by_cases h : s c = 1
  · rw [if_pos h, h]; simp
  · rw [if_neg h]; simp [h]
theorem rel_stones (hr : RelS M w h W sk t ea eb) {a b : Nat} (ha : a < w * h) (hb : b < w * h) : ∃ m, m ≤ 24 ∧ stonesF (nearM M) (nI a) (nI b) (bearM M) = nI m ∧ ∀ F, JC (w * h) (owN (M.1 31)) w b F → StableR (adjB w) (owN (M.1 31)) (w * h) F → F a = m := by
  have hle := hr.1.1.le.1
  have hc := wk_cs (ow := owN (M.1 31)) (owN_le _) _ _ (con_ok hr.1.1 ha hb)
  obtain ⟨m, m1, m2, m3, m4⟩ := stones_ok (rel_near hr) (rel_br hr) hle (fun c => (be_ow _ c).mp) (fun c _ => (be_ow _ c).mpr) (owN_le _) ha hb ⟨5, cs_mono _ _ _ _ hc (by omega)⟩
  exact ⟨m, m1, m2, fun F hF hS => JC_min ha hb hF hS m1 m3 m4⟩
theorem p_stones : ∀ a b : Int32, PairI g Rel mX6_stones mX7_stones [.int a, .int b] := by
  intro a b M hM
  obtain ⟨w, h, W, sk, t, ea, eb, hr⟩ := hM
  have hR : Rel (th M) := ⟨w, h, W, sk, t, ea, eb, rel_th hr⟩
  refine pair_ri sp_stones ?_
  unfold stonesV
  rcases cellC hr a with ⟨h1, h2⟩ | ⟨c, hc, rfl, h1, h2⟩
  · rw [if_pos (Or.inl h1)]
    exact nxt_ri (sm_stones_bad (Or.inl h2)) rfl hR
  · rcases cellC hr b with ⟨k1, k2⟩ | ⟨d, hd, rfl, k1, k2⟩
    · rw [if_pos (Or.inr k1)]
      exact nxt_ri (sm_stones_bad (Or.inr k2)) rfl hR
    · obtain ⟨m, m1, m2, m3⟩ := rel_stones hr hc hd
      rw [if_neg (not_or.mpr ⟨h1, k1⟩), m2]
      refine nxt_si (sm_stones (rel_MW hr (by omega)) hc hd (not_or.mpr ⟨h2, k2⟩) (J := JC (w * h) (owN (M.1 31)) w d) JC_step JC_0) fun x m' hx => ?_
      obtain ⟨f, F, e1, e2, e3, e4⟩ := hx
      rw [e1, e2, m3 F e3 e4]
      exact ⟨rfl, w, h, W, sk, t, ea, eb, rel_34 (rel_th hr) f⟩
end P4
