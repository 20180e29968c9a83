/-! ===== the reference's sets: bearing, near, reached, lists ===== -/
theorem mbF_bit (s : Nat → Int32) {c : Nat} (hc : c < 32) : ∀ n j t, j + n ≤ 24 → (bt (mbF s n j t) c = true ↔ bt t c = true ∨ (j ≤ c ∧ c < j + n ∧ ¬ s c = 1)) := by
  intro n
  induction n with
  | zero => intro j t _; exact ⟨Or.inl, fun h => h.resolve_right (by omega)⟩
  | succ n ih =>
    intro j t hj
    simp only [mbF]
    rw [ih (j + 1) _ (by omega), b_or, Bool.or_eq_true]
    have hb : bt (if s j = 1 then 0 else shl 1 (nI j)) c = true ↔ c = j ∧ ¬ s j = 1 := by
      by_cases h : s j = 1
      · rw [if_pos h, b_0]; simp [h]
      · rw [if_neg h, b_one (by omega) hc]; simp [h]
    rw [hb]
    constructor
    · rintro ((h | ⟨h1, h2⟩) | ⟨h1, h2, h3⟩)
      · exact Or.inl h
      · subst h1; exact Or.inr ⟨Nat.le_refl _, by omega, h2⟩
      · exact Or.inr ⟨by omega, by omega, h3⟩
    · rintro (h | ⟨h1, h2, h3⟩)
      · exact Or.inl (Or.inl h)
      · by_cases h9 : c = j
        · subst h9; exact Or.inl (Or.inr ⟨rfl, h3⟩)
        · exact Or.inr ⟨by omega, by omega, h3⟩
theorem mb_br (s : Nat → Int32) {N : Nat} (hN : N ≤ 24) : BrOK N (beS s) (mbF s N 0 0) := by
  refine ⟨fun i hi => ?_, fun c hc => ?_⟩
  · rcases Nat.lt_or_ge i 32 with h9 | h9
    · refine Bool.eq_false_iff.mpr fun z => ?_
      rw [mbF_bit s h9 N 0 0 (by omega), b_0] at z
      rcases z with z | ⟨-, z, -⟩
      · cases z
      · omega
    · exact b_big h9
  · have h := mbF_bit s (show c < 32 by omega) N 0 0 (by omega)
    rw [b_0] at h
    unfold beS
    by_cases h9 : s c = 1
    · rw [h9]
      refine Bool.eq_false_iff.mpr fun z => ?_
      rcases h.mp z with z | ⟨-, -, z⟩
      · cases z
      · exact z h9
    · rw [h.mpr (Or.inr ⟨Nat.zero_le c, by omega, h9⟩)]
      simp [h9]
theorem br_uniq {N : Nat} {be : Nat → Bool} {x y : Int32} (h : BrOK N be x) (k : BrOK N be y) : x = y := h.1.ext k.1 fun i hi => by rw [h.2 i hi, k.2 i hi]
theorem niF_ok (w c : Nat) : ∀ n d (f : Nat → Int32), d + n ≤ 24 → (∀ e, ¬ e = c → niF w c n d f e = f e) ∧ ∀ i, i < 32 → (bt (niF w c n d f c) i = true ↔ bt (f c) i = true ∨ (d ≤ i ∧ i < d + n ∧ adjB w c i = true)) := by
  intro n
  induction n with
  | zero => intro d f _; exact ⟨fun _ _ => rfl, fun i _ => ⟨Or.inl, fun h => h.resolve_right (by omega)⟩⟩
  | succ n ih =>
    intro d f hd
    obtain ⟨h1, h2⟩ := ih (d + 1) (upd f c (f c ||| if stI w c d = 0 then 0 else shl 1 (nI d))) (by omega)
    simp only [niF]
    refine ⟨fun e he => by rw [h1 e he, upd_off _ _ he], fun i hi => ?_⟩
    rw [h2 i hi, upd_at, b_or, Bool.or_eq_true]
    have hb : bt (if stI w c d = 0 then 0 else shl 1 (nI d)) i = true ↔ i = d ∧ adjB w c d = true := by
      unfold stI
      cases h : adjB w c d with
      | true => rw [if_pos rfl, if_neg (by decide), b_one (by omega) hi]; simp
      | false => rw [if_neg Bool.false_ne_true, if_pos rfl, b_0]; simp
    rw [hb]
    constructor
    · rintro ((h | ⟨h1, h2⟩) | ⟨h1, h2, h3⟩)
      · exact Or.inl h
      · subst h1; exact Or.inr ⟨Nat.le_refl _, by omega, h2⟩
      · exact Or.inr ⟨by omega, by omega, h3⟩
    · rintro (h | ⟨h1, h2, h3⟩)
      · exact Or.inl (Or.inl h)
      · by_cases h9 : i = d
        · subst h9; exact Or.inl (Or.inr ⟨rfl, h3⟩)
        · exact Or.inr ⟨by omega, by omega, h3⟩
theorem noF_ok (w : Nat) {N : Nat} (hN : N ≤ 24) : ∀ n c (f : Nat → Int32), c + n = N → (∀ e, e < c → noF w N n c f e = f e) ∧ ∀ e, c ≤ e → e < N → ∀ i, i < 32 → (bt (noF w N n c f e) i = true ↔ i < N ∧ adjB w e i = true) := by
  intro n
  induction n with
  | zero => intro c f hc; exact ⟨fun _ _ => rfl, fun e h1 h2 => absurd h2 (by omega)⟩
  | succ n ih =>
    intro c f hc
    obtain ⟨h1, h2⟩ := ih (c + 1) (niF w c N 0 (upd f c 0)) (by omega)
    obtain ⟨k1, k2⟩ := niF_ok w c N 0 (upd f c 0) (by omega)
    simp only [noF]
    refine ⟨fun e he => by rw [h1 e (by omega), k1 e (by omega), upd_off _ _ (by omega)], fun e he1 he2 i hi => ?_⟩
    by_cases h9 : e = c
    · subst h9
      rw [h1 e (by omega), k2 i hi, upd_at, b_0]
      constructor
      · rintro (z | ⟨-, z1, z2⟩)
        · cases z
        · exact ⟨by omega, z2⟩
      · rintro ⟨z1, z2⟩
        exact Or.inr ⟨Nat.zero_le i, by omega, z2⟩
    · exact h2 e (by omega) he2 i hi
/-- the reference's rows of near cells -/
def NrR (N w : Nat) (nr : Nat → Int32) : Prop := ∀ e, e < N → ∀ i, i < 32 → (bt (nr e) i = true ↔ i < N ∧ adjB w e i = true)
theorem nb_ok (M : Mem) {N w : Nat} (hN : N ≤ 24) : NrR N w (nbM M N w) := fun e he i hi => (noF_ok w hN N 0 (M.1 36) (by omega)).2 e (Nat.zero_le e) he i hi
theorem nr_sm {N w : Nat} {nr : Nat → Int32} (h : NrR N w nr) : ∀ c, c < N → Sm N (nr c) := fun c hc i hi => by
  rcases Nat.lt_or_ge i 32 with h9 | h9
  · refine Bool.eq_false_iff.mpr fun z => ?_
    have := ((h c hc i h9).mp z).1
    omega
  · exact b_big h9
theorem rcI_bit {N w : Nat} {nr : Nat → Int32} (hr : NrR N w nr) (hN : N ≤ 24) (bear x : Int32) {c : Nat} (hc : c < 32) : ∀ n d t, d + n = N → (bt (rcI nr bear x n d t) c = true ↔ bt t c = true ∨ ∃ e, d ≤ e ∧ e < N ∧ bt x e = true ∧ (c < N ∧ adjB w e c = true) ∧ bt bear c = true) := by
  intro n
  induction n with
  | zero => intro d t hd; exact ⟨Or.inl, fun h => h.resolve_right (by rintro ⟨e, e1, e2, -⟩; omega)⟩
  | succ n ih =>
    intro d t hd
    simp only [rcI]
    rw [ih (d + 1) _ (by omega), b_or, Bool.or_eq_true, bit_of (by omega)]
    have hb : bt (if (if bt x d = true then (1 : Int32) else 0) = 1 then nr d &&& bear else 0) c = true ↔ bt x d = true ∧ (c < N ∧ adjB w d c = true) ∧ bt bear c = true := by
      by_cases h : bt x d = true
      · rw [if_pos h, if_pos rfl, b_and, Bool.and_eq_true, hr d (by omega) c hc]; simp [h]
      · rw [if_neg h, if_neg (by decide), b_0]; simp [h]
    rw [hb]
    constructor
    · rintro ((h | h) | ⟨e, e1, e2⟩)
      · exact Or.inl h
      · exact Or.inr ⟨d, Nat.le_refl _, by omega, h⟩
      · exact Or.inr ⟨e, by omega, e2⟩
    · rintro (h | ⟨e, e1, e2, e3⟩)
      · exact Or.inl (Or.inl h)
      · by_cases h9 : e = d
        · subst h9; exact Or.inl (Or.inr e3)
        · exact Or.inr ⟨e, by omega, e2, e3⟩
theorem rc_ok {N w : Nat} {nr : Nat → Int32} {be : Nat → Bool} {bear : Int32} (hr : NrR N w nr) (hb : BrOK N be bear) (hN : N ≤ 24) : StepOK N be (adjB w) (rcS nr N bear) := by
  intro x hx
  refine ⟨fun i hi => ?_, fun c hc => ?_⟩
  · rcases Nat.lt_or_ge i 32 with h9 | h9
    · refine Bool.eq_false_iff.mpr fun z => ?_
      rcases (rcI_bit hr hN bear x h9 N 0 x (by omega)).mp z with z | ⟨e, -, -, -, z, -⟩
      · rw [hx i hi] at z; cases z
      · omega
    · exact b_big h9
  · unfold rcS
    rw [rcI_bit hr hN bear x (by omega) N 0 x (by omega), hb.2 c hc]
    constructor
    · rintro (z | ⟨e, -, e1, e2, ⟨-, e3⟩, e4⟩)
      · exact Or.inl z
      · exact Or.inr ⟨e4, e, e1, e3, e2⟩
    · rintro (z | ⟨e4, e, e1, e3, e2⟩)
      · exact Or.inl z
      · exact Or.inr ⟨e, Nat.zero_le e, e1, e2, ⟨hc, e3⟩, e4⟩
/-- both come to the same set -/
theorem rc_sp {N w a : Nat} {nr : Nat → Int32} {nf : Int32 → Int32} {be : Nat → Bool} {bear : Int32} (hr : NrR N w nr) (hn : NearOK N w nf) (hb : BrOK N be bear) (hN : N ≤ 24) (ha : a < N) : rcV nr N a bear = spF nf bear 24 (shl 1 (nI a)) := by
  rw [spF_it]
  have h1 := rc_ok hr hb hN
  have h2 := stp_ok hn hb
  have hs := Sm.one ha (show N ≤ 32 by omega)
  refine (it_Sm (fun x h => (h1 x h).1) 24 _ hs).ext (it_Sm (fun x h => (h2 x h).1) 24 _ hs) fun c hc => ?_
  have e1 := it_Wk h1 hN ha 24 c hc
  have e2 := it_Wk h2 hN ha 24 c hc
  exact Bool.eq_iff_iff.mpr (e1.trans e2.symm)
/-! lists of cells -/
def LsI (P : Nat → Prop) (j : Nat) (st : LB) (p : Nat → Nat) : Prop := st.1 ≤ j ∧ (∀ i, i < st.1 → st.2 i = nI (p i) ∧ p i < j ∧ P (p i)) ∧ (∀ i k, k < i → i < st.1 → p k < p i) ∧ ∀ c, c < j → P c → ∃ i, i < st.1 ∧ p i = c
theorem ls_yes {P : Nat → Prop} {j : Nat} {st : LB} {p : Nat → Nat} (h : LsI P j st p) (hj : P j) : LsI P (j + 1) (st.1 + 1, upd st.2 st.1 (nI j)) (fun i => if i = st.1 then j else p i) := by
  obtain ⟨h0, h1, h2, h3⟩ := h
  refine ⟨by show st.1 + 1 ≤ j + 1; omega, fun i hi => ?_, fun i k hk hi => ?_, fun c hc hP => ?_⟩
  · have hi' : i < st.1 + 1 := hi
    show upd st.2 st.1 (nI j) i = nI (if i = st.1 then j else p i) ∧ (if i = st.1 then j else p i) < j + 1 ∧ P (if i = st.1 then j else p i)
    by_cases h9 : i = st.1
    · subst h9
      rw [upd_at, if_pos rfl]
      exact ⟨rfl, by omega, hj⟩
    · rw [upd_off _ _ h9, if_neg h9]
      obtain ⟨z1, z2, z3⟩ := h1 i (by omega)
      exact ⟨z1, by omega, z3⟩
  · have hi' : i < st.1 + 1 := hi
    show (if k = st.1 then j else p k) < (if i = st.1 then j else p i)
    rw [if_neg (show ¬ k = st.1 by omega)]
    by_cases h9 : i = st.1
    · rw [if_pos h9]; exact (h1 k (by omega)).2.1
    · rw [if_neg h9]; exact h2 i k hk (by omega)
  · by_cases h9 : c = j
    · exact ⟨st.1, by show st.1 < st.1 + 1; omega, by show (if st.1 = st.1 then j else p st.1) = c; rw [if_pos rfl, h9]⟩
    · obtain ⟨i, i1, i2⟩ := h3 c (by omega) hP
      exact ⟨i, by show i < st.1 + 1; omega, by show (if i = st.1 then j else p i) = c; rw [if_neg (by omega), i2]⟩
theorem ls_no {P : Nat → Prop} {j : Nat} {st : LB} {p : Nat → Nat} (h : LsI P j st p) (hj : ¬ P j) : LsI P (j + 1) st p := by
  obtain ⟨h0, h1, h2, h3⟩ := h
  refine ⟨by omega, fun i hi => ?_, h2, fun c hc hP => ?_⟩
  · obtain ⟨z1, z2, z3⟩ := h1 i hi
    exact ⟨z1, by omega, z3⟩
  · by_cases h9 : c = j
    · subst h9; exact absurd hP hj
    · exact h3 c (by omega) hP
theorem lb_ls (s : Nat → Int32) : ∀ n j (st : LB) p, LsI (fun c => s c = 1) j st p → ∃ p', LsI (fun c => s c = 1) (j + n) (lbG s n j st) p' := by
  intro n
  induction n with
  | zero => intro j st p h; exact ⟨p, h⟩
  | succ n ih =>
    intro j st p h
    simp only [lbG]
    rw [show j + (n + 1) = j + 1 + n by omega]
    by_cases h9 : s j = 1
    · rw [if_pos h9]; exact ih (j + 1) _ _ (ls_yes h h9)
    · rw [if_neg h9]; exact ih (j + 1) _ _ (ls_no h h9)
theorem lc_ls (x : Int32) : ∀ n j (st : LB) p, j + n ≤ 24 → LsI (fun c => bt x c = true) j st p → ∃ p', LsI (fun c => bt x c = true) (j + n) (lcG x n j st) p' := by
  intro n
  induction n with
  | zero => intro j st p _ h; exact ⟨p, h⟩
  | succ n ih =>
    intro j st p hj h
    simp only [lcG]
    rw [show j + (n + 1) = j + 1 + n by omega, bit_of (by omega)]
    by_cases h9 : bt x j = true
    · rw [if_pos h9, if_pos rfl]; exact ih (j + 1) _ _ (by omega) (ls_yes h h9)
    · rw [if_neg h9, if_neg (by decide)]; exact ih (j + 1) _ _ (by omega) (ls_no h h9)
theorem ls_0 (P : Nat → Prop) (f : Nat → Int32) : LsI P 0 (0, f) (fun _ => 0) := ⟨Nat.le_refl _, fun i hi => absurd hi (Nat.not_lt_zero i), fun i k _ hi => absurd hi (Nat.not_lt_zero i), fun c hc => absurd hc (by omega)⟩
theorem ls_pl {P : Nat → Prop} {N : Nat} {st : LB} {p : Nat → Nat} {b : Int32} (hN : N ≤ 24) (h : LsI P N st p) (hs : Sm N b) (hb : ∀ c, c < N → (bt b c = true ↔ P c)) : Pl N st.1 p st.2 b := by
  obtain ⟨h0, h1, h2, h3⟩ := h
  refine ⟨by omega, hN, fun k hk => ⟨(h1 k hk).1, (h1 k hk).2.1⟩, h2, fun c hc => ⟨fun z => ?_, ?_⟩⟩
  · rcases Nat.lt_or_ge c N with h9 | h9
    · exact h3 c h9 ((hb c h9).mp z)
    · rw [hs c h9] at z; cases z
  · rintro ⟨k, k1, rfl⟩
    obtain ⟨z1, z2, z3⟩ := h1 k k1
    exact (hb _ z2).mpr z3
