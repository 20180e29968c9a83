/-! ===== near, for every shape of a moor ===== -/
def Lin (f : Int32 → Int32) : Prop := f 0 = 0 ∧ ∀ x y, f (x ||| y) = f x ||| f y
theorem lin_id : Lin (fun x => x) := ⟨rfl, fun _ _ => rfl⟩
theorem lin_and {f : Int32 → Int32} (h : Lin f) (m : Int32) : Lin (fun x => f x &&& m) := by
  refine ⟨by show f 0 &&& m = 0; rw [h.1]; exact b_zero.mpr (fun i _ => by rw [b_and, b_0]; rfl), fun x y => ?_⟩
  show f (x ||| y) &&& m = (f x &&& m) ||| (f y &&& m)
  rw [h.2]
  refine b_ext fun i _ => ?_
  rw [b_and, b_or, b_or, b_and, b_and]
  cases bt (f x) i <;> cases bt (f y) i <;> cases bt m i <;> rfl
theorem lin_or {f k : Int32 → Int32} (h : Lin f) (h2 : Lin k) : Lin (fun x => f x ||| k x) := by
  refine ⟨by show f 0 ||| k 0 = 0; rw [h.1, h2.1]; rfl, fun x y => ?_⟩
  show f (x ||| y) ||| k (x ||| y) = (f x ||| k x) ||| (f y ||| k y)
  rw [h.2, h2.2]
  refine b_ext fun i _ => ?_
  simp only [b_or]
  cases bt (f x) i <;> cases bt (f y) i <;> cases bt (k x) i <;> cases bt (k y) i <;> rfl
theorem lin_shl {f : Int32 → Int32} (h : Lin f) {n : Nat} (hn : n < 32) : Lin (fun x => shl (f x) (nI n)) := by
  refine ⟨?_, fun x y => ?_⟩
  · show shl (f 0) (nI n) = 0
    rw [h.1]
    refine b_zero.mpr fun i hi => ?_
    rw [b_shl n hn 0 hi, b_0, Bool.and_false]
  · show shl (f (x ||| y)) (nI n) = shl (f x) (nI n) ||| shl (f y) (nI n)
    rw [h.2]
    refine b_ext fun i hi => ?_
    rw [b_or, b_shl n hn _ hi, b_shl n hn _ hi, b_shl n hn _ hi, b_or]
    cases decide (n ≤ i) <;> rfl
theorem lin_ushr {f : Int32 → Int32} (h : Lin f) {n : Nat} (hn : n < 32) : Lin (fun x => ushr (f x) (nI n)) := by
  refine ⟨?_, fun x y => ?_⟩
  · show ushr (f 0) (nI n) = 0
    rw [h.1]
    refine b_zero.mpr fun i _ => ?_
    rw [b_ushr n hn, b_0]
  · show ushr (f (x ||| y)) (nI n) = ushr (f x) (nI n) ||| ushr (f y) (nI n)
    rw [h.2]
    refine b_ext fun i _ => ?_
    rw [b_or, b_ushr n hn, b_ushr n hn, b_ushr n hn, b_or]
theorem nearF_lin {n : Nat} (hn : n < 32) (al fc lc : Int32) : Lin (nearF (nI n) al fc lc) := by
  have r : Lin (fun x => shl (x &&& (lc ^^^ (-1))) (nI 1)) := lin_shl (lin_and lin_id _) (n := 1) (by decide)
  have l : Lin (fun x => ushr (x &&& (fc ^^^ (-1))) (nI 1)) := lin_ushr (lin_and lin_id _) (n := 1) (by decide)
  have d : Lin (fun x => shl x (nI n) &&& al) := lin_and (lin_shl lin_id hn) _
  have u : Lin (fun x => ushr x (nI n)) := lin_ushr lin_id hn
  have e1 := lin_or (lin_or (lin_or r l) d) u
  have e2 := lin_or (lin_or (lin_shl (lin_and r (lc ^^^ (-1))) (n := 1) (by decide)) (lin_ushr (lin_and l (fc ^^^ (-1))) (n := 1) (by decide))) (lin_and (lin_shl d hn) al)
  exact lin_or e1 (lin_or e2 (lin_ushr u hn))
theorem Lin.bits {f : Int32 → Int32} (h : Lin f) (c : Nat) : ∀ n, n ≤ 32 → ∀ x, Sm n x → (bt (f x) c = true ↔ ∃ d, d < n ∧ bt x d = true ∧ bt (f (shl 1 (nI d))) c = true) := by
  intro n
  induction n with
  | zero =>
    intro _ x hx
    have : x = 0 := b_zero.mpr fun i _ => hx i (Nat.zero_le i)
    subst this
    rw [h.1, b_0]
    constructor
    · intro h; cases h
    · rintro ⟨d, h1, -⟩; omega
  | succ n ih =>
    intro hn x hx
    have hy : Sm n (x &&& (shl 1 (nI n) ^^^ (-1))) := fun i hi => by
      rcases Nat.lt_or_ge i 32 with h9 | h9
      · rw [b_and, b_not _ h9, b_one (by omega) h9]
        rcases Nat.lt_or_ge n i with h8 | h8
        · rw [hx i h8]; rfl
        · have : i = n := by omega
          subst this
          simp
      · exact b_big h9
    by_cases hb : bt x n = true
    · have hxe : x = (x &&& (shl 1 (nI n) ^^^ (-1))) ||| shl 1 (nI n) := by
        refine b_ext fun i hi => ?_
        rw [b_or, b_and, b_not _ hi, b_one (by omega) hi]
        by_cases h9 : i = n
        · subst h9; rw [hb]; simp
        · simp [h9]
      constructor
      · intro h1
        rw [hxe, h.2, b_or, Bool.or_eq_true] at h1
        rcases h1 with h1 | h1
        · obtain ⟨d, d1, d2, d3⟩ := (ih (by omega) _ hy).mp h1
          rw [b_and, Bool.and_eq_true] at d2
          exact ⟨d, by omega, d2.1, d3⟩
        · exact ⟨n, by omega, hb, h1⟩
      · rintro ⟨d, d1, d2, d3⟩
        rw [hxe, h.2, b_or, Bool.or_eq_true]
        by_cases h9 : d = n
        · subst h9; exact Or.inr d3
        · refine Or.inl ((ih (by omega) _ hy).mpr ⟨d, by omega, ?_, d3⟩)
          rw [b_and, b_not _ (by omega), b_one (by omega) (by omega), d2]
          simp [h9]
    · have hx' : Sm n x := fun i hi => by
        rcases Nat.lt_or_ge n i with h8 | h8
        · exact hx i h8
        · have : i = n := by omega
          subst this
          exact Bool.eq_false_iff.mpr hb
      rw [ih (by omega) x hx']
      constructor
      · rintro ⟨d, d1, d2, d3⟩; exact ⟨d, by omega, d2, d3⟩
      · rintro ⟨d, d1, d2, d3⟩
        refine ⟨d, ?_, d2, d3⟩
        rcases Nat.lt_or_ge d n with h9 | h9
        · exact h9
        · have : d = n := by omega
          subst this
          exact absurd d2 hb
def Shp (w h : Nat) : Prop := (w = 0 ∧ h = 0) ∨ (1 ≤ w ∧ w ≤ 6 ∧ 1 ≤ h ∧ h ≤ 4)
def meB (w h : Nat) : Nat → Int32 := mesF (nI w) h 0 (upd (upd (upd (upd (fun _ => 0) 0 (nI w)) 1 (shl 1 (nI w * nI h) - 1)) 2 0) 3 0)
def nrB (w h : Nat) (x : Int32) : Int32 := nearF (nI w) (meB w h 1) (meB w h 2) (meB w h 3) x
set_option maxRecDepth 100000 in
theorem near_tab : ∀ w, w < 7 → ∀ h, h < 5 → (1 ≤ w ∧ 1 ≤ h) → ∀ d, d < w * h → ∀ c, c < 32 → bt (nrB w h (shl 1 (nI d))) c = (decide (c < w * h) && adjB w d c) := by decide +kernel
theorem near_00 : nrB 0 0 0 = 0 := by decide +kernel
theorem Shp.le {w h : Nat} (hs : Shp w h) : w * h ≤ 24 ∧ w ≤ 6 ∧ h ≤ 4 := by
  rcases hs with ⟨rfl, rfl⟩ | ⟨h1, h2, h3, h4⟩
  · exact ⟨by decide, by decide, by decide⟩
  · exact ⟨Nat.le_trans (Nat.mul_le_mul h2 h4) (by decide), h2, h4⟩
theorem near_ok {w h : Nat} (hs : Shp w h) : NearOK (w * h) w (nrB w h) := by
  have hle := hs.le
  intro x hx
  rcases hs with ⟨rfl, rfl⟩ | ⟨h1, h2, h3, h4⟩
  · have : x = 0 := b_zero.mpr fun i _ => hx i (by omega)
    subst this
    rw [near_00]
    exact ⟨Sm.zero _, fun c hc => by omega⟩
  · have hl : Lin (nrB w h) := nearF_lin (by omega) _ _ _
    have key := fun c => hl.bits c (w * h) (by omega) x hx
    have tab := near_tab w (by omega) h (by omega) ⟨h1, h3⟩
    refine ⟨fun i hi => ?_, fun c hc => ?_⟩
    · rcases Nat.lt_or_ge i 32 with h9 | h9
      · cases hb : bt (nrB w h x) i with
        | false => rfl
        | true =>
          obtain ⟨d, d1, d2, d3⟩ := (key i).mp hb
          rw [tab d d1 i h9] at d3
          simp only [Bool.and_eq_true, decide_eq_true_eq] at d3
          omega
      · exact b_big h9
    · rw [key c]
      constructor
      · rintro ⟨d, d1, d2, d3⟩
        rw [tab d d1 c (by omega)] at d3
        simp only [Bool.and_eq_true, decide_eq_true_eq] at d3
        exact ⟨d, d1, d3.2, d2⟩
      · rintro ⟨d, d1, d2, d3⟩
        refine ⟨d, d1, d3, ?_⟩
        rw [tab d d1 c (by omega)]
        simp only [Bool.and_eq_true, decide_eq_true_eq]
        exact ⟨hc, d2⟩
set_option maxRecDepth 100000 in
theorem all_tab : ∀ w, w < 7 → ∀ h, h < 5 → ∀ c, c < 32 → bt (meB w h 1) c = decide (c < w * h) := by decide +kernel
