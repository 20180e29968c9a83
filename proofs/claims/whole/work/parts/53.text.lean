/-! ===== the text: runs, tokens, words, numbers; places are numbers ===== -/
theorem nN_inj {a b : Nat} (ha : a < 2 ^ 31) (hb : b < 2 ^ 31) (h : nI a = nI b) : a = b := by
  have e := congrArg Int32.toInt h
  rw [nI_toInt ha, nI_toInt hb] at e
  omega
def rnG (P : Int32 → Bool) (tb : Nat → Int32) : Nat → Nat → Nat
  | 0, i => i
  | n + 1, i => if P (tb i) = true then rnG P tb n (i + 1) else i
theorem rn_ok (P : Int32 → Bool) (tb : Nat → Int32) : ∀ n i, i ≤ rnG P tb n i ∧ rnG P tb n i ≤ i + n ∧ (∀ k, i ≤ k → k < rnG P tb n i → P (tb k) = true) ∧ (rnG P tb n i < i + n → P (tb (rnG P tb n i)) = false) := by
  intro n
  induction n with
  | zero => intro i; exact ⟨Nat.le_refl _, Nat.le_refl _, fun k h1 h2 => absurd h2 (Nat.not_lt.mpr h1), fun h => absurd h (Nat.lt_irrefl _)⟩
  | succ n ih =>
    intro i
    by_cases h : P (tb i) = true
    · rw [rnG, if_pos h]
      obtain ⟨h1, h2, h3, h4⟩ := ih (i + 1)
      refine ⟨by omega, by omega, fun k k1 k2 => ?_, fun z => h4 (by omega)⟩
      by_cases h9 : k = i
      · rw [h9]; exact h
      · exact h3 k (by omega) k2
    · rw [rnG, if_neg h]
      exact ⟨Nat.le_refl _, by omega, fun k h1 h2 => absurd h2 (by omega), fun _ => Bool.eq_false_iff.mpr h⟩
def rnF (P : Int32 → Bool) (t : Nat) (tb : Nat → Int32) (i : Nat) : Nat := rnG P tb (t - i) i
theorem rf_ok (P : Int32 → Bool) {t i : Nat} (tb : Nat → Int32) (h : i ≤ t) : i ≤ rnF P t tb i ∧ rnF P t tb i ≤ t ∧ (∀ k, i ≤ k → k < rnF P t tb i → P (tb k) = true) ∧ (rnF P t tb i < t → P (tb (rnF P t tb i)) = false) := by
  obtain ⟨h1, h2, h3, h4⟩ := rn_ok P tb (t - i) i
  unfold rnF
  exact ⟨h1, by omega, h3, fun z => h4 (by omega)⟩
theorem rf_pos {P : Int32 → Bool} {t i : Nat} {tb : Nat → Int32} (h : i < t) (hp : P (tb i) = true) : i < rnF P t tb i := by
  obtain ⟨h1, h2, h3, h4⟩ := rf_ok P tb (Nat.le_of_lt h)
  refine Nat.lt_of_le_of_ne h1 fun z => ?_
  rw [← z] at h4
  rw [h4 h] at hp
  cases hp
def byN (t : Nat) (tb : Nat → Int32) (i : Nat) : Int32 := if i < t then tb i else -1
def isSp (x : Int32) : Bool := decide (32 ≤ x ∧ x ≤ 32)
def isLt (x : Int32) : Bool := decide (97 ≤ x ∧ x ≤ 122)
def isDg (x : Int32) : Bool := decide (48 ≤ x ∧ x ≤ 57)
theorem rg_of {lo hi x : Int32} : decide (lo ≤ x ∧ x ≤ hi) = true ↔ ¬ (x < lo ∨ hi < x) := by
  rw [decide_eq_true_iff, not_or, Int32.not_lt, Int32.not_lt]
theorem sp_eq {x : Int32} : isSp x = true ↔ x = 32 := by
  unfold isSp
  rw [decide_eq_true_iff]
  exact ⟨fun h => Int32.le_antisymm h.2 h.1, fun h => by rw [h]; exact ⟨Int32.le_refl _, Int32.le_refl _⟩⟩
theorem rg_int {lo hi x : Int32} (h : decide (lo ≤ x ∧ x ≤ hi) = true) : lo.toInt ≤ x.toInt ∧ x.toInt ≤ hi.toInt := by
  rw [decide_eq_true_iff, Int32.le_iff_toInt_le, Int32.le_iff_toInt_le] at h
  exact h
theorem lt_int {x : Int32} (h : isLt x = true) : 97 ≤ x.toInt ∧ x.toInt ≤ 122 := by
  have h1 := rg_int h
  rw [show (97 : Int32).toInt = 97 by decide, show (122 : Int32).toInt = 122 by decide] at h1
  exact h1
theorem dg_int {x : Int32} (h : isDg x = true) : 48 ≤ x.toInt ∧ x.toInt ≤ 57 := by
  have h1 := rg_int h
  rw [show (48 : Int32).toInt = 48 by decide, show (57 : Int32).toInt = 57 by decide] at h1
  exact h1
theorem ng_int {x : Int32} : x < 0 ↔ x.toInt < 0 := by rw [Int32.lt_iff_toInt_lt, show (0 : Int32).toInt = 0 by decide]
/-- the sort of a token, by its first byte: 0 the end, 1 letters, 2 figures, 3 the stop, 4 another -/
def soF (x : Int32) : Int32 := if x < 0 then 0 else if isLt x = true then 1 else if isDg x = true then 2 else if x = 59 then 3 else 4
theorem so_cases (x : Int32) : (soF x = 0 ∧ x < 0) ∨ (soF x = 1 ∧ isLt x = true ∧ ¬ x < 0) ∨ (soF x = 2 ∧ isDg x = true ∧ ¬ x < 0 ∧ ¬ isLt x = true) ∨ (soF x = 3 ∧ x = 59 ∧ ¬ x < 0 ∧ ¬ isLt x = true ∧ ¬ isDg x = true) ∨ (soF x = 4 ∧ ¬ x = 59 ∧ ¬ x < 0 ∧ ¬ isLt x = true ∧ ¬ isDg x = true) := by
  unfold soF
  by_cases h0 : x < 0
  · rw [if_pos h0]; exact Or.inl ⟨rfl, h0⟩
  · rw [if_neg h0]
    by_cases h1 : isLt x = true
    · rw [if_pos h1]; exact Or.inr (Or.inl ⟨rfl, h1, h0⟩)
    · rw [if_neg h1]
      by_cases h2 : isDg x = true
      · rw [if_pos h2]; exact Or.inr (Or.inr (Or.inl ⟨rfl, h2, h0, h1⟩))
      · rw [if_neg h2]
        by_cases h3 : x = 59
        · rw [if_pos h3]; exact Or.inr (Or.inr (Or.inr (Or.inl ⟨rfl, h3, h0, h1, h2⟩)))
        · rw [if_neg h3]; exact Or.inr (Or.inr (Or.inr (Or.inr ⟨rfl, h3, h0, h1, h2⟩)))
theorem lt_ng {x : Int32} (h : isLt x = true) : ¬ x < 0 := by
  rw [ng_int]
  have := lt_int h
  omega
theorem dg_ng {x : Int32} (h : isDg x = true) : ¬ x < 0 ∧ ¬ isLt x = true := by
  rw [ng_int]
  have h1 := dg_int h
  exact ⟨by omega, fun z => by have := lt_int z; omega⟩
theorem so_0 {x : Int32} : soF x = 0 ↔ x < 0 := by
  rcases so_cases x with ⟨h, h1⟩ | ⟨h, h1, h2⟩ | ⟨h, h1, h2, h3⟩ | ⟨h, h1, h2, h3, h4⟩ | ⟨h, h1, h2, h3, h4⟩
  · exact ⟨fun _ => h1, fun _ => h⟩
  all_goals exact ⟨fun z => absurd (h.symm.trans z) (by decide), fun z => absurd z h2⟩
theorem so_1 {x : Int32} : soF x = 1 ↔ isLt x = true := by
  rcases so_cases x with ⟨h, h1⟩ | ⟨h, h1, h2⟩ | ⟨h, h1, h2, h3⟩ | ⟨h, h1, h2, h3, h4⟩ | ⟨h, h1, h2, h3, h4⟩
  · exact ⟨fun z => absurd (h.symm.trans z) (by decide), fun z => absurd h1 (lt_ng z)⟩
  · exact ⟨fun _ => h1, fun _ => h⟩
  all_goals exact ⟨fun z => absurd (h.symm.trans z) (by decide), fun z => absurd z h3⟩
theorem so_2 {x : Int32} : soF x = 2 ↔ isDg x = true := by
  rcases so_cases x with ⟨h, h1⟩ | ⟨h, h1, h2⟩ | ⟨h, h1, h2, h3⟩ | ⟨h, h1, h2, h3, h4⟩ | ⟨h, h1, h2, h3, h4⟩
  · exact ⟨fun z => absurd (h.symm.trans z) (by decide), fun z => absurd h1 (dg_ng z).1⟩
  · exact ⟨fun z => absurd (h.symm.trans z) (by decide), fun z => absurd h1 (dg_ng z).2⟩
  · exact ⟨fun _ => h1, fun _ => h⟩
  all_goals exact ⟨fun z => absurd (h.symm.trans z) (by decide), fun z => absurd z h4⟩
theorem so_3 {x : Int32} : soF x = 3 ↔ x = 59 := by
  rcases so_cases x with ⟨h, h1⟩ | ⟨h, h1, h2⟩ | ⟨h, h1, h2, h3⟩ | ⟨h, h1, h2, h3, h4⟩ | ⟨h, h1, h2, h3, h4⟩
  · exact ⟨fun z => absurd (h.symm.trans z) (by decide), fun z => absurd h1 (by rw [z]; decide)⟩
  · exact ⟨fun z => absurd (h.symm.trans z) (by decide), fun z => absurd h1 (by rw [z]; decide)⟩
  · exact ⟨fun z => absurd (h.symm.trans z) (by decide), fun z => absurd h1 (by rw [z]; decide)⟩
  · exact ⟨fun _ => h1, fun _ => h⟩
  · exact ⟨fun z => absurd (h.symm.trans z) (by decide), fun z => absurd z h1⟩
/-! a token: where it begins, its sort, where it ends -/
def tkS (t : Nat) (tb : Nat → Int32) (p : Nat) : Nat := rnF isSp t tb p
def tkO (t : Nat) (tb : Nat → Int32) (p : Nat) : Int32 := soF (byN t tb (tkS t tb p))
def tkE (t : Nat) (tb : Nat → Int32) (p : Nat) : Nat := if tkO t tb p = 0 then tkS t tb p else if tkO t tb p = 1 then rnF isLt t tb (tkS t tb p) else if tkO t tb p = 2 then rnF isDg t tb (tkS t tb p) else tkS t tb p + 1
section TK
variable {t p : Nat} {tb : Nat → Int32}
theorem tk_S (h : p ≤ t) : p ≤ tkS t tb p ∧ tkS t tb p ≤ t := ⟨(rf_ok isSp tb h).1, (rf_ok isSp tb h).2.1⟩
theorem tk_lt (h : p ≤ t) (ho : ¬ tkO t tb p = 0) : tkS t tb p < t ∧ byN t tb (tkS t tb p) = tb (tkS t tb p) := by
  by_cases h9 : tkS t tb p < t
  · exact ⟨h9, if_pos h9⟩
  · refine absurd ?_ ho
    unfold tkO byN
    rw [if_neg h9, so_0]
    decide
theorem tk_E (h : p ≤ t) : tkS t tb p ≤ tkE t tb p ∧ tkE t tb p ≤ t ∧ (¬ tkO t tb p = 0 → tkS t tb p < tkE t tb p) := by
  have hS := (tk_S (tb := tb) h).2
  unfold tkE
  by_cases h0 : tkO t tb p = 0
  · rw [if_pos h0]; exact ⟨Nat.le_refl _, hS, fun z => absurd h0 z⟩
  · obtain ⟨k1, k2⟩ := tk_lt h h0
    rw [if_neg h0]
    by_cases h1 : tkO t tb p = 1
    · rw [if_pos h1]
      obtain ⟨r1, r2, -⟩ := rf_ok isLt tb hS
      unfold tkO at h1
      rw [k2, so_1] at h1
      exact ⟨r1, r2, fun _ => rf_pos k1 h1⟩
    · rw [if_neg h1]
      by_cases h2 : tkO t tb p = 2
      · rw [if_pos h2]
        obtain ⟨r1, r2, -⟩ := rf_ok isDg tb hS
        unfold tkO at h2
        rw [k2, so_2] at h2
        exact ⟨r1, r2, fun _ => rf_pos k1 h2⟩
      · rw [if_neg h2]
        exact ⟨by omega, by omega, fun _ => by omega⟩
theorem tk_1 (h : p ≤ t) (h1 : tkO t tb p = 1) : tkE t tb p = rnF isLt t tb (tkS t tb p) ∧ ∀ k, tkS t tb p ≤ k → k < tkE t tb p → isLt (tb k) = true := by
  have e : tkE t tb p = rnF isLt t tb (tkS t tb p) := by
    unfold tkE
    rw [if_neg (fun z => absurd (h1.symm.trans z) (by decide)), if_pos h1]
  rw [e]
  exact ⟨rfl, (rf_ok isLt tb (tk_S h).2).2.2.1⟩
theorem tk_2 (h : p ≤ t) (h1 : tkO t tb p = 2) : tkE t tb p = rnF isDg t tb (tkS t tb p) ∧ ∀ k, tkS t tb p ≤ k → k < tkE t tb p → isDg (tb k) = true := by
  have e : tkE t tb p = rnF isDg t tb (tkS t tb p) := by
    unfold tkE
    rw [if_neg (fun z => absurd (h1.symm.trans z) (by decide)), if_neg (fun z => absurd (h1.symm.trans z) (by decide)), if_pos h1]
  rw [e]
  exact ⟨rfl, (rf_ok isDg tb (tk_S h).2).2.2.1⟩
/-! numbers of one or two figures -/
def dgN (x : Int32) : Nat := (x - 48).toInt.toNat
theorem dg_ok {x : Int32} (h : isDg x = true) : x - 48 = nI (dgN x) ∧ dgN x ≤ 9 := by
  have h1 := dg_int h
  have e : (x - 48).toInt = x.toInt - 48 := by
    rw [Int32.toInt_sub, show (48 : Int32).toInt = 48 by decide, Int.bmod_eq_of_le (by omega) (by omega)]
  have h2 : dgN x ≤ 9 := by unfold dgN; omega
  refine ⟨Int32.toInt_inj.mp ?_, h2⟩
  rw [nI_toInt (by omega)]
  unfold dgN
  omega
abbrev nuD (tb : Nat → Int32) (s e : Nat) : Prop := e - s ≤ 2 ∧ ¬ (e - s = 2 ∧ tb s = 48)
def nuV (tb : Nat → Int32) (s e : Nat) : Nat := if e - s = 2 then 10 * dgN (tb s) + dgN (tb (s + 1)) else dgN (tb s)
abbrev nuK (t : Nat) (tb : Nat → Int32) (p : Nat) : Prop := tkO t tb p = 2 ∧ nuD tb (tkS t tb p) (tkE t tb p)
def nuN (t : Nat) (tb : Nat → Int32) (p : Nat) : Nat := nuV tb (tkS t tb p) (tkE t tb p)
theorem nu_le (h : p ≤ t) (hk : nuK t tb p) : nuN t tb p ≤ 99 := by
  have h1 := (tk_2 h hk.1).2
  have h2 := (tk_E (tb := tb) h).2.2 (fun z => absurd (hk.1.symm.trans z) (by decide))
  have d0 := (dg_ok (h1 _ (Nat.le_refl _) h2)).2
  unfold nuN nuV
  by_cases h9 : tkE t tb p - tkS t tb p = 2
  · rw [if_pos h9]
    have d1 := (dg_ok (h1 (tkS t tb p + 1) (by omega) (by omega))).2
    omega
  · rw [if_neg h9]; omega
/-- the class's sort: figures that are no NUMBER are another thing -/
def csF (t : Nat) (tb : Nat → Int32) (p : Nat) : Int32 := if tkO t tb p = 2 ∧ ¬ nuD tb (tkS t tb p) (tkE t tb p) then 4 else tkO t tb p
theorem cs_ne {v : Int32} (h2 : ¬ v = 2) (h4 : ¬ v = 4) : csF t tb p = v ↔ tkO t tb p = v := by
  unfold csF
  by_cases h : tkO t tb p = 2 ∧ ¬ nuD tb (tkS t tb p) (tkE t tb p)
  · rw [if_pos h, h.1]
    exact ⟨fun z => absurd z.symm h4, fun z => absurd z.symm h2⟩
  · rw [if_neg h]
theorem cs_2 : csF t tb p = 2 ↔ nuK t tb p := by
  unfold csF
  by_cases h : tkO t tb p = 2 ∧ ¬ nuD tb (tkS t tb p) (tkE t tb p)
  · rw [if_pos h]
    exact ⟨fun z => absurd z (by decide), fun z => absurd z.2 h.2⟩
  · rw [if_neg h]
    exact ⟨fun z => ⟨z, Classical.byContradiction fun y => h ⟨z, y⟩⟩, fun z => z.1⟩
/-! words -/
def wdF (tb : Nat → Int32) (s e : Nat) (o : Int32) (i : Nat) : Bool := decide (o = 1 ∧ e - s = strLen.getD i 0 ∧ ∀ k, k < strLen.getD i 0 → tb (s + k) = chS i k)
end TK
