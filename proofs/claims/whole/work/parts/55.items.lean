/-! ===== items, told by functions over places ===== -/
/-- what has been told so far: wide, high, walkers, grounds, sink, is it told, from, to -/
abbrev TolD : Type := Nat × Nat × Nat × (Nat → Int32) × Nat × Bool × (Nat → Nat) × (Nat → Nat)
abbrev q_w (D : TolD) : Nat := D.1
abbrev q_h (D : TolD) : Nat := D.2.1
abbrev q_k (D : TolD) : Nat := D.2.2.1
abbrev q_g (D : TolD) : Nat → Int32 := D.2.2.2.1
abbrev q_s (D : TolD) : Nat := D.2.2.2.2.1
abbrev q_t (D : TolD) : Bool := D.2.2.2.2.2.1
abbrev q_a (D : TolD) : Nat → Nat := D.2.2.2.2.2.2.1
abbrev q_b (D : TolD) : Nat → Nat := D.2.2.2.2.2.2.2
def DOK (D : TolD) : Prop := Shp (q_w D) (q_h D) ∧ q_k D ≤ 4 ∧ q_s D ≤ 9 ∧ (q_t D = false → q_s D = 0) ∧ (∀ c, c < q_w D * q_h D → q_g D c = 0 ∨ q_g D c = 1 ∨ q_g D c = 2) ∧ ∀ k, k < q_k D → q_a D k < q_w D * q_h D ∧ q_b D k < q_w D * q_h D
def q_0 : TolD := (0, 0, 0, fun _ => 0, 0, false, fun _ => 0, fun _ => 0)
theorem dok_0 : DOK q_0 := ⟨Or.inl ⟨rfl, rfl⟩, by decide, by decide, fun _ => rfl, fun c _ => Or.inl rfl, fun k hk => absurd hk (Nat.not_lt_zero k)⟩
def lok (x : Int32) : Bool := decide (x = 104 ∨ x = 98 ∨ x = 115)
def lcd (x : Int32) : Int32 := if x = 104 then 0 else if x = 98 then 1 else 2
theorem lcd_3 (x : Int32) : lcd x = 0 ∨ lcd x = 1 ∨ lcd x = 2 := by
  unfold lcd
  by_cases h : x = 104
  · rw [if_pos h]; exact Or.inl rfl
  · rw [if_neg h]
    by_cases h2 : x = 98
    · rw [if_pos h2]; exact Or.inr (Or.inl rfl)
    · rw [if_neg h2]; exact Or.inr (Or.inr rfl)
def rowG (tb : Nat → Int32) (D : TolD) (s : Nat) : Nat → Int32 := fun c => if q_w D * q_h D ≤ c then lcd (tb (s + (c - q_w D * q_h D))) else q_g D c
abbrev rowL (D : TolD) (l : Nat) : Prop := (q_h D = 0 ∧ l ≤ 6) ∨ (¬ q_h D = 0 ∧ l = q_w D)
abbrev rowK (t : Nat) (tb : Nat → Int32) (D : TolD) (p : Nat) : Prop := tkO t tb p = 1 ∧ rowL D (tkE t tb p - tkS t tb p) ∧ ∀ k, k < tkE t tb p - tkS t tb p → lok (tb (tkS t tb p + k)) = true
def rowD (t : Nat) (tb : Nat → Int32) (D : TolD) (p : Nat) : TolD := (tkE t tb p - tkS t tb p, q_h D + 1, q_k D, rowG tb D (tkS t tb p), q_s D, q_t D, q_a D, q_b D)
abbrev RzS : Type := Nat ⊕ (TolD × Nat)
def rowF (t : Nat) (tb : Nat → Int32) (D : TolD) (s0 e0 : Nat) : RzS := if ¬ (q_h D < 4 ∧ q_k D = 0) then .inl s0 else if rowK t tb D e0 then .inr (rowD t tb D e0, tkE t tb e0) else .inl (tkS t tb e0)
abbrev nuB (t : Nat) (tb : Nat → Int32) (b p : Nat) : Prop := nuK t tb p ∧ nuN t tb p < b
def walD (D : TolD) (x y : Nat) : TolD := (q_w D, q_h D, q_k D + 1, q_g D, q_s D, q_t D, (fun k => if k = q_k D then x else q_a D k), fun k => if k = q_k D then y else q_b D k)
def walF (t : Nat) (tb : Nat → Int32) (D : TolD) (s0 e0 : Nat) : RzS := if ¬ q_k D < 4 then .inl s0 else if ¬ nuB t tb (q_w D * q_h D) e0 then .inl (tkS t tb e0) else if ¬ nuB t tb (q_w D * q_h D) (tkE t tb e0) ∨ nuN t tb e0 = nuN t tb (tkE t tb e0) then .inl (tkS t tb (tkE t tb e0)) else .inr (walD D (nuN t tb e0) (nuN t tb (tkE t tb e0)), tkE t tb (tkE t tb e0))
def snkD (D : TolD) (x : Nat) : TolD := (q_w D, q_h D, q_k D, q_g D, x, true, q_a D, q_b D)
def snkF (t : Nat) (tb : Nat → Int32) (D : TolD) (s0 e0 : Nat) : RzS := if q_t D = true then .inl s0 else if ¬ nuB t tb 10 e0 then .inl (tkS t tb e0) else .inr (snkD D (nuN t tb e0), tkE t tb e0)
/-- behind an item there stands its stop -/
def aftF (t : Nat) (tb : Nat → Int32) : RzS → RzS
  | .inl f => .inl f
  | .inr q => if tkO t tb q.2 = 3 then .inr (q.1, tkE t tb q.2) else .inl (tkS t tb q.2)
def kndF (t : Nat) (tb : Nat → Int32) (D : TolD) (p : Nat) : RzS :=
  if wdF tb (tkS t tb p) (tkE t tb p) (tkO t tb p) 0 = true then rowF t tb D (tkS t tb p) (tkE t tb p)
  else if wdF tb (tkS t tb p) (tkE t tb p) (tkO t tb p) 1 = true then walF t tb D (tkS t tb p) (tkE t tb p)
  else if wdF tb (tkS t tb p) (tkE t tb p) (tkO t tb p) 2 = true then snkF t tb D (tkS t tb p) (tkE t tb p)
  else .inl (tkS t tb p)
def itmF (t : Nat) (tb : Nat → Int32) (D : TolD) (p : Nat) : RzS := aftF t tb (kndF t tb D p)
def rdsF (t : Nat) (tb : Nat → Int32) : Nat → TolD → Nat → Nat → RzS
  | 0, _, _, _ => .inl 0
  | n + 1, D, p, items => if tkO t tb p = 0 then .inr (D, items) else match itmF t tb D p with
    | .inl f => .inl f
    | .inr q => rdsF t tb n q.1 q.2 (items + 1)
/-- the places are within the text, and what is told is in order -/
def RokF (t e0 : Nat) : RzS → Prop
  | .inl f => f ≤ t
  | .inr q => DOK q.1 ∧ e0 ≤ q.2 ∧ q.2 ≤ t
section IT
variable {t : Nat} {tb : Nat → Int32} {D : TolD} {s0 e0 : Nat}
theorem row_N (hD : DOK D) {l : Nat} (hl : rowL D l) : q_w D * q_h D + l = l * (q_h D + 1) := by
  rcases hl with ⟨h1, h2⟩ | ⟨h1, h2⟩
  · rw [h1]; omega
  · rw [h2, Nat.mul_succ]
theorem row_shp (hD : DOK D) (h4 : q_h D < 4) {l : Nat} (h0 : 0 < l) (hl : rowL D l) : Shp l (q_h D + 1) := by
  rcases hl with ⟨h1, h2⟩ | ⟨h1, h2⟩
  · exact Or.inr ⟨h0, h2, by omega, by omega⟩
  · rcases hD.1 with ⟨-, z⟩ | ⟨z1, z2, z3, z4⟩
    · exact absurd z h1
    · exact Or.inr ⟨h0, by omega, by omega, by omega⟩
theorem row_ok (hD : DOK D) (hs : s0 ≤ t) (he : e0 ≤ t) : RokF t e0 (rowF t tb D s0 e0) := by
  obtain ⟨k1, k2⟩ := tk_S (tb := tb) he
  obtain ⟨k3, k4, k5⟩ := tk_E (tb := tb) he
  unfold rowF
  by_cases h : q_h D < 4 ∧ q_k D = 0
  · rw [if_neg (fun z => z h)]
    by_cases h2 : rowK t tb D e0
    · rw [if_pos h2]
      have h6 := k5 (fun z => absurd (h2.1.symm.trans z) (by decide))
      have hsh := row_shp hD h.1 (show 0 < tkE t tb e0 - tkS t tb e0 by omega) h2.2.1
      refine ⟨⟨hsh, hD.2.1, hD.2.2.1, hD.2.2.2.1, fun c _ => ?_, fun k hk => ?_⟩, by show e0 ≤ tkE t tb e0; omega, k4⟩
      · show rowG tb D _ c = 0 ∨ rowG tb D _ c = 1 ∨ rowG tb D _ c = 2
        unfold rowG
        by_cases h9 : q_w D * q_h D ≤ c
        · rw [if_pos h9]; exact lcd_3 _
        · rw [if_neg h9]; exact hD.2.2.2.2.1 c (by omega)
      · have hk2 : k < q_k D := hk
        omega
    · rw [if_neg h2]; exact k2
  · rw [if_pos h]; exact hs
theorem wal_ok (hD : DOK D) (hs : s0 ≤ t) (he : e0 ≤ t) : RokF t e0 (walF t tb D s0 e0) := by
  obtain ⟨k1, k2⟩ := tk_S (tb := tb) he
  obtain ⟨k3, k4, k5⟩ := tk_E (tb := tb) he
  obtain ⟨l1, l2⟩ := tk_S (tb := tb) k4
  obtain ⟨l3, l4, l5⟩ := tk_E (tb := tb) k4
  unfold walF
  by_cases h : q_k D < 4
  · rw [if_neg (fun z => z h)]
    by_cases h2 : nuB t tb (q_w D * q_h D) e0
    · rw [if_neg (fun z => z h2)]
      by_cases h3 : ¬ nuB t tb (q_w D * q_h D) (tkE t tb e0) ∨ nuN t tb e0 = nuN t tb (tkE t tb e0)
      · rw [if_pos h3]; exact l2
      · rw [if_neg h3]
        obtain ⟨h4, h5⟩ := not_or.mp h3
        have h4 := Classical.not_not.mp h4
        refine ⟨⟨hD.1, h, hD.2.2.1, hD.2.2.2.1, hD.2.2.2.2.1, fun k hk => ?_⟩, by show e0 ≤ tkE t tb (tkE t tb e0); omega, l4⟩
        have hk2 : k < q_k D + 1 := hk
        show (if k = q_k D then nuN t tb e0 else q_a D k) < q_w D * q_h D ∧ (if k = q_k D then nuN t tb (tkE t tb e0) else q_b D k) < q_w D * q_h D
        by_cases h9 : k = q_k D
        · rw [if_pos h9, if_pos h9]; exact ⟨h2.2, h4.2⟩
        · rw [if_neg h9, if_neg h9]; exact hD.2.2.2.2.2 k (by omega)
    · rw [if_pos h2]; exact k2
  · rw [if_pos h]; exact hs
theorem snk_ok (hD : DOK D) (hs : s0 ≤ t) (he : e0 ≤ t) : RokF t e0 (snkF t tb D s0 e0) := by
  obtain ⟨k1, k2⟩ := tk_S (tb := tb) he
  obtain ⟨k3, k4, k5⟩ := tk_E (tb := tb) he
  unfold snkF
  by_cases h : q_t D = true
  · rw [if_pos h]; exact hs
  · rw [if_neg h]
    by_cases h2 : nuB t tb 10 e0
    · rw [if_neg (fun z => z h2)]
      have h3 := h2.2
      refine ⟨⟨hD.1, hD.2.1, by show nuN t tb e0 ≤ 9; omega, fun z => absurd z (by show ¬ true = false; decide), hD.2.2.2.2.1, hD.2.2.2.2.2⟩, by show e0 ≤ tkE t tb e0; omega, k4⟩
    · rw [if_pos h2]; exact k2
theorem knd_ok {p : Nat} (hD : DOK D) (hp : p ≤ t) (h0 : ¬ tkO t tb p = 0) : RokF t (tkE t tb p) (kndF t tb D p) := by
  obtain ⟨k1, k2⟩ := tk_S (tb := tb) hp
  obtain ⟨k3, k4, k5⟩ := tk_E (tb := tb) hp
  unfold kndF
  by_cases h1 : wdF tb (tkS t tb p) (tkE t tb p) (tkO t tb p) 0 = true
  · rw [if_pos h1]; exact row_ok hD k2 k4
  · rw [if_neg h1]
    by_cases h2 : wdF tb (tkS t tb p) (tkE t tb p) (tkO t tb p) 1 = true
    · rw [if_pos h2]; exact wal_ok hD k2 k4
    · rw [if_neg h2]
      by_cases h3 : wdF tb (tkS t tb p) (tkE t tb p) (tkO t tb p) 2 = true
      · rw [if_pos h3]; exact snk_ok hD k2 k4
      · rw [if_neg h3]; exact k2
theorem itm_ok {p : Nat} (hD : DOK D) (hp : p ≤ t) (h0 : ¬ tkO t tb p = 0) : RokF t (p + 1) (itmF t tb D p) := by
  obtain ⟨k1, k2⟩ := tk_S (tb := tb) hp
  obtain ⟨k3, k4, k5⟩ := tk_E (tb := tb) hp
  have h1 := knd_ok hD hp h0
  have h2 := k5 h0
  unfold itmF
  generalize kndF t tb D p = r at h1
  match r, h1 with
  | .inl f, h1 => exact h1
  | .inr q, h1 =>
    obtain ⟨j1, j2, j3⟩ := h1
    obtain ⟨l1, l2⟩ := tk_S (tb := tb) j3
    obtain ⟨l3, l4, l5⟩ := tk_E (tb := tb) j3
    unfold aftF
    show RokF t (p + 1) (if tkO t tb q.2 = 3 then .inr (q.1, tkE t tb q.2) else .inl (tkS t tb q.2))
    by_cases h3 : tkO t tb q.2 = 3
    · rw [if_pos h3]; exact ⟨j1, by show p + 1 ≤ tkE t tb q.2; omega, l4⟩
    · rw [if_neg h3]; exact l2
end IT
