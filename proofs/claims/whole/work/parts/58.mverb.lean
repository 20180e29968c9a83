/-! ===== the reference reads a word, a number ===== -/
def ltN (x : Int32) : Nat := x.toInt.toNat
theorem lt_nI {x : Int32} (h : isLt x = true) : x = nI (ltN x) ∧ 97 ≤ ltN x ∧ ltN x ≤ 122 := by
  have h1 := lt_int h
  have h2 : 97 ≤ ltN x ∧ ltN x ≤ 122 := by unfold ltN; omega
  refine ⟨Int32.toInt_inj.mp ?_, h2⟩
  rw [nI_toInt (by omega)]
  unfold ltN
  omega
def vN (tb : Nat → Int32) (S : Nat) : Nat → Nat
  | 0 => 0
  | k + 1 => 256 * vN tb S k + ltN (tb (S + k))
theorem v_step (V : Nat) {x : Int32} (h : isLt x = true) : 256 * Int64.ofNat V + x.toInt64 = Int64.ofNat (256 * V + ltN x) := by
  have h1 := lt_int h
  have e : x.toInt64 = Int64.ofNat (ltN x) := Int64.toInt_inj.mp (by
    rw [Int32.toInt_toInt64, Int64.toInt_ofNat_of_lt (by unfold ltN; omega)]
    unfold ltN
    omega)
  rw [e, Int64.ofNat_add, Int64.ofNat_mul]
  rfl
theorem i64_eq {a c : Nat} (ha : a < 2 ^ 63) (hc : c < 2 ^ 63) : Int64.ofNat a = Int64.ofNat c ↔ a = c := by
  constructor
  · intro h
    have e := congrArg Int64.toInt h
    rw [Int64.toInt_ofNat_of_lt ha, Int64.toInt_ofNat_of_lt hc] at e
    omega
  · intro h; rw [h]
section MV
variable {g : GG} {M : Mem} {t p : Nat} {tb : Nat → Int32}
theorem vN_lt {S : Nat} : ∀ k, (∀ i, i < k → isLt (tb (S + i)) = true) → vN tb S k < 256 ^ k := by
  intro k
  induction k with
  | zero => intro _; show 0 < 256 ^ 0; decide
  | succ k ih =>
    intro h
    have h1 := ih fun i hi => h i (by omega)
    have h2 := (lt_nI (h k (by omega))).2.2
    show 256 * vN tb S k + ltN (tb (S + k)) < 256 ^ (k + 1)
    rw [Nat.pow_succ]
    omega

theorem vn_0 {S E : Nat} (hl : 0 < E - S) (hA : ∀ i, i < E - S → isLt (tb (S + i)) = true) : vN tb S (min (E - S) 7) = 7499639 ↔ wdF tb S E 1 0 = true := by
  have hw : wdF tb S E 1 0 = true ↔ E - S = 3 ∧ ∀ k, k < 3 → tb (S + k) = chS 0 k := by
    unfold wdF
    rw [decide_eq_true_iff]
    exact ⟨fun z => ⟨z.2.1, z.2.2⟩, fun z => ⟨rfl, z.1, z.2⟩⟩
  rw [hw]
  have hc : E - S = 1 ∨ E - S = 2 ∨ E - S = 3 ∨ E - S = 4 ∨ E - S = 5 ∨ E - S = 6 ∨ 7 ≤ E - S := by omega
  rcases hc with hc | hc | hc | hc | hc | hc | hc
  · have em : min (E - S) 7 = 1 := by omega
    rw [em]
    simp only [vN]
    have b0 := (lt_nI (hA 0 (by omega))).2
    exact ⟨fun z => by omega, fun z => by omega⟩
  · have em : min (E - S) 7 = 2 := by omega
    rw [em]
    simp only [vN]
    have b0 := (lt_nI (hA 0 (by omega))).2
    have b1 := (lt_nI (hA 1 (by omega))).2
    exact ⟨fun z => by omega, fun z => by omega⟩
  · have em : min (E - S) 7 = 3 := by omega
    rw [em]
    simp only [vN]
    have b0 := (lt_nI (hA 0 (by omega))).2
    have b1 := (lt_nI (hA 1 (by omega))).2
    have b2 := (lt_nI (hA 2 (by omega))).2
    constructor
    · intro z
      refine ⟨hc, fun k hk => ?_⟩
      have hk2 : k = 0 ∨ k = 1 ∨ k = 2 := by omega
      rcases hk2 with rfl | rfl | rfl
      · rw [(lt_nI (hA 0 (by omega))).1, show ltN (tb (S + 0)) = 114 by omega]; decide
      · rw [(lt_nI (hA 1 (by omega))).1, show ltN (tb (S + 1)) = 111 by omega]; decide
      · rw [(lt_nI (hA 2 (by omega))).1, show ltN (tb (S + 2)) = 119 by omega]; decide
    · rintro ⟨-, z⟩
      have c0 : ltN (tb (S + 0)) = 114 := by rw [z 0 (by decide)]; decide
      have c1 : ltN (tb (S + 1)) = 111 := by rw [z 1 (by decide)]; decide
      have c2 : ltN (tb (S + 2)) = 119 := by rw [z 2 (by decide)]; decide
      omega
  · have em : min (E - S) 7 = 4 := by omega
    rw [em]
    simp only [vN]
    have b0 := (lt_nI (hA 0 (by omega))).2
    have b1 := (lt_nI (hA 1 (by omega))).2
    have b2 := (lt_nI (hA 2 (by omega))).2
    have b3 := (lt_nI (hA 3 (by omega))).2
    exact ⟨fun z => by omega, fun z => by omega⟩
  · have em : min (E - S) 7 = 5 := by omega
    rw [em]
    simp only [vN]
    have b0 := (lt_nI (hA 0 (by omega))).2
    have b1 := (lt_nI (hA 1 (by omega))).2
    have b2 := (lt_nI (hA 2 (by omega))).2
    have b3 := (lt_nI (hA 3 (by omega))).2
    have b4 := (lt_nI (hA 4 (by omega))).2
    exact ⟨fun z => by omega, fun z => by omega⟩
  · have em : min (E - S) 7 = 6 := by omega
    rw [em]
    simp only [vN]
    have b0 := (lt_nI (hA 0 (by omega))).2
    have b1 := (lt_nI (hA 1 (by omega))).2
    have b2 := (lt_nI (hA 2 (by omega))).2
    have b3 := (lt_nI (hA 3 (by omega))).2
    have b4 := (lt_nI (hA 4 (by omega))).2
    have b5 := (lt_nI (hA 5 (by omega))).2
    exact ⟨fun z => by omega, fun z => by omega⟩
  · have em : min (E - S) 7 = 7 := by omega
    rw [em]
    simp only [vN]
    have b0 := (lt_nI (hA 0 (by omega))).2
    have b1 := (lt_nI (hA 1 (by omega))).2
    have b2 := (lt_nI (hA 2 (by omega))).2
    have b3 := (lt_nI (hA 3 (by omega))).2
    have b4 := (lt_nI (hA 4 (by omega))).2
    have b5 := (lt_nI (hA 5 (by omega))).2
    have b6 := (lt_nI (hA 6 (by omega))).2
    exact ⟨fun z => by omega, fun z => by omega⟩
theorem vn_1 {S E : Nat} (hl : 0 < E - S) (hA : ∀ i, i < E - S → isLt (tb (S + i)) = true) : vN tb S (min (E - S) 7) = 131260314510706 ↔ wdF tb S E 1 1 = true := by
  have hw : wdF tb S E 1 1 = true ↔ E - S = 6 ∧ ∀ k, k < 6 → tb (S + k) = chS 1 k := by
    unfold wdF
    rw [decide_eq_true_iff]
    exact ⟨fun z => ⟨z.2.1, z.2.2⟩, fun z => ⟨rfl, z.1, z.2⟩⟩
  rw [hw]
  have hc : E - S = 1 ∨ E - S = 2 ∨ E - S = 3 ∨ E - S = 4 ∨ E - S = 5 ∨ E - S = 6 ∨ 7 ≤ E - S := by omega
  rcases hc with hc | hc | hc | hc | hc | hc | hc
  · have em : min (E - S) 7 = 1 := by omega
    rw [em]
    simp only [vN]
    have b0 := (lt_nI (hA 0 (by omega))).2
    exact ⟨fun z => by omega, fun z => by omega⟩
  · have em : min (E - S) 7 = 2 := by omega
    rw [em]
    simp only [vN]
    have b0 := (lt_nI (hA 0 (by omega))).2
    have b1 := (lt_nI (hA 1 (by omega))).2
    exact ⟨fun z => by omega, fun z => by omega⟩
  · have em : min (E - S) 7 = 3 := by omega
    rw [em]
    simp only [vN]
    have b0 := (lt_nI (hA 0 (by omega))).2
    have b1 := (lt_nI (hA 1 (by omega))).2
    have b2 := (lt_nI (hA 2 (by omega))).2
    exact ⟨fun z => by omega, fun z => by omega⟩
  · have em : min (E - S) 7 = 4 := by omega
    rw [em]
    simp only [vN]
    have b0 := (lt_nI (hA 0 (by omega))).2
    have b1 := (lt_nI (hA 1 (by omega))).2
    have b2 := (lt_nI (hA 2 (by omega))).2
    have b3 := (lt_nI (hA 3 (by omega))).2
    exact ⟨fun z => by omega, fun z => by omega⟩
  · have em : min (E - S) 7 = 5 := by omega
    rw [em]
    simp only [vN]
    have b0 := (lt_nI (hA 0 (by omega))).2
    have b1 := (lt_nI (hA 1 (by omega))).2
    have b2 := (lt_nI (hA 2 (by omega))).2
    have b3 := (lt_nI (hA 3 (by omega))).2
    have b4 := (lt_nI (hA 4 (by omega))).2
    exact ⟨fun z => by omega, fun z => by omega⟩
  · have em : min (E - S) 7 = 6 := by omega
    rw [em]
    simp only [vN]
    have b0 := (lt_nI (hA 0 (by omega))).2
    have b1 := (lt_nI (hA 1 (by omega))).2
    have b2 := (lt_nI (hA 2 (by omega))).2
    have b3 := (lt_nI (hA 3 (by omega))).2
    have b4 := (lt_nI (hA 4 (by omega))).2
    have b5 := (lt_nI (hA 5 (by omega))).2
    constructor
    · intro z
      refine ⟨hc, fun k hk => ?_⟩
      have hk2 : k = 0 ∨ k = 1 ∨ k = 2 ∨ k = 3 ∨ k = 4 ∨ k = 5 := by omega
      rcases hk2 with rfl | rfl | rfl | rfl | rfl | rfl
      · rw [(lt_nI (hA 0 (by omega))).1, show ltN (tb (S + 0)) = 119 by omega]; decide
      · rw [(lt_nI (hA 1 (by omega))).1, show ltN (tb (S + 1)) = 97 by omega]; decide
      · rw [(lt_nI (hA 2 (by omega))).1, show ltN (tb (S + 2)) = 108 by omega]; decide
      · rw [(lt_nI (hA 3 (by omega))).1, show ltN (tb (S + 3)) = 107 by omega]; decide
      · rw [(lt_nI (hA 4 (by omega))).1, show ltN (tb (S + 4)) = 101 by omega]; decide
      · rw [(lt_nI (hA 5 (by omega))).1, show ltN (tb (S + 5)) = 114 by omega]; decide
    · rintro ⟨-, z⟩
      have c0 : ltN (tb (S + 0)) = 119 := by rw [z 0 (by decide)]; decide
      have c1 : ltN (tb (S + 1)) = 97 := by rw [z 1 (by decide)]; decide
      have c2 : ltN (tb (S + 2)) = 108 := by rw [z 2 (by decide)]; decide
      have c3 : ltN (tb (S + 3)) = 107 := by rw [z 3 (by decide)]; decide
      have c4 : ltN (tb (S + 4)) = 101 := by rw [z 4 (by decide)]; decide
      have c5 : ltN (tb (S + 5)) = 114 := by rw [z 5 (by decide)]; decide
      omega
  · have em : min (E - S) 7 = 7 := by omega
    rw [em]
    simp only [vN]
    have b0 := (lt_nI (hA 0 (by omega))).2
    have b1 := (lt_nI (hA 1 (by omega))).2
    have b2 := (lt_nI (hA 2 (by omega))).2
    have b3 := (lt_nI (hA 3 (by omega))).2
    have b4 := (lt_nI (hA 4 (by omega))).2
    have b5 := (lt_nI (hA 5 (by omega))).2
    have b6 := (lt_nI (hA 6 (by omega))).2
    exact ⟨fun z => by omega, fun z => by omega⟩
theorem vn_2 {S E : Nat} (hl : 0 < E - S) (hA : ∀ i, i < E - S → isLt (tb (S + i)) = true) : vN tb S (min (E - S) 7) = 1936289387 ↔ wdF tb S E 1 2 = true := by
  have hw : wdF tb S E 1 2 = true ↔ E - S = 4 ∧ ∀ k, k < 4 → tb (S + k) = chS 2 k := by
    unfold wdF
    rw [decide_eq_true_iff]
    exact ⟨fun z => ⟨z.2.1, z.2.2⟩, fun z => ⟨rfl, z.1, z.2⟩⟩
  rw [hw]
  have hc : E - S = 1 ∨ E - S = 2 ∨ E - S = 3 ∨ E - S = 4 ∨ E - S = 5 ∨ E - S = 6 ∨ 7 ≤ E - S := by omega
  rcases hc with hc | hc | hc | hc | hc | hc | hc
  · have em : min (E - S) 7 = 1 := by omega
    rw [em]
    simp only [vN]
    have b0 := (lt_nI (hA 0 (by omega))).2
    exact ⟨fun z => by omega, fun z => by omega⟩
  · have em : min (E - S) 7 = 2 := by omega
    rw [em]
    simp only [vN]
    have b0 := (lt_nI (hA 0 (by omega))).2
    have b1 := (lt_nI (hA 1 (by omega))).2
    exact ⟨fun z => by omega, fun z => by omega⟩
  · have em : min (E - S) 7 = 3 := by omega
    rw [em]
    simp only [vN]
    have b0 := (lt_nI (hA 0 (by omega))).2
    have b1 := (lt_nI (hA 1 (by omega))).2
    have b2 := (lt_nI (hA 2 (by omega))).2
    exact ⟨fun z => by omega, fun z => by omega⟩
  · have em : min (E - S) 7 = 4 := by omega
    rw [em]
    simp only [vN]
    have b0 := (lt_nI (hA 0 (by omega))).2
    have b1 := (lt_nI (hA 1 (by omega))).2
    have b2 := (lt_nI (hA 2 (by omega))).2
    have b3 := (lt_nI (hA 3 (by omega))).2
    constructor
    · intro z
      refine ⟨hc, fun k hk => ?_⟩
      have hk2 : k = 0 ∨ k = 1 ∨ k = 2 ∨ k = 3 := by omega
      rcases hk2 with rfl | rfl | rfl | rfl
      · rw [(lt_nI (hA 0 (by omega))).1, show ltN (tb (S + 0)) = 115 by omega]; decide
      · rw [(lt_nI (hA 1 (by omega))).1, show ltN (tb (S + 1)) = 105 by omega]; decide
      · rw [(lt_nI (hA 2 (by omega))).1, show ltN (tb (S + 2)) = 110 by omega]; decide
      · rw [(lt_nI (hA 3 (by omega))).1, show ltN (tb (S + 3)) = 107 by omega]; decide
    · rintro ⟨-, z⟩
      have c0 : ltN (tb (S + 0)) = 115 := by rw [z 0 (by decide)]; decide
      have c1 : ltN (tb (S + 1)) = 105 := by rw [z 1 (by decide)]; decide
      have c2 : ltN (tb (S + 2)) = 110 := by rw [z 2 (by decide)]; decide
      have c3 : ltN (tb (S + 3)) = 107 := by rw [z 3 (by decide)]; decide
      omega
  · have em : min (E - S) 7 = 5 := by omega
    rw [em]
    simp only [vN]
    have b0 := (lt_nI (hA 0 (by omega))).2
    have b1 := (lt_nI (hA 1 (by omega))).2
    have b2 := (lt_nI (hA 2 (by omega))).2
    have b3 := (lt_nI (hA 3 (by omega))).2
    have b4 := (lt_nI (hA 4 (by omega))).2
    exact ⟨fun z => by omega, fun z => by omega⟩
  · have em : min (E - S) 7 = 6 := by omega
    rw [em]
    simp only [vN]
    have b0 := (lt_nI (hA 0 (by omega))).2
    have b1 := (lt_nI (hA 1 (by omega))).2
    have b2 := (lt_nI (hA 2 (by omega))).2
    have b3 := (lt_nI (hA 3 (by omega))).2
    have b4 := (lt_nI (hA 4 (by omega))).2
    have b5 := (lt_nI (hA 5 (by omega))).2
    exact ⟨fun z => by omega, fun z => by omega⟩
  · have em : min (E - S) 7 = 7 := by omega
    rw [em]
    simp only [vN]
    have b0 := (lt_nI (hA 0 (by omega))).2
    have b1 := (lt_nI (hA 1 (by omega))).2
    have b2 := (lt_nI (hA 2 (by omega))).2
    have b3 := (lt_nI (hA 3 (by omega))).2
    have b4 := (lt_nI (hA 4 (by omega))).2
    have b5 := (lt_nI (hA 5 (by omega))).2
    have b6 := (lt_nI (hA 6 (by omega))).2
    exact ⟨fun z => by omega, fun z => by omega⟩
def vbV (tb : Nat → Int32) (S E : Nat) (o : Int32) : Int32 := (if wdF tb S E o 0 = true then 0 else if wdF tb S E o 1 = true then 1 else if wdF tb S E o 2 = true then 2 else -9)
theorem lpm_verb50 {S E V : Nat} {o : Int32} {a3 : Option Value} (hV : V < 2 ^ 63) (hW0 : V = 7499639 ↔ wdF tb S E o 0 = true) (hW1 : V = 131260314510706 ↔ wdF tb S E o 1 = true) (hW2 : V = 1936289387 ↔ wdF tb S E o 2 = true) : wp g mX7_verb 50 [some (ob g 25), some (.long (Int64.ofNat V)), none, a3] [] M (fun q m => q = some (.int (vbV tb S E o)) ∧ m = M) := by
  refine wp_lload_n (pc' := 51) dX7_verb_50 rfl rfl ?_
  refine wp_ldc2 (pc' := 54) (7499639) dX7_verb_51 rfl (wR14 _ (List.mem_of_getElem? (i := 8) rfl)) ?_
  refine wp_lcmp (pc' := 55) dX7_verb_54 rfl ?_
  refine wp_if_ne (pc' := 58) 62 dX7_verb_55 rfl (by decide) (fun h55 => ?_) (fun h55 => ?_)
  · refine wp_lload_n (pc' := 63) dX7_verb_62 rfl rfl ?_
    refine wp_ldc2 (pc' := 66) (131260314510706) dX7_verb_63 rfl (wR14 _ (List.mem_of_getElem? (i := 9) rfl)) ?_
    refine wp_lcmp (pc' := 67) dX7_verb_66 rfl ?_
    refine wp_if_ne (pc' := 70) 74 dX7_verb_67 rfl (by decide) (fun h67 => ?_) (fun h67 => ?_)
    · refine wp_lload_n (pc' := 75) dX7_verb_74 rfl rfl ?_
      refine wp_ldc2 (pc' := 78) (1936289387) dX7_verb_75 rfl (wR14 _ (List.mem_of_getElem? (i := 10) rfl)) ?_
      refine wp_lcmp (pc' := 79) dX7_verb_78 rfl ?_
      refine wp_if_ne (pc' := 82) 86 dX7_verb_79 rfl (by decide) (fun h79 => ?_) (fun h79 => ?_)
      · refine wp_bipush (pc' := 88) (-9) dX7_verb_86 rfl (by decide) ?_
        refine wp_ireti dX7_verb_88 rfl ?_
        exact ri_ok (by rw [vbV, if_neg (fun z => h55 ((lg_cmp_eq _ _).mpr ((i64_eq hV (by decide)).mpr ((hW0).mpr z)))), if_neg (fun z => h67 ((lg_cmp_eq _ _).mpr ((i64_eq hV (by decide)).mpr ((hW1).mpr z)))), if_neg (fun z => h79 ((lg_cmp_eq _ _).mpr ((i64_eq hV (by decide)).mpr ((hW2).mpr z))))]) rfl
      · refine wp_iconst (pc' := 83) 2 dX7_verb_82 rfl (by decide) ?_
        refine wp_goto 88 dX7_verb_83 (by decide) ?_
        refine wp_ireti dX7_verb_88 rfl ?_
        exact ri_ok (by rw [vbV, if_neg (fun z => h55 ((lg_cmp_eq _ _).mpr ((i64_eq hV (by decide)).mpr ((hW0).mpr z)))), if_neg (fun z => h67 ((lg_cmp_eq _ _).mpr ((i64_eq hV (by decide)).mpr ((hW1).mpr z)))), if_pos ((hW2).mp ((i64_eq hV (by decide)).mp ((lg_cmp_eq _ _).mp h79)))]) rfl
    · refine wp_iconst (pc' := 71) 1 dX7_verb_70 rfl (by decide) ?_
      refine wp_goto 88 dX7_verb_71 (by decide) ?_
      refine wp_ireti dX7_verb_88 rfl ?_
      exact ri_ok (by rw [vbV, if_neg (fun z => h55 ((lg_cmp_eq _ _).mpr ((i64_eq hV (by decide)).mpr ((hW0).mpr z)))), if_pos ((hW1).mp ((i64_eq hV (by decide)).mp ((lg_cmp_eq _ _).mp h67)))]) rfl
  · refine wp_iconst (pc' := 59) 0 dX7_verb_58 rfl (by decide) ?_
    refine wp_goto 88 dX7_verb_59 (by decide) ?_
    refine wp_ireti dX7_verb_88 rfl ?_
    exact ri_ok (by rw [vbV, if_pos ((hW0).mp ((i64_eq hV (by decide)).mp ((lg_cmp_eq _ _).mp h55)))]) rfl
theorem lpm_verb1 (hT : TXM M t tb) {S l : Nat} {x : Int32} (h20 : M.1 25 20 = 1) (h21 : M.1 25 21 = nI S) (h22 : M.1 25 22 = nI l) (hl : S + l ≤ t) (hA : ∀ i, i < l → isLt (tb (S + i)) = true) (K : wp g mX7_verb 50 [some (ob g 25), some (.long (Int64.ofNat (vN tb S (min l 7)))), none, some (.int (nI (min l 7)))] [] M (fun q m => q = some (.int x) ∧ m = M)) : ∀ (n k : Nat), k + n = min l 7 → wp g mX7_verb 4 [some (ob g 25), some (.long (Int64.ofNat (vN tb S k))), none, some (.int (nI (k)))] [] M (fun q m => q = some (.int x) ∧ m = M) := by
  have h3 := hT.1
  intro n
  induction n with
  | zero =>
    intro k hk
    obtain rfl : k = min l 7 := by omega
    refine wp_iload_n (pc' := 5) dX7_verb_4 rfl rfl ?_
    refine wp_aload_n (pc' := 6) dX7_verb_5 rfl rfl ⟨_, rfl⟩ ?_
    refine wp_get (pc' := 9) (o := 25) dX7_verb_6 rfl flX7_85 (by decide) rfl rfl ?_
    refine wp_top ((show M.1 25 22 = nI l from h22)) ?_
    refine wp_icmp_ge (pc' := 12) 50 dX7_verb_9 rfl (by decide) (fun h9 => ?_) (fun h9 => ?_)
    · exact K
    · refine wp_iload_n (pc' := 13) dX7_verb_12 rfl rfl ?_
      refine wp_bipush (pc' := 15) 7 dX7_verb_13 rfl (by decide) ?_
      refine wp_icmp_ge (pc' := 18) 50 dX7_verb_15 rfl (by decide) (fun h15 => ?_) (fun h15 => ?_)
      · exact K
      · exact absurd (Nat.le_min.mpr ⟨Nat.lt_of_not_le fun z => h9 (nI_le z (by omega)), Nat.lt_of_not_le fun z => h15 (nI_le (a := 7) z (by omega))⟩) (Nat.not_le.mpr (Nat.lt_succ_self _))
  | succ n ih =>
    intro k hk
    have hk1 : k < l := by omega
    have hk2 : k < 7 := by omega
    refine wp_iload_n (pc' := 5) dX7_verb_4 rfl rfl ?_
    refine wp_aload_n (pc' := 6) dX7_verb_5 rfl rfl ⟨_, rfl⟩ ?_
    refine wp_get (pc' := 9) (o := 25) dX7_verb_6 rfl flX7_85 (by decide) rfl rfl ?_
    refine wp_top ((show M.1 25 22 = nI l from h22)) ?_
    refine wp_icmp_ge (pc' := 12) 50 dX7_verb_9 rfl (by decide) (fun h9 => ?_) (fun h9 => ?_)
    · exact absurd h9 (nI_ge hk1 (by omega))
    · refine wp_iload_n (pc' := 13) dX7_verb_12 rfl rfl ?_
      refine wp_bipush (pc' := 15) 7 dX7_verb_13 rfl (by decide) ?_
      refine wp_icmp_ge (pc' := 18) 50 dX7_verb_15 rfl (by decide) (fun h15 => ?_) (fun h15 => ?_)
      · exact absurd h15 (nI_ge (b := 7) hk2 (by decide))
      · refine wp_aload_n (pc' := 19) dX7_verb_18 rfl rfl ⟨_, rfl⟩ ?_
        refine wp_get (pc' := 22) (o := 25) dX7_verb_19 rfl flX7_82 (by decide) rfl rfl ?_
        refine wp_iconst (pc' := 23) 1 dX7_verb_22 rfl (by decide) ?_
        refine wp_icmp_ne (pc' := 26) 50 dX7_verb_23 rfl (by decide) (fun h23 => ?_) (fun h23 => ?_)
        · exact absurd h20 h23
        · refine wp_ldc2 (pc' := 29) (256) dX7_verb_26 rfl (wR14 _ (List.mem_of_getElem? (i := 7) rfl)) ?_
          refine wp_lload_n (pc' := 30) dX7_verb_29 rfl rfl ?_
          refine wp_lmul (pc' := 31) dX7_verb_30 rfl ?_
          refine wp_aload_n (pc' := 32) dX7_verb_31 rfl rfl ⟨_, rfl⟩ ?_
          refine wp_aload_n (pc' := 33) dX7_verb_32 rfl rfl ⟨_, rfl⟩ ?_
          refine wp_get (pc' := 36) (o := 25) dX7_verb_33 rfl flX7_76 (by decide) rfl rfl ?_
          refine wp_top ((show M.1 25 21 = nI S from h21)) ?_
          refine wp_iload_n (pc' := 37) dX7_verb_36 rfl rfl ?_
          refine wp_iadd (pc' := 38) dX7_verb_37 rfl ?_
          refine wp_top ((nI_add S k)) ?_
          refine wp_cVI (μ' := mX7_byteAt) (pc' := 41) (o := 25) dX7_verb_38 rfl mlX7_72 cfX7_byteAt ⟨(Nat.le_of_ble_eq_true rfl), (Nat.le_of_ble_eq_true rfl)⟩ (sm_byteAt hT (j := S + k) (by omega)) (by decide) rfl rfl rfl rfl rfl (Nat.le_of_ble_eq_true rfl) ?_
          refine wp_top ((show byN t tb (S + k) = tb (S + k) from if_pos (by omega))) ?_
          refine wp_i2l (pc' := 42) dX7_verb_41 rfl ?_
          refine wp_ladd (pc' := 43) dX7_verb_42 rfl ?_
          refine wp_ltop (v_step (vN tb S k) (hA k (by omega))) ?_
          refine wp_lst1 (pc' := 44) dX7_verb_43 rfl (by decide) rfl ?_
          refine wp_inc3 (pc' := 47) (nI (k + 1)) dX7_verb_44 rfl (by decide) rfl (nI_1 k) ?_
          refine wp_goto 4 dX7_verb_47 (by decide) ?_
          exact ih (k + 1) (by omega)
theorem lpm_verb0 {l : Nat} {o x : Int32} (h20 : M.1 25 20 = o) (ho : ¬ o = 1) (h22 : M.1 25 22 = nI l) (K : wp g mX7_verb 50 [some (ob g 25), some (.long (Int64.ofNat (0))), none, some (.int (nI (0)))] [] M (fun q m => q = some (.int x) ∧ m = M)) : wp g mX7_verb 4 [some (ob g 25), some (.long (Int64.ofNat (0))), none, some (.int (nI (0)))] [] M (fun q m => q = some (.int x) ∧ m = M) := by
  refine wp_iload_n (pc' := 5) dX7_verb_4 rfl rfl ?_
  refine wp_aload_n (pc' := 6) dX7_verb_5 rfl rfl ⟨_, rfl⟩ ?_
  refine wp_get (pc' := 9) (o := 25) dX7_verb_6 rfl flX7_85 (by decide) rfl rfl ?_
  refine wp_top ((show M.1 25 22 = nI l from h22)) ?_
  refine wp_icmp_ge (pc' := 12) 50 dX7_verb_9 rfl (by decide) (fun h9 => ?_) (fun h9 => ?_)
  · exact K
  · refine wp_iload_n (pc' := 13) dX7_verb_12 rfl rfl ?_
    refine wp_bipush (pc' := 15) 7 dX7_verb_13 rfl (by decide) ?_
    refine wp_icmp_ge (pc' := 18) 50 dX7_verb_15 rfl (by decide) (fun h15 => ?_) (fun h15 => ?_)
    · exact K
    · refine wp_aload_n (pc' := 19) dX7_verb_18 rfl rfl ⟨_, rfl⟩ ?_
      refine wp_get (pc' := 22) (o := 25) dX7_verb_19 rfl flX7_82 (by decide) rfl rfl ?_
      refine wp_top ((show M.1 25 20 = o from h20)) ?_
      refine wp_iconst (pc' := 23) 1 dX7_verb_22 rfl (by decide) ?_
      refine wp_icmp_ne (pc' := 26) 50 dX7_verb_23 rfl (by decide) (fun h23 => ?_) (fun h23 => ?_)
      · exact K
      · exact absurd h23 ho
theorem sm_verb (hT : TXM M t tb) (hp : p ≤ t) (h20 : M.1 25 20 = tkO t tb p) (h21 : M.1 25 21 = nI (tkS t tb p)) (h22 : M.1 25 22 = nI (tkE t tb p - tkS t tb p)) : RI g mX7_verb [ob g 25] M (vbV tb (tkS t tb p) (tkE t tb p) (tkO t tb p)) M := by
  obtain ⟨k1, k2⟩ := tk_S (tb := tb) hp
  obtain ⟨k3, k4, k5⟩ := tk_E (tb := tb) hp
  refine spec_of_wp (ls := [some (ob g 25), none, none, none]) rfl (Nat.le_of_ble_eq_true rfl) 3 rfl ?_
  refine wp_lconst (pc' := 1) 0 dX7_verb_0 rfl (by decide) ?_
  refine wp_lst1 (pc' := 2) dX7_verb_1 rfl (by decide) rfl ?_
  refine wp_iconst (pc' := 3) 0 dX7_verb_2 rfl (by decide) ?_
  refine wp_ist3 (pc' := 4) dX7_verb_3 rfl (by decide) rfl ?_
  by_cases h1 : tkO t tb p = 1
  · obtain ⟨e9, hA⟩ := tk_1 hp h1
    have hA2 : ∀ i, i < tkE t tb p - tkS t tb p → isLt (tb (tkS t tb p + i)) = true := fun i hi => hA _ (by omega) (by omega)
    have hlt := k5 (fun z => absurd (h1.symm.trans z) (by decide))
    have hV := vN_lt (min (tkE t tb p - tkS t tb p) 7) (fun i hi => hA2 i (by omega))
    have hV2 : 256 ^ (min (tkE t tb p - tkS t tb p) 7) ≤ 256 ^ 7 := Nat.pow_le_pow_right (by decide) (Nat.min_le_right _ _)
    refine lpm_verb1 hT (S := tkS t tb p) (l := tkE t tb p - tkS t tb p) (h20.trans h1) h21 h22 (by omega) hA2 ?_ (min (tkE t tb p - tkS t tb p) 7) 0 (Nat.zero_add _)
    rw [h1]
    exact lpm_verb50 (by omega) (vn_0 (by omega) hA2) (vn_1 (by omega) hA2) (vn_2 (by omega) hA2)
  · have hno : ∀ (c i : Nat), 0 < c → (0 = c ↔ wdF tb (tkS t tb p) (tkE t tb p) (tkO t tb p) i = true) := fun c i hc => ⟨fun z => by omega, fun z => absurd (of_decide_eq_true z).1 h1⟩
    refine lpm_verb0 h20 h1 h22 ?_
    exact lpm_verb50 (by decide) (hno _ 0 (by decide)) (hno _ 1 (by decide)) (hno _ 2 (by decide))
theorem two_fig2 {x0 x1 : Int32} (d0 : isDg x0 = true) (d1 : isDg x1 = true) : (10 * nI (dgN x0) + x1) - 48 = nI (10 * dgN x0 + dgN x1) := by
  have e2 : ∀ a b : Int32, a + b - 48 = a + (b - 48) := fun a b => by rw [Int32.sub_eq_add_neg, Int32.add_assoc, ← Int32.sub_eq_add_neg]
  rw [e2, (dg_ok d1).1]
  show nI 10 * nI _ + nI _ = _
  unfold nI
  rw [← Int32.ofNat_mul, ← Int32.ofNat_add]
theorem nb_lt {b v : Nat} (hb : b ≤ 24) (hv : v ≤ 99) : nI b - 1 < nI v ↔ ¬ v < b := by
  rw [Int32.lt_iff_toInt_lt, ti_sub1 (by omega), nI_toInt (by omega)]
  omega
theorem sm_number (hT : TXM M t tb) (hp : p ≤ t) (hb : M.1 25 19 = nI p) {b : Nat} (hb24 : b ≤ 24) : SI g mX7_number [ob g 25, .int (nI b - 1)] M (fun x m => (∃ f, m = setO M 25 f ∧ (∀ k, ¬ k = 19 → ¬ k = 20 → ¬ k = 21 → ¬ k = 22 → f k = M.1 25 k) ∧ f 21 = nI (tkS t tb p) ∧ f 19 = nI (tkE t tb p)) ∧ x = if nuB t tb b p then nI (nuN t tb p) else -9) := by
  have h3 := hT.1
  obtain ⟨k1, k2⟩ := tk_S (tb := tb) hp
  obtain ⟨k3, k4, k5⟩ := tk_E (tb := tb) hp
  refine spec_of_wp (ls := [some (ob g 25), some (.int (nI b - 1)), none]) rfl (Nat.le_of_ble_eq_true rfl) 1 rfl ?_
  refine wp_aload_n (pc' := 1) dX7_number_0 rfl rfl ⟨_, rfl⟩ ?_
  refine wp_sVV (μ' := mX7_token) (pc' := 4) (o := 25) dX7_number_1 rfl mlX7_96 cfX7_token ⟨(Nat.le_of_ble_eq_true rfl), (Nat.le_of_ble_eq_true rfl)⟩ (sm_token hT hp hb) (by decide) rfl rfl rfl rfl rfl (Nat.le_of_ble_eq_true rfl) (fun m hm => ?_)
  obtain ⟨f, rfl, hf, f21, f19, f20, f22⟩ := hm
  refine wp_aload_n (pc' := 5) dX7_number_4 rfl rfl ⟨_, rfl⟩ ?_
  refine wp_get (pc' := 8) (o := 25) dX7_number_5 rfl flX7_82 (by decide) rfl rfl ?_
  refine wp_top ((show (setO M 25 f).1 25 20 = tkO t tb p from f20)) ?_
  refine wp_iconst (pc' := 9) 2 dX7_number_8 rfl (by decide) ?_
  refine wp_icmp_ne (pc' := 12) 41 dX7_number_9 rfl (by decide) (fun h9 => ?_) (fun h9 => ?_)
  · refine wp_bipush (pc' := 43) (-9) dX7_number_41 rfl (by decide) ?_
    refine wp_ireti dX7_number_43 rfl ?_
    exact ⟨_, rfl, ⟨f, rfl, hf, f21, f19⟩, (if_neg (fun z => h9 z.1.1)).symm⟩
  · refine wp_aload_n (pc' := 13) dX7_number_12 rfl rfl ⟨_, rfl⟩ ?_
    refine wp_get (pc' := 16) (o := 25) dX7_number_13 rfl flX7_85 (by decide) rfl rfl ?_
    refine wp_top ((show (setO M 25 f).1 25 22 = nI (tkE t tb p - tkS t tb p) from f22)) ?_
    refine wp_iconst (pc' := 17) 2 dX7_number_16 rfl (by decide) ?_
    refine wp_icmp_gt (pc' := 20) 41 dX7_number_17 rfl (by decide) (fun h17 => ?_) (fun h17 => ?_)
    · refine wp_bipush (pc' := 43) (-9) dX7_number_41 rfl (by decide) ?_
      refine wp_ireti dX7_number_43 rfl ?_
      exact ⟨_, rfl, ⟨f, rfl, hf, f21, f19⟩, (if_neg (fun z => absurd ((nI_ltI (a := 2) (b := tkE t tb p - tkS t tb p) (by decide) (by omega)).mp h17) (Nat.not_lt.mpr z.1.2.1))).symm⟩
    · refine wp_aload_n (pc' := 21) dX7_number_20 rfl rfl ⟨_, rfl⟩ ?_
      refine wp_get (pc' := 24) (o := 25) dX7_number_21 rfl flX7_85 (by decide) rfl rfl ?_
      refine wp_top ((show (setO M 25 f).1 25 22 = nI (tkE t tb p - tkS t tb p) from f22)) ?_
      refine wp_iconst (pc' := 25) 2 dX7_number_24 rfl (by decide) ?_
      refine wp_icmp_ne (pc' := 28) 44 dX7_number_25 rfl (by decide) (fun h25 => ?_) (fun h25 => ?_)
      · have hD : nuD tb (tkS t tb p) (tkE t tb p) := ⟨Nat.not_lt.mp fun z => h17 (nI_lt (a := 2) (b := tkE t tb p - tkS t tb p) z (by omega)), fun z => h25 (by rw [z.1]; rfl)⟩
        have hA := (tk_2 hp h9).2
        have hlt := k5 (fun z => absurd (h9.symm.trans z) (by decide))
        have d0 := hA _ (Nat.le_refl _) hlt
        have hv := nu_le hp ⟨h9, hD⟩
        refine wp_aload_n (pc' := 45) dX7_number_44 rfl rfl ⟨_, rfl⟩ ?_
        refine wp_aload_n (pc' := 46) dX7_number_45 rfl rfl ⟨_, rfl⟩ ?_
        refine wp_get (pc' := 49) (o := 25) dX7_number_46 rfl flX7_76 (by decide) rfl rfl ?_
        refine wp_top ((show (setO M 25 f).1 25 21 = nI (tkS t tb p) from f21)) ?_
        refine wp_cVI (μ' := mX7_byteAt) (pc' := 52) (o := 25) dX7_number_49 rfl mlX7_72 cfX7_byteAt ⟨(Nat.le_of_ble_eq_true rfl), (Nat.le_of_ble_eq_true rfl)⟩ ((sm_byteAt (txm_f hT (hf 3 (by decide) (by decide) (by decide) (by decide))) (j := tkS t tb p) (by omega))) (by decide) rfl rfl rfl rfl rfl (Nat.le_of_ble_eq_true rfl) ?_
        refine wp_bipush (pc' := 54) 48 dX7_number_52 rfl (by decide) ?_
        refine wp_isub (pc' := 55) dX7_number_54 rfl ?_
        refine wp_top ((show byN t tb (tkS t tb p) - 48 = nI (dgN (tb (tkS t tb p))) by rw [byN, if_pos (by omega)]; exact (dg_ok d0).1)) ?_
        refine wp_ist2 (pc' := 56) dX7_number_55 rfl (by decide) rfl ?_
        refine wp_aload_n (pc' := 57) dX7_number_56 rfl rfl ⟨_, rfl⟩ ?_
        refine wp_get (pc' := 60) (o := 25) dX7_number_57 rfl flX7_85 (by decide) rfl rfl ?_
        refine wp_top ((show (setO M 25 f).1 25 22 = nI (tkE t tb p - tkS t tb p) from f22)) ?_
        refine wp_iconst (pc' := 61) 2 dX7_number_60 rfl (by decide) ?_
        refine wp_icmp_ne (pc' := 64) 85 dX7_number_61 rfl (by decide) (fun h61 => ?_) (fun h61 => ?_)
        · refine wp_iload_n (pc' := 86) dX7_number_85 rfl rfl ?_
          refine wp_top ((show nI (dgN (tb (tkS t tb p))) = nI (nuN t tb p) by rw [nuN, nuV, if_neg (fun z => h61 (by rw [z]; rfl))])) ?_
          refine wp_ist2 (pc' := 87) dX7_number_86 rfl (by decide) rfl ?_
          refine wp_iload_n (pc' := 88) dX7_number_87 rfl rfl ?_
          refine wp_iload_n (pc' := 89) dX7_number_88 rfl rfl ?_
          refine wp_icmp_gt (pc' := 92) 96 dX7_number_89 rfl (by decide) (fun h89 => ?_) (fun h89 => ?_)
          · refine wp_bipush (pc' := 98) (-9) dX7_number_96 rfl (by decide) ?_
            refine wp_ireti dX7_number_98 rfl ?_
            exact ⟨_, rfl, ⟨f, rfl, hf, f21, f19⟩, (if_neg (fun z => absurd z.2 ((nb_lt hb24 hv).mp h89))).symm⟩
          · refine wp_iload_n (pc' := 93) dX7_number_92 rfl rfl ?_
            refine wp_goto 98 dX7_number_93 (by decide) ?_
            refine wp_ireti dX7_number_98 rfl ?_
            exact ⟨_, rfl, ⟨f, rfl, hf, f21, f19⟩, (if_pos ⟨⟨h9, hD⟩, Classical.not_not.mp (mt (nb_lt hb24 hv).mpr h89)⟩).symm⟩
        · have e2 : tkE t tb p - tkS t tb p = 2 := nN_inj (b := 2) (by omega) (by decide) h61
          refine wp_bipush (pc' := 66) 10 dX7_number_64 rfl (by decide) ?_
          refine wp_iload_n (pc' := 67) dX7_number_66 rfl rfl ?_
          refine wp_imul (pc' := 68) dX7_number_67 rfl ?_
          refine wp_aload_n (pc' := 69) dX7_number_68 rfl rfl ⟨_, rfl⟩ ?_
          refine wp_aload_n (pc' := 70) dX7_number_69 rfl rfl ⟨_, rfl⟩ ?_
          refine wp_get (pc' := 73) (o := 25) dX7_number_70 rfl flX7_76 (by decide) rfl rfl ?_
          refine wp_top ((show (setO M 25 f).1 25 21 = nI (tkS t tb p) from f21)) ?_
          refine wp_iconst (pc' := 74) 1 dX7_number_73 rfl (by decide) ?_
          refine wp_iadd (pc' := 75) dX7_number_74 rfl ?_
          refine wp_top ((nI_1 (tkS t tb p))) ?_
          refine wp_cVI (μ' := mX7_byteAt) (pc' := 78) (o := 25) dX7_number_75 rfl mlX7_72 cfX7_byteAt ⟨(Nat.le_of_ble_eq_true rfl), (Nat.le_of_ble_eq_true rfl)⟩ ((sm_byteAt (txm_f hT (hf 3 (by decide) (by decide) (by decide) (by decide))) (j := tkS t tb p + 1) (by omega))) (by decide) rfl rfl rfl rfl rfl (Nat.le_of_ble_eq_true rfl) ?_
          refine wp_top ((show byN t tb (tkS t tb p + 1) = tb (tkS t tb p + 1) from if_pos (by omega))) ?_
          refine wp_iadd (pc' := 79) dX7_number_78 rfl ?_
          refine wp_bipush (pc' := 81) 48 dX7_number_79 rfl (by decide) ?_
          refine wp_isub (pc' := 82) dX7_number_81 rfl ?_
          refine wp_top ((show (10 * nI (dgN (tb (tkS t tb p))) + tb (tkS t tb p + 1)) - 48 = nI (nuN t tb p) by rw [two_fig2 d0 (hA (tkS t tb p + 1) (by omega) (by omega)), nuN, nuV, if_pos e2])) ?_
          refine wp_goto 86 dX7_number_82 (by decide) ?_
          refine wp_ist2 (pc' := 87) dX7_number_86 rfl (by decide) rfl ?_
          refine wp_iload_n (pc' := 88) dX7_number_87 rfl rfl ?_
          refine wp_iload_n (pc' := 89) dX7_number_88 rfl rfl ?_
          refine wp_icmp_gt (pc' := 92) 96 dX7_number_89 rfl (by decide) (fun h89 => ?_) (fun h89 => ?_)
          · refine wp_bipush (pc' := 98) (-9) dX7_number_96 rfl (by decide) ?_
            refine wp_ireti dX7_number_98 rfl ?_
            exact ⟨_, rfl, ⟨f, rfl, hf, f21, f19⟩, (if_neg (fun z => absurd z.2 ((nb_lt hb24 hv).mp h89))).symm⟩
          · refine wp_iload_n (pc' := 93) dX7_number_92 rfl rfl ?_
            refine wp_goto 98 dX7_number_93 (by decide) ?_
            refine wp_ireti dX7_number_98 rfl ?_
            exact ⟨_, rfl, ⟨f, rfl, hf, f21, f19⟩, (if_pos ⟨⟨h9, hD⟩, Classical.not_not.mp (mt (nb_lt hb24 hv).mpr h89)⟩).symm⟩
      · have hlt9 := (tk_lt hp (fun z => absurd (h9.symm.trans z) (by decide))).1
        refine wp_aload_n (pc' := 29) dX7_number_28 rfl rfl ⟨_, rfl⟩ ?_
        refine wp_aload_n (pc' := 30) dX7_number_29 rfl rfl ⟨_, rfl⟩ ?_
        refine wp_get (pc' := 33) (o := 25) dX7_number_30 rfl flX7_76 (by decide) rfl rfl ?_
        refine wp_top ((show (setO M 25 f).1 25 21 = nI (tkS t tb p) from f21)) ?_
        refine wp_cVI (μ' := mX7_byteAt) (pc' := 36) (o := 25) dX7_number_33 rfl mlX7_72 cfX7_byteAt ⟨(Nat.le_of_ble_eq_true rfl), (Nat.le_of_ble_eq_true rfl)⟩ ((sm_byteAt (txm_f hT (hf 3 (by decide) (by decide) (by decide) (by decide))) (j := tkS t tb p) (by omega))) (by decide) rfl rfl rfl rfl rfl (Nat.le_of_ble_eq_true rfl) ?_
        refine wp_top ((show byN t tb (tkS t tb p) = tb (tkS t tb p) from if_pos (by omega))) ?_
        refine wp_bipush (pc' := 38) 48 dX7_number_36 rfl (by decide) ?_
        refine wp_icmp_ne (pc' := 41) 44 dX7_number_38 rfl (by decide) (fun h38 => ?_) (fun h38 => ?_)
        · have hD : nuD tb (tkS t tb p) (tkE t tb p) := ⟨Nat.not_lt.mp fun z => h17 (nI_lt (a := 2) (b := tkE t tb p - tkS t tb p) z (by omega)), fun z => h38 z.2⟩
          have hA := (tk_2 hp h9).2
          have hlt := k5 (fun z => absurd (h9.symm.trans z) (by decide))
          have d0 := hA _ (Nat.le_refl _) hlt
          have hv := nu_le hp ⟨h9, hD⟩
          refine wp_aload_n (pc' := 45) dX7_number_44 rfl rfl ⟨_, rfl⟩ ?_
          refine wp_aload_n (pc' := 46) dX7_number_45 rfl rfl ⟨_, rfl⟩ ?_
          refine wp_get (pc' := 49) (o := 25) dX7_number_46 rfl flX7_76 (by decide) rfl rfl ?_
          refine wp_top ((show (setO M 25 f).1 25 21 = nI (tkS t tb p) from f21)) ?_
          refine wp_cVI (μ' := mX7_byteAt) (pc' := 52) (o := 25) dX7_number_49 rfl mlX7_72 cfX7_byteAt ⟨(Nat.le_of_ble_eq_true rfl), (Nat.le_of_ble_eq_true rfl)⟩ ((sm_byteAt (txm_f hT (hf 3 (by decide) (by decide) (by decide) (by decide))) (j := tkS t tb p) (by omega))) (by decide) rfl rfl rfl rfl rfl (Nat.le_of_ble_eq_true rfl) ?_
          refine wp_bipush (pc' := 54) 48 dX7_number_52 rfl (by decide) ?_
          refine wp_isub (pc' := 55) dX7_number_54 rfl ?_
          refine wp_top ((show byN t tb (tkS t tb p) - 48 = nI (dgN (tb (tkS t tb p))) by rw [byN, if_pos (by omega)]; exact (dg_ok d0).1)) ?_
          refine wp_ist2 (pc' := 56) dX7_number_55 rfl (by decide) rfl ?_
          refine wp_aload_n (pc' := 57) dX7_number_56 rfl rfl ⟨_, rfl⟩ ?_
          refine wp_get (pc' := 60) (o := 25) dX7_number_57 rfl flX7_85 (by decide) rfl rfl ?_
          refine wp_top ((show (setO M 25 f).1 25 22 = nI (tkE t tb p - tkS t tb p) from f22)) ?_
          refine wp_iconst (pc' := 61) 2 dX7_number_60 rfl (by decide) ?_
          refine wp_icmp_ne (pc' := 64) 85 dX7_number_61 rfl (by decide) (fun h61 => ?_) (fun h61 => ?_)
          · refine wp_iload_n (pc' := 86) dX7_number_85 rfl rfl ?_
            refine wp_top ((show nI (dgN (tb (tkS t tb p))) = nI (nuN t tb p) by rw [nuN, nuV, if_neg (fun z => h61 (by rw [z]; rfl))])) ?_
            refine wp_ist2 (pc' := 87) dX7_number_86 rfl (by decide) rfl ?_
            refine wp_iload_n (pc' := 88) dX7_number_87 rfl rfl ?_
            refine wp_iload_n (pc' := 89) dX7_number_88 rfl rfl ?_
            refine wp_icmp_gt (pc' := 92) 96 dX7_number_89 rfl (by decide) (fun h89 => ?_) (fun h89 => ?_)
            · refine wp_bipush (pc' := 98) (-9) dX7_number_96 rfl (by decide) ?_
              refine wp_ireti dX7_number_98 rfl ?_
              exact ⟨_, rfl, ⟨f, rfl, hf, f21, f19⟩, (if_neg (fun z => absurd z.2 ((nb_lt hb24 hv).mp h89))).symm⟩
            · refine wp_iload_n (pc' := 93) dX7_number_92 rfl rfl ?_
              refine wp_goto 98 dX7_number_93 (by decide) ?_
              refine wp_ireti dX7_number_98 rfl ?_
              exact ⟨_, rfl, ⟨f, rfl, hf, f21, f19⟩, (if_pos ⟨⟨h9, hD⟩, Classical.not_not.mp (mt (nb_lt hb24 hv).mpr h89)⟩).symm⟩
          · have e2 : tkE t tb p - tkS t tb p = 2 := nN_inj (b := 2) (by omega) (by decide) h61
            refine wp_bipush (pc' := 66) 10 dX7_number_64 rfl (by decide) ?_
            refine wp_iload_n (pc' := 67) dX7_number_66 rfl rfl ?_
            refine wp_imul (pc' := 68) dX7_number_67 rfl ?_
            refine wp_aload_n (pc' := 69) dX7_number_68 rfl rfl ⟨_, rfl⟩ ?_
            refine wp_aload_n (pc' := 70) dX7_number_69 rfl rfl ⟨_, rfl⟩ ?_
            refine wp_get (pc' := 73) (o := 25) dX7_number_70 rfl flX7_76 (by decide) rfl rfl ?_
            refine wp_top ((show (setO M 25 f).1 25 21 = nI (tkS t tb p) from f21)) ?_
            refine wp_iconst (pc' := 74) 1 dX7_number_73 rfl (by decide) ?_
            refine wp_iadd (pc' := 75) dX7_number_74 rfl ?_
            refine wp_top ((nI_1 (tkS t tb p))) ?_
            refine wp_cVI (μ' := mX7_byteAt) (pc' := 78) (o := 25) dX7_number_75 rfl mlX7_72 cfX7_byteAt ⟨(Nat.le_of_ble_eq_true rfl), (Nat.le_of_ble_eq_true rfl)⟩ ((sm_byteAt (txm_f hT (hf 3 (by decide) (by decide) (by decide) (by decide))) (j := tkS t tb p + 1) (by omega))) (by decide) rfl rfl rfl rfl rfl (Nat.le_of_ble_eq_true rfl) ?_
            refine wp_top ((show byN t tb (tkS t tb p + 1) = tb (tkS t tb p + 1) from if_pos (by omega))) ?_
            refine wp_iadd (pc' := 79) dX7_number_78 rfl ?_
            refine wp_bipush (pc' := 81) 48 dX7_number_79 rfl (by decide) ?_
            refine wp_isub (pc' := 82) dX7_number_81 rfl ?_
            refine wp_top ((show (10 * nI (dgN (tb (tkS t tb p))) + tb (tkS t tb p + 1)) - 48 = nI (nuN t tb p) by rw [two_fig2 d0 (hA (tkS t tb p + 1) (by omega) (by omega)), nuN, nuV, if_pos e2])) ?_
            refine wp_goto 86 dX7_number_82 (by decide) ?_
            refine wp_ist2 (pc' := 87) dX7_number_86 rfl (by decide) rfl ?_
            refine wp_iload_n (pc' := 88) dX7_number_87 rfl rfl ?_
            refine wp_iload_n (pc' := 89) dX7_number_88 rfl rfl ?_
            refine wp_icmp_gt (pc' := 92) 96 dX7_number_89 rfl (by decide) (fun h89 => ?_) (fun h89 => ?_)
            · refine wp_bipush (pc' := 98) (-9) dX7_number_96 rfl (by decide) ?_
              refine wp_ireti dX7_number_98 rfl ?_
              exact ⟨_, rfl, ⟨f, rfl, hf, f21, f19⟩, (if_neg (fun z => absurd z.2 ((nb_lt hb24 hv).mp h89))).symm⟩
            · refine wp_iload_n (pc' := 93) dX7_number_92 rfl rfl ?_
              refine wp_goto 98 dX7_number_93 (by decide) ?_
              refine wp_ireti dX7_number_98 rfl ?_
              exact ⟨_, rfl, ⟨f, rfl, hf, f21, f19⟩, (if_pos ⟨⟨h9, hD⟩, Classical.not_not.mp (mt (nb_lt hb24 hv).mpr h89)⟩).symm⟩
        · refine wp_bipush (pc' := 43) (-9) dX7_number_41 rfl (by decide) ?_
          refine wp_ireti dX7_number_43 rfl ?_
          exact ⟨_, rfl, ⟨f, rfl, hf, f21, f19⟩, (if_neg (fun z => z.1.2.2 ⟨nN_inj (b := 2) (by omega) (by decide) h25, h38⟩)).symm⟩
end MV
