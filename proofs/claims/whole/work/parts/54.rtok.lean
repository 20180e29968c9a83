/-! ===== the class reads a token ===== -/
def TXC (M : Mem) (t : Nat) (tb : Nat → Int32) : Prop := t ≤ 300 ∧ M.1 2 1 = nI t ∧ ∀ i, i < t → M.1 3 i = tb i
theorem setO_of {M m : Mem} {o : Nat} (h : ∀ a, ¬ a = o → m.1 a = M.1 a) (h2 : m.2 = M.2) : m = setO M o (m.1 o) := by
  refine Prod.ext (funext fun a => ?_) h2
  show m.1 a = if a = o then m.1 o else M.1 a
  by_cases e : a = o
  · rw [if_pos e, e]
  · rw [if_neg e, h a e]
section RT
variable {g : GG} {M : Mem} {t p : Nat} {tb : Nat → Int32}
theorem byF_N (hT : TXC M t tb) {i : Nat} (hi : i < 2 ^ 31) : byF M (nI i) = byN t tb i := by
  have h3 := hT.1
  unfold byF byN
  by_cases h : i < t
  · rw [if_pos h, if_neg (show ¬ (nI i < 0 ∨ M.1 2 1 ≤ nI i ∨ 300 ≤ nI i) from not_or.mpr ⟨nI_pos hi, not_or.mpr ⟨by rw [hT.2.1]; exact nI_ge h (by omega), nI_ge (a := i) (b := 300) (by omega) (by decide)⟩⟩), nI_clamp hi, hT.2.2 i h]
  · rw [if_neg h, if_pos (Or.inr (Or.inl (by rw [hT.2.1]; exact nI_le (by omega) hi)))]
theorem br_rn {lo hi : Int32} (hT : TXC M t tb) : ∀ n i, i + n = 300 → brF M lo hi n (nI i) = nI (rnG (fun x => decide (lo ≤ x ∧ x ≤ hi)) tb (t - i) i) := by
  have h3 := hT.1
  intro n
  induction n with
  | zero => intro i hi; rw [brF, show t - i = 0 by omega]; rfl
  | succ n ih =>
    intro i hi2
    rw [brF]
    by_cases h : i < t
    · have h0 : ¬ M.1 2 1 ≤ nI i := by rw [hT.2.1]; exact nI_ge h (by omega)
      have e : byF M (nI i) = tb i := by rw [byF_N hT (by omega), byN, if_pos h]
      obtain ⟨d, hd⟩ : ∃ d, t - i = d + 1 := ⟨t - i - 1, by omega⟩
      rw [e, hd, rnG]
      by_cases hp : decide (lo ≤ tb i ∧ tb i ≤ hi) = true
      · rw [if_pos hp, if_neg (not_or.mpr ⟨h0, rg_of.mp hp⟩), nI_1, ih (i + 1) (by omega), show t - (i + 1) = d by omega]
      · rw [if_neg hp, if_pos (Or.inr (Classical.not_not.mp (mt rg_of.mpr hp)))]
    · rw [if_pos (Or.inl (by rw [hT.2.1]; exact nI_le (by omega) (by omega))), show t - i = 0 by omega]; rfl
theorem br_S (hT : TXC M t tb) (hp : p ≤ t) : brF M 32 32 (300 - p) (nI p) = nI (tkS t tb p) := by
  have h3 := hT.1
  exact br_rn hT (300 - p) p (by omega)
theorem br_E1 (hT : TXC M t tb) (hp : p ≤ t) (hO : tkO t tb p = 1) : brF M 97 122 (300 - tkS t tb p) (nI (tkS t tb p)) = nI (tkE t tb p) := by
  have h3 := hT.1
  have h4 := (tk_S (tb := tb) hp).2
  rw [(tk_1 hp hO).1]
  exact br_rn hT (300 - tkS t tb p) (tkS t tb p) (by omega)
theorem br_E2 (hT : TXC M t tb) (hp : p ≤ t) (hO : tkO t tb p = 2) : brF M 48 57 (300 - tkS t tb p) (nI (tkS t tb p)) = nI (tkE t tb p) := by
  have h3 := hT.1
  have h4 := (tk_S (tb := tb) hp).2
  rw [(tk_2 hp hO).1]
  exact br_rn hT (300 - tkS t tb p) (tkS t tb p) (by omega)
theorem tk_0 (hO : tkO t tb p = 0) : tkE t tb p = tkS t tb p := if_pos hO
theorem tk_9 (h0 : ¬ tkO t tb p = 0) (h1 : ¬ tkO t tb p = 1) (h2 : ¬ tkO t tb p = 2) : tkE t tb p = tkS t tb p + 1 := by
  unfold tkE
  rw [if_neg h0, if_neg h1, if_neg h2]
theorem so_4 {x : Int32} (h0 : ¬ soF x = 0) (h1 : ¬ soF x = 1) (h2 : ¬ soF x = 2) (h3 : ¬ soF x = 3) : soF x = 4 := by
  rcases so_cases x with ⟨h, -⟩ | ⟨h, -⟩ | ⟨h, -⟩ | ⟨h, -⟩ | ⟨h, -⟩
  · exact absurd h h0
  · exact absurd h h1
  · exact absurd h h2
  · exact absurd h h3
  · exact h
theorem cs_4 (h2 : ¬ tkO t tb p = 2) : csF t tb p = tkO t tb p := if_neg fun z => h2 z.1
theorem two_fig {S : Nat} {c : Int32} (hT : TXC M t tb) (hS : M.1 1 1 = nI S) (hc : c = tb S) (h1 : S + 1 < t) (d0 : isDg (tb S) = true) (d1 : isDg (tb (S + 1)) = true) : (10 * (upI M 1 4 (c - 48)).1 1 4 + byF (upI M 1 4 (c - 48)) ((upI M 1 4 (c - 48)).1 1 1 + 1)) - 48 = nI (10 * dgN (tb S) + dgN (tb (S + 1))) := by
  have h3 := hT.1
  show (10 * (c - 48) + byF (upI M 1 4 (c - 48)) (M.1 1 1 + 1)) - 48 = _
  have e : byF (upI M 1 4 (c - 48)) (nI (S + 1)) = tb (S + 1) := by
    rw [byF_N (M := upI M 1 4 (c - 48)) (t := t) (tb := tb) hT (by omega), byN, if_pos h1]
  have e2 : ∀ a b : Int32, a + b - 48 = a + (b - 48) := fun a b => by rw [Int32.sub_eq_add_neg, Int32.add_assoc, ← Int32.sub_eq_add_neg]
  rw [hS, nI_1, e, hc, e2, (dg_ok d0).1, (dg_ok d1).1]
  show nI 10 * nI _ + nI _ = _
  unfold nI
  rw [← Int32.ofNat_mul, ← Int32.ofNat_add]

theorem sp_sortOfDigits {S E : Nat} {c : Int32} (hT : TXC M t tb) (hS : M.1 1 1 = nI S) (hE : M.1 1 2 = nI E) (hSE : S < E) (hEt : E ≤ t) (hd : ∀ k, S ≤ k → k < E → isDg (tb k) = true) (hc : c = tb S) : SI g mX2_sortOfDigits [ob g 1, .int c] M (fun x m => (x = 4 ∧ ¬ nuD tb S E ∧ m = M) ∨ (x = 2 ∧ nuD tb S E ∧ ∃ f, m = setO M 1 f ∧ f 1 = M.1 1 1 ∧ f 2 = M.1 1 2 ∧ f 4 = nI (nuV tb S E))) := by
  have h3 := hT.1
  refine spec_of_wp (ls := [some (ob g 1), some (.int c), none]) rfl (Nat.le_of_ble_eq_true rfl) 1 rfl ?_
  refine wp_aload_n (pc' := 1) dX2_sortOfDigits_0 rfl rfl ⟨_, rfl⟩ ?_
  refine wp_get (pc' := 4) (o := 1) dX2_sortOfDigits_1 rfl flX2_23 (by decide) rfl rfl ?_
  refine wp_aload_n (pc' := 5) dX2_sortOfDigits_4 rfl rfl ⟨_, rfl⟩ ?_
  refine wp_get (pc' := 8) (o := 1) dX2_sortOfDigits_5 rfl flX2_37 (by decide) rfl rfl ?_
  refine wp_isub (pc' := 9) dX2_sortOfDigits_8 rfl ?_
  refine wp_top ((show M.1 1 2 - M.1 1 1 = nI (E - S) by rw [hS, hE, pk_sub (Nat.le_of_lt hSE)])) ?_
  refine wp_ist2 (pc' := 10) dX2_sortOfDigits_9 rfl (by decide) rfl ?_
  refine wp_iload_n (pc' := 11) dX2_sortOfDigits_10 rfl rfl ?_
  refine wp_iconst (pc' := 12) 2 dX2_sortOfDigits_11 rfl (by decide) ?_
  refine wp_icmp_gt (pc' := 15) 26 dX2_sortOfDigits_12 rfl (by decide) (fun h12 => ?_) (fun h12 => ?_)
  · refine wp_iconst (pc' := 27) 4 dX2_sortOfDigits_26 rfl (by decide) ?_
    refine wp_ireti dX2_sortOfDigits_27 rfl ?_
    exact ⟨_, rfl, Or.inl ⟨rfl, fun z => absurd ((nI_ltI (a := 2) (b := E - S) (by decide) (by omega)).mp h12) (Nat.not_lt.mpr z.1), rfl⟩⟩
  · refine wp_iload_n (pc' := 16) dX2_sortOfDigits_15 rfl rfl ?_
    refine wp_iconst (pc' := 17) 2 dX2_sortOfDigits_16 rfl (by decide) ?_
    refine wp_icmp_ne (pc' := 20) 28 dX2_sortOfDigits_17 rfl (by decide) (fun h17 => ?_) (fun h17 => ?_)
    · refine wp_aload_n (pc' := 29) dX2_sortOfDigits_28 rfl rfl ⟨_, rfl⟩ ?_
      refine wp_iload_n (pc' := 30) dX2_sortOfDigits_29 rfl rfl ?_
      refine wp_bipush (pc' := 32) 48 dX2_sortOfDigits_30 rfl (by decide) ?_
      refine wp_isub (pc' := 33) dX2_sortOfDigits_32 rfl ?_
      refine wp_put (pc' := 36) (o := 1) dX2_sortOfDigits_33 rfl fpX2_83 (by decide) rfl (Nat.le_of_ble_eq_true rfl) rfl ?_
      refine wp_iload_n (pc' := 37) dX2_sortOfDigits_36 rfl rfl ?_
      refine wp_iconst (pc' := 38) 2 dX2_sortOfDigits_37 rfl (by decide) ?_
      refine wp_icmp_ne (pc' := 41) 69 dX2_sortOfDigits_38 rfl (by decide) (fun h38 => ?_) (fun h38 => ?_)
      · refine wp_iconst (pc' := 70) 2 dX2_sortOfDigits_69 rfl (by decide) ?_
        refine wp_ireti dX2_sortOfDigits_70 rfl ?_
        exact ⟨_, rfl, Or.inr ⟨rfl, ⟨Nat.not_lt.mp fun z => h12 (nI_lt (a := 2) (b := E - S) z (by omega)), fun z => h17 (by rw [z.1]; rfl)⟩, _, rfl, rfl, rfl, (by
          show c - 48 = nI (nuV tb S E)
          unfold nuV
          rw [if_neg (fun z => h38 (by rw [z]; rfl)), hc]
          exact (dg_ok (hd S (Nat.le_refl S) hSE)).1)⟩⟩
      · have h2 : E - S = 2 := nN_inj (b := 2) (by omega) (by decide) h38
        refine wp_aload_n (pc' := 42) dX2_sortOfDigits_41 rfl rfl ⟨_, rfl⟩ ?_
        refine wp_bipush (pc' := 44) 10 dX2_sortOfDigits_42 rfl (by decide) ?_
        refine wp_aload_n (pc' := 45) dX2_sortOfDigits_44 rfl rfl ⟨_, rfl⟩ ?_
        refine wp_get (pc' := 48) (o := 1) dX2_sortOfDigits_45 rfl flX2_83 (by decide) rfl rfl ?_
        refine wp_imul (pc' := 49) dX2_sortOfDigits_48 rfl ?_
        refine wp_aload_n (pc' := 50) dX2_sortOfDigits_49 rfl rfl ⟨_, rfl⟩ ?_
        refine wp_get (pc' := 53) (o := 1) dX2_sortOfDigits_50 rfl flX2_12 (by decide) rfl rfl ?_
        refine wp_aload_n (pc' := 54) dX2_sortOfDigits_53 rfl rfl ⟨_, rfl⟩ ?_
        refine wp_get (pc' := 57) (o := 1) dX2_sortOfDigits_54 rfl flX2_37 (by decide) rfl rfl ?_
        refine wp_iconst (pc' := 58) 1 dX2_sortOfDigits_57 rfl (by decide) ?_
        refine wp_iadd (pc' := 59) dX2_sortOfDigits_58 rfl ?_
        refine wp_cVI (μ' := mX3_byteAt) (pc' := 62) (o := 2) dX2_sortOfDigits_59 rfl mlX2_67 cfX3_byteAt ⟨(Nat.le_of_ble_eq_true rfl), (Nat.le_of_ble_eq_true rfl)⟩ (sp_byteAt) (by decide) rfl rfl rfl rfl rfl (Nat.le_of_ble_eq_true rfl) ?_
        refine wp_iadd (pc' := 63) dX2_sortOfDigits_62 rfl ?_
        refine wp_bipush (pc' := 65) 48 dX2_sortOfDigits_63 rfl (by decide) ?_
        refine wp_isub (pc' := 66) dX2_sortOfDigits_65 rfl ?_
        refine wp_top ((two_fig hT hS hc (by omega) (hd S (Nat.le_refl S) hSE) (hd (S + 1) (by omega) (by omega)))) ?_
        refine wp_put (pc' := 69) (o := 1) dX2_sortOfDigits_66 rfl fpX2_83 (by decide) rfl (Nat.le_of_ble_eq_true rfl) rfl ?_
        refine wp_iconst (pc' := 70) 2 dX2_sortOfDigits_69 rfl (by decide) ?_
        refine wp_ireti dX2_sortOfDigits_70 rfl ?_
        exact ⟨_, rfl, Or.inr ⟨rfl, ⟨Nat.not_lt.mp fun z => h12 (nI_lt (a := 2) (b := E - S) z (by omega)), fun z => h17 (by rw [z.1]; rfl)⟩, _, upI_setO _ _ _ _ _, rfl, rfl, (by
          show nI _ = nI (nuV tb S E)
          unfold nuV
          rw [if_pos h2])⟩⟩
    · refine wp_iload_n (pc' := 21) dX2_sortOfDigits_20 rfl rfl ?_
      refine wp_bipush (pc' := 23) 48 dX2_sortOfDigits_21 rfl (by decide) ?_
      refine wp_icmp_ne (pc' := 26) 28 dX2_sortOfDigits_23 rfl (by decide) (fun h23 => ?_) (fun h23 => ?_)
      · refine wp_aload_n (pc' := 29) dX2_sortOfDigits_28 rfl rfl ⟨_, rfl⟩ ?_
        refine wp_iload_n (pc' := 30) dX2_sortOfDigits_29 rfl rfl ?_
        refine wp_bipush (pc' := 32) 48 dX2_sortOfDigits_30 rfl (by decide) ?_
        refine wp_isub (pc' := 33) dX2_sortOfDigits_32 rfl ?_
        refine wp_put (pc' := 36) (o := 1) dX2_sortOfDigits_33 rfl fpX2_83 (by decide) rfl (Nat.le_of_ble_eq_true rfl) rfl ?_
        refine wp_iload_n (pc' := 37) dX2_sortOfDigits_36 rfl rfl ?_
        refine wp_iconst (pc' := 38) 2 dX2_sortOfDigits_37 rfl (by decide) ?_
        refine wp_icmp_ne (pc' := 41) 69 dX2_sortOfDigits_38 rfl (by decide) (fun h38 => ?_) (fun h38 => ?_)
        · refine wp_iconst (pc' := 70) 2 dX2_sortOfDigits_69 rfl (by decide) ?_
          refine wp_ireti dX2_sortOfDigits_70 rfl ?_
          exact ⟨_, rfl, Or.inr ⟨rfl, ⟨Nat.not_lt.mp fun z => h12 (nI_lt (a := 2) (b := E - S) z (by omega)), fun z => h23 (hc.trans z.2)⟩, _, rfl, rfl, rfl, (by
            show c - 48 = nI (nuV tb S E)
            unfold nuV
            rw [if_neg (fun z => h38 (by rw [z]; rfl)), hc]
            exact (dg_ok (hd S (Nat.le_refl S) hSE)).1)⟩⟩
        · have h2 : E - S = 2 := nN_inj (b := 2) (by omega) (by decide) h38
          refine wp_aload_n (pc' := 42) dX2_sortOfDigits_41 rfl rfl ⟨_, rfl⟩ ?_
          refine wp_bipush (pc' := 44) 10 dX2_sortOfDigits_42 rfl (by decide) ?_
          refine wp_aload_n (pc' := 45) dX2_sortOfDigits_44 rfl rfl ⟨_, rfl⟩ ?_
          refine wp_get (pc' := 48) (o := 1) dX2_sortOfDigits_45 rfl flX2_83 (by decide) rfl rfl ?_
          refine wp_imul (pc' := 49) dX2_sortOfDigits_48 rfl ?_
          refine wp_aload_n (pc' := 50) dX2_sortOfDigits_49 rfl rfl ⟨_, rfl⟩ ?_
          refine wp_get (pc' := 53) (o := 1) dX2_sortOfDigits_50 rfl flX2_12 (by decide) rfl rfl ?_
          refine wp_aload_n (pc' := 54) dX2_sortOfDigits_53 rfl rfl ⟨_, rfl⟩ ?_
          refine wp_get (pc' := 57) (o := 1) dX2_sortOfDigits_54 rfl flX2_37 (by decide) rfl rfl ?_
          refine wp_iconst (pc' := 58) 1 dX2_sortOfDigits_57 rfl (by decide) ?_
          refine wp_iadd (pc' := 59) dX2_sortOfDigits_58 rfl ?_
          refine wp_cVI (μ' := mX3_byteAt) (pc' := 62) (o := 2) dX2_sortOfDigits_59 rfl mlX2_67 cfX3_byteAt ⟨(Nat.le_of_ble_eq_true rfl), (Nat.le_of_ble_eq_true rfl)⟩ (sp_byteAt) (by decide) rfl rfl rfl rfl rfl (Nat.le_of_ble_eq_true rfl) ?_
          refine wp_iadd (pc' := 63) dX2_sortOfDigits_62 rfl ?_
          refine wp_bipush (pc' := 65) 48 dX2_sortOfDigits_63 rfl (by decide) ?_
          refine wp_isub (pc' := 66) dX2_sortOfDigits_65 rfl ?_
          refine wp_top ((two_fig hT hS hc (by omega) (hd S (Nat.le_refl S) hSE) (hd (S + 1) (by omega) (by omega)))) ?_
          refine wp_put (pc' := 69) (o := 1) dX2_sortOfDigits_66 rfl fpX2_83 (by decide) rfl (Nat.le_of_ble_eq_true rfl) rfl ?_
          refine wp_iconst (pc' := 70) 2 dX2_sortOfDigits_69 rfl (by decide) ?_
          refine wp_ireti dX2_sortOfDigits_70 rfl ?_
          exact ⟨_, rfl, Or.inr ⟨rfl, ⟨Nat.not_lt.mp fun z => h12 (nI_lt (a := 2) (b := E - S) z (by omega)), fun z => h23 (hc.trans z.2)⟩, _, upI_setO _ _ _ _ _, rfl, rfl, (by
            show nI _ = nI (nuV tb S E)
            unfold nuV
            rw [if_pos h2])⟩⟩
      · refine wp_iconst (pc' := 27) 4 dX2_sortOfDigits_26 rfl (by decide) ?_
        refine wp_ireti dX2_sortOfDigits_27 rfl ?_
        exact ⟨_, rfl, Or.inl ⟨rfl, fun z => z.2 ⟨nN_inj (b := 2) (by omega) (by decide) h17, hc.symm.trans h23⟩, rfl⟩⟩
theorem sp_token (hT : TXC M t tb) (hp : p ≤ t) (hb : M.1 1 2 = nI p) : SV g mX2_toNextToken [ob g 1] M (fun m => ∃ f, m = setO M 1 f ∧ f 1 = nI (tkS t tb p) ∧ f 2 = nI (tkE t tb p) ∧ f 3 = csF t tb p ∧ (nuK t tb p → f 4 = nI (nuN t tb p))) := by
  have h3 := hT.1
  have h4 := (tk_S (tb := tb) hp).2
  refine spec_of_wp (ls := [some (ob g 1), none]) rfl (Nat.le_of_ble_eq_true rfl) 1 rfl ?_
  refine wp_aload_n (pc' := 1) dX2_toNextToken_0 rfl rfl ⟨_, rfl⟩ ?_
  refine wp_aload_n (pc' := 2) dX2_toNextToken_1 rfl rfl ⟨_, rfl⟩ ?_
  refine wp_get (pc' := 5) (o := 1) dX2_toNextToken_2 rfl flX2_12 (by decide) rfl rfl ?_
  refine wp_aload_n (pc' := 6) dX2_toNextToken_5 rfl rfl ⟨_, rfl⟩ ?_
  refine wp_get (pc' := 9) (o := 1) dX2_toNextToken_6 rfl flX2_23 (by decide) rfl rfl ?_
  refine wp_top (hb) ?_
  refine wp_bipush (pc' := 11) 32 dX2_toNextToken_9 rfl (by decide) ?_
  refine wp_bipush (pc' := 13) 32 dX2_toNextToken_11 rfl (by decide) ?_
  refine wp_cVI (μ' := mX3_behindRun) (pc' := 16) (o := 2) dX2_toNextToken_13 rfl mlX2_106 cfX3_behindRun ⟨(Nat.le_of_ble_eq_true rfl), (Nat.le_of_ble_eq_true rfl)⟩ (sp_behindRun (j := p) (by decide) (by omega)) (by decide) rfl rfl rfl rfl rfl (Nat.le_of_ble_eq_true rfl) ?_
  refine wp_top ((br_S hT hp)) ?_
  refine wp_put (pc' := 19) (o := 1) dX2_toNextToken_16 rfl fpX2_37 (by decide) rfl (Nat.le_of_ble_eq_true rfl) rfl ?_
  refine wp_aload_n (pc' := 20) dX2_toNextToken_19 rfl rfl ⟨_, rfl⟩ ?_
  refine wp_get (pc' := 23) (o := 1) dX2_toNextToken_20 rfl flX2_12 (by decide) rfl rfl ?_
  refine wp_aload_n (pc' := 24) dX2_toNextToken_23 rfl rfl ⟨_, rfl⟩ ?_
  refine wp_get (pc' := 27) (o := 1) dX2_toNextToken_24 rfl flX2_37 (by decide) rfl rfl ?_
  refine wp_cVI (μ' := mX3_byteAt) (pc' := 30) (o := 2) dX2_toNextToken_27 rfl mlX2_67 cfX3_byteAt ⟨(Nat.le_of_ble_eq_true rfl), (Nat.le_of_ble_eq_true rfl)⟩ (sp_byteAt) (by decide) rfl rfl rfl rfl rfl (Nat.le_of_ble_eq_true rfl) ?_
  refine wp_top ((show byF (upI M 1 1 (nI (tkS t tb p))) (nI (tkS t tb p)) = byN t tb (tkS t tb p) from byF_N (M := upI M 1 1 (nI (tkS t tb p))) hT (by omega))) ?_
  refine wp_ist1 (pc' := 31) dX2_toNextToken_30 rfl (by decide) rfl ?_
  refine wp_iload_n (pc' := 32) dX2_toNextToken_31 rfl rfl ?_
  refine wp_if_ge (pc' := 35) 51 dX2_toNextToken_32 rfl (by decide) (fun h32 => ?_) (fun h32 => ?_)
  · refine wp_iload_n (pc' := 52) dX2_toNextToken_51 rfl rfl ?_
    refine wp_bipush (pc' := 54) 97 dX2_toNextToken_52 rfl (by decide) ?_
    refine wp_icmp_lt (pc' := 57) 90 dX2_toNextToken_54 rfl (by decide) (fun h54 => ?_) (fun h54 => ?_)
    · refine wp_iload_n (pc' := 91) dX2_toNextToken_90 rfl rfl ?_
      refine wp_bipush (pc' := 93) 48 dX2_toNextToken_91 rfl (by decide) ?_
      refine wp_icmp_lt (pc' := 96) 133 dX2_toNextToken_93 rfl (by decide) (fun h93 => ?_) (fun h93 => ?_)
      · have h0 : ¬ tkO t tb p = 0 := fun z => absurd h32 (Int32.not_le.mpr (so_0.mp z))
        have h1 : ¬ tkO t tb p = 1 := fun z => rg_of.mp (so_1.mp z) (Or.inl h54)
        have h2 : ¬ tkO t tb p = 2 := fun z => rg_of.mp (so_2.mp z) (Or.inl h93)
        refine wp_aload_n (pc' := 134) dX2_toNextToken_133 rfl rfl ⟨_, rfl⟩ ?_
        refine wp_aload_n (pc' := 135) dX2_toNextToken_134 rfl rfl ⟨_, rfl⟩ ?_
        refine wp_get (pc' := 138) (o := 1) dX2_toNextToken_135 rfl flX2_37 (by decide) rfl rfl ?_
        refine wp_iconst (pc' := 139) 1 dX2_toNextToken_138 rfl (by decide) ?_
        refine wp_iadd (pc' := 140) dX2_toNextToken_139 rfl ?_
        refine wp_top ((show nI (tkS t tb p) + 1 = nI (tkE t tb p) by rw [tk_9 h0 h1 h2, nI_1])) ?_
        refine wp_put (pc' := 143) (o := 1) dX2_toNextToken_140 rfl fpX2_23 (by decide) rfl (Nat.le_of_ble_eq_true rfl) rfl ?_
        refine wp_aload_n (pc' := 144) dX2_toNextToken_143 rfl rfl ⟨_, rfl⟩ ?_
        refine wp_iload_n (pc' := 145) dX2_toNextToken_144 rfl rfl ?_
        refine wp_bipush (pc' := 147) 59 dX2_toNextToken_145 rfl (by decide) ?_
        refine wp_icmp_ne (pc' := 150) 154 dX2_toNextToken_147 rfl (by decide) (fun h147 => ?_) (fun h147 => ?_)
        · refine wp_iconst (pc' := 155) 4 dX2_toNextToken_154 rfl (by decide) ?_
          refine wp_put (pc' := 158) (o := 1) dX2_toNextToken_155 rfl fpX2_30 (by decide) rfl (Nat.le_of_ble_eq_true rfl) rfl ?_
          refine wp_vret dX2_toNextToken_158 rfl ?_
          exact ⟨rfl, _, setO_of (fun a ha => by simp only [upI, setO, if_neg ha]) rfl, rfl, rfl, (show (4 : Int32) = csF t tb p by rw [cs_4 h2]; exact (so_4 h0 h1 h2 (fun z => h147 (so_3.mp z))).symm), fun z => absurd z.1 h2⟩
        · refine wp_iconst (pc' := 151) 3 dX2_toNextToken_150 rfl (by decide) ?_
          refine wp_goto 155 dX2_toNextToken_151 (by decide) ?_
          refine wp_put (pc' := 158) (o := 1) dX2_toNextToken_155 rfl fpX2_30 (by decide) rfl (Nat.le_of_ble_eq_true rfl) rfl ?_
          refine wp_vret dX2_toNextToken_158 rfl ?_
          exact ⟨rfl, _, setO_of (fun a ha => by simp only [upI, setO, if_neg ha]) rfl, rfl, rfl, ((cs_ne (by decide) (by decide)).mpr (so_3.mpr h147)).symm, fun z => absurd z.1 h2⟩
      · refine wp_iload_n (pc' := 97) dX2_toNextToken_96 rfl rfl ?_
        refine wp_bipush (pc' := 99) 57 dX2_toNextToken_97 rfl (by decide) ?_
        refine wp_icmp_gt (pc' := 102) 133 dX2_toNextToken_99 rfl (by decide) (fun h99 => ?_) (fun h99 => ?_)
        · have h0 : ¬ tkO t tb p = 0 := fun z => absurd h32 (Int32.not_le.mpr (so_0.mp z))
          have h1 : ¬ tkO t tb p = 1 := fun z => rg_of.mp (so_1.mp z) (Or.inl h54)
          have h2 : ¬ tkO t tb p = 2 := fun z => rg_of.mp (so_2.mp z) (Or.inr h99)
          refine wp_aload_n (pc' := 134) dX2_toNextToken_133 rfl rfl ⟨_, rfl⟩ ?_
          refine wp_aload_n (pc' := 135) dX2_toNextToken_134 rfl rfl ⟨_, rfl⟩ ?_
          refine wp_get (pc' := 138) (o := 1) dX2_toNextToken_135 rfl flX2_37 (by decide) rfl rfl ?_
          refine wp_iconst (pc' := 139) 1 dX2_toNextToken_138 rfl (by decide) ?_
          refine wp_iadd (pc' := 140) dX2_toNextToken_139 rfl ?_
          refine wp_top ((show nI (tkS t tb p) + 1 = nI (tkE t tb p) by rw [tk_9 h0 h1 h2, nI_1])) ?_
          refine wp_put (pc' := 143) (o := 1) dX2_toNextToken_140 rfl fpX2_23 (by decide) rfl (Nat.le_of_ble_eq_true rfl) rfl ?_
          refine wp_aload_n (pc' := 144) dX2_toNextToken_143 rfl rfl ⟨_, rfl⟩ ?_
          refine wp_iload_n (pc' := 145) dX2_toNextToken_144 rfl rfl ?_
          refine wp_bipush (pc' := 147) 59 dX2_toNextToken_145 rfl (by decide) ?_
          refine wp_icmp_ne (pc' := 150) 154 dX2_toNextToken_147 rfl (by decide) (fun h147 => ?_) (fun h147 => ?_)
          · refine wp_iconst (pc' := 155) 4 dX2_toNextToken_154 rfl (by decide) ?_
            refine wp_put (pc' := 158) (o := 1) dX2_toNextToken_155 rfl fpX2_30 (by decide) rfl (Nat.le_of_ble_eq_true rfl) rfl ?_
            refine wp_vret dX2_toNextToken_158 rfl ?_
            exact ⟨rfl, _, setO_of (fun a ha => by simp only [upI, setO, if_neg ha]) rfl, rfl, rfl, (show (4 : Int32) = csF t tb p by rw [cs_4 h2]; exact (so_4 h0 h1 h2 (fun z => h147 (so_3.mp z))).symm), fun z => absurd z.1 h2⟩
          · refine wp_iconst (pc' := 151) 3 dX2_toNextToken_150 rfl (by decide) ?_
            refine wp_goto 155 dX2_toNextToken_151 (by decide) ?_
            refine wp_put (pc' := 158) (o := 1) dX2_toNextToken_155 rfl fpX2_30 (by decide) rfl (Nat.le_of_ble_eq_true rfl) rfl ?_
            refine wp_vret dX2_toNextToken_158 rfl ?_
            exact ⟨rfl, _, setO_of (fun a ha => by simp only [upI, setO, if_neg ha]) rfl, rfl, rfl, ((cs_ne (by decide) (by decide)).mpr (so_3.mpr h147)).symm, fun z => absurd z.1 h2⟩
        · have hO : tkO t tb p = 2 := so_2.mpr (rg_of.mpr (not_or.mpr ⟨h93, h99⟩))
          have h0 : ¬ tkO t tb p = 0 := fun z => absurd (hO.symm.trans z) (by decide)
          refine wp_aload_n (pc' := 103) dX2_toNextToken_102 rfl rfl ⟨_, rfl⟩ ?_
          refine wp_aload_n (pc' := 104) dX2_toNextToken_103 rfl rfl ⟨_, rfl⟩ ?_
          refine wp_get (pc' := 107) (o := 1) dX2_toNextToken_104 rfl flX2_12 (by decide) rfl rfl ?_
          refine wp_aload_n (pc' := 108) dX2_toNextToken_107 rfl rfl ⟨_, rfl⟩ ?_
          refine wp_get (pc' := 111) (o := 1) dX2_toNextToken_108 rfl flX2_37 (by decide) rfl rfl ?_
          refine wp_bipush (pc' := 113) 48 dX2_toNextToken_111 rfl (by decide) ?_
          refine wp_bipush (pc' := 115) 57 dX2_toNextToken_113 rfl (by decide) ?_
          refine wp_cVI (μ' := mX3_behindRun) (pc' := 118) (o := 2) dX2_toNextToken_115 rfl mlX2_106 cfX3_behindRun ⟨(Nat.le_of_ble_eq_true rfl), (Nat.le_of_ble_eq_true rfl)⟩ (sp_behindRun (M := upI M 1 1 (nI (tkS t tb p))) (j := tkS t tb p) (by decide) (by omega)) (by decide) rfl rfl rfl rfl rfl (Nat.le_of_ble_eq_true rfl) ?_
          refine wp_top ((br_E2 (M := upI M 1 1 (nI (tkS t tb p))) hT hp hO)) ?_
          refine wp_put (pc' := 121) (o := 1) dX2_toNextToken_118 rfl fpX2_23 (by decide) rfl (Nat.le_of_ble_eq_true rfl) rfl ?_
          refine wp_aload_n (pc' := 122) dX2_toNextToken_121 rfl rfl ⟨_, rfl⟩ ?_
          refine wp_aload_n (pc' := 123) dX2_toNextToken_122 rfl rfl ⟨_, rfl⟩ ?_
          refine wp_iload_n (pc' := 124) dX2_toNextToken_123 rfl rfl ?_
          refine wp_sVI (μ' := mX2_sortOfDigits) (pc' := 127) (o := 1) dX2_toNextToken_124 rfl mlX2_110 cfX2_sortOfDigits ⟨(Nat.le_of_ble_eq_true rfl), (Nat.le_of_ble_eq_true rfl)⟩ (sp_sortOfDigits (M := upI (upI M 1 1 (nI (tkS t tb p))) 1 2 (nI (tkE t tb p))) (t := t) (tb := tb) (S := tkS t tb p) (E := tkE t tb p) hT rfl rfl ((tk_E hp).2.2 h0) (tk_E hp).2.1 (tk_2 hp hO).2 (tk_lt hp h0).2) (by decide) rfl rfl rfl rfl rfl (Nat.le_of_ble_eq_true rfl) (fun x m hm => ?_)
          refine wp_put (pc' := 130) (o := 1) dX2_toNextToken_127 rfl fpX2_30 (by decide) rfl (Nat.le_of_ble_eq_true rfl) rfl ?_
          refine wp_goto 158 dX2_toNextToken_130 (by decide) ?_
          refine wp_vret dX2_toNextToken_158 rfl ?_
          rcases hm with ⟨rfl, hn, rfl⟩ | ⟨rfl, hy, f, rfl, f1, f2, f4⟩
          · exact ⟨rfl, _, setO_of (fun a ha => by simp only [upI, setO, if_neg ha]) rfl, rfl, rfl, (show (4 : Int32) = csF t tb p from (if_pos ⟨hO, hn⟩).symm), fun z => absurd z.2 hn⟩
          · exact ⟨rfl, _, setO_of (fun a ha => by simp only [upI, setO, if_neg ha]) rfl, f1, f2, (cs_2.mpr ⟨hO, hy⟩).symm, fun _ => f4⟩
    · refine wp_iload_n (pc' := 58) dX2_toNextToken_57 rfl rfl ?_
      refine wp_bipush (pc' := 60) 122 dX2_toNextToken_58 rfl (by decide) ?_
      refine wp_icmp_gt (pc' := 63) 90 dX2_toNextToken_60 rfl (by decide) (fun h60 => ?_) (fun h60 => ?_)
      · refine wp_iload_n (pc' := 91) dX2_toNextToken_90 rfl rfl ?_
        refine wp_bipush (pc' := 93) 48 dX2_toNextToken_91 rfl (by decide) ?_
        refine wp_icmp_lt (pc' := 96) 133 dX2_toNextToken_93 rfl (by decide) (fun h93 => ?_) (fun h93 => ?_)
        · have h0 : ¬ tkO t tb p = 0 := fun z => absurd h32 (Int32.not_le.mpr (so_0.mp z))
          have h1 : ¬ tkO t tb p = 1 := fun z => rg_of.mp (so_1.mp z) (Or.inr h60)
          have h2 : ¬ tkO t tb p = 2 := fun z => rg_of.mp (so_2.mp z) (Or.inl h93)
          refine wp_aload_n (pc' := 134) dX2_toNextToken_133 rfl rfl ⟨_, rfl⟩ ?_
          refine wp_aload_n (pc' := 135) dX2_toNextToken_134 rfl rfl ⟨_, rfl⟩ ?_
          refine wp_get (pc' := 138) (o := 1) dX2_toNextToken_135 rfl flX2_37 (by decide) rfl rfl ?_
          refine wp_iconst (pc' := 139) 1 dX2_toNextToken_138 rfl (by decide) ?_
          refine wp_iadd (pc' := 140) dX2_toNextToken_139 rfl ?_
          refine wp_top ((show nI (tkS t tb p) + 1 = nI (tkE t tb p) by rw [tk_9 h0 h1 h2, nI_1])) ?_
          refine wp_put (pc' := 143) (o := 1) dX2_toNextToken_140 rfl fpX2_23 (by decide) rfl (Nat.le_of_ble_eq_true rfl) rfl ?_
          refine wp_aload_n (pc' := 144) dX2_toNextToken_143 rfl rfl ⟨_, rfl⟩ ?_
          refine wp_iload_n (pc' := 145) dX2_toNextToken_144 rfl rfl ?_
          refine wp_bipush (pc' := 147) 59 dX2_toNextToken_145 rfl (by decide) ?_
          refine wp_icmp_ne (pc' := 150) 154 dX2_toNextToken_147 rfl (by decide) (fun h147 => ?_) (fun h147 => ?_)
          · refine wp_iconst (pc' := 155) 4 dX2_toNextToken_154 rfl (by decide) ?_
            refine wp_put (pc' := 158) (o := 1) dX2_toNextToken_155 rfl fpX2_30 (by decide) rfl (Nat.le_of_ble_eq_true rfl) rfl ?_
            refine wp_vret dX2_toNextToken_158 rfl ?_
            exact ⟨rfl, _, setO_of (fun a ha => by simp only [upI, setO, if_neg ha]) rfl, rfl, rfl, (show (4 : Int32) = csF t tb p by rw [cs_4 h2]; exact (so_4 h0 h1 h2 (fun z => h147 (so_3.mp z))).symm), fun z => absurd z.1 h2⟩
          · refine wp_iconst (pc' := 151) 3 dX2_toNextToken_150 rfl (by decide) ?_
            refine wp_goto 155 dX2_toNextToken_151 (by decide) ?_
            refine wp_put (pc' := 158) (o := 1) dX2_toNextToken_155 rfl fpX2_30 (by decide) rfl (Nat.le_of_ble_eq_true rfl) rfl ?_
            refine wp_vret dX2_toNextToken_158 rfl ?_
            exact ⟨rfl, _, setO_of (fun a ha => by simp only [upI, setO, if_neg ha]) rfl, rfl, rfl, ((cs_ne (by decide) (by decide)).mpr (so_3.mpr h147)).symm, fun z => absurd z.1 h2⟩
        · refine wp_iload_n (pc' := 97) dX2_toNextToken_96 rfl rfl ?_
          refine wp_bipush (pc' := 99) 57 dX2_toNextToken_97 rfl (by decide) ?_
          refine wp_icmp_gt (pc' := 102) 133 dX2_toNextToken_99 rfl (by decide) (fun h99 => ?_) (fun h99 => ?_)
          · have h0 : ¬ tkO t tb p = 0 := fun z => absurd h32 (Int32.not_le.mpr (so_0.mp z))
            have h1 : ¬ tkO t tb p = 1 := fun z => rg_of.mp (so_1.mp z) (Or.inr h60)
            have h2 : ¬ tkO t tb p = 2 := fun z => rg_of.mp (so_2.mp z) (Or.inr h99)
            refine wp_aload_n (pc' := 134) dX2_toNextToken_133 rfl rfl ⟨_, rfl⟩ ?_
            refine wp_aload_n (pc' := 135) dX2_toNextToken_134 rfl rfl ⟨_, rfl⟩ ?_
            refine wp_get (pc' := 138) (o := 1) dX2_toNextToken_135 rfl flX2_37 (by decide) rfl rfl ?_
            refine wp_iconst (pc' := 139) 1 dX2_toNextToken_138 rfl (by decide) ?_
            refine wp_iadd (pc' := 140) dX2_toNextToken_139 rfl ?_
            refine wp_top ((show nI (tkS t tb p) + 1 = nI (tkE t tb p) by rw [tk_9 h0 h1 h2, nI_1])) ?_
            refine wp_put (pc' := 143) (o := 1) dX2_toNextToken_140 rfl fpX2_23 (by decide) rfl (Nat.le_of_ble_eq_true rfl) rfl ?_
            refine wp_aload_n (pc' := 144) dX2_toNextToken_143 rfl rfl ⟨_, rfl⟩ ?_
            refine wp_iload_n (pc' := 145) dX2_toNextToken_144 rfl rfl ?_
            refine wp_bipush (pc' := 147) 59 dX2_toNextToken_145 rfl (by decide) ?_
            refine wp_icmp_ne (pc' := 150) 154 dX2_toNextToken_147 rfl (by decide) (fun h147 => ?_) (fun h147 => ?_)
            · refine wp_iconst (pc' := 155) 4 dX2_toNextToken_154 rfl (by decide) ?_
              refine wp_put (pc' := 158) (o := 1) dX2_toNextToken_155 rfl fpX2_30 (by decide) rfl (Nat.le_of_ble_eq_true rfl) rfl ?_
              refine wp_vret dX2_toNextToken_158 rfl ?_
              exact ⟨rfl, _, setO_of (fun a ha => by simp only [upI, setO, if_neg ha]) rfl, rfl, rfl, (show (4 : Int32) = csF t tb p by rw [cs_4 h2]; exact (so_4 h0 h1 h2 (fun z => h147 (so_3.mp z))).symm), fun z => absurd z.1 h2⟩
            · refine wp_iconst (pc' := 151) 3 dX2_toNextToken_150 rfl (by decide) ?_
              refine wp_goto 155 dX2_toNextToken_151 (by decide) ?_
              refine wp_put (pc' := 158) (o := 1) dX2_toNextToken_155 rfl fpX2_30 (by decide) rfl (Nat.le_of_ble_eq_true rfl) rfl ?_
              refine wp_vret dX2_toNextToken_158 rfl ?_
              exact ⟨rfl, _, setO_of (fun a ha => by simp only [upI, setO, if_neg ha]) rfl, rfl, rfl, ((cs_ne (by decide) (by decide)).mpr (so_3.mpr h147)).symm, fun z => absurd z.1 h2⟩
          · have hO : tkO t tb p = 2 := so_2.mpr (rg_of.mpr (not_or.mpr ⟨h93, h99⟩))
            have h0 : ¬ tkO t tb p = 0 := fun z => absurd (hO.symm.trans z) (by decide)
            refine wp_aload_n (pc' := 103) dX2_toNextToken_102 rfl rfl ⟨_, rfl⟩ ?_
            refine wp_aload_n (pc' := 104) dX2_toNextToken_103 rfl rfl ⟨_, rfl⟩ ?_
            refine wp_get (pc' := 107) (o := 1) dX2_toNextToken_104 rfl flX2_12 (by decide) rfl rfl ?_
            refine wp_aload_n (pc' := 108) dX2_toNextToken_107 rfl rfl ⟨_, rfl⟩ ?_
            refine wp_get (pc' := 111) (o := 1) dX2_toNextToken_108 rfl flX2_37 (by decide) rfl rfl ?_
            refine wp_bipush (pc' := 113) 48 dX2_toNextToken_111 rfl (by decide) ?_
            refine wp_bipush (pc' := 115) 57 dX2_toNextToken_113 rfl (by decide) ?_
            refine wp_cVI (μ' := mX3_behindRun) (pc' := 118) (o := 2) dX2_toNextToken_115 rfl mlX2_106 cfX3_behindRun ⟨(Nat.le_of_ble_eq_true rfl), (Nat.le_of_ble_eq_true rfl)⟩ (sp_behindRun (M := upI M 1 1 (nI (tkS t tb p))) (j := tkS t tb p) (by decide) (by omega)) (by decide) rfl rfl rfl rfl rfl (Nat.le_of_ble_eq_true rfl) ?_
            refine wp_top ((br_E2 (M := upI M 1 1 (nI (tkS t tb p))) hT hp hO)) ?_
            refine wp_put (pc' := 121) (o := 1) dX2_toNextToken_118 rfl fpX2_23 (by decide) rfl (Nat.le_of_ble_eq_true rfl) rfl ?_
            refine wp_aload_n (pc' := 122) dX2_toNextToken_121 rfl rfl ⟨_, rfl⟩ ?_
            refine wp_aload_n (pc' := 123) dX2_toNextToken_122 rfl rfl ⟨_, rfl⟩ ?_
            refine wp_iload_n (pc' := 124) dX2_toNextToken_123 rfl rfl ?_
            refine wp_sVI (μ' := mX2_sortOfDigits) (pc' := 127) (o := 1) dX2_toNextToken_124 rfl mlX2_110 cfX2_sortOfDigits ⟨(Nat.le_of_ble_eq_true rfl), (Nat.le_of_ble_eq_true rfl)⟩ (sp_sortOfDigits (M := upI (upI M 1 1 (nI (tkS t tb p))) 1 2 (nI (tkE t tb p))) (t := t) (tb := tb) (S := tkS t tb p) (E := tkE t tb p) hT rfl rfl ((tk_E hp).2.2 h0) (tk_E hp).2.1 (tk_2 hp hO).2 (tk_lt hp h0).2) (by decide) rfl rfl rfl rfl rfl (Nat.le_of_ble_eq_true rfl) (fun x m hm => ?_)
            refine wp_put (pc' := 130) (o := 1) dX2_toNextToken_127 rfl fpX2_30 (by decide) rfl (Nat.le_of_ble_eq_true rfl) rfl ?_
            refine wp_goto 158 dX2_toNextToken_130 (by decide) ?_
            refine wp_vret dX2_toNextToken_158 rfl ?_
            rcases hm with ⟨rfl, hn, rfl⟩ | ⟨rfl, hy, f, rfl, f1, f2, f4⟩
            · exact ⟨rfl, _, setO_of (fun a ha => by simp only [upI, setO, if_neg ha]) rfl, rfl, rfl, (show (4 : Int32) = csF t tb p from (if_pos ⟨hO, hn⟩).symm), fun z => absurd z.2 hn⟩
            · exact ⟨rfl, _, setO_of (fun a ha => by simp only [upI, setO, if_neg ha]) rfl, f1, f2, (cs_2.mpr ⟨hO, hy⟩).symm, fun _ => f4⟩
      · have hO : tkO t tb p = 1 := so_1.mpr (rg_of.mpr (not_or.mpr ⟨h54, h60⟩))
        refine wp_aload_n (pc' := 64) dX2_toNextToken_63 rfl rfl ⟨_, rfl⟩ ?_
        refine wp_aload_n (pc' := 65) dX2_toNextToken_64 rfl rfl ⟨_, rfl⟩ ?_
        refine wp_get (pc' := 68) (o := 1) dX2_toNextToken_65 rfl flX2_12 (by decide) rfl rfl ?_
        refine wp_aload_n (pc' := 69) dX2_toNextToken_68 rfl rfl ⟨_, rfl⟩ ?_
        refine wp_get (pc' := 72) (o := 1) dX2_toNextToken_69 rfl flX2_37 (by decide) rfl rfl ?_
        refine wp_bipush (pc' := 74) 97 dX2_toNextToken_72 rfl (by decide) ?_
        refine wp_bipush (pc' := 76) 122 dX2_toNextToken_74 rfl (by decide) ?_
        refine wp_cVI (μ' := mX3_behindRun) (pc' := 79) (o := 2) dX2_toNextToken_76 rfl mlX2_106 cfX3_behindRun ⟨(Nat.le_of_ble_eq_true rfl), (Nat.le_of_ble_eq_true rfl)⟩ (sp_behindRun (M := upI M 1 1 (nI (tkS t tb p))) (j := tkS t tb p) (by decide) (by omega)) (by decide) rfl rfl rfl rfl rfl (Nat.le_of_ble_eq_true rfl) ?_
        refine wp_top ((br_E1 (M := upI M 1 1 (nI (tkS t tb p))) hT hp hO)) ?_
        refine wp_put (pc' := 82) (o := 1) dX2_toNextToken_79 rfl fpX2_23 (by decide) rfl (Nat.le_of_ble_eq_true rfl) rfl ?_
        refine wp_aload_n (pc' := 83) dX2_toNextToken_82 rfl rfl ⟨_, rfl⟩ ?_
        refine wp_iconst (pc' := 84) 1 dX2_toNextToken_83 rfl (by decide) ?_
        refine wp_put (pc' := 87) (o := 1) dX2_toNextToken_84 rfl fpX2_30 (by decide) rfl (Nat.le_of_ble_eq_true rfl) rfl ?_
        refine wp_goto 158 dX2_toNextToken_87 (by decide) ?_
        refine wp_vret dX2_toNextToken_158 rfl ?_
        exact ⟨rfl, _, setO_of (fun a ha => by simp only [upI, setO, if_neg ha]) rfl, rfl, rfl, ((cs_ne (by decide) (by decide)).mpr hO).symm, fun z => absurd (hO.symm.trans z.1) (by decide)⟩
  · have hO : tkO t tb p = 0 := so_0.mpr (Int32.not_le.mp h32)
    refine wp_aload_n (pc' := 36) dX2_toNextToken_35 rfl rfl ⟨_, rfl⟩ ?_
    refine wp_aload_n (pc' := 37) dX2_toNextToken_36 rfl rfl ⟨_, rfl⟩ ?_
    refine wp_get (pc' := 40) (o := 1) dX2_toNextToken_37 rfl flX2_37 (by decide) rfl rfl ?_
    refine wp_put (pc' := 43) (o := 1) dX2_toNextToken_40 rfl fpX2_23 (by decide) rfl (Nat.le_of_ble_eq_true rfl) rfl ?_
    refine wp_aload_n (pc' := 44) dX2_toNextToken_43 rfl rfl ⟨_, rfl⟩ ?_
    refine wp_iconst (pc' := 45) 0 dX2_toNextToken_44 rfl (by decide) ?_
    refine wp_put (pc' := 48) (o := 1) dX2_toNextToken_45 rfl fpX2_30 (by decide) rfl (Nat.le_of_ble_eq_true rfl) rfl ?_
    refine wp_goto 158 dX2_toNextToken_48 (by decide) ?_
    refine wp_vret dX2_toNextToken_158 rfl ?_
    exact ⟨rfl, _, setO_of (fun a ha => by simp only [upI, setO, if_neg ha]) rfl, rfl, (by rw [tk_0 hO]; rfl), ((cs_ne (by decide) (by decide)).mpr hO).symm, fun z => absurd (hO.symm.trans z.1) (by decide)⟩
theorem lp_isWord {S E i : Nat} (hi : i < 3) (hT : TXC M t tb) (hS : M.1 1 1 = nI S) (hEt : E ≤ t) (hd : E - S = strLen.getD i 0) : ∀ (n j : Nat), j + n = strLen.getD i 0 → (∀ k, k < j → tb (S + k) = chS i k) → wp g mX2_isWord 28 [some (ob g 1), some (sk g i), some (.int (nI j))] [] M (fun q m => q = some (.int (if wdF tb S E 1 i = true then 1 else 0)) ∧ m = M) := by
  have h3 := hT.1
  have hl := str_len i hi
  intro n
  induction n with
  | zero =>
    intro j hj hA
    refine wp_iload_n (pc' := 29) dX2_isWord_28 rfl rfl ?_
    refine wp_aload_n (pc' := 30) dX2_isWord_29 rfl rfl ⟨_, rfl⟩ ?_
    refine wp_callK (μ' := mJ0_length_8abf5) (pc' := 33) (i := i) dX2_isWord_30 rfl mlX2_96 cfJ0_length_8abf5 ⟨(Nat.le_of_ble_eq_true rfl), (Nat.le_of_ble_eq_true rfl)⟩ (sp_slen hi) hi rfl rfl rfl (Nat.le_of_ble_eq_true rfl) ?_
    refine wp_icmp_ge (pc' := 36) 65 dX2_isWord_33 rfl (by decide) (fun h33 => ?_) (fun h33 => ?_)
    · refine wp_iconst (pc' := 66) 1 dX2_isWord_65 rfl (by decide) ?_
      refine wp_iretz dX2_isWord_66 rfl rfl ?_
      refine ri_ok ?_ rfl
      rw [if_pos (show wdF tb S E 1 i = true from decide_eq_true ⟨rfl, hd, fun k hk => hA k (by omega)⟩)]
    · exact absurd (nI_le (a := strLen.getD i 0) (b := j) (by omega) (by omega)) h33
  | succ n ih =>
    intro j hj hA
    have hjl : j < strLen.getD i 0 := by omega
    refine wp_iload_n (pc' := 29) dX2_isWord_28 rfl rfl ?_
    refine wp_aload_n (pc' := 30) dX2_isWord_29 rfl rfl ⟨_, rfl⟩ ?_
    refine wp_callK (μ' := mJ0_length_8abf5) (pc' := 33) (i := i) dX2_isWord_30 rfl mlX2_96 cfJ0_length_8abf5 ⟨(Nat.le_of_ble_eq_true rfl), (Nat.le_of_ble_eq_true rfl)⟩ (sp_slen hi) hi rfl rfl rfl (Nat.le_of_ble_eq_true rfl) ?_
    refine wp_icmp_ge (pc' := 36) 65 dX2_isWord_33 rfl (by decide) (fun h33 => ?_) (fun h33 => ?_)
    · refine wp_iconst (pc' := 66) 1 dX2_isWord_65 rfl (by decide) ?_
      refine wp_iretz dX2_isWord_66 rfl rfl ?_
      exact absurd h33 (nI_ge hjl (by omega))
    · refine wp_aload_n (pc' := 37) dX2_isWord_36 rfl rfl ⟨_, rfl⟩ ?_
      refine wp_get (pc' := 40) (o := 1) dX2_isWord_37 rfl flX2_12 (by decide) rfl rfl ?_
      refine wp_aload_n (pc' := 41) dX2_isWord_40 rfl rfl ⟨_, rfl⟩ ?_
      refine wp_get (pc' := 44) (o := 1) dX2_isWord_41 rfl flX2_37 (by decide) rfl rfl ?_
      refine wp_iload_n (pc' := 45) dX2_isWord_44 rfl rfl ?_
      refine wp_iadd (pc' := 46) dX2_isWord_45 rfl ?_
      refine wp_top ((show M.1 1 1 + nI j = nI (S + j) by rw [hS, nI_add])) ?_
      refine wp_cVI (μ' := mX3_byteAt) (pc' := 49) (o := 2) dX2_isWord_46 rfl mlX2_67 cfX3_byteAt ⟨(Nat.le_of_ble_eq_true rfl), (Nat.le_of_ble_eq_true rfl)⟩ (sp_byteAt) (by decide) rfl rfl rfl rfl rfl (Nat.le_of_ble_eq_true rfl) ?_
      refine wp_top ((show byF M (nI (S + j)) = tb (S + j) by rw [byF_N hT (by omega), byN, if_pos (by omega)])) ?_
      refine wp_aload_n (pc' := 50) dX2_isWord_49 rfl rfl ⟨_, rfl⟩ ?_
      refine wp_iload_n (pc' := 51) dX2_isWord_50 rfl rfl ?_
      refine wp_callK (μ' := mJ0_charAt_5068e) (pc' := 54) (i := i) dX2_isWord_51 rfl mlX2_102 cfJ0_charAt_5068e ⟨(Nat.le_of_ble_eq_true rfl), (Nat.le_of_ble_eq_true rfl)⟩ (sp_charAt hi hjl) hi rfl rfl rfl (Nat.le_of_ble_eq_true rfl) ?_
      refine wp_icmp_eq (pc' := 57) 59 dX2_isWord_54 rfl (by decide) (fun h54 => ?_) (fun h54 => ?_)
      · refine wp_inc2 (pc' := 62) (nI (j + 1)) dX2_isWord_59 rfl (by decide) rfl (nI_1 j) ?_
        refine wp_goto 28 dX2_isWord_62 (by decide) ?_
        refine ih (j + 1) (by omega) fun k hk => ?_
        by_cases h9 : k = j
        · rw [h9]; exact h54
        · exact hA k (by omega)
      · refine wp_iconst (pc' := 58) 0 dX2_isWord_57 rfl (by decide) ?_
        refine wp_iretz dX2_isWord_58 rfl rfl ?_
        refine ri_ok ?_ rfl
        rw [if_neg (fun z => h54 ((of_decide_eq_true z).2.2 j hjl))]
theorem sp_isWord {S E i : Nat} (hi : i < 3) (hT : TXC M t tb) (hS : M.1 1 1 = nI S) (hE : M.1 1 2 = nI E) (hSE : S ≤ E) (hEt : E ≤ t) : RI g mX2_isWord [ob g 1, sk g i] M (if wdF tb S E (M.1 1 3) i = true then 1 else 0) M := by
  have h3 := hT.1
  refine spec_of_wp (ls := [some (ob g 1), some (sk g i), none]) rfl (Nat.le_of_ble_eq_true rfl) 1 rfl ?_
  refine wp_aload_n (pc' := 1) dX2_isWord_0 rfl rfl ⟨_, rfl⟩ ?_
  refine wp_get (pc' := 4) (o := 1) dX2_isWord_1 rfl flX2_30 (by decide) rfl rfl ?_
  refine wp_iconst (pc' := 5) 1 dX2_isWord_4 rfl (by decide) ?_
  refine wp_icmp_ne (pc' := 8) 24 dX2_isWord_5 rfl (by decide) (fun h5 => ?_) (fun h5 => ?_)
  · refine wp_iconst (pc' := 25) 0 dX2_isWord_24 rfl (by decide) ?_
    refine wp_iretz dX2_isWord_25 rfl rfl ?_
    refine ri_ok ?_ rfl
    rw [if_neg (fun z => h5 ((of_decide_eq_true z).1))]
  · refine wp_aload_n (pc' := 9) dX2_isWord_8 rfl rfl ⟨_, rfl⟩ ?_
    refine wp_get (pc' := 12) (o := 1) dX2_isWord_9 rfl flX2_23 (by decide) rfl rfl ?_
    refine wp_aload_n (pc' := 13) dX2_isWord_12 rfl rfl ⟨_, rfl⟩ ?_
    refine wp_get (pc' := 16) (o := 1) dX2_isWord_13 rfl flX2_37 (by decide) rfl rfl ?_
    refine wp_isub (pc' := 17) dX2_isWord_16 rfl ?_
    refine wp_top ((show M.1 1 2 - M.1 1 1 = nI (E - S) by rw [hS, hE, pk_sub hSE])) ?_
    refine wp_aload_n (pc' := 18) dX2_isWord_17 rfl rfl ⟨_, rfl⟩ ?_
    refine wp_callK (μ' := mJ0_length_8abf5) (pc' := 21) (i := i) dX2_isWord_18 rfl mlX2_96 cfJ0_length_8abf5 ⟨(Nat.le_of_ble_eq_true rfl), (Nat.le_of_ble_eq_true rfl)⟩ (sp_slen hi) hi rfl rfl rfl (Nat.le_of_ble_eq_true rfl) ?_
    refine wp_icmp_eq (pc' := 24) 26 dX2_isWord_21 rfl (by decide) (fun h21 => ?_) (fun h21 => ?_)
    · refine wp_iconst (pc' := 27) 0 dX2_isWord_26 rfl (by decide) ?_
      refine wp_ist2 (pc' := 28) dX2_isWord_27 rfl (by decide) rfl ?_
      rw [h5]
      exact lp_isWord hi hT hS hEt (nN_inj (by omega) (str_len i hi) h21) _ 0 (Nat.zero_add _) (fun k hk => absurd hk (Nat.not_lt_zero k))
    · refine wp_iconst (pc' := 25) 0 dX2_isWord_24 rfl (by decide) ?_
      refine wp_iretz dX2_isWord_25 rfl rfl ?_
      refine ri_ok ?_ rfl
      rw [if_neg (fun z => h21 (by rw [(of_decide_eq_true z).2.1]))]
theorem sp_isNumberTo {most : Int32} : RI g mX2_isNumberTo [ob g 1, .int most] M (if M.1 1 3 = 2 ∧ M.1 1 4 ≤ most then 1 else 0) M := by
  refine spec_of_wp (ls := [some (ob g 1), some (.int most)]) rfl (Nat.le_of_ble_eq_true rfl) 0 rfl ?_
  refine wp_aload_n (pc' := 1) dX2_isNumberTo_0 rfl rfl ⟨_, rfl⟩ ?_
  refine wp_get (pc' := 4) (o := 1) dX2_isNumberTo_1 rfl flX2_30 (by decide) rfl rfl ?_
  refine wp_iconst (pc' := 5) 2 dX2_isNumberTo_4 rfl (by decide) ?_
  refine wp_icmp_ne (pc' := 8) 20 dX2_isNumberTo_5 rfl (by decide) (fun h5 => ?_) (fun h5 => ?_)
  · refine wp_iconst (pc' := 21) 0 dX2_isNumberTo_20 rfl (by decide) ?_
    refine wp_iretz dX2_isNumberTo_21 rfl rfl ?_
    exact ri_ok (by rw [if_neg (fun z => h5 z.1)]) rfl
  · refine wp_aload_n (pc' := 9) dX2_isNumberTo_8 rfl rfl ⟨_, rfl⟩ ?_
    refine wp_get (pc' := 12) (o := 1) dX2_isNumberTo_9 rfl flX2_83 (by decide) rfl rfl ?_
    refine wp_iload_n (pc' := 13) dX2_isNumberTo_12 rfl rfl ?_
    refine wp_icmp_gt (pc' := 16) 20 dX2_isNumberTo_13 rfl (by decide) (fun h13 => ?_) (fun h13 => ?_)
    · refine wp_iconst (pc' := 21) 0 dX2_isNumberTo_20 rfl (by decide) ?_
      refine wp_iretz dX2_isNumberTo_21 rfl rfl ?_
      exact ri_ok (by rw [if_neg (fun z => absurd h13 (Int32.not_lt.mpr z.2))]) rfl
    · refine wp_iconst (pc' := 17) 1 dX2_isNumberTo_16 rfl (by decide) ?_
      refine wp_goto 21 dX2_isNumberTo_17 (by decide) ?_
      refine wp_iretz dX2_isNumberTo_21 rfl rfl ?_
      exact ri_ok (by rw [if_pos ⟨h5, Int32.not_lt.mp h13⟩]) rfl
end RT
