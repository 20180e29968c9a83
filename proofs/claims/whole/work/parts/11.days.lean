
/-! passes, days -/
theorem upI_o (M : Mem) (o k : Nat) (v : Int32) {a : Nat} (h : a ≠ o) : (upI M o k v).1 a = M.1 a := (upI_ne M o k v h).1
theorem sinkM_o (M : Mem) (c : Int32) {a : Nat} (h : a ≠ 13 ∧ a ≠ 15) : (sinkM M c).1 a = M.1 a := by
  unfold sinkM
  rw [putM_ne _ _ _ _ _ h.2, upI_o _ _ _ _ h.1, upI_o _ _ _ _ h.1]
theorem stepM_o (M : Mem) (c : Int32) {a : Nat} (h : a ≠ 13 ∧ a ≠ 14 ∧ a ≠ 15) : (stepM M c).1 a = M.1 a := by
  unfold stepM
  split
  · rfl
  · split
    · rw [sinkM_o _ _ ⟨h.1, h.2.2⟩, putM_ne _ _ _ _ _ h.2.1]
    · rw [putM_ne _ _ _ _ _ h.2.1]
theorem layM_o (M : Mem) (k c s : Int32) {a : Nat} (h : a ≠ 13 ∧ a ≠ 14 ∧ a ≠ 15 ∧ a ≠ 16) : (layM M k c s).1 a = M.1 a := by
  unfold layM layG
  rw [putM_ne _ _ _ _ _ h.2.2.2, putM_ne _ _ _ _ _ h.2.2.1, putM_ne _ _ _ _ _ h.2.1, upI_o _ _ _ _ h.1, upI_o _ _ _ _ h.1]
def gaW (nr : Int32 → Int32) (goal bear : Int32) : Nat → Int32 → Mem → Mem
  | 0, _, M => M
  | n + 1, p, M => gaW nr goal bear n (nextF nr p goal bear) (stepM M (nextF nr p goal bear))
theorem gaW_o (nr : Int32 → Int32) (goal bear : Int32) {a : Nat} (h : a ≠ 13 ∧ a ≠ 14 ∧ a ≠ 15) : ∀ (n : Nat) (p : Int32) (M : Mem), (gaW nr goal bear n p M).1 a = M.1 a := by
  intro n
  induction n with
  | zero => intro p M; rfl
  | succ n ih => intro p M; rw [gaW, ih, stepM_o _ _ h]
theorem nearM_of {M M' : Mem} (h : M'.1 11 = M.1 11) : nearM M' = nearM M := by
  funext y
  unfold nearM
  rw [h]
def gaM (M : Mem) (k c : Int32) : Mem :=
  let M' := gaW (nearM M) (atF 4 (M.1 6) k) (bearM M) (stM M k).toNatClampNeg (atF 4 (M.1 5) k) M
  layM M' k c (M'.1 4 5)
theorem gaM_o (M : Mem) (k c : Int32) {a : Nat} (h : a ≠ 13 ∧ a ≠ 14 ∧ a ≠ 15 ∧ a ≠ 16) : (gaM M k c).1 a = M.1 a := by
  unfold gaM
  rw [layM_o _ _ _ _ h, gaW_o _ _ _ ⟨h.1, h.2.1, h.2.2.1⟩]
theorem stF_cases (nr : Int32 → Int32) (bear b : Int32) : ∀ (n k : Nat) (r : Int32), stF nr bear b n k r = -9 ∨ ∃ j, j < k + n ∧ stF nr bear b n k r = nI j := by
  intro n
  induction n with
  | zero => intro k r; exact Or.inl rfl
  | succ n ih =>
    intro k r
    rw [stF]
    by_cases h : hasF r b = 0
    · rw [if_pos h]
      by_cases h2 : r ||| (nr r &&& bear) = r
      · rw [if_pos h2]; exact Or.inl rfl
      · rw [if_neg h2]
        rcases ih (k + 1) (r ||| (nr r &&& bear)) with h3 | ⟨j, h3, h4⟩
        · exact Or.inl h3
        · exact Or.inr ⟨j, by omega, h4⟩
    · rw [if_neg h]; exact Or.inr ⟨k, by omega, rfl⟩
theorem fsF_cases (nr : Int32 → Int32) (a b bear : Int32) : fsF nr a b bear = -9 ∨ ∃ j, j < 24 ∧ fsF nr a b bear = nI j := by
  unfold fsF
  split
  · exact Or.inl rfl
  · rcases stF_cases nr bear b 24 0 (shl 1 a) with h | ⟨j, h, e⟩
    · exact Or.inl h
    · exact Or.inr ⟨j, by omega, e⟩

theorem lp_goAndLay {g : GG} {nr : Int32 → Int32} {k c bear goal : Int32} {s : Nat} (hs : s < 2 ^ 31) : ∀ (n j : Nat), j + n = s → ∀ (p : Int32) (M : Mem), nearM M = nr → wp g mX6_goAndLay 48 [some (ob g 0), some (.int k), some (.int c), some (.int bear), some (.int p), some (.int goal), some (.int (nI s)), some (.int (nI j))] [] M (fun q m => q = some (.int (nI s)) ∧ m = layM (gaW nr goal bear n p M) k c ((gaW nr goal bear n p M).1 4 5)) := by
  intro n
  induction n with
  | zero =>
    intro j hj p M hM
    obtain rfl : j = s := by omega
    refine wp_iload (pc' := 50) dX6_goAndLay_48 rfl rfl ?_
    refine wp_iload (pc' := 52) dX6_goAndLay_50 rfl rfl ?_
    refine wp_icmp_ge (pc' := 55) 84 dX6_goAndLay_52 rfl (by decide) (fun h52 => ?_) (fun h52 => ?_)
    · refine wp_aload_n (pc' := 85) dX6_goAndLay_84 rfl rfl ⟨_, rfl⟩ ?_
      refine wp_get (pc' := 88) (o := 0) dX6_goAndLay_85 rfl flX6_46 (by decide) rfl rfl ?_
      refine wp_iload_n (pc' := 89) dX6_goAndLay_88 rfl rfl ?_
      refine wp_iload_n (pc' := 90) dX6_goAndLay_89 rfl rfl ?_
      refine wp_aload_n (pc' := 91) dX6_goAndLay_90 rfl rfl ⟨_, rfl⟩ ?_
      refine wp_get (pc' := 94) (o := 0) dX6_goAndLay_91 rfl flX6_24 (by decide) rfl rfl ?_
      refine wp_get (pc' := 97) (o := 4) dX6_goAndLay_94 rfl flX6_221 (by decide) rfl rfl ?_
      refine wp_cVV (μ' := mX0_lay) (pc' := 100) (o := 13) dX6_goAndLay_97 rfl mlX6_233 cfX0_lay ⟨(Nat.le_of_ble_eq_true rfl), (Nat.le_of_ble_eq_true rfl)⟩ (sp_lay) (by decide) rfl rfl rfl rfl rfl (Nat.le_of_ble_eq_true rfl) ?_
      refine wp_iload (pc' := 102) dX6_goAndLay_100 rfl rfl ?_
      refine wp_ireti dX6_goAndLay_102 rfl ?_
      exact ri_ok rfl rfl
    · exact absurd (nI_le (Nat.le_refl j) hs) h52
  | succ n ih =>
    intro j hj p M hM
    subst hM
    refine wp_iload (pc' := 50) dX6_goAndLay_48 rfl rfl ?_
    refine wp_iload (pc' := 52) dX6_goAndLay_50 rfl rfl ?_
    refine wp_icmp_ge (pc' := 55) 84 dX6_goAndLay_52 rfl (by decide) (fun h52 => ?_) (fun h52 => ?_)
    · exact absurd h52 (nI_ge (by omega) hs)
    · refine wp_aload_n (pc' := 56) dX6_goAndLay_55 rfl rfl ⟨_, rfl⟩ ?_
      refine wp_get (pc' := 59) (o := 0) dX6_goAndLay_56 rfl flX6_42 (by decide) rfl rfl ?_
      refine wp_iload (pc' := 61) dX6_goAndLay_59 rfl rfl ?_
      refine wp_iload (pc' := 63) dX6_goAndLay_61 rfl rfl ?_
      refine wp_iload_n (pc' := 64) dX6_goAndLay_63 rfl rfl ?_
      refine wp_cVI (μ' := mX5_nextCell) (pc' := 67) (o := 11) dX6_goAndLay_64 rfl mlX6_176 cfX5_nextCell ⟨(Nat.le_of_ble_eq_true rfl), (Nat.le_of_ble_eq_true rfl)⟩ (sp_nextCell) (by decide) rfl rfl rfl rfl rfl (Nat.le_of_ble_eq_true rfl) ?_
      refine wp_ist4 (pc' := 69) dX6_goAndLay_67 rfl (by decide) rfl ?_
      refine wp_aload_n (pc' := 70) dX6_goAndLay_69 rfl rfl ⟨_, rfl⟩ ?_
      refine wp_get (pc' := 73) (o := 0) dX6_goAndLay_70 rfl flX6_46 (by decide) rfl rfl ?_
      refine wp_iload (pc' := 75) dX6_goAndLay_73 rfl rfl ?_
      refine wp_cVV (μ' := mX0_stepOn) (pc' := 78) (o := 13) dX6_goAndLay_75 rfl mlX6_230 cfX0_stepOn ⟨(Nat.le_of_ble_eq_true rfl), (Nat.le_of_ble_eq_true rfl)⟩ (sp_stepOn) (by decide) rfl rfl rfl rfl rfl (Nat.le_of_ble_eq_true rfl) ?_
      refine wp_inc7 (pc' := 81) (nI (j + 1)) dX6_goAndLay_78 rfl (by decide) rfl (nI_1 j) ?_
      refine wp_goto 48 dX6_goAndLay_81 (by decide) ?_
      exact ih (j + 1) (by omega) _ _ (nearM_of (stepM_o _ _ (by decide)))
theorem sp_goAndLay {g : GG} {M : Mem} {k c : Int32} {s : Nat} (hs : s < 2 ^ 31) (he : stM M k = nI s) : RI g mX6_goAndLay [ob g 0, .int k, .int c] M (nI s) (gaM M k c) := by
  refine spec_of_wp (ls := [some (ob g 0), some (.int k), some (.int c), none, none, none, none, none]) rfl (Nat.le_of_ble_eq_true rfl) 5 rfl ?_
  refine wp_aload_n (pc' := 1) dX6_goAndLay_0 rfl rfl ⟨_, rfl⟩ ?_
  refine wp_cVI (μ' := mX6_bearing) (pc' := 4) (o := 0) dX6_goAndLay_1 rfl mlX6_169 cfX6_bearing ⟨(Nat.le_of_ble_eq_true rfl), (Nat.le_of_ble_eq_true rfl)⟩ (sp_bearing) (by decide) rfl rfl rfl rfl rfl (Nat.le_of_ble_eq_true rfl) ?_
  refine wp_ist3 (pc' := 5) dX6_goAndLay_4 rfl (by decide) rfl ?_
  refine wp_aload_n (pc' := 6) dX6_goAndLay_5 rfl rfl ⟨_, rfl⟩ ?_
  refine wp_get (pc' := 9) (o := 0) dX6_goAndLay_6 rfl flX6_24 (by decide) rfl rfl ?_
  refine wp_get (pc' := 12) (o := 4) dX6_goAndLay_9 rfl flX6_123 (by decide) rfl rfl ?_
  refine wp_iload_n (pc' := 13) dX6_goAndLay_12 rfl rfl ?_
  refine wp_cSI (μ' := mX6_at) (pc' := 16) dX6_goAndLay_13 rfl mlX6_113 cfX6_at ⟨(Nat.le_of_ble_eq_true rfl), (Nat.le_of_ble_eq_true rfl)⟩ (sp_at arr5) rfl rfl (Nat.le_of_ble_eq_true rfl) ?_
  refine wp_ist4 (pc' := 18) dX6_goAndLay_16 rfl (by decide) rfl ?_
  refine wp_aload_n (pc' := 19) dX6_goAndLay_18 rfl rfl ⟨_, rfl⟩ ?_
  refine wp_get (pc' := 22) (o := 0) dX6_goAndLay_19 rfl flX6_24 (by decide) rfl rfl ?_
  refine wp_get (pc' := 25) (o := 4) dX6_goAndLay_22 rfl flX6_126 (by decide) rfl rfl ?_
  refine wp_iload_n (pc' := 26) dX6_goAndLay_25 rfl rfl ?_
  refine wp_cSI (μ' := mX6_at) (pc' := 29) dX6_goAndLay_26 rfl mlX6_113 cfX6_at ⟨(Nat.le_of_ble_eq_true rfl), (Nat.le_of_ble_eq_true rfl)⟩ (sp_at arr6) rfl rfl (Nat.le_of_ble_eq_true rfl) ?_
  refine wp_ist5 (pc' := 31) dX6_goAndLay_29 rfl (by decide) rfl ?_
  refine wp_aload_n (pc' := 32) dX6_goAndLay_31 rfl rfl ⟨_, rfl⟩ ?_
  refine wp_get (pc' := 35) (o := 0) dX6_goAndLay_32 rfl flX6_42 (by decide) rfl rfl ?_
  refine wp_iload (pc' := 37) dX6_goAndLay_35 rfl rfl ?_
  refine wp_iload (pc' := 39) dX6_goAndLay_37 rfl rfl ?_
  refine wp_iload_n (pc' := 40) dX6_goAndLay_39 rfl rfl ?_
  refine wp_cVI (μ' := mX5_fewestSteps) (pc' := 43) (o := 11) dX6_goAndLay_40 rfl mlX6_172 cfX5_fewestSteps ⟨(Nat.le_of_ble_eq_true rfl), (Nat.le_of_ble_eq_true rfl)⟩ (sp_fewestSteps) (by decide) rfl rfl rfl rfl rfl (Nat.le_of_ble_eq_true rfl) ?_
  refine wp_ist6 (pc' := 45) dX6_goAndLay_43 rfl (by decide) rfl ?_
  refine wp_iconst (pc' := 46) 0 dX6_goAndLay_45 rfl (by decide) ?_
  refine wp_ist7 (pc' := 48) dX6_goAndLay_46 rfl (by decide) rfl ?_
  have e : fsF (nearM M) (atF 4 (M.1 5) k) (atF 4 (M.1 6) k) (bearM M) = nI s := he
  rw [e]
  have e2 : gaM M k c = layM (gaW (nearM M) (atF 4 (M.1 6) k) (bearM M) s (atF 4 (M.1 5) k) M) k c ((gaW (nearM M) (atF 4 (M.1 6) k) (bearM M) s (atF 4 (M.1 5) k) M).1 4 5) := by
    unfold gaM
    rw [he, nI_clamp hs]
  rw [e2]
  exact lp_goAndLay hs s 0 (Nat.zero_add s) _ M rfl
theorem sp_passes_bad {g : GG} {M : Mem} {k c : Int32} (h : isWalkerF M k = 0 ∨ isCellF M c = 0) : RI g mX6_passes [ob g 0, .int k, .int c] M (-1) M := by
  refine spec_of_wp (ls := [some (ob g 0), some (.int k), some (.int c)]) rfl (Nat.le_of_ble_eq_true rfl) 0 rfl ?_
  refine wp_aload_n (pc' := 1) dX6_passes_0 rfl rfl ⟨_, rfl⟩ ?_
  refine wp_iload_n (pc' := 2) dX6_passes_1 rfl rfl ?_
  refine wp_cVI (μ' := mX6_isWalker) (pc' := 5) (o := 0) dX6_passes_2 rfl mlX6_120 cfX6_isWalker ⟨(Nat.le_of_ble_eq_true rfl), (Nat.le_of_ble_eq_true rfl)⟩ (sp_isWalker) (by decide) rfl rfl rfl rfl rfl (Nat.le_of_ble_eq_true rfl) ?_
  refine wp_if_eq (pc' := 8) 16 dX6_passes_5 rfl (by decide) (fun h5 => ?_) (fun h5 => ?_)
  · refine wp_iconst (pc' := 17) (-1) dX6_passes_16 rfl (by decide) ?_
    refine wp_ireti dX6_passes_17 rfl ?_
    exact ri_ok rfl rfl
  · refine wp_aload_n (pc' := 9) dX6_passes_8 rfl rfl ⟨_, rfl⟩ ?_
    refine wp_iload_n (pc' := 10) dX6_passes_9 rfl rfl ?_
    refine wp_cVI (μ' := mX6_isCell) (pc' := 13) (o := 0) dX6_passes_10 rfl mlX6_101 cfX6_isCell ⟨(Nat.le_of_ble_eq_true rfl), (Nat.le_of_ble_eq_true rfl)⟩ (sp_isCell) (by decide) rfl rfl rfl rfl rfl (Nat.le_of_ble_eq_true rfl) ?_
    refine wp_if_ne (pc' := 16) 18 dX6_passes_13 rfl (by decide) (fun h13 => ?_) (fun h13 => ?_)
    · exact (h.elim h5 h13).elim
    · refine wp_iconst (pc' := 17) (-1) dX6_passes_16 rfl (by decide) ?_
      refine wp_ireti dX6_passes_17 rfl ?_
      exact ri_ok rfl rfl
theorem sp_passes_state {g : GG} {M : Mem} {k c : Int32} (h : ¬ (isWalkerF M k = 0 ∨ isCellF M c = 0)) (h2 : stM M k = -9 ∨ hasF (M.1 13 0) c = 0) : RI g mX6_passes [ob g 0, .int k, .int c] M (-2) M := by
  refine spec_of_wp (ls := [some (ob g 0), some (.int k), some (.int c)]) rfl (Nat.le_of_ble_eq_true rfl) 0 rfl ?_
  refine wp_aload_n (pc' := 1) dX6_passes_0 rfl rfl ⟨_, rfl⟩ ?_
  refine wp_iload_n (pc' := 2) dX6_passes_1 rfl rfl ?_
  refine wp_cVI (μ' := mX6_isWalker) (pc' := 5) (o := 0) dX6_passes_2 rfl mlX6_120 cfX6_isWalker ⟨(Nat.le_of_ble_eq_true rfl), (Nat.le_of_ble_eq_true rfl)⟩ (sp_isWalker) (by decide) rfl rfl rfl rfl rfl (Nat.le_of_ble_eq_true rfl) ?_
  refine wp_if_eq (pc' := 8) 16 dX6_passes_5 rfl (by decide) (fun h5 => ?_) (fun h5 => ?_)
  · exact absurd (Or.inl h5) h
  · refine wp_aload_n (pc' := 9) dX6_passes_8 rfl rfl ⟨_, rfl⟩ ?_
    refine wp_iload_n (pc' := 10) dX6_passes_9 rfl rfl ?_
    refine wp_cVI (μ' := mX6_isCell) (pc' := 13) (o := 0) dX6_passes_10 rfl mlX6_101 cfX6_isCell ⟨(Nat.le_of_ble_eq_true rfl), (Nat.le_of_ble_eq_true rfl)⟩ (sp_isCell) (by decide) rfl rfl rfl rfl rfl (Nat.le_of_ble_eq_true rfl) ?_
    refine wp_if_ne (pc' := 16) 18 dX6_passes_13 rfl (by decide) (fun h13 => ?_) (fun h13 => ?_)
    · refine wp_aload_n (pc' := 19) dX6_passes_18 rfl rfl ⟨_, rfl⟩ ?_
      refine wp_iload_n (pc' := 20) dX6_passes_19 rfl rfl ?_
      refine wp_cVI (μ' := mX6_stepsOf) (pc' := 23) (o := 0) dX6_passes_20 rfl mlX6_135 cfX6_stepsOf ⟨(Nat.le_of_ble_eq_true rfl), (Nat.le_of_ble_eq_true rfl)⟩ (sp_stepsOf) (by decide) rfl rfl rfl rfl rfl (Nat.le_of_ble_eq_true rfl) ?_
      refine wp_bipush (pc' := 25) (-9) dX6_passes_23 rfl (by decide) ?_
      refine wp_icmp_eq (pc' := 28) 42 dX6_passes_25 rfl (by decide) (fun h25 => ?_) (fun h25 => ?_)
      · refine wp_bipush (pc' := 44) (-2) dX6_passes_42 rfl (by decide) ?_
        refine wp_ireti dX6_passes_44 rfl ?_
        exact ri_ok rfl rfl
      · refine wp_aload_n (pc' := 29) dX6_passes_28 rfl rfl ⟨_, rfl⟩ ?_
        refine wp_get (pc' := 32) (o := 0) dX6_passes_29 rfl flX6_46 (by decide) rfl rfl ?_
        refine wp_get (pc' := 35) (o := 13) dX6_passes_32 rfl flX6_138 (by decide) rfl rfl ?_
        refine wp_iload_n (pc' := 36) dX6_passes_35 rfl rfl ?_
        refine wp_cSI (μ' := mX6_has) (pc' := 39) dX6_passes_36 rfl mlX6_141 cfX6_has ⟨(Nat.le_of_ble_eq_true rfl), (Nat.le_of_ble_eq_true rfl)⟩ (sp_has) rfl rfl (Nat.le_of_ble_eq_true rfl) ?_
        refine wp_if_ne (pc' := 42) 45 dX6_passes_39 rfl (by decide) (fun h39 => ?_) (fun h39 => ?_)
        · exact (h2.elim h25 h39).elim
        · refine wp_bipush (pc' := 44) (-2) dX6_passes_42 rfl (by decide) ?_
          refine wp_ireti dX6_passes_44 rfl ?_
          exact ri_ok rfl rfl
    · exact absurd (Or.inr h13) h
theorem sp_passes {g : GG} {M : Mem} {k c : Int32} {s : Nat} (hs : s < 2 ^ 31) (he : stM M k = nI s) (h : ¬ (isWalkerF M k = 0 ∨ isCellF M c = 0)) (h2 : ¬ (stM M k = -9 ∨ hasF (M.1 13 0) c = 0)) : RI g mX6_passes [ob g 0, .int k, .int c] M (nI s) (gaM M k c) := by
  refine spec_of_wp (ls := [some (ob g 0), some (.int k), some (.int c)]) rfl (Nat.le_of_ble_eq_true rfl) 0 rfl ?_
  refine wp_aload_n (pc' := 1) dX6_passes_0 rfl rfl ⟨_, rfl⟩ ?_
  refine wp_iload_n (pc' := 2) dX6_passes_1 rfl rfl ?_
  refine wp_cVI (μ' := mX6_isWalker) (pc' := 5) (o := 0) dX6_passes_2 rfl mlX6_120 cfX6_isWalker ⟨(Nat.le_of_ble_eq_true rfl), (Nat.le_of_ble_eq_true rfl)⟩ (sp_isWalker) (by decide) rfl rfl rfl rfl rfl (Nat.le_of_ble_eq_true rfl) ?_
  refine wp_if_eq (pc' := 8) 16 dX6_passes_5 rfl (by decide) (fun h5 => ?_) (fun h5 => ?_)
  · exact absurd (Or.inl h5) h
  · refine wp_aload_n (pc' := 9) dX6_passes_8 rfl rfl ⟨_, rfl⟩ ?_
    refine wp_iload_n (pc' := 10) dX6_passes_9 rfl rfl ?_
    refine wp_cVI (μ' := mX6_isCell) (pc' := 13) (o := 0) dX6_passes_10 rfl mlX6_101 cfX6_isCell ⟨(Nat.le_of_ble_eq_true rfl), (Nat.le_of_ble_eq_true rfl)⟩ (sp_isCell) (by decide) rfl rfl rfl rfl rfl (Nat.le_of_ble_eq_true rfl) ?_
    refine wp_if_ne (pc' := 16) 18 dX6_passes_13 rfl (by decide) (fun h13 => ?_) (fun h13 => ?_)
    · refine wp_aload_n (pc' := 19) dX6_passes_18 rfl rfl ⟨_, rfl⟩ ?_
      refine wp_iload_n (pc' := 20) dX6_passes_19 rfl rfl ?_
      refine wp_cVI (μ' := mX6_stepsOf) (pc' := 23) (o := 0) dX6_passes_20 rfl mlX6_135 cfX6_stepsOf ⟨(Nat.le_of_ble_eq_true rfl), (Nat.le_of_ble_eq_true rfl)⟩ (sp_stepsOf) (by decide) rfl rfl rfl rfl rfl (Nat.le_of_ble_eq_true rfl) ?_
      refine wp_bipush (pc' := 25) (-9) dX6_passes_23 rfl (by decide) ?_
      refine wp_icmp_eq (pc' := 28) 42 dX6_passes_25 rfl (by decide) (fun h25 => ?_) (fun h25 => ?_)
      · exact absurd (Or.inl h25) h2
      · refine wp_aload_n (pc' := 29) dX6_passes_28 rfl rfl ⟨_, rfl⟩ ?_
        refine wp_get (pc' := 32) (o := 0) dX6_passes_29 rfl flX6_46 (by decide) rfl rfl ?_
        refine wp_get (pc' := 35) (o := 13) dX6_passes_32 rfl flX6_138 (by decide) rfl rfl ?_
        refine wp_iload_n (pc' := 36) dX6_passes_35 rfl rfl ?_
        refine wp_cSI (μ' := mX6_has) (pc' := 39) dX6_passes_36 rfl mlX6_141 cfX6_has ⟨(Nat.le_of_ble_eq_true rfl), (Nat.le_of_ble_eq_true rfl)⟩ (sp_has) rfl rfl (Nat.le_of_ble_eq_true rfl) ?_
        refine wp_if_ne (pc' := 42) 45 dX6_passes_39 rfl (by decide) (fun h39 => ?_) (fun h39 => ?_)
        · refine wp_aload_n (pc' := 46) dX6_passes_45 rfl rfl ⟨_, rfl⟩ ?_
          refine wp_iload_n (pc' := 47) dX6_passes_46 rfl rfl ?_
          refine wp_iload_n (pc' := 48) dX6_passes_47 rfl rfl ?_
          refine wp_cVI (μ' := mX6_goAndLay) (pc' := 51) (o := 0) dX6_passes_48 rfl mlX6_145 cfX6_goAndLay ⟨(Nat.le_of_ble_eq_true rfl), (Nat.le_of_ble_eq_true rfl)⟩ (sp_goAndLay hs he) (by decide) rfl rfl rfl rfl rfl (Nat.le_of_ble_eq_true rfl) ?_
          refine wp_ireti dX6_passes_51 rfl ?_
          exact ri_ok rfl rfl
        · exact absurd (Or.inr h39) h2
    · exact absurd (Or.inr h13) h

def dst (s : Int32 × Mem) (k : Int32) : Int32 × Mem := if stM s.2 k = -9 ∨ s.2.1 13 0 = 0 then (s.1 + 1, s.2) else (s.1, gaM s.2 k (likedF s.2 k))
def dkM : Nat → Nat → Int32 × Mem → Int32 × Mem
  | 0, _, s => s
  | n + 1, j, s => dkM n (j + 1) (dst s (nI j))
def ddM (w : Nat) : Nat → Int32 × Mem → Int32 × Mem
  | 0, s => s
  | n + 1, s => ddM w n (dkM w 0 s)
theorem dst_o (s : Int32 × Mem) (k : Int32) {a : Nat} (h : a ≠ 13 ∧ a ≠ 14 ∧ a ≠ 15 ∧ a ≠ 16) : (dst s k).2.1 a = s.2.1 a := by
  unfold dst
  split
  · rfl
  · exact gaM_o _ _ _ h
theorem dkM_o {a : Nat} (h : a ≠ 13 ∧ a ≠ 14 ∧ a ≠ 15 ∧ a ≠ 16) : ∀ (n j : Nat) (s : Int32 × Mem), (dkM n j s).2.1 a = s.2.1 a := by
  intro n
  induction n with
  | zero => intro j s; rfl
  | succ n ih => intro j s; rw [dkM, ih, dst_o _ _ h]

theorem lp_dk {g : GG} {w : Nat} (hws : w < 2 ^ 31) {nd day : Int32} {Q : Option Value → Mem → Prop} : ∀ (n j : Nat), j + n = w → ∀ (cn : Int32) (M : Mem), M.1 4 7 = nI w → wp g mX6_days 83 [some (ob g 0), some (.int nd), some (.int (dkM n j (cn, M)).1), some (.int day), some (.int (nI w))] [] (dkM n j (cn, M)).2 Q → wp g mX6_days 25 [some (ob g 0), some (.int nd), some (.int cn), some (.int day), some (.int (nI j))] [] M Q := by
  intro n
  induction n with
  | zero =>
    intro j hj cn M hw K
    obtain rfl : j = w := by omega
    refine wp_iload (pc' := 27) dX6_days_25 rfl rfl ?_
    refine wp_aload_n (pc' := 28) dX6_days_27 rfl rfl ⟨_, rfl⟩ ?_
    refine wp_get (pc' := 31) (o := 0) dX6_days_28 rfl flX6_24 (by decide) rfl rfl ?_
    refine wp_get (pc' := 34) (o := 4) dX6_days_31 rfl flX6_149 (by decide) rfl rfl ?_
    refine wp_icmp_ge (pc' := 37) 83 dX6_days_34 rfl (by decide) (fun h34 => ?_) (fun h34 => ?_)
    · exact K
    · exact absurd (by rw [hw]; exact nI_le (Nat.le_refl j) hws) h34
  | succ n ih =>
    intro j hj cn M hw K
    refine wp_iload (pc' := 27) dX6_days_25 rfl rfl ?_
    refine wp_aload_n (pc' := 28) dX6_days_27 rfl rfl ⟨_, rfl⟩ ?_
    refine wp_get (pc' := 31) (o := 0) dX6_days_28 rfl flX6_24 (by decide) rfl rfl ?_
    refine wp_get (pc' := 34) (o := 4) dX6_days_31 rfl flX6_149 (by decide) rfl rfl ?_
    refine wp_icmp_ge (pc' := 37) 83 dX6_days_34 rfl (by decide) (fun h34 => ?_) (fun h34 => ?_)
    · exact absurd h34 (by rw [hw]; exact nI_ge (by omega) hws)
    · refine wp_aload_n (pc' := 38) dX6_days_37 rfl rfl ⟨_, rfl⟩ ?_
      refine wp_iload (pc' := 40) dX6_days_38 rfl rfl ?_
      refine wp_cVI (μ' := mX6_stepsOf) (pc' := 43) (o := 0) dX6_days_40 rfl mlX6_135 cfX6_stepsOf ⟨(Nat.le_of_ble_eq_true rfl), (Nat.le_of_ble_eq_true rfl)⟩ (sp_stepsOf) (by decide) rfl rfl rfl rfl rfl (Nat.le_of_ble_eq_true rfl) ?_
      refine wp_bipush (pc' := 45) (-9) dX6_days_43 rfl (by decide) ?_
      refine wp_icmp_eq (pc' := 48) 58 dX6_days_45 rfl (by decide) (fun h45 => ?_) (fun h45 => ?_)
      · refine wp_inc2 (pc' := 61) (cn + 1) dX6_days_58 rfl (by decide) rfl rfl ?_
        refine wp_goto 77 dX6_days_61 (by decide) ?_
        refine wp_inc4 (pc' := 80) (nI (j + 1)) dX6_days_77 rfl (by decide) rfl (nI_1 j) ?_
        refine wp_goto 25 dX6_days_80 (by decide) ?_
        have e : dst (cn, M) (nI j) = _ := if_pos (Or.inl h45)
        rw [dkM, e] at K
        exact ih (j + 1) (by omega) _ _ hw K
      · refine wp_aload_n (pc' := 49) dX6_days_48 rfl rfl ⟨_, rfl⟩ ?_
        refine wp_get (pc' := 52) (o := 0) dX6_days_49 rfl flX6_46 (by decide) rfl rfl ?_
        refine wp_get (pc' := 55) (o := 13) dX6_days_52 rfl flX6_138 (by decide) rfl rfl ?_
        refine wp_if_ne (pc' := 58) 64 dX6_days_55 rfl (by decide) (fun h55 => ?_) (fun h55 => ?_)
        · obtain ⟨s, hs, he⟩ : ∃ s : Nat, s < 2 ^ 31 ∧ stM M (nI j) = nI s := (fsF_cases (nearM M) (atF 4 (M.1 5) (nI j)) (atF 4 (M.1 6) (nI j)) (bearM M)).elim (fun h => absurd h h45) (fun ⟨s, h1, h2⟩ => ⟨s, by omega, h2⟩)
          refine wp_aload_n (pc' := 65) dX6_days_64 rfl rfl ⟨_, rfl⟩ ?_
          refine wp_iload (pc' := 67) dX6_days_65 rfl rfl ?_
          refine wp_aload_n (pc' := 68) dX6_days_67 rfl rfl ⟨_, rfl⟩ ?_
          refine wp_iload (pc' := 70) dX6_days_68 rfl rfl ?_
          refine wp_cVI (μ' := mX6_likedBy) (pc' := 73) (o := 0) dX6_days_70 rfl mlX6_152 cfX6_likedBy ⟨(Nat.le_of_ble_eq_true rfl), (Nat.le_of_ble_eq_true rfl)⟩ (sp_likedBy) (by decide) rfl rfl rfl rfl rfl (Nat.le_of_ble_eq_true rfl) ?_
          refine wp_cVI (μ' := mX6_goAndLay) (pc' := 76) (o := 0) dX6_days_73 rfl mlX6_145 cfX6_goAndLay ⟨(Nat.le_of_ble_eq_true rfl), (Nat.le_of_ble_eq_true rfl)⟩ (sp_goAndLay hs he) (by decide) rfl rfl rfl rfl rfl (Nat.le_of_ble_eq_true rfl) ?_
          refine wp_pop (pc' := 77) dX6_days_76 rfl rfl ?_
          refine wp_inc4 (pc' := 80) (nI (j + 1)) dX6_days_77 rfl (by decide) rfl (nI_1 j) ?_
          refine wp_goto 25 dX6_days_80 (by decide) ?_
          have e : dst (cn, M) (nI j) = _ := if_neg (fun h => h.elim h45 h55)
          rw [dkM, e] at K
          exact ih (j + 1) (by omega) _ _ (by rw [gaM_o _ _ _ (by decide)]; exact hw) K
        · refine wp_inc2 (pc' := 61) (cn + 1) dX6_days_58 rfl (by decide) rfl rfl ?_
          refine wp_goto 77 dX6_days_61 (by decide) ?_
          refine wp_inc4 (pc' := 80) (nI (j + 1)) dX6_days_77 rfl (by decide) rfl (nI_1 j) ?_
          refine wp_goto 25 dX6_days_80 (by decide) ?_
          have e : dst (cn, M) (nI j) = _ := if_pos (Or.inr h55)
          rw [dkM, e] at K
          exact ih (j + 1) (by omega) _ _ hw K
theorem lp_dd {g : GG} {w s : Nat} (hws : w < 2 ^ 31) (hs : s < 2 ^ 31) : ∀ (n j : Nat), j + n = s → ∀ (cn : Int32) (M : Mem) (x : Option Value), M.1 4 7 = nI w → wp g mX6_days 17 [some (ob g 0), some (.int (nI s)), some (.int cn), some (.int (nI j)), x] [] M (fun q m => q = some (.int (ddM w n (cn, M)).1) ∧ m = (ddM w n (cn, M)).2) := by
  intro n
  induction n with
  | zero =>
    intro j hj cn M x hw
    obtain rfl : j = s := by omega
    refine wp_iload_n (pc' := 18) dX6_days_17 rfl rfl ?_
    refine wp_iload_n (pc' := 19) dX6_days_18 rfl rfl ?_
    refine wp_icmp_ge (pc' := 22) 89 dX6_days_19 rfl (by decide) (fun h19 => ?_) (fun h19 => ?_)
    · refine wp_iload_n (pc' := 90) dX6_days_89 rfl rfl ?_
      refine wp_ireti dX6_days_90 rfl ?_
      exact ri_ok rfl rfl
    · exact absurd (nI_le (Nat.le_refl j) hs) h19
  | succ n ih =>
    intro j hj cn M x hw
    refine wp_iload_n (pc' := 18) dX6_days_17 rfl rfl ?_
    refine wp_iload_n (pc' := 19) dX6_days_18 rfl rfl ?_
    refine wp_icmp_ge (pc' := 22) 89 dX6_days_19 rfl (by decide) (fun h19 => ?_) (fun h19 => ?_)
    · refine wp_iload_n (pc' := 90) dX6_days_89 rfl rfl ?_
      refine wp_ireti dX6_days_90 rfl ?_
      exact absurd h19 (nI_ge (by omega) hs)
    · refine wp_iconst (pc' := 23) 0 dX6_days_22 rfl (by decide) ?_
      refine wp_ist4 (pc' := 25) dX6_days_23 rfl (by decide) rfl ?_
      refine lp_dk hws w 0 (Nat.zero_add w) cn M hw ?_
      refine wp_inc3 (pc' := 86) (nI (j + 1)) dX6_days_83 rfl (by decide) rfl (nI_1 j) ?_
      refine wp_goto 17 dX6_days_86 (by decide) ?_
      exact ih (j + 1) (by omega) _ _ _ (by rw [dkM_o (by decide)]; exact hw)
theorem sp_days_bad {g : GG} {M : Mem} {n : Int32} (h : n < 1 ∨ 9 < n) : RI g mX6_days [ob g 0, .int n] M (-1) M := by
  refine spec_of_wp (ls := [some (ob g 0), some (.int n), none, none, none]) rfl (Nat.le_of_ble_eq_true rfl) 3 rfl ?_
  refine wp_iload_n (pc' := 1) dX6_days_0 rfl rfl ?_
  refine wp_iconst (pc' := 2) 1 dX6_days_1 rfl (by decide) ?_
  refine wp_icmp_lt (pc' := 5) 11 dX6_days_2 rfl (by decide) (fun h2 => ?_) (fun h2 => ?_)
  · refine wp_iconst (pc' := 12) (-1) dX6_days_11 rfl (by decide) ?_
    refine wp_ireti dX6_days_12 rfl ?_
    exact ri_ok rfl rfl
  · refine wp_iload_n (pc' := 6) dX6_days_5 rfl rfl ?_
    refine wp_bipush (pc' := 8) 9 dX6_days_6 rfl (by decide) ?_
    refine wp_icmp_le (pc' := 11) 13 dX6_days_8 rfl (by decide) (fun h8 => ?_) (fun h8 => ?_)
    · exact h.elim (fun h => absurd h h2) (fun h => absurd h8 (Int32.not_le.mpr h))
    · refine wp_iconst (pc' := 12) (-1) dX6_days_11 rfl (by decide) ?_
      refine wp_ireti dX6_days_12 rfl ?_
      exact ri_ok rfl rfl
theorem sp_days {g : GG} {M : Mem} {w n : Nat} (hws : w < 2 ^ 31) (hn : n < 2 ^ 31) (h1 : ¬ nI n < 1) (h2 : nI n ≤ 9) (hw : M.1 4 7 = nI w) : RI g mX6_days [ob g 0, .int (nI n)] M (ddM w n (0, M)).1 (ddM w n (0, M)).2 := by
  refine spec_of_wp (ls := [some (ob g 0), some (.int (nI n)), none, none, none]) rfl (Nat.le_of_ble_eq_true rfl) 3 rfl ?_
  refine wp_iload_n (pc' := 1) dX6_days_0 rfl rfl ?_
  refine wp_iconst (pc' := 2) 1 dX6_days_1 rfl (by decide) ?_
  refine wp_icmp_lt (pc' := 5) 11 dX6_days_2 rfl (by decide) (fun q2 => ?_) (fun q2 => ?_)
  · exact absurd q2 h1
  · refine wp_iload_n (pc' := 6) dX6_days_5 rfl rfl ?_
    refine wp_bipush (pc' := 8) 9 dX6_days_6 rfl (by decide) ?_
    refine wp_icmp_le (pc' := 11) 13 dX6_days_8 rfl (by decide) (fun q8 => ?_) (fun q8 => ?_)
    · refine wp_iconst (pc' := 14) 0 dX6_days_13 rfl (by decide) ?_
      refine wp_ist2 (pc' := 15) dX6_days_14 rfl (by decide) rfl ?_
      refine wp_iconst (pc' := 16) 0 dX6_days_15 rfl (by decide) ?_
      refine wp_ist3 (pc' := 17) dX6_days_16 rfl (by decide) rfl ?_
      exact lp_dd hws hn n 0 (Nat.zero_add n) _ _ _ hw
    · exact absurd h2 q8
