/-! MoorStones, the public methods but moor -/
theorem tsw_4 (x : Int32) : x = 0 ∨ x = 1 ∨ x = 2 ∨ x = 3 ∨ (x.toInt < 0 ∨ 3 < x.toInt) := by
  by_cases h : x.toInt < 0 ∨ 3 < x.toInt
  · simp [h]
  · have : x.toInt = 0 ∨ x.toInt = 1 ∨ x.toInt = 2 ∨ x.toInt = 3 := by omega
    rcases this with h | h | h | h
    · have e : x = 0 := Int32.toInt_inj.mp h
      simp [e]
    · have e : x = 1 := Int32.toInt_inj.mp h
      simp [e]
    · have e : x = 2 := Int32.toInt_inj.mp h
      simp [e]
    · have e : x = 3 := Int32.toInt_inj.mp h
      simp [e]
theorem tsw_5 (x : Int32) : x = 0 ∨ x = 1 ∨ x = 2 ∨ x = 3 ∨ x = 4 ∨ (x.toInt < 0 ∨ 4 < x.toInt) := by
  by_cases h : x.toInt < 0 ∨ 4 < x.toInt
  · simp [h]
  · have : x.toInt = 0 ∨ x.toInt = 1 ∨ x.toInt = 2 ∨ x.toInt = 3 ∨ x.toInt = 4 := by omega
    rcases this with h | h | h | h | h
    · have e : x = 0 := Int32.toInt_inj.mp h
      simp [e]
    · have e : x = 1 := Int32.toInt_inj.mp h
      simp [e]
    · have e : x = 2 := Int32.toInt_inj.mp h
      simp [e]
    · have e : x = 3 := Int32.toInt_inj.mp h
      simp [e]
    · have e : x = 4 := Int32.toInt_inj.mp h
      simp [e]
theorem tsw_6 (x : Int32) : x = 0 ∨ x = 1 ∨ x = 2 ∨ x = 3 ∨ x = 4 ∨ x = 5 ∨ (x.toInt < 0 ∨ 5 < x.toInt) := by
  by_cases h : x.toInt < 0 ∨ 5 < x.toInt
  · simp [h]
  · have : x.toInt = 0 ∨ x.toInt = 1 ∨ x.toInt = 2 ∨ x.toInt = 3 ∨ x.toInt = 4 ∨ x.toInt = 5 := by omega
    rcases this with h | h | h | h | h | h
    · have e : x = 0 := Int32.toInt_inj.mp h
      simp [e]
    · have e : x = 1 := Int32.toInt_inj.mp h
      simp [e]
    · have e : x = 2 := Int32.toInt_inj.mp h
      simp [e]
    · have e : x = 3 := Int32.toInt_inj.mp h
      simp [e]
    · have e : x = 4 := Int32.toInt_inj.mp h
      simp [e]
    · have e : x = 5 := Int32.toInt_inj.mp h
      simp [e]

theorem tsw_ne {x : Int32} {n : Int} (h : x.toInt < 0 ∨ n < x.toInt) (y : Int32) (hy : 0 ≤ y.toInt ∧ y.toInt ≤ n) : ¬ x = y := by
  rintro rfl
  omega
theorem nI_of1 {x : Int32} (h1 : ¬ x < 1) : ∃ k : Nat, k + 1 < 2 ^ 31 ∧ x = nI (k + 1) := by
  have h1' := Int32.not_lt.mp h1
  rw [Int32.le_iff_toInt_le] at h1'
  have h0 : ¬ x < 0 := by
    rw [Int32.not_lt, Int32.le_iff_toInt_le, Int32.toInt_zero]
    have : (1 : Int32).toInt = 1 := by decide
    omega
  obtain ⟨j, hj, rfl⟩ := nI_of h0
  rw [nI_toInt hj] at h1'
  have : (1 : Int32).toInt = 1 := by decide
  exact ⟨j - 1, by omega, by congr 1; omega⟩
def bOf (v : Int64) (n : Nat) : Int32 := ((v.toUInt64 >>> ((8 * nI n).toInt64.toUInt64 &&& Int64.toUInt64 63)).toInt64).toInt32 &&& 255
def tyM (v : Int64) : Nat → Mem → Mem
  | 0, M => M
  | n + 1, M => tyM v n (addM M (bOf v n))

theorem lp_type {g : GG} {v : Int64} : ∀ (n : Nat), n < 2 ^ 31 → ∀ (M : Mem) (x k : Int32), x = nI n - 1 → wp g mX6_type 36 [some (ob g 0), some (.long v), none, some (.int k), some (.int x)] [] M (fun q m => q = some (.int ((tyM v n M).1 2 1)) ∧ m = tyM v n M) := by
  intro n
  induction n with
  | zero =>
    intro hn M x k hx
    obtain rfl : x = -1 := hx
    refine wp_iload (pc' := 38) dX6_type_36 rfl rfl ?_
    refine wp_if_lt (pc' := 41) 66 dX6_type_38 rfl (by decide) (fun _ => ?_) (fun hh => absurd hh (by decide))
    refine wp_aload_n (pc' := 67) dX6_type_66 rfl rfl ⟨_, rfl⟩ ?_
    refine wp_get (pc' := 70) (o := 0) dX6_type_67 rfl flX6_20 (by decide) rfl rfl ?_
    refine wp_get (pc' := 73) (o := 2) dX6_type_70 rfl flX6_60 (by decide) rfl rfl ?_
    refine wp_ireti dX6_type_73 rfl ?_
    exact ri_ok rfl rfl
  | succ n ih =>
    intro hn M x k hx
    rw [nI_pred] at hx
    subst hx
    refine wp_iload (pc' := 38) dX6_type_36 rfl rfl ?_
    refine wp_if_lt (pc' := 41) 66 dX6_type_38 rfl (by decide) (fun h38 => ?_) (fun h38 => ?_)
    · exact absurd h38 (nI_pos (by omega))
    · refine wp_aload_n (pc' := 42) dX6_type_41 rfl rfl ⟨_, rfl⟩ ?_
      refine wp_get (pc' := 45) (o := 0) dX6_type_42 rfl flX6_20 (by decide) rfl rfl ?_
      refine wp_lload_n (pc' := 46) dX6_type_45 rfl rfl ?_
      refine wp_bipush (pc' := 48) 8 dX6_type_46 rfl (by decide) ?_
      refine wp_iload (pc' := 50) dX6_type_48 rfl rfl ?_
      refine wp_imul (pc' := 51) dX6_type_50 rfl ?_
      refine wp_lushr (pc' := 52) dX6_type_51 rfl ?_
      refine wp_l2i (pc' := 53) dX6_type_52 rfl ?_
      refine wp_sipush (pc' := 56) 255 dX6_type_53 rfl (by decide) ?_
      refine wp_iand (pc' := 57) dX6_type_56 rfl ?_
      refine wp_cVV (μ' := mX3_add) (pc' := 60) (o := 2) dX6_type_57 rfl mlX6_66 cfX3_add ⟨(Nat.le_of_ble_eq_true rfl), (Nat.le_of_ble_eq_true rfl)⟩ (sp_add) (by decide) rfl rfl rfl rfl rfl (Nat.le_of_ble_eq_true rfl) ?_
      refine wp_inc4 (pc' := 63) (nI n - 1) dX6_type_60 rfl (by decide) rfl (dec1 (nI n)) ?_
      refine wp_goto 36 dX6_type_63 (by decide) ?_
      exact ih (by omega) _ _ _ rfl
theorem sp_type_bad {g : GG} {M : Mem} {v : Int64} {k : Int32} (h : k < 1 ∨ 8 < k) : RI g mX6_type [ob g 0, .long v, .int k] M (-1) M := by
  refine spec_of_wp (ls := [some (ob g 0), some (.long v), none, some (.int k), none]) rfl (Nat.le_of_ble_eq_true rfl) 1 rfl ?_
  refine wp_iload_n (pc' := 1) dX6_type_0 rfl rfl ?_
  refine wp_iconst (pc' := 2) 1 dX6_type_1 rfl (by decide) ?_
  refine wp_icmp_lt (pc' := 5) 11 dX6_type_2 rfl (by decide) (fun h2 => ?_) (fun h2 => ?_)
  · refine wp_iconst (pc' := 12) (-1) dX6_type_11 rfl (by decide) ?_
    refine wp_ireti dX6_type_12 rfl ?_
    exact ri_ok rfl rfl
  · refine wp_iload_n (pc' := 6) dX6_type_5 rfl rfl ?_
    refine wp_bipush (pc' := 8) 8 dX6_type_6 rfl (by decide) ?_
    refine wp_icmp_le (pc' := 11) 13 dX6_type_8 rfl (by decide) (fun h8 => ?_) (fun h8 => ?_)
    · exact h.elim (fun h => absurd h h2) (fun h => absurd h8 (Int32.not_le.mpr h))
    · refine wp_iconst (pc' := 12) (-1) dX6_type_11 rfl (by decide) ?_
      refine wp_ireti dX6_type_12 rfl ?_
      exact ri_ok rfl rfl
theorem sp_type_full {g : GG} {M : Mem} {v : Int64} {k : Int32} (h1 : ¬ k < 1) (h2 : k ≤ 8) (h3 : ¬ M.1 2 1 + k ≤ 300) : RI g mX6_type [ob g 0, .long v, .int k] M (-3) M := by
  refine spec_of_wp (ls := [some (ob g 0), some (.long v), none, some (.int k), none]) rfl (Nat.le_of_ble_eq_true rfl) 1 rfl ?_
  refine wp_iload_n (pc' := 1) dX6_type_0 rfl rfl ?_
  refine wp_iconst (pc' := 2) 1 dX6_type_1 rfl (by decide) ?_
  refine wp_icmp_lt (pc' := 5) 11 dX6_type_2 rfl (by decide) (fun q2 => ?_) (fun q2 => ?_)
  · exact absurd q2 h1
  · refine wp_iload_n (pc' := 6) dX6_type_5 rfl rfl ?_
    refine wp_bipush (pc' := 8) 8 dX6_type_6 rfl (by decide) ?_
    refine wp_icmp_le (pc' := 11) 13 dX6_type_8 rfl (by decide) (fun q8 => ?_) (fun q8 => ?_)
    · refine wp_aload_n (pc' := 14) dX6_type_13 rfl rfl ⟨_, rfl⟩ ?_
      refine wp_get (pc' := 17) (o := 0) dX6_type_14 rfl flX6_20 (by decide) rfl rfl ?_
      refine wp_get (pc' := 20) (o := 2) dX6_type_17 rfl flX6_60 (by decide) rfl rfl ?_
      refine wp_iload_n (pc' := 21) dX6_type_20 rfl rfl ?_
      refine wp_iadd (pc' := 22) dX6_type_21 rfl ?_
      refine wp_sipush (pc' := 25) 300 dX6_type_22 rfl (by decide) ?_
      refine wp_icmp_le (pc' := 28) 31 dX6_type_25 rfl (by decide) (fun q25 => ?_) (fun q25 => ?_)
      · exact absurd q25 h3
      · refine wp_bipush (pc' := 30) (-3) dX6_type_28 rfl (by decide) ?_
        refine wp_ireti dX6_type_30 rfl ?_
        exact ri_ok rfl rfl
    · exact absurd h2 q8
theorem sp_type_ok {g : GG} {M : Mem} {v : Int64} {k : Nat} (hk : k < 2 ^ 31) (h1 : ¬ nI k < 1) (h2 : nI k ≤ 8) (h3 : M.1 2 1 + nI k ≤ 300) : RI g mX6_type [ob g 0, .long v, .int (nI k)] M ((tyM v k M).1 2 1) (tyM v k M) := by
  refine spec_of_wp (ls := [some (ob g 0), some (.long v), none, some (.int (nI k)), none]) rfl (Nat.le_of_ble_eq_true rfl) 1 rfl ?_
  refine wp_iload_n (pc' := 1) dX6_type_0 rfl rfl ?_
  refine wp_iconst (pc' := 2) 1 dX6_type_1 rfl (by decide) ?_
  refine wp_icmp_lt (pc' := 5) 11 dX6_type_2 rfl (by decide) (fun q2 => ?_) (fun q2 => ?_)
  · exact absurd q2 h1
  · refine wp_iload_n (pc' := 6) dX6_type_5 rfl rfl ?_
    refine wp_bipush (pc' := 8) 8 dX6_type_6 rfl (by decide) ?_
    refine wp_icmp_le (pc' := 11) 13 dX6_type_8 rfl (by decide) (fun q8 => ?_) (fun q8 => ?_)
    · refine wp_aload_n (pc' := 14) dX6_type_13 rfl rfl ⟨_, rfl⟩ ?_
      refine wp_get (pc' := 17) (o := 0) dX6_type_14 rfl flX6_20 (by decide) rfl rfl ?_
      refine wp_get (pc' := 20) (o := 2) dX6_type_17 rfl flX6_60 (by decide) rfl rfl ?_
      refine wp_iload_n (pc' := 21) dX6_type_20 rfl rfl ?_
      refine wp_iadd (pc' := 22) dX6_type_21 rfl ?_
      refine wp_sipush (pc' := 25) 300 dX6_type_22 rfl (by decide) ?_
      refine wp_icmp_le (pc' := 28) 31 dX6_type_25 rfl (by decide) (fun q25 => ?_) (fun q25 => ?_)
      · refine wp_iload_n (pc' := 32) dX6_type_31 rfl rfl ?_
        refine wp_iconst (pc' := 33) 1 dX6_type_32 rfl (by decide) ?_
        refine wp_isub (pc' := 34) dX6_type_33 rfl ?_
        refine wp_ist4 (pc' := 36) dX6_type_34 rfl (by decide) rfl ?_
        exact lp_type k hk _ _ _ rfl
      · exact absurd h3 q25
    · exact absurd h2 q8
theorem sp_clear {g : GG} {M : Mem} : RI g mX6_clear [ob g 0] M (M.1 2 1) (upI M 2 1 0) := by
  refine spec_of_wp (ls := [some (ob g 0)]) rfl (Nat.le_of_ble_eq_true rfl) 0 rfl ?_
  refine wp_aload_n (pc' := 1) dX6_clear_0 rfl rfl ⟨_, rfl⟩ ?_
  refine wp_get (pc' := 4) (o := 0) dX6_clear_1 rfl flX6_20 (by decide) rfl rfl ?_
  refine wp_cVI (μ' := mX3_empty) (pc' := 7) (o := 2) dX6_clear_4 rfl mlX6_70 cfX3_empty ⟨(Nat.le_of_ble_eq_true rfl), (Nat.le_of_ble_eq_true rfl)⟩ (sp_tempty) (by decide) rfl rfl rfl rfl rfl (Nat.le_of_ble_eq_true rfl) ?_
  refine wp_ireti dX6_clear_7 rfl ?_
  exact ri_ok rfl rfl
def cellV (M : Mem) (c what : Int32) : Int32 := if isCellF M c = 0 then -1 else if what = 0 then groundF M c else if what = 1 then atF 24 (M.1 14) c else if what = 2 then atF 24 (M.1 15) c else -1
theorem sp_cell {g : GG} {M : Mem} {c what : Int32} : RI g mX6_cell [ob g 0, .int c, .int what] M (cellV M c what) M := by
  refine spec_of_wp (ls := [some (ob g 0), some (.int c), some (.int what)]) rfl (Nat.le_of_ble_eq_true rfl) 0 rfl ?_
  refine wp_aload_n (pc' := 1) dX6_cell_0 rfl rfl ⟨_, rfl⟩ ?_
  refine wp_iload_n (pc' := 2) dX6_cell_1 rfl rfl ?_
  refine wp_cVI (μ' := mX6_isCell) (pc' := 5) (o := 0) dX6_cell_2 rfl mlX6_101 cfX6_isCell ⟨(Nat.le_of_ble_eq_true rfl), (Nat.le_of_ble_eq_true rfl)⟩ (sp_isCell) (by decide) rfl rfl rfl rfl rfl (Nat.le_of_ble_eq_true rfl) ?_
  refine wp_if_ne (pc' := 8) 10 dX6_cell_5 rfl (by decide) (fun h5 => ?_) (fun h5 => ?_)
  · refine wp_iload_n (pc' := 11) dX6_cell_10 rfl rfl ?_
    rcases tsw_3 what with rfl | rfl | rfl | h11
    · refine wp_tin (off := 25) 36 dX6_cell_11 (by decide) (by decide) (by decide) (by decide) ?_
      refine wp_aload_n (pc' := 37) dX6_cell_36 rfl rfl ⟨_, rfl⟩ ?_
      refine wp_get (pc' := 40) (o := 0) dX6_cell_37 rfl flX6_46 (by decide) rfl rfl ?_
      refine wp_iload_n (pc' := 41) dX6_cell_40 rfl rfl ?_
      refine wp_cVI (μ' := mX0_groundOf) (pc' := 44) (o := 13) dX6_cell_41 rfl mlX6_105 cfX0_groundOf ⟨(Nat.le_of_ble_eq_true rfl), (Nat.le_of_ble_eq_true rfl)⟩ (sp_groundOf) (by decide) rfl rfl rfl rfl rfl (Nat.le_of_ble_eq_true rfl) ?_
      refine wp_ireti dX6_cell_44 rfl ?_
      exact ri_ok (by rw [cellV, if_neg h5, if_pos rfl]) rfl
    · refine wp_tin (off := 34) 45 dX6_cell_11 (by decide) (by decide) (by decide) (by decide) ?_
      refine wp_aload_n (pc' := 46) dX6_cell_45 rfl rfl ⟨_, rfl⟩ ?_
      refine wp_get (pc' := 49) (o := 0) dX6_cell_46 rfl flX6_46 (by decide) rfl rfl ?_
      refine wp_get (pc' := 52) (o := 13) dX6_cell_49 rfl flX6_109 (by decide) rfl rfl ?_
      refine wp_iload_n (pc' := 53) dX6_cell_52 rfl rfl ?_
      refine wp_cSI (μ' := mX6_at) (pc' := 56) dX6_cell_53 rfl mlX6_113 cfX6_at ⟨(Nat.le_of_ble_eq_true rfl), (Nat.le_of_ble_eq_true rfl)⟩ (sp_at arr14) rfl rfl (Nat.le_of_ble_eq_true rfl) ?_
      refine wp_ireti dX6_cell_56 rfl ?_
      exact ri_ok (by rw [cellV, if_neg h5, if_neg (by decide), if_pos rfl]) rfl
    · refine wp_tin (off := 46) 57 dX6_cell_11 (by decide) (by decide) (by decide) (by decide) ?_
      refine wp_aload_n (pc' := 58) dX6_cell_57 rfl rfl ⟨_, rfl⟩ ?_
      refine wp_get (pc' := 61) (o := 0) dX6_cell_58 rfl flX6_46 (by decide) rfl rfl ?_
      refine wp_get (pc' := 64) (o := 13) dX6_cell_61 rfl flX6_117 (by decide) rfl rfl ?_
      refine wp_iload_n (pc' := 65) dX6_cell_64 rfl rfl ?_
      refine wp_cSI (μ' := mX6_at) (pc' := 68) dX6_cell_65 rfl mlX6_113 cfX6_at ⟨(Nat.le_of_ble_eq_true rfl), (Nat.le_of_ble_eq_true rfl)⟩ (sp_at arr15) rfl rfl (Nat.le_of_ble_eq_true rfl) ?_
      refine wp_ireti dX6_cell_68 rfl ?_
      exact ri_ok (by rw [cellV, if_neg h5, if_neg (by decide), if_neg (by decide), if_pos rfl]) rfl
    · refine wp_tout 69 dX6_cell_11 h11 (by decide) ?_
      refine wp_iconst (pc' := 70) (-1) dX6_cell_69 rfl (by decide) ?_
      refine wp_ireti dX6_cell_70 rfl ?_
      exact ri_ok (by rw [cellV, if_neg h5, if_neg (tsw_ne h11 0 (by decide)), if_neg (tsw_ne h11 1 (by decide)), if_neg (tsw_ne h11 2 (by decide))]) rfl
  · refine wp_iconst (pc' := 9) (-1) dX6_cell_8 rfl (by decide) ?_
    refine wp_ireti dX6_cell_9 rfl ?_
    exact ri_ok (by rw [cellV, if_pos h5]) rfl
def walkerV (M : Mem) (k what : Int32) : Int32 := if isWalkerF M k = 0 then -1 else if what = 0 then atF 4 (M.1 5) k else if what = 1 then atF 4 (M.1 6) k else if what = 2 then atF 4 (M.1 16) k else if what = 3 then lbF M k 24 0 0 else -1
theorem sp_walker {g : GG} {M : Mem} {k what : Int32} : RI g mX6_walker [ob g 0, .int k, .int what] M (walkerV M k what) M := by
  refine spec_of_wp (ls := [some (ob g 0), some (.int k), some (.int what)]) rfl (Nat.le_of_ble_eq_true rfl) 0 rfl ?_
  refine wp_aload_n (pc' := 1) dX6_walker_0 rfl rfl ⟨_, rfl⟩ ?_
  refine wp_iload_n (pc' := 2) dX6_walker_1 rfl rfl ?_
  refine wp_cVI (μ' := mX6_isWalker) (pc' := 5) (o := 0) dX6_walker_2 rfl mlX6_120 cfX6_isWalker ⟨(Nat.le_of_ble_eq_true rfl), (Nat.le_of_ble_eq_true rfl)⟩ (sp_isWalker) (by decide) rfl rfl rfl rfl rfl (Nat.le_of_ble_eq_true rfl) ?_
  refine wp_if_ne (pc' := 8) 10 dX6_walker_5 rfl (by decide) (fun h5 => ?_) (fun h5 => ?_)
  · refine wp_iload_n (pc' := 11) dX6_walker_10 rfl rfl ?_
    rcases tsw_4 what with rfl | rfl | rfl | rfl | h11
    · refine wp_tin (off := 29) 40 dX6_walker_11 (by decide) (by decide) (by decide) (by decide) ?_
      refine wp_aload_n (pc' := 41) dX6_walker_40 rfl rfl ⟨_, rfl⟩ ?_
      refine wp_get (pc' := 44) (o := 0) dX6_walker_41 rfl flX6_24 (by decide) rfl rfl ?_
      refine wp_get (pc' := 47) (o := 4) dX6_walker_44 rfl flX6_123 (by decide) rfl rfl ?_
      refine wp_iload_n (pc' := 48) dX6_walker_47 rfl rfl ?_
      refine wp_cSI (μ' := mX6_at) (pc' := 51) dX6_walker_48 rfl mlX6_113 cfX6_at ⟨(Nat.le_of_ble_eq_true rfl), (Nat.le_of_ble_eq_true rfl)⟩ (sp_at arr5) rfl rfl (Nat.le_of_ble_eq_true rfl) ?_
      refine wp_ireti dX6_walker_51 rfl ?_
      exact ri_ok (by rw [walkerV, if_neg h5, if_pos rfl]) rfl
    · refine wp_tin (off := 41) 52 dX6_walker_11 (by decide) (by decide) (by decide) (by decide) ?_
      refine wp_aload_n (pc' := 53) dX6_walker_52 rfl rfl ⟨_, rfl⟩ ?_
      refine wp_get (pc' := 56) (o := 0) dX6_walker_53 rfl flX6_24 (by decide) rfl rfl ?_
      refine wp_get (pc' := 59) (o := 4) dX6_walker_56 rfl flX6_126 (by decide) rfl rfl ?_
      refine wp_iload_n (pc' := 60) dX6_walker_59 rfl rfl ?_
      refine wp_cSI (μ' := mX6_at) (pc' := 63) dX6_walker_60 rfl mlX6_113 cfX6_at ⟨(Nat.le_of_ble_eq_true rfl), (Nat.le_of_ble_eq_true rfl)⟩ (sp_at arr6) rfl rfl (Nat.le_of_ble_eq_true rfl) ?_
      refine wp_ireti dX6_walker_63 rfl ?_
      exact ri_ok (by rw [walkerV, if_neg h5, if_neg (by decide), if_pos rfl]) rfl
    · refine wp_tin (off := 53) 64 dX6_walker_11 (by decide) (by decide) (by decide) (by decide) ?_
      refine wp_aload_n (pc' := 65) dX6_walker_64 rfl rfl ⟨_, rfl⟩ ?_
      refine wp_get (pc' := 68) (o := 0) dX6_walker_65 rfl flX6_46 (by decide) rfl rfl ?_
      refine wp_get (pc' := 71) (o := 13) dX6_walker_68 rfl flX6_129 (by decide) rfl rfl ?_
      refine wp_iload_n (pc' := 72) dX6_walker_71 rfl rfl ?_
      refine wp_cSI (μ' := mX6_at) (pc' := 75) dX6_walker_72 rfl mlX6_113 cfX6_at ⟨(Nat.le_of_ble_eq_true rfl), (Nat.le_of_ble_eq_true rfl)⟩ (sp_at arr16) rfl rfl (Nat.le_of_ble_eq_true rfl) ?_
      refine wp_ireti dX6_walker_75 rfl ?_
      exact ri_ok (by rw [walkerV, if_neg h5, if_neg (by decide), if_neg (by decide), if_pos rfl]) rfl
    · refine wp_tin (off := 65) 76 dX6_walker_11 (by decide) (by decide) (by decide) (by decide) ?_
      refine wp_aload_n (pc' := 77) dX6_walker_76 rfl rfl ⟨_, rfl⟩ ?_
      refine wp_get (pc' := 80) (o := 0) dX6_walker_77 rfl flX6_46 (by decide) rfl rfl ?_
      refine wp_iload_n (pc' := 81) dX6_walker_80 rfl rfl ?_
      refine wp_cVI (μ' := mX0_laidBy) (pc' := 84) (o := 13) dX6_walker_81 rfl mlX6_132 cfX0_laidBy ⟨(Nat.le_of_ble_eq_true rfl), (Nat.le_of_ble_eq_true rfl)⟩ (sp_laidBy) (by decide) rfl rfl rfl rfl rfl (Nat.le_of_ble_eq_true rfl) ?_
      refine wp_ireti dX6_walker_84 rfl ?_
      exact ri_ok (by rw [walkerV, if_neg h5, if_neg (by decide), if_neg (by decide), if_neg (by decide), if_pos rfl]) rfl
    · refine wp_tout 85 dX6_walker_11 h11 (by decide) ?_
      refine wp_iconst (pc' := 86) (-1) dX6_walker_85 rfl (by decide) ?_
      refine wp_ireti dX6_walker_86 rfl ?_
      exact ri_ok (by rw [walkerV, if_neg h5, if_neg (tsw_ne h11 0 (by decide)), if_neg (tsw_ne h11 1 (by decide)), if_neg (tsw_ne h11 2 (by decide)), if_neg (tsw_ne h11 3 (by decide))]) rfl
  · refine wp_iconst (pc' := 9) (-1) dX6_walker_8 rfl (by decide) ?_
    refine wp_ireti dX6_walker_9 rfl ?_
    exact ri_ok (by rw [walkerV, if_pos h5]) rfl
def nowV (M : Mem) (what : Int32) : Int32 := if what = 0 then pcF ((M.1 11 1 &&& (M.1 13 0 ^^^ (-1))) &&& (M.1 13 1 ^^^ (-1))) else if what = 1 then pcF (M.1 13 0) else if what = 2 then pcF (M.1 13 1) else if what = 3 then pbF M 4 0 0 else -1
theorem sp_now {g : GG} {M : Mem} {what : Int32} : RI g mX6_now [ob g 0, .int what] M (nowV M what) M := by
  refine spec_of_wp (ls := [some (ob g 0), some (.int what)]) rfl (Nat.le_of_ble_eq_true rfl) 0 rfl ?_
  refine wp_iload_n (pc' := 1) dX6_now_0 rfl rfl ?_
  rcases tsw_4 what with rfl | rfl | rfl | rfl | h1
  · refine wp_tin (off := 31) 32 dX6_now_1 (by decide) (by decide) (by decide) (by decide) ?_
    refine wp_aload_n (pc' := 33) dX6_now_32 rfl rfl ⟨_, rfl⟩ ?_
    refine wp_get (pc' := 36) (o := 0) dX6_now_33 rfl flX6_42 (by decide) rfl rfl ?_
    refine wp_get (pc' := 39) (o := 11) dX6_now_36 rfl flX6_155 (by decide) rfl rfl ?_
    refine wp_aload_n (pc' := 40) dX6_now_39 rfl rfl ⟨_, rfl⟩ ?_
    refine wp_get (pc' := 43) (o := 0) dX6_now_40 rfl flX6_46 (by decide) rfl rfl ?_
    refine wp_get (pc' := 46) (o := 13) dX6_now_43 rfl flX6_138 (by decide) rfl rfl ?_
    refine wp_iconst (pc' := 47) (-1) dX6_now_46 rfl (by decide) ?_
    refine wp_ixor (pc' := 48) dX6_now_47 rfl ?_
    refine wp_iand (pc' := 49) dX6_now_48 rfl ?_
    refine wp_aload_n (pc' := 50) dX6_now_49 rfl rfl ⟨_, rfl⟩ ?_
    refine wp_get (pc' := 53) (o := 0) dX6_now_50 rfl flX6_46 (by decide) rfl rfl ?_
    refine wp_get (pc' := 56) (o := 13) dX6_now_53 rfl flX6_158 (by decide) rfl rfl ?_
    refine wp_iconst (pc' := 57) (-1) dX6_now_56 rfl (by decide) ?_
    refine wp_ixor (pc' := 58) dX6_now_57 rfl ?_
    refine wp_iand (pc' := 59) dX6_now_58 rfl ?_
    refine wp_cSI (μ' := mJ6_bitCount_0f7a4) (pc' := 62) dX6_now_59 rfl mlX6_161 cfJ6_bitCount_0f7a4 ⟨(Nat.le_of_ble_eq_true rfl), (Nat.le_of_ble_eq_true rfl)⟩ (sp_bitCount) rfl rfl (Nat.le_of_ble_eq_true rfl) ?_
    refine wp_ireti dX6_now_62 rfl ?_
    exact ri_ok (by rw [nowV, if_pos rfl]) rfl
  · refine wp_tin (off := 62) 63 dX6_now_1 (by decide) (by decide) (by decide) (by decide) ?_
    refine wp_aload_n (pc' := 64) dX6_now_63 rfl rfl ⟨_, rfl⟩ ?_
    refine wp_get (pc' := 67) (o := 0) dX6_now_64 rfl flX6_46 (by decide) rfl rfl ?_
    refine wp_get (pc' := 70) (o := 13) dX6_now_67 rfl flX6_138 (by decide) rfl rfl ?_
    refine wp_cSI (μ' := mJ6_bitCount_0f7a4) (pc' := 73) dX6_now_70 rfl mlX6_161 cfJ6_bitCount_0f7a4 ⟨(Nat.le_of_ble_eq_true rfl), (Nat.le_of_ble_eq_true rfl)⟩ (sp_bitCount) rfl rfl (Nat.le_of_ble_eq_true rfl) ?_
    refine wp_ireti dX6_now_73 rfl ?_
    exact ri_ok (by rw [nowV, if_neg (by decide), if_pos rfl]) rfl
  · refine wp_tin (off := 73) 74 dX6_now_1 (by decide) (by decide) (by decide) (by decide) ?_
    refine wp_aload_n (pc' := 75) dX6_now_74 rfl rfl ⟨_, rfl⟩ ?_
    refine wp_get (pc' := 78) (o := 0) dX6_now_75 rfl flX6_46 (by decide) rfl rfl ?_
    refine wp_get (pc' := 81) (o := 13) dX6_now_78 rfl flX6_158 (by decide) rfl rfl ?_
    refine wp_cSI (μ' := mJ6_bitCount_0f7a4) (pc' := 84) dX6_now_81 rfl mlX6_161 cfJ6_bitCount_0f7a4 ⟨(Nat.le_of_ble_eq_true rfl), (Nat.le_of_ble_eq_true rfl)⟩ (sp_bitCount) rfl rfl (Nat.le_of_ble_eq_true rfl) ?_
    refine wp_ireti dX6_now_84 rfl ?_
    exact ri_ok (by rw [nowV, if_neg (by decide), if_neg (by decide), if_pos rfl]) rfl
  · refine wp_tin (off := 84) 85 dX6_now_1 (by decide) (by decide) (by decide) (by decide) ?_
    refine wp_aload_n (pc' := 86) dX6_now_85 rfl rfl ⟨_, rfl⟩ ?_
    refine wp_get (pc' := 89) (o := 0) dX6_now_86 rfl flX6_46 (by decide) rfl rfl ?_
    refine wp_cVI (μ' := mX0_passedByAll) (pc' := 92) (o := 13) dX6_now_89 rfl mlX6_166 cfX0_passedByAll ⟨(Nat.le_of_ble_eq_true rfl), (Nat.le_of_ble_eq_true rfl)⟩ (sp_passedByAll) (by decide) rfl rfl rfl rfl rfl (Nat.le_of_ble_eq_true rfl) ?_
    refine wp_ireti dX6_now_92 rfl ?_
    exact ri_ok (by rw [nowV, if_neg (by decide), if_neg (by decide), if_neg (by decide), if_pos rfl]) rfl
  · refine wp_tout 93 dX6_now_1 h1 (by decide) ?_
    refine wp_iconst (pc' := 94) (-1) dX6_now_93 rfl (by decide) ?_
    refine wp_ireti dX6_now_94 rfl ?_
    exact ri_ok (by rw [nowV, if_neg (tsw_ne h1 0 (by decide)), if_neg (tsw_ne h1 1 (by decide)), if_neg (tsw_ne h1 2 (by decide)), if_neg (tsw_ne h1 3 (by decide))]) rfl
def countV (M : Mem) (what : Int32) : Int32 := if what = 0 then M.1 4 0 else if what = 1 then M.1 4 1 else if what = 2 then M.1 4 7 else if what = 3 then M.1 4 5 else if what = 4 then M.1 2 1 else -1
theorem sp_count {g : GG} {M : Mem} {what : Int32} : RI g mX6_count [ob g 0, .int what] M (countV M what) M := by
  refine spec_of_wp (ls := [some (ob g 0), some (.int what)]) rfl (Nat.le_of_ble_eq_true rfl) 0 rfl ?_
  refine wp_iload_n (pc' := 1) dX6_count_0 rfl rfl ?_
  rcases tsw_5 what with rfl | rfl | rfl | rfl | rfl | h1
  · refine wp_tin (off := 35) 36 dX6_count_1 (by decide) (by decide) (by decide) (by decide) ?_
    refine wp_aload_n (pc' := 37) dX6_count_36 rfl rfl ⟨_, rfl⟩ ?_
    refine wp_get (pc' := 40) (o := 0) dX6_count_37 rfl flX6_24 (by decide) rfl rfl ?_
    refine wp_get (pc' := 43) (o := 4) dX6_count_40 rfl flX6_82 (by decide) rfl rfl ?_
    refine wp_ireti dX6_count_43 rfl ?_
    exact ri_ok (by rw [countV, if_pos rfl]) rfl
  · refine wp_tin (off := 43) 44 dX6_count_1 (by decide) (by decide) (by decide) (by decide) ?_
    refine wp_aload_n (pc' := 45) dX6_count_44 rfl rfl ⟨_, rfl⟩ ?_
    refine wp_get (pc' := 48) (o := 0) dX6_count_45 rfl flX6_24 (by decide) rfl rfl ?_
    refine wp_get (pc' := 51) (o := 4) dX6_count_48 rfl flX6_85 (by decide) rfl rfl ?_
    refine wp_ireti dX6_count_51 rfl ?_
    exact ri_ok (by rw [countV, if_neg (by decide), if_pos rfl]) rfl
  · refine wp_tin (off := 51) 52 dX6_count_1 (by decide) (by decide) (by decide) (by decide) ?_
    refine wp_aload_n (pc' := 53) dX6_count_52 rfl rfl ⟨_, rfl⟩ ?_
    refine wp_get (pc' := 56) (o := 0) dX6_count_53 rfl flX6_24 (by decide) rfl rfl ?_
    refine wp_get (pc' := 59) (o := 4) dX6_count_56 rfl flX6_149 (by decide) rfl rfl ?_
    refine wp_ireti dX6_count_59 rfl ?_
    exact ri_ok (by rw [countV, if_neg (by decide), if_neg (by decide), if_pos rfl]) rfl
  · refine wp_tin (off := 59) 60 dX6_count_1 (by decide) (by decide) (by decide) (by decide) ?_
    refine wp_aload_n (pc' := 61) dX6_count_60 rfl rfl ⟨_, rfl⟩ ?_
    refine wp_get (pc' := 64) (o := 0) dX6_count_61 rfl flX6_24 (by decide) rfl rfl ?_
    refine wp_get (pc' := 67) (o := 4) dX6_count_64 rfl flX6_221 (by decide) rfl rfl ?_
    refine wp_ireti dX6_count_67 rfl ?_
    exact ri_ok (by rw [countV, if_neg (by decide), if_neg (by decide), if_neg (by decide), if_pos rfl]) rfl
  · refine wp_tin (off := 67) 68 dX6_count_1 (by decide) (by decide) (by decide) (by decide) ?_
    refine wp_aload_n (pc' := 69) dX6_count_68 rfl rfl ⟨_, rfl⟩ ?_
    refine wp_get (pc' := 72) (o := 0) dX6_count_69 rfl flX6_20 (by decide) rfl rfl ?_
    refine wp_get (pc' := 75) (o := 2) dX6_count_72 rfl flX6_60 (by decide) rfl rfl ?_
    refine wp_ireti dX6_count_75 rfl ?_
    exact ri_ok (by rw [countV, if_neg (by decide), if_neg (by decide), if_neg (by decide), if_neg (by decide), if_pos rfl]) rfl
  · refine wp_tout 76 dX6_count_1 h1 (by decide) ?_
    refine wp_iconst (pc' := 77) (-1) dX6_count_76 rfl (by decide) ?_
    refine wp_ireti dX6_count_77 rfl ?_
    exact ri_ok (by rw [countV, if_neg (tsw_ne h1 0 (by decide)), if_neg (tsw_ne h1 1 (by decide)), if_neg (tsw_ne h1 2 (by decide)), if_neg (tsw_ne h1 3 (by decide)), if_neg (tsw_ne h1 4 (by decide))]) rfl
theorem sp_trace {g : GG} {M : Mem} : RL_ g mX6_trace [ob g 0] M (M.2 0) M := by
  refine spec_of_wp (ls := [some (ob g 0)]) rfl (Nat.le_of_ble_eq_true rfl) 0 rfl ?_
  refine wp_aload_n (pc' := 1) dX6_trace_0 rfl rfl ⟨_, rfl⟩ ?_
  refine wp_get (pc' := 4) (o := 0) dX6_trace_1 rfl flX6_56 (by decide) rfl rfl ?_
  refine wp_lret dX6_trace_4 rfl ?_
  exact ⟨rfl, rfl⟩
theorem sp_anew {g : GG} {M : Mem} : RI g mX6_anew [ob g 0] M (pbF M 4 0 0) (batM M) := by
  refine spec_of_wp (ls := [some (ob g 0), none]) rfl (Nat.le_of_ble_eq_true rfl) 1 rfl ?_
  refine wp_aload_n (pc' := 1) dX6_anew_0 rfl rfl ⟨_, rfl⟩ ?_
  refine wp_get (pc' := 4) (o := 0) dX6_anew_1 rfl flX6_46 (by decide) rfl rfl ?_
  refine wp_cVI (μ' := mX0_passedByAll) (pc' := 7) (o := 13) dX6_anew_4 rfl mlX6_166 cfX0_passedByAll ⟨(Nat.le_of_ble_eq_true rfl), (Nat.le_of_ble_eq_true rfl)⟩ (sp_passedByAll) (by decide) rfl rfl rfl rfl rfl (Nat.le_of_ble_eq_true rfl) ?_
  refine wp_ist1 (pc' := 8) dX6_anew_7 rfl (by decide) rfl ?_
  refine wp_aload_n (pc' := 9) dX6_anew_8 rfl rfl ⟨_, rfl⟩ ?_
  refine wp_get (pc' := 12) (o := 0) dX6_anew_9 rfl flX6_46 (by decide) rfl rfl ?_
  refine wp_aload_n (pc' := 13) dX6_anew_12 rfl rfl ⟨_, rfl⟩ ?_
  refine wp_get (pc' := 16) (o := 0) dX6_anew_13 rfl flX6_24 (by decide) rfl rfl ?_
  refine wp_cVV (μ' := mX0_beginAsTold) (pc' := 19) (o := 13) dX6_anew_16 rfl mlX6_94 cfX0_beginAsTold ⟨(Nat.le_of_ble_eq_true rfl), (Nat.le_of_ble_eq_true rfl)⟩ (sp_beginAsTold) (by decide) rfl rfl rfl rfl rfl (Nat.le_of_ble_eq_true rfl) ?_
  refine wp_iload_n (pc' := 20) dX6_anew_19 rfl rfl ?_
  refine wp_ireti dX6_anew_20 rfl ?_
  exact ri_ok rfl rfl
def stepsV (M : Mem) (a b : Int32) : Int32 := if isCellF M a = 0 ∨ isCellF M b = 0 then -1 else fsF (nearM M) a b (bearM M)
theorem sp_steps {g : GG} {M : Mem} {a b : Int32} : RI g mX6_steps [ob g 0, .int a, .int b] M (stepsV M a b) M := by
  refine spec_of_wp (ls := [some (ob g 0), some (.int a), some (.int b)]) rfl (Nat.le_of_ble_eq_true rfl) 0 rfl ?_
  refine wp_aload_n (pc' := 1) dX6_steps_0 rfl rfl ⟨_, rfl⟩ ?_
  refine wp_iload_n (pc' := 2) dX6_steps_1 rfl rfl ?_
  refine wp_cVI (μ' := mX6_isCell) (pc' := 5) (o := 0) dX6_steps_2 rfl mlX6_101 cfX6_isCell ⟨(Nat.le_of_ble_eq_true rfl), (Nat.le_of_ble_eq_true rfl)⟩ (sp_isCell) (by decide) rfl rfl rfl rfl rfl (Nat.le_of_ble_eq_true rfl) ?_
  refine wp_if_eq (pc' := 8) 16 dX6_steps_5 rfl (by decide) (fun h5 => ?_) (fun h5 => ?_)
  · refine wp_iconst (pc' := 17) (-1) dX6_steps_16 rfl (by decide) ?_
    refine wp_ireti dX6_steps_17 rfl ?_
    exact ri_ok (by rw [stepsV, if_pos (Or.inl h5)]) rfl
  · refine wp_aload_n (pc' := 9) dX6_steps_8 rfl rfl ⟨_, rfl⟩ ?_
    refine wp_iload_n (pc' := 10) dX6_steps_9 rfl rfl ?_
    refine wp_cVI (μ' := mX6_isCell) (pc' := 13) (o := 0) dX6_steps_10 rfl mlX6_101 cfX6_isCell ⟨(Nat.le_of_ble_eq_true rfl), (Nat.le_of_ble_eq_true rfl)⟩ (sp_isCell) (by decide) rfl rfl rfl rfl rfl (Nat.le_of_ble_eq_true rfl) ?_
    refine wp_if_ne (pc' := 16) 18 dX6_steps_13 rfl (by decide) (fun h13 => ?_) (fun h13 => ?_)
    · refine wp_aload_n (pc' := 19) dX6_steps_18 rfl rfl ⟨_, rfl⟩ ?_
      refine wp_get (pc' := 22) (o := 0) dX6_steps_19 rfl flX6_42 (by decide) rfl rfl ?_
      refine wp_iload_n (pc' := 23) dX6_steps_22 rfl rfl ?_
      refine wp_iload_n (pc' := 24) dX6_steps_23 rfl rfl ?_
      refine wp_aload_n (pc' := 25) dX6_steps_24 rfl rfl ⟨_, rfl⟩ ?_
      refine wp_cVI (μ' := mX6_bearing) (pc' := 28) (o := 0) dX6_steps_25 rfl mlX6_169 cfX6_bearing ⟨(Nat.le_of_ble_eq_true rfl), (Nat.le_of_ble_eq_true rfl)⟩ (sp_bearing) (by decide) rfl rfl rfl rfl rfl (Nat.le_of_ble_eq_true rfl) ?_
      refine wp_cVI (μ' := mX5_fewestSteps) (pc' := 31) (o := 11) dX6_steps_28 rfl mlX6_172 cfX5_fewestSteps ⟨(Nat.le_of_ble_eq_true rfl), (Nat.le_of_ble_eq_true rfl)⟩ (sp_fewestSteps) (by decide) rfl rfl rfl rfl rfl (Nat.le_of_ble_eq_true rfl) ?_
      refine wp_ireti dX6_steps_31 rfl ?_
      exact ri_ok (by rw [stepsV, if_neg (fun h => h.elim h5 h13)]) rfl
    · refine wp_iconst (pc' := 17) (-1) dX6_steps_16 rfl (by decide) ?_
      refine wp_ireti dX6_steps_17 rfl ?_
      exact ri_ok (by rw [stepsV, if_pos (Or.inr h13)]) rfl
def stonesV (M : Mem) (a b : Int32) : Int32 := if isCellF M a = 0 ∨ isCellF M b = 0 then -1 else stonesF (nearM M) a b (bearM M)
theorem sp_stones {g : GG} {M : Mem} {a b : Int32} : RI g mX6_stones [ob g 0, .int a, .int b] M (stonesV M a b) M := by
  refine spec_of_wp (ls := [some (ob g 0), some (.int a), some (.int b)]) rfl (Nat.le_of_ble_eq_true rfl) 0 rfl ?_
  refine wp_aload_n (pc' := 1) dX6_stones_0 rfl rfl ⟨_, rfl⟩ ?_
  refine wp_iload_n (pc' := 2) dX6_stones_1 rfl rfl ?_
  refine wp_cVI (μ' := mX6_isCell) (pc' := 5) (o := 0) dX6_stones_2 rfl mlX6_101 cfX6_isCell ⟨(Nat.le_of_ble_eq_true rfl), (Nat.le_of_ble_eq_true rfl)⟩ (sp_isCell) (by decide) rfl rfl rfl rfl rfl (Nat.le_of_ble_eq_true rfl) ?_
  refine wp_if_eq (pc' := 8) 16 dX6_stones_5 rfl (by decide) (fun h5 => ?_) (fun h5 => ?_)
  · refine wp_iconst (pc' := 17) (-1) dX6_stones_16 rfl (by decide) ?_
    refine wp_ireti dX6_stones_17 rfl ?_
    exact ri_ok (by rw [stonesV, if_pos (Or.inl h5)]) rfl
  · refine wp_aload_n (pc' := 9) dX6_stones_8 rfl rfl ⟨_, rfl⟩ ?_
    refine wp_iload_n (pc' := 10) dX6_stones_9 rfl rfl ?_
    refine wp_cVI (μ' := mX6_isCell) (pc' := 13) (o := 0) dX6_stones_10 rfl mlX6_101 cfX6_isCell ⟨(Nat.le_of_ble_eq_true rfl), (Nat.le_of_ble_eq_true rfl)⟩ (sp_isCell) (by decide) rfl rfl rfl rfl rfl (Nat.le_of_ble_eq_true rfl) ?_
    refine wp_if_ne (pc' := 16) 18 dX6_stones_13 rfl (by decide) (fun h13 => ?_) (fun h13 => ?_)
    · refine wp_aload_n (pc' := 19) dX6_stones_18 rfl rfl ⟨_, rfl⟩ ?_
      refine wp_get (pc' := 22) (o := 0) dX6_stones_19 rfl flX6_42 (by decide) rfl rfl ?_
      refine wp_iload_n (pc' := 23) dX6_stones_22 rfl rfl ?_
      refine wp_iload_n (pc' := 24) dX6_stones_23 rfl rfl ?_
      refine wp_aload_n (pc' := 25) dX6_stones_24 rfl rfl ⟨_, rfl⟩ ?_
      refine wp_cVI (μ' := mX6_bearing) (pc' := 28) (o := 0) dX6_stones_25 rfl mlX6_169 cfX6_bearing ⟨(Nat.le_of_ble_eq_true rfl), (Nat.le_of_ble_eq_true rfl)⟩ (sp_bearing) (by decide) rfl rfl rfl rfl rfl (Nat.le_of_ble_eq_true rfl) ?_
      refine wp_cVI (μ' := mX5_fewestStones) (pc' := 31) (o := 11) dX6_stones_28 rfl mlX6_179 cfX5_fewestStones ⟨(Nat.le_of_ble_eq_true rfl), (Nat.le_of_ble_eq_true rfl)⟩ (sp_fewestStones) (by decide) rfl rfl rfl rfl rfl (Nat.le_of_ble_eq_true rfl) ?_
      refine wp_ireti dX6_stones_31 rfl ?_
      exact ri_ok (by rw [stonesV, if_neg (fun h => h.elim h5 h13)]) rfl
    · refine wp_iconst (pc' := 17) (-1) dX6_stones_16 rfl (by decide) ?_
      refine wp_ireti dX6_stones_17 rfl ?_
      exact ri_ok (by rw [stonesV, if_pos (Or.inr h13)]) rfl
def wyF (nr : Int32 → Int32) (b bear : Int32) : Nat → Int32 → Int32
  | 0, c => c
  | n + 1, c => wyF nr b bear n (nextF nr c b bear)
theorem lp_way {g : GG} {M : Mem} {a b i ln : Int32} {s : Nat} (hs : s < 2 ^ 31) (hi : i = nI s) : ∀ (n j : Nat), j + n = s → ∀ (c : Int32), wp g mX6_way 62 [some (ob g 0), some (.int a), some (.int b), some (.int i), some (.int ln), some (.int c), some (.int (nI j))] [] M (fun q m => q = some (.int (wyF (nearM M) b (bearM M) n c)) ∧ m = M) := by
  subst hi
  intro n
  induction n with
  | zero =>
    intro j hj c
    obtain rfl : j = s := by omega
    refine wp_iload (pc' := 64) dX6_way_62 rfl rfl ?_
    refine wp_iload_n (pc' := 65) dX6_way_64 rfl rfl ?_
    refine wp_icmp_ge (pc' := 68) 90 dX6_way_65 rfl (by decide) (fun h65 => ?_) (fun h65 => ?_)
    · refine wp_iload (pc' := 92) dX6_way_90 rfl rfl ?_
      refine wp_ireti dX6_way_92 rfl ?_
      exact ri_ok rfl rfl
    · exact absurd (nI_le (Nat.le_refl j) hs) h65
  | succ n ih =>
    intro j hj c
    refine wp_iload (pc' := 64) dX6_way_62 rfl rfl ?_
    refine wp_iload_n (pc' := 65) dX6_way_64 rfl rfl ?_
    refine wp_icmp_ge (pc' := 68) 90 dX6_way_65 rfl (by decide) (fun h65 => ?_) (fun h65 => ?_)
    · refine wp_iload (pc' := 92) dX6_way_90 rfl rfl ?_
      refine wp_ireti dX6_way_92 rfl ?_
      exact absurd h65 (nI_ge (by omega) hs)
    · refine wp_aload_n (pc' := 69) dX6_way_68 rfl rfl ⟨_, rfl⟩ ?_
      refine wp_get (pc' := 72) (o := 0) dX6_way_69 rfl flX6_42 (by decide) rfl rfl ?_
      refine wp_iload (pc' := 74) dX6_way_72 rfl rfl ?_
      refine wp_iload_n (pc' := 75) dX6_way_74 rfl rfl ?_
      refine wp_aload_n (pc' := 76) dX6_way_75 rfl rfl ⟨_, rfl⟩ ?_
      refine wp_cVI (μ' := mX6_bearing) (pc' := 79) (o := 0) dX6_way_76 rfl mlX6_169 cfX6_bearing ⟨(Nat.le_of_ble_eq_true rfl), (Nat.le_of_ble_eq_true rfl)⟩ (sp_bearing) (by decide) rfl rfl rfl rfl rfl (Nat.le_of_ble_eq_true rfl) ?_
      refine wp_cVI (μ' := mX5_nextCell) (pc' := 82) (o := 11) dX6_way_79 rfl mlX6_176 cfX5_nextCell ⟨(Nat.le_of_ble_eq_true rfl), (Nat.le_of_ble_eq_true rfl)⟩ (sp_nextCell) (by decide) rfl rfl rfl rfl rfl (Nat.le_of_ble_eq_true rfl) ?_
      refine wp_ist5 (pc' := 84) dX6_way_82 rfl (by decide) rfl ?_
      refine wp_inc6 (pc' := 87) (nI (j + 1)) dX6_way_84 rfl (by decide) rfl (nI_1 j) ?_
      refine wp_goto 62 dX6_way_87 (by decide) ?_
      exact ih (j + 1) (by omega) _
def wayV (M : Mem) (a b i : Int32) : Int32 := if isCellF M a = 0 ∨ isCellF M b = 0 ∨ i < 0 then -1 else if fsF (nearM M) a b (bearM M) = -9 then -9 else if fsF (nearM M) a b (bearM M) < i then -5 else wyF (nearM M) b (bearM M) i.toNatClampNeg a
theorem sp_way {g : GG} {M : Mem} {a b i : Int32} : RI g mX6_way [ob g 0, .int a, .int b, .int i] M (wayV M a b i) M := by
  refine spec_of_wp (ls := [some (ob g 0), some (.int a), some (.int b), some (.int i), none, none, none]) rfl (Nat.le_of_ble_eq_true rfl) 3 rfl ?_
  refine wp_aload_n (pc' := 1) dX6_way_0 rfl rfl ⟨_, rfl⟩ ?_
  refine wp_iload_n (pc' := 2) dX6_way_1 rfl rfl ?_
  refine wp_cVI (μ' := mX6_isCell) (pc' := 5) (o := 0) dX6_way_2 rfl mlX6_101 cfX6_isCell ⟨(Nat.le_of_ble_eq_true rfl), (Nat.le_of_ble_eq_true rfl)⟩ (sp_isCell) (by decide) rfl rfl rfl rfl rfl (Nat.le_of_ble_eq_true rfl) ?_
  refine wp_if_eq (pc' := 8) 20 dX6_way_5 rfl (by decide) (fun h5 => ?_) (fun h5 => ?_)
  · refine wp_iconst (pc' := 21) (-1) dX6_way_20 rfl (by decide) ?_
    refine wp_ireti dX6_way_21 rfl ?_
    exact ri_ok (by rw [wayV, if_pos (Or.inl h5)]) rfl
  · refine wp_aload_n (pc' := 9) dX6_way_8 rfl rfl ⟨_, rfl⟩ ?_
    refine wp_iload_n (pc' := 10) dX6_way_9 rfl rfl ?_
    refine wp_cVI (μ' := mX6_isCell) (pc' := 13) (o := 0) dX6_way_10 rfl mlX6_101 cfX6_isCell ⟨(Nat.le_of_ble_eq_true rfl), (Nat.le_of_ble_eq_true rfl)⟩ (sp_isCell) (by decide) rfl rfl rfl rfl rfl (Nat.le_of_ble_eq_true rfl) ?_
    refine wp_if_eq (pc' := 16) 20 dX6_way_13 rfl (by decide) (fun h13 => ?_) (fun h13 => ?_)
    · refine wp_iconst (pc' := 21) (-1) dX6_way_20 rfl (by decide) ?_
      refine wp_ireti dX6_way_21 rfl ?_
      exact ri_ok (by rw [wayV, if_pos (Or.inr (Or.inl h13))]) rfl
    · refine wp_iload_n (pc' := 17) dX6_way_16 rfl rfl ?_
      refine wp_if_ge (pc' := 20) 22 dX6_way_17 rfl (by decide) (fun h17 => ?_) (fun h17 => ?_)
      · refine wp_aload_n (pc' := 23) dX6_way_22 rfl rfl ⟨_, rfl⟩ ?_
        refine wp_get (pc' := 26) (o := 0) dX6_way_23 rfl flX6_42 (by decide) rfl rfl ?_
        refine wp_iload_n (pc' := 27) dX6_way_26 rfl rfl ?_
        refine wp_iload_n (pc' := 28) dX6_way_27 rfl rfl ?_
        refine wp_aload_n (pc' := 29) dX6_way_28 rfl rfl ⟨_, rfl⟩ ?_
        refine wp_cVI (μ' := mX6_bearing) (pc' := 32) (o := 0) dX6_way_29 rfl mlX6_169 cfX6_bearing ⟨(Nat.le_of_ble_eq_true rfl), (Nat.le_of_ble_eq_true rfl)⟩ (sp_bearing) (by decide) rfl rfl rfl rfl rfl (Nat.le_of_ble_eq_true rfl) ?_
        refine wp_cVI (μ' := mX5_fewestSteps) (pc' := 35) (o := 11) dX6_way_32 rfl mlX6_172 cfX5_fewestSteps ⟨(Nat.le_of_ble_eq_true rfl), (Nat.le_of_ble_eq_true rfl)⟩ (sp_fewestSteps) (by decide) rfl rfl rfl rfl rfl (Nat.le_of_ble_eq_true rfl) ?_
        refine wp_ist4 (pc' := 37) dX6_way_35 rfl (by decide) rfl ?_
        refine wp_iload (pc' := 39) dX6_way_37 rfl rfl ?_
        refine wp_bipush (pc' := 41) (-9) dX6_way_39 rfl (by decide) ?_
        refine wp_icmp_ne (pc' := 44) 47 dX6_way_41 rfl (by decide) (fun h41 => ?_) (fun h41 => ?_)
        · refine wp_iload_n (pc' := 48) dX6_way_47 rfl rfl ?_
          refine wp_iload (pc' := 50) dX6_way_48 rfl rfl ?_
          refine wp_icmp_le (pc' := 53) 56 dX6_way_50 rfl (by decide) (fun h50 => ?_) (fun h50 => ?_)
          · refine wp_iload_n (pc' := 57) dX6_way_56 rfl rfl ?_
            refine wp_ist5 (pc' := 59) dX6_way_57 rfl (by decide) rfl ?_
            refine wp_iconst (pc' := 60) 0 dX6_way_59 rfl (by decide) ?_
            refine wp_ist6 (pc' := 62) dX6_way_60 rfl (by decide) rfl ?_
            obtain ⟨s, hs, hi⟩ := nI_of (Int32.not_lt.mpr h17)
            have e : wayV M a b i = wyF (nearM M) b (bearM M) s a := by
              rw [wayV, if_neg (fun h => h.elim h5 (fun h => h.elim h13 (fun h => Int32.not_lt.mpr h17 h))), if_neg h41, if_neg (Int32.not_lt.mpr h50), hi, nI_clamp hs]
            rw [e]
            exact lp_way hs hi s 0 (Nat.zero_add s) _
          · refine wp_bipush (pc' := 55) (-5) dX6_way_53 rfl (by decide) ?_
            refine wp_ireti dX6_way_55 rfl ?_
            exact ri_ok (by rw [wayV, if_neg (fun h => h.elim h5 (fun h => h.elim h13 (fun h => Int32.not_lt.mpr h17 h))), if_neg h41, if_pos (Int32.not_le.mp h50)]) rfl
        · refine wp_bipush (pc' := 46) (-9) dX6_way_44 rfl (by decide) ?_
          refine wp_ireti dX6_way_46 rfl ?_
          exact ri_ok (by rw [wayV, if_neg (fun h => h.elim h5 (fun h => h.elim h13 (fun h => Int32.not_lt.mpr h17 h))), if_pos h41]) rfl
      · refine wp_iconst (pc' := 21) (-1) dX6_way_20 rfl (by decide) ?_
        refine wp_ireti dX6_way_21 rfl ?_
        exact ri_ok (by rw [wayV, if_pos (Or.inr (Or.inr (Int32.not_le.mp h17)))]) rfl
def joinedV (M : Mem) (set what : Int32) (s : Nat) : Int32 := if what = 0 then pcF (ljF (nearM M) (set &&& M.1 11 1) (bearM M) (M.1 13 0) s 0 (M.1 13 0)) else ljF (nearM M) (set &&& M.1 11 1) (bearM M) (M.1 13 0) s 0 (M.1 13 0)
theorem sp_joined_bad {g : GG} {M : Mem} {set what : Int32} (h : what < 0 ∨ 1 < what) : RI g mX6_joined [ob g 0, .int set, .int what] M (-1) M := by
  refine spec_of_wp (ls := [some (ob g 0), some (.int set), some (.int what), none]) rfl (Nat.le_of_ble_eq_true rfl) 1 rfl ?_
  refine wp_iload_n (pc' := 1) dX6_joined_0 rfl rfl ?_
  refine wp_if_lt (pc' := 4) 9 dX6_joined_1 rfl (by decide) (fun h1 => ?_) (fun h1 => ?_)
  · refine wp_iconst (pc' := 10) (-1) dX6_joined_9 rfl (by decide) ?_
    refine wp_ireti dX6_joined_10 rfl ?_
    exact ri_ok rfl rfl
  · refine wp_iload_n (pc' := 5) dX6_joined_4 rfl rfl ?_
    refine wp_iconst (pc' := 6) 1 dX6_joined_5 rfl (by decide) ?_
    refine wp_icmp_le (pc' := 9) 11 dX6_joined_6 rfl (by decide) (fun h6 => ?_) (fun h6 => ?_)
    · exact h.elim (fun h => absurd h h1) (fun h => absurd h6 (Int32.not_le.mpr h))
    · refine wp_iconst (pc' := 10) (-1) dX6_joined_9 rfl (by decide) ?_
      refine wp_ireti dX6_joined_10 rfl ?_
      exact ri_ok rfl rfl
theorem sp_joined_state {g : GG} {M : Mem} {set what : Int32} (h0 : ¬ what < 0) (h9 : what ≤ 1) (hb : ¬ pcF (M.1 13 0) ≤ 10) : RI g mX6_joined [ob g 0, .int set, .int what] M (-2) M := by
  refine spec_of_wp (ls := [some (ob g 0), some (.int set), some (.int what), none]) rfl (Nat.le_of_ble_eq_true rfl) 1 rfl ?_
  refine wp_iload_n (pc' := 1) dX6_joined_0 rfl rfl ?_
  refine wp_if_lt (pc' := 4) 9 dX6_joined_1 rfl (by decide) (fun q1 => ?_) (fun q1 => ?_)
  · exact absurd q1 h0
  · refine wp_iload_n (pc' := 5) dX6_joined_4 rfl rfl ?_
    refine wp_iconst (pc' := 6) 1 dX6_joined_5 rfl (by decide) ?_
    refine wp_icmp_le (pc' := 9) 11 dX6_joined_6 rfl (by decide) (fun q6 => ?_) (fun q6 => ?_)
    · refine wp_aload_n (pc' := 12) dX6_joined_11 rfl rfl ⟨_, rfl⟩ ?_
      refine wp_get (pc' := 15) (o := 0) dX6_joined_12 rfl flX6_46 (by decide) rfl rfl ?_
      refine wp_get (pc' := 18) (o := 13) dX6_joined_15 rfl flX6_138 (by decide) rfl rfl ?_
      refine wp_cSI (μ' := mJ6_bitCount_0f7a4) (pc' := 21) dX6_joined_18 rfl mlX6_161 cfJ6_bitCount_0f7a4 ⟨(Nat.le_of_ble_eq_true rfl), (Nat.le_of_ble_eq_true rfl)⟩ (sp_bitCount) rfl rfl (Nat.le_of_ble_eq_true rfl) ?_
      refine wp_bipush (pc' := 23) 10 dX6_joined_21 rfl (by decide) ?_
      refine wp_icmp_le (pc' := 26) 29 dX6_joined_23 rfl (by decide) (fun q23 => ?_) (fun q23 => ?_)
      · exact absurd q23 hb
      · refine wp_bipush (pc' := 28) (-2) dX6_joined_26 rfl (by decide) ?_
        refine wp_ireti dX6_joined_28 rfl ?_
        exact ri_ok rfl rfl
    · exact absurd h9 q6
theorem sp_joined {g : GG} {M : Mem} {set what : Int32} {s : Nat} (hs : s < 2 ^ 31) (he : shl 1 (pcF (M.1 13 0)) = nI s) (h0 : ¬ what < 0) (h9 : what ≤ 1) (hb : pcF (M.1 13 0) ≤ 10) : RI g mX6_joined [ob g 0, .int set, .int what] M (joinedV M set what s) M := by
  refine spec_of_wp (ls := [some (ob g 0), some (.int set), some (.int what), none]) rfl (Nat.le_of_ble_eq_true rfl) 1 rfl ?_
  refine wp_iload_n (pc' := 1) dX6_joined_0 rfl rfl ?_
  refine wp_if_lt (pc' := 4) 9 dX6_joined_1 rfl (by decide) (fun q1 => ?_) (fun q1 => ?_)
  · exact absurd q1 h0
  · refine wp_iload_n (pc' := 5) dX6_joined_4 rfl rfl ?_
    refine wp_iconst (pc' := 6) 1 dX6_joined_5 rfl (by decide) ?_
    refine wp_icmp_le (pc' := 9) 11 dX6_joined_6 rfl (by decide) (fun q6 => ?_) (fun q6 => ?_)
    · refine wp_aload_n (pc' := 12) dX6_joined_11 rfl rfl ⟨_, rfl⟩ ?_
      refine wp_get (pc' := 15) (o := 0) dX6_joined_12 rfl flX6_46 (by decide) rfl rfl ?_
      refine wp_get (pc' := 18) (o := 13) dX6_joined_15 rfl flX6_138 (by decide) rfl rfl ?_
      refine wp_cSI (μ' := mJ6_bitCount_0f7a4) (pc' := 21) dX6_joined_18 rfl mlX6_161 cfJ6_bitCount_0f7a4 ⟨(Nat.le_of_ble_eq_true rfl), (Nat.le_of_ble_eq_true rfl)⟩ (sp_bitCount) rfl rfl (Nat.le_of_ble_eq_true rfl) ?_
      refine wp_bipush (pc' := 23) 10 dX6_joined_21 rfl (by decide) ?_
      refine wp_icmp_le (pc' := 26) 29 dX6_joined_23 rfl (by decide) (fun q23 => ?_) (fun q23 => ?_)
      · refine wp_aload_n (pc' := 30) dX6_joined_29 rfl rfl ⟨_, rfl⟩ ?_
        refine wp_get (pc' := 33) (o := 0) dX6_joined_30 rfl flX6_34 (by decide) rfl rfl ?_
        refine wp_iload_n (pc' := 34) dX6_joined_33 rfl rfl ?_
        refine wp_aload_n (pc' := 35) dX6_joined_34 rfl rfl ⟨_, rfl⟩ ?_
        refine wp_get (pc' := 38) (o := 0) dX6_joined_35 rfl flX6_42 (by decide) rfl rfl ?_
        refine wp_get (pc' := 41) (o := 11) dX6_joined_38 rfl flX6_155 (by decide) rfl rfl ?_
        refine wp_iand (pc' := 42) dX6_joined_41 rfl ?_
        refine wp_aload_n (pc' := 43) dX6_joined_42 rfl rfl ⟨_, rfl⟩ ?_
        refine wp_cVI (μ' := mX6_bearing) (pc' := 46) (o := 0) dX6_joined_43 rfl mlX6_169 cfX6_bearing ⟨(Nat.le_of_ble_eq_true rfl), (Nat.le_of_ble_eq_true rfl)⟩ (sp_bearing) (by decide) rfl rfl rfl rfl rfl (Nat.le_of_ble_eq_true rfl) ?_
        refine wp_aload_n (pc' := 47) dX6_joined_46 rfl rfl ⟨_, rfl⟩ ?_
        refine wp_get (pc' := 50) (o := 0) dX6_joined_47 rfl flX6_46 (by decide) rfl rfl ?_
        refine wp_get (pc' := 53) (o := 13) dX6_joined_50 rfl flX6_138 (by decide) rfl rfl ?_
        refine wp_cVI (μ' := mX1_leastJoining) (pc' := 56) (o := 10) dX6_joined_53 rfl mlX6_182 cfX1_leastJoining ⟨(Nat.le_of_ble_eq_true rfl), (Nat.le_of_ble_eq_true rfl)⟩ (sp_leastJoining hs he) (by decide) rfl rfl rfl rfl rfl (Nat.le_of_ble_eq_true rfl) ?_
        refine wp_ist3 (pc' := 57) dX6_joined_56 rfl (by decide) rfl ?_
        refine wp_iload_n (pc' := 58) dX6_joined_57 rfl rfl ?_
        refine wp_if_ne (pc' := 61) 68 dX6_joined_58 rfl (by decide) (fun q58 => ?_) (fun q58 => ?_)
        · refine wp_iload_n (pc' := 69) dX6_joined_68 rfl rfl ?_
          refine wp_ireti dX6_joined_69 rfl ?_
          exact ri_ok (by rw [joinedV, if_neg q58]) rfl
        · refine wp_iload_n (pc' := 62) dX6_joined_61 rfl rfl ?_
          refine wp_cSI (μ' := mJ6_bitCount_0f7a4) (pc' := 65) dX6_joined_62 rfl mlX6_161 cfJ6_bitCount_0f7a4 ⟨(Nat.le_of_ble_eq_true rfl), (Nat.le_of_ble_eq_true rfl)⟩ (sp_bitCount) rfl rfl (Nat.le_of_ble_eq_true rfl) ?_
          refine wp_goto 69 dX6_joined_65 (by decide) ?_
          refine wp_ireti dX6_joined_69 rfl ?_
          exact ri_ok (by rw [joinedV, if_pos q58]) rfl
      · exact absurd hb q23
    · exact absurd h9 q6
theorem sp_likedBy {g : GG} {M : Mem} {k : Int32} : RI g mX6_likedBy [ob g 0, .int k] M (btlF (nearM M) (atF 4 (M.1 5) k) (atF 4 (M.1 6) k) (bearM M) (M.1 13 0) 24 0 (-9) 25) M := by
  refine spec_of_wp (ls := [some (ob g 0), some (.int k)]) rfl (Nat.le_of_ble_eq_true rfl) 0 rfl ?_
  refine wp_aload_n (pc' := 1) dX6_likedBy_0 rfl rfl ⟨_, rfl⟩ ?_
  refine wp_get (pc' := 4) (o := 0) dX6_likedBy_1 rfl flX6_34 (by decide) rfl rfl ?_
  refine wp_aload_n (pc' := 5) dX6_likedBy_4 rfl rfl ⟨_, rfl⟩ ?_
  refine wp_get (pc' := 8) (o := 0) dX6_likedBy_5 rfl flX6_24 (by decide) rfl rfl ?_
  refine wp_get (pc' := 11) (o := 4) dX6_likedBy_8 rfl flX6_123 (by decide) rfl rfl ?_
  refine wp_iload_n (pc' := 12) dX6_likedBy_11 rfl rfl ?_
  refine wp_cSI (μ' := mX6_at) (pc' := 15) dX6_likedBy_12 rfl mlX6_113 cfX6_at ⟨(Nat.le_of_ble_eq_true rfl), (Nat.le_of_ble_eq_true rfl)⟩ (sp_at arr5) rfl rfl (Nat.le_of_ble_eq_true rfl) ?_
  refine wp_aload_n (pc' := 16) dX6_likedBy_15 rfl rfl ⟨_, rfl⟩ ?_
  refine wp_get (pc' := 19) (o := 0) dX6_likedBy_16 rfl flX6_24 (by decide) rfl rfl ?_
  refine wp_get (pc' := 22) (o := 4) dX6_likedBy_19 rfl flX6_126 (by decide) rfl rfl ?_
  refine wp_iload_n (pc' := 23) dX6_likedBy_22 rfl rfl ?_
  refine wp_cSI (μ' := mX6_at) (pc' := 26) dX6_likedBy_23 rfl mlX6_113 cfX6_at ⟨(Nat.le_of_ble_eq_true rfl), (Nat.le_of_ble_eq_true rfl)⟩ (sp_at arr6) rfl rfl (Nat.le_of_ble_eq_true rfl) ?_
  refine wp_aload_n (pc' := 27) dX6_likedBy_26 rfl rfl ⟨_, rfl⟩ ?_
  refine wp_cVI (μ' := mX6_bearing) (pc' := 30) (o := 0) dX6_likedBy_27 rfl mlX6_169 cfX6_bearing ⟨(Nat.le_of_ble_eq_true rfl), (Nat.le_of_ble_eq_true rfl)⟩ (sp_bearing) (by decide) rfl rfl rfl rfl rfl (Nat.le_of_ble_eq_true rfl) ?_
  refine wp_aload_n (pc' := 31) dX6_likedBy_30 rfl rfl ⟨_, rfl⟩ ?_
  refine wp_get (pc' := 34) (o := 0) dX6_likedBy_31 rfl flX6_46 (by decide) rfl rfl ?_
  refine wp_get (pc' := 37) (o := 13) dX6_likedBy_34 rfl flX6_138 (by decide) rfl rfl ?_
  refine wp_cVI (μ' := mX1_bestToLay) (pc' := 40) (o := 10) dX6_likedBy_37 rfl mlX6_227 cfX1_bestToLay ⟨(Nat.le_of_ble_eq_true rfl), (Nat.le_of_ble_eq_true rfl)⟩ (sp_bestToLay) (by decide) rfl rfl rfl rfl rfl (Nat.le_of_ble_eq_true rfl) ?_
  refine wp_ireti dX6_likedBy_40 rfl ?_
  exact ri_ok rfl rfl
def likedF (M : Mem) (k : Int32) : Int32 := btlF (nearM M) (atF 4 (M.1 5) k) (atF 4 (M.1 6) k) (bearM M) (M.1 13 0) 24 0 (-9) 25
def likesV (M : Mem) (k : Int32) : Int32 := if isWalkerF M k = 0 then -1 else likedF M k
theorem sp_likes {g : GG} {M : Mem} {k : Int32} : RI g mX6_likes [ob g 0, .int k] M (likesV M k) M := by
  refine spec_of_wp (ls := [some (ob g 0), some (.int k)]) rfl (Nat.le_of_ble_eq_true rfl) 0 rfl ?_
  refine wp_aload_n (pc' := 1) dX6_likes_0 rfl rfl ⟨_, rfl⟩ ?_
  refine wp_iload_n (pc' := 2) dX6_likes_1 rfl rfl ?_
  refine wp_cVI (μ' := mX6_isWalker) (pc' := 5) (o := 0) dX6_likes_2 rfl mlX6_120 cfX6_isWalker ⟨(Nat.le_of_ble_eq_true rfl), (Nat.le_of_ble_eq_true rfl)⟩ (sp_isWalker) (by decide) rfl rfl rfl rfl rfl (Nat.le_of_ble_eq_true rfl) ?_
  refine wp_if_ne (pc' := 8) 10 dX6_likes_5 rfl (by decide) (fun h5 => ?_) (fun h5 => ?_)
  · refine wp_aload_n (pc' := 11) dX6_likes_10 rfl rfl ⟨_, rfl⟩ ?_
    refine wp_iload_n (pc' := 12) dX6_likes_11 rfl rfl ?_
    refine wp_cVI (μ' := mX6_likedBy) (pc' := 15) (o := 0) dX6_likes_12 rfl mlX6_152 cfX6_likedBy ⟨(Nat.le_of_ble_eq_true rfl), (Nat.le_of_ble_eq_true rfl)⟩ (sp_likedBy) (by decide) rfl rfl rfl rfl rfl (Nat.le_of_ble_eq_true rfl) ?_
    refine wp_ireti dX6_likes_15 rfl ?_
    exact ri_ok (by rw [likesV, if_neg h5]; try rfl) rfl
  · refine wp_iconst (pc' := 9) (-1) dX6_likes_8 rfl (by decide) ?_
    refine wp_ireti dX6_likes_9 rfl ?_
    exact ri_ok (by rw [likesV, if_pos h5]; try rfl) rfl
theorem sp_byTurns_bad {g : GG} {M : Mem} {a b : Int32} (h : isCellF M a = 0 ∨ isCellF M b = 0) : RI g mX6_byTurns [ob g 0, .int a, .int b] M (-1) M := by
  refine spec_of_wp (ls := [some (ob g 0), some (.int a), some (.int b)]) rfl (Nat.le_of_ble_eq_true rfl) 0 rfl ?_
  refine wp_aload_n (pc' := 1) dX6_byTurns_0 rfl rfl ⟨_, rfl⟩ ?_
  refine wp_iload_n (pc' := 2) dX6_byTurns_1 rfl rfl ?_
  refine wp_cVI (μ' := mX6_isCell) (pc' := 5) (o := 0) dX6_byTurns_2 rfl mlX6_101 cfX6_isCell ⟨(Nat.le_of_ble_eq_true rfl), (Nat.le_of_ble_eq_true rfl)⟩ (sp_isCell) (by decide) rfl rfl rfl rfl rfl (Nat.le_of_ble_eq_true rfl) ?_
  refine wp_if_eq (pc' := 8) 16 dX6_byTurns_5 rfl (by decide) (fun h5 => ?_) (fun h5 => ?_)
  · refine wp_iconst (pc' := 17) (-1) dX6_byTurns_16 rfl (by decide) ?_
    refine wp_ireti dX6_byTurns_17 rfl ?_
    exact ri_ok rfl rfl
  · refine wp_aload_n (pc' := 9) dX6_byTurns_8 rfl rfl ⟨_, rfl⟩ ?_
    refine wp_iload_n (pc' := 10) dX6_byTurns_9 rfl rfl ?_
    refine wp_cVI (μ' := mX6_isCell) (pc' := 13) (o := 0) dX6_byTurns_10 rfl mlX6_101 cfX6_isCell ⟨(Nat.le_of_ble_eq_true rfl), (Nat.le_of_ble_eq_true rfl)⟩ (sp_isCell) (by decide) rfl rfl rfl rfl rfl (Nat.le_of_ble_eq_true rfl) ?_
    refine wp_if_ne (pc' := 16) 18 dX6_byTurns_13 rfl (by decide) (fun h13 => ?_) (fun h13 => ?_)
    · exact (h.elim h5 h13).elim
    · refine wp_iconst (pc' := 17) (-1) dX6_byTurns_16 rfl (by decide) ?_
      refine wp_ireti dX6_byTurns_17 rfl ?_
      exact ri_ok rfl rfl
theorem sp_byTurns_state {g : GG} {M : Mem} {a b : Int32} (h : ¬ (isCellF M a = 0 ∨ isCellF M b = 0)) (hb : ¬ pcF (M.1 13 0) ≤ 8) : RI g mX6_byTurns [ob g 0, .int a, .int b] M (-2) M := by
  refine spec_of_wp (ls := [some (ob g 0), some (.int a), some (.int b)]) rfl (Nat.le_of_ble_eq_true rfl) 0 rfl ?_
  refine wp_aload_n (pc' := 1) dX6_byTurns_0 rfl rfl ⟨_, rfl⟩ ?_
  refine wp_iload_n (pc' := 2) dX6_byTurns_1 rfl rfl ?_
  refine wp_cVI (μ' := mX6_isCell) (pc' := 5) (o := 0) dX6_byTurns_2 rfl mlX6_101 cfX6_isCell ⟨(Nat.le_of_ble_eq_true rfl), (Nat.le_of_ble_eq_true rfl)⟩ (sp_isCell) (by decide) rfl rfl rfl rfl rfl (Nat.le_of_ble_eq_true rfl) ?_
  refine wp_if_eq (pc' := 8) 16 dX6_byTurns_5 rfl (by decide) (fun h5 => ?_) (fun h5 => ?_)
  · exact absurd (Or.inl h5) h
  · refine wp_aload_n (pc' := 9) dX6_byTurns_8 rfl rfl ⟨_, rfl⟩ ?_
    refine wp_iload_n (pc' := 10) dX6_byTurns_9 rfl rfl ?_
    refine wp_cVI (μ' := mX6_isCell) (pc' := 13) (o := 0) dX6_byTurns_10 rfl mlX6_101 cfX6_isCell ⟨(Nat.le_of_ble_eq_true rfl), (Nat.le_of_ble_eq_true rfl)⟩ (sp_isCell) (by decide) rfl rfl rfl rfl rfl (Nat.le_of_ble_eq_true rfl) ?_
    refine wp_if_ne (pc' := 16) 18 dX6_byTurns_13 rfl (by decide) (fun h13 => ?_) (fun h13 => ?_)
    · refine wp_aload_n (pc' := 19) dX6_byTurns_18 rfl rfl ⟨_, rfl⟩ ?_
      refine wp_get (pc' := 22) (o := 0) dX6_byTurns_19 rfl flX6_46 (by decide) rfl rfl ?_
      refine wp_get (pc' := 25) (o := 13) dX6_byTurns_22 rfl flX6_138 (by decide) rfl rfl ?_
      refine wp_cSI (μ' := mJ6_bitCount_0f7a4) (pc' := 28) dX6_byTurns_25 rfl mlX6_161 cfJ6_bitCount_0f7a4 ⟨(Nat.le_of_ble_eq_true rfl), (Nat.le_of_ble_eq_true rfl)⟩ (sp_bitCount) rfl rfl (Nat.le_of_ble_eq_true rfl) ?_
      refine wp_bipush (pc' := 30) 8 dX6_byTurns_28 rfl (by decide) ?_
      refine wp_icmp_le (pc' := 33) 36 dX6_byTurns_30 rfl (by decide) (fun h30 => ?_) (fun h30 => ?_)
      · exact absurd h30 hb
      · refine wp_bipush (pc' := 35) (-2) dX6_byTurns_33 rfl (by decide) ?_
        refine wp_ireti dX6_byTurns_35 rfl ?_
        exact ri_ok rfl rfl
    · exact absurd (Or.inr h13) h
theorem sp_byTurns {g : GG} {M : Mem} {a b : Int32} {s n : Nat} (hs : s < 2 ^ 31) (hn : n < 2 ^ 31) (he : pcF (M.1 13 0) = nI s) (hf : shl 1 (nI s) = nI n) (h : ¬ (isCellF M a = 0 ∨ isCellF M b = 0)) (hb : pcF (M.1 13 0) ≤ 8) : RI g mX6_byTurns [ob g 0, .int a, .int b] M (atF 256 ((ltM (nearM M) a b (bearM M) (M.1 13 0) s n (M.1 13 0) M).1 12) 0) (ltM (nearM M) a b (bearM M) (M.1 13 0) s n (M.1 13 0) M) := by
  refine spec_of_wp (ls := [some (ob g 0), some (.int a), some (.int b)]) rfl (Nat.le_of_ble_eq_true rfl) 0 rfl ?_
  refine wp_aload_n (pc' := 1) dX6_byTurns_0 rfl rfl ⟨_, rfl⟩ ?_
  refine wp_iload_n (pc' := 2) dX6_byTurns_1 rfl rfl ?_
  refine wp_cVI (μ' := mX6_isCell) (pc' := 5) (o := 0) dX6_byTurns_2 rfl mlX6_101 cfX6_isCell ⟨(Nat.le_of_ble_eq_true rfl), (Nat.le_of_ble_eq_true rfl)⟩ (sp_isCell) (by decide) rfl rfl rfl rfl rfl (Nat.le_of_ble_eq_true rfl) ?_
  refine wp_if_eq (pc' := 8) 16 dX6_byTurns_5 rfl (by decide) (fun h5 => ?_) (fun h5 => ?_)
  · exact absurd (Or.inl h5) h
  · refine wp_aload_n (pc' := 9) dX6_byTurns_8 rfl rfl ⟨_, rfl⟩ ?_
    refine wp_iload_n (pc' := 10) dX6_byTurns_9 rfl rfl ?_
    refine wp_cVI (μ' := mX6_isCell) (pc' := 13) (o := 0) dX6_byTurns_10 rfl mlX6_101 cfX6_isCell ⟨(Nat.le_of_ble_eq_true rfl), (Nat.le_of_ble_eq_true rfl)⟩ (sp_isCell) (by decide) rfl rfl rfl rfl rfl (Nat.le_of_ble_eq_true rfl) ?_
    refine wp_if_ne (pc' := 16) 18 dX6_byTurns_13 rfl (by decide) (fun h13 => ?_) (fun h13 => ?_)
    · refine wp_aload_n (pc' := 19) dX6_byTurns_18 rfl rfl ⟨_, rfl⟩ ?_
      refine wp_get (pc' := 22) (o := 0) dX6_byTurns_19 rfl flX6_46 (by decide) rfl rfl ?_
      refine wp_get (pc' := 25) (o := 13) dX6_byTurns_22 rfl flX6_138 (by decide) rfl rfl ?_
      refine wp_cSI (μ' := mJ6_bitCount_0f7a4) (pc' := 28) dX6_byTurns_25 rfl mlX6_161 cfJ6_bitCount_0f7a4 ⟨(Nat.le_of_ble_eq_true rfl), (Nat.le_of_ble_eq_true rfl)⟩ (sp_bitCount) rfl rfl (Nat.le_of_ble_eq_true rfl) ?_
      refine wp_bipush (pc' := 30) 8 dX6_byTurns_28 rfl (by decide) ?_
      refine wp_icmp_le (pc' := 33) 36 dX6_byTurns_30 rfl (by decide) (fun h30 => ?_) (fun h30 => ?_)
      · refine wp_aload_n (pc' := 37) dX6_byTurns_36 rfl rfl ⟨_, rfl⟩ ?_
        refine wp_get (pc' := 40) (o := 0) dX6_byTurns_37 rfl flX6_34 (by decide) rfl rfl ?_
        refine wp_iload_n (pc' := 41) dX6_byTurns_40 rfl rfl ?_
        refine wp_iload_n (pc' := 42) dX6_byTurns_41 rfl rfl ?_
        refine wp_aload_n (pc' := 43) dX6_byTurns_42 rfl rfl ⟨_, rfl⟩ ?_
        refine wp_cVI (μ' := mX6_bearing) (pc' := 46) (o := 0) dX6_byTurns_43 rfl mlX6_169 cfX6_bearing ⟨(Nat.le_of_ble_eq_true rfl), (Nat.le_of_ble_eq_true rfl)⟩ (sp_bearing) (by decide) rfl rfl rfl rfl rfl (Nat.le_of_ble_eq_true rfl) ?_
        refine wp_aload_n (pc' := 47) dX6_byTurns_46 rfl rfl ⟨_, rfl⟩ ?_
        refine wp_get (pc' := 50) (o := 0) dX6_byTurns_47 rfl flX6_46 (by decide) rfl rfl ?_
        refine wp_get (pc' := 53) (o := 13) dX6_byTurns_50 rfl flX6_138 (by decide) rfl rfl ?_
        refine wp_cVI (μ' := mX1_laidByTurns) (pc' := 56) (o := 10) dX6_byTurns_53 rfl mlX6_185 cfX1_laidByTurns ⟨(Nat.le_of_ble_eq_true rfl), (Nat.le_of_ble_eq_true rfl)⟩ (sp_laidByTurns hs hn he hf) (by decide) rfl rfl rfl rfl rfl (Nat.le_of_ble_eq_true rfl) ?_
        refine wp_ireti dX6_byTurns_56 rfl ?_
        exact ri_ok rfl rfl
      · exact absurd hb h30
    · exact absurd (Or.inr h13) h
def othersF (M : Mem) (a b : Int32) : Int32 := (bearM M &&& (shl 1 a ^^^ (-1))) &&& (shl 1 b ^^^ (-1))
def noApart (M : Mem) (a b : Int32) : Prop := hasF (bearM M) a = 0 ∨ hasF (bearM M) b = 0 ∨ ¬ hasF (nearM M (shl 1 a)) b = 0
theorem sp_apart_bad {g : GG} {M : Mem} {a b : Int32} (h : (isCellF M a = 0 ∨ isCellF M b = 0 ∨ a = b)) : RI g mX6_apart [ob g 0, .int a, .int b] M (-1) M := by
  refine spec_of_wp (ls := [some (ob g 0), some (.int a), some (.int b), none]) rfl (Nat.le_of_ble_eq_true rfl) 1 rfl ?_
  refine wp_aload_n (pc' := 1) dX6_apart_0 rfl rfl ⟨_, rfl⟩ ?_
  refine wp_iload_n (pc' := 2) dX6_apart_1 rfl rfl ?_
  refine wp_cVI (μ' := mX6_isCell) (pc' := 5) (o := 0) dX6_apart_2 rfl mlX6_101 cfX6_isCell ⟨(Nat.le_of_ble_eq_true rfl), (Nat.le_of_ble_eq_true rfl)⟩ (sp_isCell) (by decide) rfl rfl rfl rfl rfl (Nat.le_of_ble_eq_true rfl) ?_
  refine wp_if_eq (pc' := 8) 21 dX6_apart_5 rfl (by decide) (fun h5 => ?_) (fun h5 => ?_)
  · refine wp_iconst (pc' := 22) (-1) dX6_apart_21 rfl (by decide) ?_
    refine wp_ireti dX6_apart_22 rfl ?_
    exact ri_ok rfl rfl
  · refine wp_aload_n (pc' := 9) dX6_apart_8 rfl rfl ⟨_, rfl⟩ ?_
    refine wp_iload_n (pc' := 10) dX6_apart_9 rfl rfl ?_
    refine wp_cVI (μ' := mX6_isCell) (pc' := 13) (o := 0) dX6_apart_10 rfl mlX6_101 cfX6_isCell ⟨(Nat.le_of_ble_eq_true rfl), (Nat.le_of_ble_eq_true rfl)⟩ (sp_isCell) (by decide) rfl rfl rfl rfl rfl (Nat.le_of_ble_eq_true rfl) ?_
    refine wp_if_eq (pc' := 16) 21 dX6_apart_13 rfl (by decide) (fun h13 => ?_) (fun h13 => ?_)
    · refine wp_iconst (pc' := 22) (-1) dX6_apart_21 rfl (by decide) ?_
      refine wp_ireti dX6_apart_22 rfl ?_
      exact ri_ok rfl rfl
    · refine wp_iload_n (pc' := 17) dX6_apart_16 rfl rfl ?_
      refine wp_iload_n (pc' := 18) dX6_apart_17 rfl rfl ?_
      refine wp_icmp_ne (pc' := 21) 23 dX6_apart_18 rfl (by decide) (fun h18 => ?_) (fun h18 => ?_)
      · exact (h.elim h5 (fun h => h.elim h13 h18)).elim
      · refine wp_iconst (pc' := 22) (-1) dX6_apart_21 rfl (by decide) ?_
        refine wp_ireti dX6_apart_22 rfl ?_
        exact ri_ok rfl rfl
theorem sp_apart_state {g : GG} {M : Mem} {a b : Int32} (h : ¬ (isCellF M a = 0 ∨ isCellF M b = 0 ∨ a = b)) (hb : ¬ pcF (othersF M a b) ≤ 12) : RI g mX6_apart [ob g 0, .int a, .int b] M (-2) M := by
  refine spec_of_wp (ls := [some (ob g 0), some (.int a), some (.int b), none]) rfl (Nat.le_of_ble_eq_true rfl) 1 rfl ?_
  refine wp_aload_n (pc' := 1) dX6_apart_0 rfl rfl ⟨_, rfl⟩ ?_
  refine wp_iload_n (pc' := 2) dX6_apart_1 rfl rfl ?_
  refine wp_cVI (μ' := mX6_isCell) (pc' := 5) (o := 0) dX6_apart_2 rfl mlX6_101 cfX6_isCell ⟨(Nat.le_of_ble_eq_true rfl), (Nat.le_of_ble_eq_true rfl)⟩ (sp_isCell) (by decide) rfl rfl rfl rfl rfl (Nat.le_of_ble_eq_true rfl) ?_
  refine wp_if_eq (pc' := 8) 21 dX6_apart_5 rfl (by decide) (fun h5 => ?_) (fun h5 => ?_)
  · exact absurd (Or.inl h5) h
  · refine wp_aload_n (pc' := 9) dX6_apart_8 rfl rfl ⟨_, rfl⟩ ?_
    refine wp_iload_n (pc' := 10) dX6_apart_9 rfl rfl ?_
    refine wp_cVI (μ' := mX6_isCell) (pc' := 13) (o := 0) dX6_apart_10 rfl mlX6_101 cfX6_isCell ⟨(Nat.le_of_ble_eq_true rfl), (Nat.le_of_ble_eq_true rfl)⟩ (sp_isCell) (by decide) rfl rfl rfl rfl rfl (Nat.le_of_ble_eq_true rfl) ?_
    refine wp_if_eq (pc' := 16) 21 dX6_apart_13 rfl (by decide) (fun h13 => ?_) (fun h13 => ?_)
    · exact absurd (Or.inr (Or.inl h13)) h
    · refine wp_iload_n (pc' := 17) dX6_apart_16 rfl rfl ?_
      refine wp_iload_n (pc' := 18) dX6_apart_17 rfl rfl ?_
      refine wp_icmp_ne (pc' := 21) 23 dX6_apart_18 rfl (by decide) (fun h18 => ?_) (fun h18 => ?_)
      · refine wp_aload_n (pc' := 24) dX6_apart_23 rfl rfl ⟨_, rfl⟩ ?_
        refine wp_cVI (μ' := mX6_bearing) (pc' := 27) (o := 0) dX6_apart_24 rfl mlX6_169 cfX6_bearing ⟨(Nat.le_of_ble_eq_true rfl), (Nat.le_of_ble_eq_true rfl)⟩ (sp_bearing) (by decide) rfl rfl rfl rfl rfl (Nat.le_of_ble_eq_true rfl) ?_
        refine wp_iconst (pc' := 28) 1 dX6_apart_27 rfl (by decide) ?_
        refine wp_iload_n (pc' := 29) dX6_apart_28 rfl rfl ?_
        refine wp_ishl (pc' := 30) dX6_apart_29 rfl ?_
        refine wp_iconst (pc' := 31) (-1) dX6_apart_30 rfl (by decide) ?_
        refine wp_ixor (pc' := 32) dX6_apart_31 rfl ?_
        refine wp_iand (pc' := 33) dX6_apart_32 rfl ?_
        refine wp_iconst (pc' := 34) 1 dX6_apart_33 rfl (by decide) ?_
        refine wp_iload_n (pc' := 35) dX6_apart_34 rfl rfl ?_
        refine wp_ishl (pc' := 36) dX6_apart_35 rfl ?_
        refine wp_iconst (pc' := 37) (-1) dX6_apart_36 rfl (by decide) ?_
        refine wp_ixor (pc' := 38) dX6_apart_37 rfl ?_
        refine wp_iand (pc' := 39) dX6_apart_38 rfl ?_
        refine wp_ist3 (pc' := 40) dX6_apart_39 rfl (by decide) rfl ?_
        refine wp_iload_n (pc' := 41) dX6_apart_40 rfl rfl ?_
        refine wp_cSI (μ' := mJ6_bitCount_0f7a4) (pc' := 44) dX6_apart_41 rfl mlX6_161 cfJ6_bitCount_0f7a4 ⟨(Nat.le_of_ble_eq_true rfl), (Nat.le_of_ble_eq_true rfl)⟩ (sp_bitCount) rfl rfl (Nat.le_of_ble_eq_true rfl) ?_
        refine wp_bipush (pc' := 46) 12 dX6_apart_44 rfl (by decide) ?_
        refine wp_icmp_le (pc' := 49) 52 dX6_apart_46 rfl (by decide) (fun h46 => ?_) (fun h46 => ?_)
        · exact absurd h46 hb
        · refine wp_bipush (pc' := 51) (-2) dX6_apart_49 rfl (by decide) ?_
          refine wp_ireti dX6_apart_51 rfl ?_
          exact ri_ok rfl rfl
      · exact absurd (Or.inr (Or.inr h18)) h
theorem sp_apart_none {g : GG} {M : Mem} {a b : Int32} (h : ¬ (isCellF M a = 0 ∨ isCellF M b = 0 ∨ a = b)) (hb : pcF (othersF M a b) ≤ 12) (hn : noApart M a b) : RI g mX6_apart [ob g 0, .int a, .int b] M (-9) M := by
  refine spec_of_wp (ls := [some (ob g 0), some (.int a), some (.int b), none]) rfl (Nat.le_of_ble_eq_true rfl) 1 rfl ?_
  refine wp_aload_n (pc' := 1) dX6_apart_0 rfl rfl ⟨_, rfl⟩ ?_
  refine wp_iload_n (pc' := 2) dX6_apart_1 rfl rfl ?_
  refine wp_cVI (μ' := mX6_isCell) (pc' := 5) (o := 0) dX6_apart_2 rfl mlX6_101 cfX6_isCell ⟨(Nat.le_of_ble_eq_true rfl), (Nat.le_of_ble_eq_true rfl)⟩ (sp_isCell) (by decide) rfl rfl rfl rfl rfl (Nat.le_of_ble_eq_true rfl) ?_
  refine wp_if_eq (pc' := 8) 21 dX6_apart_5 rfl (by decide) (fun h5 => ?_) (fun h5 => ?_)
  · exact absurd (Or.inl h5) h
  · refine wp_aload_n (pc' := 9) dX6_apart_8 rfl rfl ⟨_, rfl⟩ ?_
    refine wp_iload_n (pc' := 10) dX6_apart_9 rfl rfl ?_
    refine wp_cVI (μ' := mX6_isCell) (pc' := 13) (o := 0) dX6_apart_10 rfl mlX6_101 cfX6_isCell ⟨(Nat.le_of_ble_eq_true rfl), (Nat.le_of_ble_eq_true rfl)⟩ (sp_isCell) (by decide) rfl rfl rfl rfl rfl (Nat.le_of_ble_eq_true rfl) ?_
    refine wp_if_eq (pc' := 16) 21 dX6_apart_13 rfl (by decide) (fun h13 => ?_) (fun h13 => ?_)
    · exact absurd (Or.inr (Or.inl h13)) h
    · refine wp_iload_n (pc' := 17) dX6_apart_16 rfl rfl ?_
      refine wp_iload_n (pc' := 18) dX6_apart_17 rfl rfl ?_
      refine wp_icmp_ne (pc' := 21) 23 dX6_apart_18 rfl (by decide) (fun h18 => ?_) (fun h18 => ?_)
      · refine wp_aload_n (pc' := 24) dX6_apart_23 rfl rfl ⟨_, rfl⟩ ?_
        refine wp_cVI (μ' := mX6_bearing) (pc' := 27) (o := 0) dX6_apart_24 rfl mlX6_169 cfX6_bearing ⟨(Nat.le_of_ble_eq_true rfl), (Nat.le_of_ble_eq_true rfl)⟩ (sp_bearing) (by decide) rfl rfl rfl rfl rfl (Nat.le_of_ble_eq_true rfl) ?_
        refine wp_iconst (pc' := 28) 1 dX6_apart_27 rfl (by decide) ?_
        refine wp_iload_n (pc' := 29) dX6_apart_28 rfl rfl ?_
        refine wp_ishl (pc' := 30) dX6_apart_29 rfl ?_
        refine wp_iconst (pc' := 31) (-1) dX6_apart_30 rfl (by decide) ?_
        refine wp_ixor (pc' := 32) dX6_apart_31 rfl ?_
        refine wp_iand (pc' := 33) dX6_apart_32 rfl ?_
        refine wp_iconst (pc' := 34) 1 dX6_apart_33 rfl (by decide) ?_
        refine wp_iload_n (pc' := 35) dX6_apart_34 rfl rfl ?_
        refine wp_ishl (pc' := 36) dX6_apart_35 rfl ?_
        refine wp_iconst (pc' := 37) (-1) dX6_apart_36 rfl (by decide) ?_
        refine wp_ixor (pc' := 38) dX6_apart_37 rfl ?_
        refine wp_iand (pc' := 39) dX6_apart_38 rfl ?_
        refine wp_ist3 (pc' := 40) dX6_apart_39 rfl (by decide) rfl ?_
        refine wp_iload_n (pc' := 41) dX6_apart_40 rfl rfl ?_
        refine wp_cSI (μ' := mJ6_bitCount_0f7a4) (pc' := 44) dX6_apart_41 rfl mlX6_161 cfJ6_bitCount_0f7a4 ⟨(Nat.le_of_ble_eq_true rfl), (Nat.le_of_ble_eq_true rfl)⟩ (sp_bitCount) rfl rfl (Nat.le_of_ble_eq_true rfl) ?_
        refine wp_bipush (pc' := 46) 12 dX6_apart_44 rfl (by decide) ?_
        refine wp_icmp_le (pc' := 49) 52 dX6_apart_46 rfl (by decide) (fun h46 => ?_) (fun h46 => ?_)
        · refine wp_aload_n (pc' := 53) dX6_apart_52 rfl rfl ⟨_, rfl⟩ ?_
          refine wp_cVI (μ' := mX6_bearing) (pc' := 56) (o := 0) dX6_apart_53 rfl mlX6_169 cfX6_bearing ⟨(Nat.le_of_ble_eq_true rfl), (Nat.le_of_ble_eq_true rfl)⟩ (sp_bearing) (by decide) rfl rfl rfl rfl rfl (Nat.le_of_ble_eq_true rfl) ?_
          refine wp_iload_n (pc' := 57) dX6_apart_56 rfl rfl ?_
          refine wp_cSI (μ' := mX6_has) (pc' := 60) dX6_apart_57 rfl mlX6_141 cfX6_has ⟨(Nat.le_of_ble_eq_true rfl), (Nat.le_of_ble_eq_true rfl)⟩ (sp_has) rfl rfl (Nat.le_of_ble_eq_true rfl) ?_
          refine wp_if_eq (pc' := 63) 91 dX6_apart_60 rfl (by decide) (fun h60 => ?_) (fun h60 => ?_)
          · refine wp_bipush (pc' := 93) (-9) dX6_apart_91 rfl (by decide) ?_
            refine wp_ireti dX6_apart_93 rfl ?_
            exact ri_ok rfl rfl
          · refine wp_aload_n (pc' := 64) dX6_apart_63 rfl rfl ⟨_, rfl⟩ ?_
            refine wp_cVI (μ' := mX6_bearing) (pc' := 67) (o := 0) dX6_apart_64 rfl mlX6_169 cfX6_bearing ⟨(Nat.le_of_ble_eq_true rfl), (Nat.le_of_ble_eq_true rfl)⟩ (sp_bearing) (by decide) rfl rfl rfl rfl rfl (Nat.le_of_ble_eq_true rfl) ?_
            refine wp_iload_n (pc' := 68) dX6_apart_67 rfl rfl ?_
            refine wp_cSI (μ' := mX6_has) (pc' := 71) dX6_apart_68 rfl mlX6_141 cfX6_has ⟨(Nat.le_of_ble_eq_true rfl), (Nat.le_of_ble_eq_true rfl)⟩ (sp_has) rfl rfl (Nat.le_of_ble_eq_true rfl) ?_
            refine wp_if_eq (pc' := 74) 91 dX6_apart_71 rfl (by decide) (fun h71 => ?_) (fun h71 => ?_)
            · refine wp_bipush (pc' := 93) (-9) dX6_apart_91 rfl (by decide) ?_
              refine wp_ireti dX6_apart_93 rfl ?_
              exact ri_ok rfl rfl
            · refine wp_aload_n (pc' := 75) dX6_apart_74 rfl rfl ⟨_, rfl⟩ ?_
              refine wp_get (pc' := 78) (o := 0) dX6_apart_75 rfl flX6_42 (by decide) rfl rfl ?_
              refine wp_iconst (pc' := 79) 1 dX6_apart_78 rfl (by decide) ?_
              refine wp_iload_n (pc' := 80) dX6_apart_79 rfl rfl ?_
              refine wp_ishl (pc' := 81) dX6_apart_80 rfl ?_
              refine wp_cVI (μ' := mX5_near) (pc' := 84) (o := 11) dX6_apart_81 rfl mlX6_189 cfX5_near ⟨(Nat.le_of_ble_eq_true rfl), (Nat.le_of_ble_eq_true rfl)⟩ (sp_near) (by decide) rfl rfl rfl rfl rfl (Nat.le_of_ble_eq_true rfl) ?_
              refine wp_iload_n (pc' := 85) dX6_apart_84 rfl rfl ?_
              refine wp_cSI (μ' := mX6_has) (pc' := 88) dX6_apart_85 rfl mlX6_141 cfX6_has ⟨(Nat.le_of_ble_eq_true rfl), (Nat.le_of_ble_eq_true rfl)⟩ (sp_has) rfl rfl (Nat.le_of_ble_eq_true rfl) ?_
              refine wp_if_eq (pc' := 91) 94 dX6_apart_88 rfl (by decide) (fun h88 => ?_) (fun h88 => ?_)
              · exact (hn.elim h60 (fun h => h.elim h71 (fun h => h h88))).elim
              · refine wp_bipush (pc' := 93) (-9) dX6_apart_91 rfl (by decide) ?_
                refine wp_ireti dX6_apart_93 rfl ?_
                exact ri_ok rfl rfl
        · exact absurd hb h46
      · exact absurd (Or.inr (Or.inr h18)) h
theorem sp_apart {g : GG} {M : Mem} {a b : Int32} {s : Nat} (hs : s < 2 ^ 31) (he : shl 1 (pcF (othersF M a b)) = nI s) (h : ¬ (isCellF M a = 0 ∨ isCellF M b = 0 ∨ a = b)) (hb : pcF (othersF M a b) ≤ 12) (hn : ¬ noApart M a b) : RI g mX6_apart [ob g 0, .int a, .int b] M (faF (nearM M) a b (othersF M a b) (shl 1 a ||| shl 1 b) s 0 (pcF (nearM M (shl 1 a) &&& othersF M a b))) M := by
  refine spec_of_wp (ls := [some (ob g 0), some (.int a), some (.int b), none]) rfl (Nat.le_of_ble_eq_true rfl) 1 rfl ?_
  refine wp_aload_n (pc' := 1) dX6_apart_0 rfl rfl ⟨_, rfl⟩ ?_
  refine wp_iload_n (pc' := 2) dX6_apart_1 rfl rfl ?_
  refine wp_cVI (μ' := mX6_isCell) (pc' := 5) (o := 0) dX6_apart_2 rfl mlX6_101 cfX6_isCell ⟨(Nat.le_of_ble_eq_true rfl), (Nat.le_of_ble_eq_true rfl)⟩ (sp_isCell) (by decide) rfl rfl rfl rfl rfl (Nat.le_of_ble_eq_true rfl) ?_
  refine wp_if_eq (pc' := 8) 21 dX6_apart_5 rfl (by decide) (fun h5 => ?_) (fun h5 => ?_)
  · exact absurd (Or.inl h5) h
  · refine wp_aload_n (pc' := 9) dX6_apart_8 rfl rfl ⟨_, rfl⟩ ?_
    refine wp_iload_n (pc' := 10) dX6_apart_9 rfl rfl ?_
    refine wp_cVI (μ' := mX6_isCell) (pc' := 13) (o := 0) dX6_apart_10 rfl mlX6_101 cfX6_isCell ⟨(Nat.le_of_ble_eq_true rfl), (Nat.le_of_ble_eq_true rfl)⟩ (sp_isCell) (by decide) rfl rfl rfl rfl rfl (Nat.le_of_ble_eq_true rfl) ?_
    refine wp_if_eq (pc' := 16) 21 dX6_apart_13 rfl (by decide) (fun h13 => ?_) (fun h13 => ?_)
    · exact absurd (Or.inr (Or.inl h13)) h
    · refine wp_iload_n (pc' := 17) dX6_apart_16 rfl rfl ?_
      refine wp_iload_n (pc' := 18) dX6_apart_17 rfl rfl ?_
      refine wp_icmp_ne (pc' := 21) 23 dX6_apart_18 rfl (by decide) (fun h18 => ?_) (fun h18 => ?_)
      · refine wp_aload_n (pc' := 24) dX6_apart_23 rfl rfl ⟨_, rfl⟩ ?_
        refine wp_cVI (μ' := mX6_bearing) (pc' := 27) (o := 0) dX6_apart_24 rfl mlX6_169 cfX6_bearing ⟨(Nat.le_of_ble_eq_true rfl), (Nat.le_of_ble_eq_true rfl)⟩ (sp_bearing) (by decide) rfl rfl rfl rfl rfl (Nat.le_of_ble_eq_true rfl) ?_
        refine wp_iconst (pc' := 28) 1 dX6_apart_27 rfl (by decide) ?_
        refine wp_iload_n (pc' := 29) dX6_apart_28 rfl rfl ?_
        refine wp_ishl (pc' := 30) dX6_apart_29 rfl ?_
        refine wp_iconst (pc' := 31) (-1) dX6_apart_30 rfl (by decide) ?_
        refine wp_ixor (pc' := 32) dX6_apart_31 rfl ?_
        refine wp_iand (pc' := 33) dX6_apart_32 rfl ?_
        refine wp_iconst (pc' := 34) 1 dX6_apart_33 rfl (by decide) ?_
        refine wp_iload_n (pc' := 35) dX6_apart_34 rfl rfl ?_
        refine wp_ishl (pc' := 36) dX6_apart_35 rfl ?_
        refine wp_iconst (pc' := 37) (-1) dX6_apart_36 rfl (by decide) ?_
        refine wp_ixor (pc' := 38) dX6_apart_37 rfl ?_
        refine wp_iand (pc' := 39) dX6_apart_38 rfl ?_
        refine wp_ist3 (pc' := 40) dX6_apart_39 rfl (by decide) rfl ?_
        refine wp_iload_n (pc' := 41) dX6_apart_40 rfl rfl ?_
        refine wp_cSI (μ' := mJ6_bitCount_0f7a4) (pc' := 44) dX6_apart_41 rfl mlX6_161 cfJ6_bitCount_0f7a4 ⟨(Nat.le_of_ble_eq_true rfl), (Nat.le_of_ble_eq_true rfl)⟩ (sp_bitCount) rfl rfl (Nat.le_of_ble_eq_true rfl) ?_
        refine wp_bipush (pc' := 46) 12 dX6_apart_44 rfl (by decide) ?_
        refine wp_icmp_le (pc' := 49) 52 dX6_apart_46 rfl (by decide) (fun h46 => ?_) (fun h46 => ?_)
        · refine wp_aload_n (pc' := 53) dX6_apart_52 rfl rfl ⟨_, rfl⟩ ?_
          refine wp_cVI (μ' := mX6_bearing) (pc' := 56) (o := 0) dX6_apart_53 rfl mlX6_169 cfX6_bearing ⟨(Nat.le_of_ble_eq_true rfl), (Nat.le_of_ble_eq_true rfl)⟩ (sp_bearing) (by decide) rfl rfl rfl rfl rfl (Nat.le_of_ble_eq_true rfl) ?_
          refine wp_iload_n (pc' := 57) dX6_apart_56 rfl rfl ?_
          refine wp_cSI (μ' := mX6_has) (pc' := 60) dX6_apart_57 rfl mlX6_141 cfX6_has ⟨(Nat.le_of_ble_eq_true rfl), (Nat.le_of_ble_eq_true rfl)⟩ (sp_has) rfl rfl (Nat.le_of_ble_eq_true rfl) ?_
          refine wp_if_eq (pc' := 63) 91 dX6_apart_60 rfl (by decide) (fun h60 => ?_) (fun h60 => ?_)
          · exact absurd (Or.inl h60) hn
          · refine wp_aload_n (pc' := 64) dX6_apart_63 rfl rfl ⟨_, rfl⟩ ?_
            refine wp_cVI (μ' := mX6_bearing) (pc' := 67) (o := 0) dX6_apart_64 rfl mlX6_169 cfX6_bearing ⟨(Nat.le_of_ble_eq_true rfl), (Nat.le_of_ble_eq_true rfl)⟩ (sp_bearing) (by decide) rfl rfl rfl rfl rfl (Nat.le_of_ble_eq_true rfl) ?_
            refine wp_iload_n (pc' := 68) dX6_apart_67 rfl rfl ?_
            refine wp_cSI (μ' := mX6_has) (pc' := 71) dX6_apart_68 rfl mlX6_141 cfX6_has ⟨(Nat.le_of_ble_eq_true rfl), (Nat.le_of_ble_eq_true rfl)⟩ (sp_has) rfl rfl (Nat.le_of_ble_eq_true rfl) ?_
            refine wp_if_eq (pc' := 74) 91 dX6_apart_71 rfl (by decide) (fun h71 => ?_) (fun h71 => ?_)
            · exact absurd (Or.inr (Or.inl h71)) hn
            · refine wp_aload_n (pc' := 75) dX6_apart_74 rfl rfl ⟨_, rfl⟩ ?_
              refine wp_get (pc' := 78) (o := 0) dX6_apart_75 rfl flX6_42 (by decide) rfl rfl ?_
              refine wp_iconst (pc' := 79) 1 dX6_apart_78 rfl (by decide) ?_
              refine wp_iload_n (pc' := 80) dX6_apart_79 rfl rfl ?_
              refine wp_ishl (pc' := 81) dX6_apart_80 rfl ?_
              refine wp_cVI (μ' := mX5_near) (pc' := 84) (o := 11) dX6_apart_81 rfl mlX6_189 cfX5_near ⟨(Nat.le_of_ble_eq_true rfl), (Nat.le_of_ble_eq_true rfl)⟩ (sp_near) (by decide) rfl rfl rfl rfl rfl (Nat.le_of_ble_eq_true rfl) ?_
              refine wp_iload_n (pc' := 85) dX6_apart_84 rfl rfl ?_
              refine wp_cSI (μ' := mX6_has) (pc' := 88) dX6_apart_85 rfl mlX6_141 cfX6_has ⟨(Nat.le_of_ble_eq_true rfl), (Nat.le_of_ble_eq_true rfl)⟩ (sp_has) rfl rfl (Nat.le_of_ble_eq_true rfl) ?_
              refine wp_if_eq (pc' := 91) 94 dX6_apart_88 rfl (by decide) (fun h88 => ?_) (fun h88 => ?_)
              · refine wp_aload_n (pc' := 95) dX6_apart_94 rfl rfl ⟨_, rfl⟩ ?_
                refine wp_get (pc' := 98) (o := 0) dX6_apart_95 rfl flX6_34 (by decide) rfl rfl ?_
                refine wp_iload_n (pc' := 99) dX6_apart_98 rfl rfl ?_
                refine wp_iload_n (pc' := 100) dX6_apart_99 rfl rfl ?_
                refine wp_iload_n (pc' := 101) dX6_apart_100 rfl rfl ?_
                refine wp_cVI (μ' := mX1_fewestApart) (pc' := 104) (o := 10) dX6_apart_101 rfl mlX6_192 cfX1_fewestApart ⟨(Nat.le_of_ble_eq_true rfl), (Nat.le_of_ble_eq_true rfl)⟩ (sp_fewestApart hs he) (by decide) rfl rfl rfl rfl rfl (Nat.le_of_ble_eq_true rfl) ?_
                refine wp_ireti dX6_apart_104 rfl ?_
                exact ri_ok rfl rfl
              · exact absurd (Or.inr (Or.inr h88)) hn
        · exact absurd hb h46
      · exact absurd (Or.inr (Or.inr h18)) h
def stM (M : Mem) (k : Int32) : Int32 := fsF (nearM M) (atF 4 (M.1 5) k) (atF 4 (M.1 6) k) (bearM M)
def rwV (M : Mem) (k : Int32) : Int32 := maxF (stM M k) 0
def trc (M : Mem) (x : Int64) : Mem := upT M 0 (M.2 0 + x)
theorem sp_rateWalker {g : GG} {M : Mem} {k : Int32} : RI g mX6_rateWalker [ob g 0, .int k] M (rwV M k) (trc M 1) := by
  refine spec_of_wp (ls := [some (ob g 0), some (.int k)]) rfl (Nat.le_of_ble_eq_true rfl) 0 rfl ?_
  refine wp_aload_n (pc' := 1) dX6_rateWalker_0 rfl rfl ⟨_, rfl⟩ ?_
  refine wp_dup (pc' := 2) dX6_rateWalker_1 rfl rfl ?_
  refine wp_get (pc' := 5) (o := 0) dX6_rateWalker_2 rfl flX6_56 (by decide) rfl rfl ?_
  refine wp_lconst (pc' := 6) 1 dX6_rateWalker_5 rfl (by decide) ?_
  refine wp_ladd (pc' := 7) dX6_rateWalker_6 rfl ?_
  refine wp_putl (pc' := 10) (o := 0) dX6_rateWalker_7 rfl fpX6_56 (by decide) rfl (Nat.le_of_ble_eq_true rfl) rfl ?_
  refine wp_aload_n (pc' := 11) dX6_rateWalker_10 rfl rfl ⟨_, rfl⟩ ?_
  refine wp_iload_n (pc' := 12) dX6_rateWalker_11 rfl rfl ?_
  refine wp_cVI (μ' := mX6_stepsOf) (pc' := 15) (o := 0) dX6_rateWalker_12 rfl mlX6_135 cfX6_stepsOf ⟨(Nat.le_of_ble_eq_true rfl), (Nat.le_of_ble_eq_true rfl)⟩ (sp_stepsOf) (by decide) rfl rfl rfl rfl rfl (Nat.le_of_ble_eq_true rfl) ?_
  refine wp_iconst (pc' := 16) 0 dX6_rateWalker_15 rfl (by decide) ?_
  refine wp_mmax (pc' := 19) dX6_rateWalker_16 rfl mlX6_237 (Nat.le_of_ble_eq_true rfl) (Nat.le_of_ble_eq_true rfl) ?_
  refine wp_ireti dX6_rateWalker_19 rfl ?_
  exact ri_ok rfl rfl
theorem sp_ratePilgrim {g : GG} {M : Mem} {k : Int32} : RI g mX6_ratePilgrim [ob g 0, .int k] M (rwV M k + atF 4 (M.1 16) k) (trc (trc M 10) 1) := by
  refine spec_of_wp (ls := [some (ob g 0), some (.int k)]) rfl (Nat.le_of_ble_eq_true rfl) 0 rfl ?_
  refine wp_aload_n (pc' := 1) dX6_ratePilgrim_0 rfl rfl ⟨_, rfl⟩ ?_
  refine wp_dup (pc' := 2) dX6_ratePilgrim_1 rfl rfl ?_
  refine wp_get (pc' := 5) (o := 0) dX6_ratePilgrim_2 rfl flX6_56 (by decide) rfl rfl ?_
  refine wp_ldc2 (pc' := 8) (10) dX6_ratePilgrim_5 rfl (wR28 _ (List.mem_of_getElem? (i := 4) rfl)) ?_
  refine wp_ladd (pc' := 9) dX6_ratePilgrim_8 rfl ?_
  refine wp_putl (pc' := 12) (o := 0) dX6_ratePilgrim_9 rfl fpX6_56 (by decide) rfl (Nat.le_of_ble_eq_true rfl) rfl ?_
  refine wp_aload_n (pc' := 13) dX6_ratePilgrim_12 rfl rfl ⟨_, rfl⟩ ?_
  refine wp_iload_n (pc' := 14) dX6_ratePilgrim_13 rfl rfl ?_
  refine wp_cVI (μ' := mX6_rateWalker) (pc' := 17) (o := 0) dX6_ratePilgrim_14 rfl mlX6_196 cfX6_rateWalker ⟨(Nat.le_of_ble_eq_true rfl), (Nat.le_of_ble_eq_true rfl)⟩ (sp_rateWalker) (by decide) rfl rfl rfl rfl rfl (Nat.le_of_ble_eq_true rfl) ?_
  refine wp_aload_n (pc' := 18) dX6_ratePilgrim_17 rfl rfl ⟨_, rfl⟩ ?_
  refine wp_get (pc' := 21) (o := 0) dX6_ratePilgrim_18 rfl flX6_46 (by decide) rfl rfl ?_
  refine wp_get (pc' := 24) (o := 13) dX6_ratePilgrim_21 rfl flX6_129 (by decide) rfl rfl ?_
  refine wp_iload_n (pc' := 25) dX6_ratePilgrim_24 rfl rfl ?_
  refine wp_cSI (μ' := mX6_at) (pc' := 28) dX6_ratePilgrim_25 rfl mlX6_113 cfX6_at ⟨(Nat.le_of_ble_eq_true rfl), (Nat.le_of_ble_eq_true rfl)⟩ (sp_at arr16) rfl rfl (Nat.le_of_ble_eq_true rfl) ?_
  refine wp_iadd (pc' := 29) dX6_ratePilgrim_28 rfl ?_
  refine wp_ireti dX6_ratePilgrim_29 rfl ?_
  exact ri_ok rfl rfl
theorem lbF_congr {M M' : Mem} (h : M.1 = M'.1) (k : Int32) : ∀ (n j : Nat) (t : Int32), lbF M k n j t = lbF M' k n j t := by
  intro n
  induction n with
  | zero => intro j t; rfl
  | succ n ih => intro j t; rw [lbF, lbF, h, ih, ih]
theorem sp_rateShepherd {g : GG} {M : Mem} {k : Int32} : RI g mX6_rateShepherd [ob g 0, .int k] M (rwV M k - lbF M k 24 0 0) (trc (trc M 100) 1) := by
  refine spec_of_wp (ls := [some (ob g 0), some (.int k)]) rfl (Nat.le_of_ble_eq_true rfl) 0 rfl ?_
  refine wp_aload_n (pc' := 1) dX6_rateShepherd_0 rfl rfl ⟨_, rfl⟩ ?_
  refine wp_dup (pc' := 2) dX6_rateShepherd_1 rfl rfl ?_
  refine wp_get (pc' := 5) (o := 0) dX6_rateShepherd_2 rfl flX6_56 (by decide) rfl rfl ?_
  refine wp_ldc2 (pc' := 8) (100) dX6_rateShepherd_5 rfl (wR28 _ (List.mem_of_getElem? (i := 9) rfl)) ?_
  refine wp_ladd (pc' := 9) dX6_rateShepherd_8 rfl ?_
  refine wp_putl (pc' := 12) (o := 0) dX6_rateShepherd_9 rfl fpX6_56 (by decide) rfl (Nat.le_of_ble_eq_true rfl) rfl ?_
  refine wp_aload_n (pc' := 13) dX6_rateShepherd_12 rfl rfl ⟨_, rfl⟩ ?_
  refine wp_iload_n (pc' := 14) dX6_rateShepherd_13 rfl rfl ?_
  refine wp_cVI (μ' := mX6_rateWalker) (pc' := 17) (o := 0) dX6_rateShepherd_14 rfl mlX6_196 cfX6_rateWalker ⟨(Nat.le_of_ble_eq_true rfl), (Nat.le_of_ble_eq_true rfl)⟩ (sp_rateWalker) (by decide) rfl rfl rfl rfl rfl (Nat.le_of_ble_eq_true rfl) ?_
  refine wp_aload_n (pc' := 18) dX6_rateShepherd_17 rfl rfl ⟨_, rfl⟩ ?_
  refine wp_get (pc' := 21) (o := 0) dX6_rateShepherd_18 rfl flX6_46 (by decide) rfl rfl ?_
  refine wp_iload_n (pc' := 22) dX6_rateShepherd_21 rfl rfl ?_
  refine wp_cVI (μ' := mX0_laidBy) (pc' := 25) (o := 13) dX6_rateShepherd_22 rfl mlX6_132 cfX0_laidBy ⟨(Nat.le_of_ble_eq_true rfl), (Nat.le_of_ble_eq_true rfl)⟩ (sp_laidBy) (by decide) rfl rfl rfl rfl rfl (Nat.le_of_ble_eq_true rfl) ?_
  refine wp_isub (pc' := 26) dX6_rateShepherd_25 rfl ?_
  refine wp_ireti dX6_rateShepherd_26 rfl ?_
  exact ri_ok (by rw [lbF_congr (M' := M) rfl]; rfl) rfl
theorem sp_rateMonk {g : GG} {M : Mem} {k : Int32} : RI g mX6_rateMonk [ob g 0, .int k] M (2 * (rwV M k + atF 4 (M.1 16) k)) (trc (trc (trc M 1000) 10) 1) := by
  refine spec_of_wp (ls := [some (ob g 0), some (.int k)]) rfl (Nat.le_of_ble_eq_true rfl) 0 rfl ?_
  refine wp_aload_n (pc' := 1) dX6_rateMonk_0 rfl rfl ⟨_, rfl⟩ ?_
  refine wp_dup (pc' := 2) dX6_rateMonk_1 rfl rfl ?_
  refine wp_get (pc' := 5) (o := 0) dX6_rateMonk_2 rfl flX6_56 (by decide) rfl rfl ?_
  refine wp_ldc2 (pc' := 8) (1000) dX6_rateMonk_5 rfl (wR28 _ (List.mem_of_getElem? (i := 14) rfl)) ?_
  refine wp_ladd (pc' := 9) dX6_rateMonk_8 rfl ?_
  refine wp_putl (pc' := 12) (o := 0) dX6_rateMonk_9 rfl fpX6_56 (by decide) rfl (Nat.le_of_ble_eq_true rfl) rfl ?_
  refine wp_iconst (pc' := 13) 2 dX6_rateMonk_12 rfl (by decide) ?_
  refine wp_aload_n (pc' := 14) dX6_rateMonk_13 rfl rfl ⟨_, rfl⟩ ?_
  refine wp_iload_n (pc' := 15) dX6_rateMonk_14 rfl rfl ?_
  refine wp_cVI (μ' := mX6_ratePilgrim) (pc' := 18) (o := 0) dX6_rateMonk_15 rfl mlX6_199 cfX6_ratePilgrim ⟨(Nat.le_of_ble_eq_true rfl), (Nat.le_of_ble_eq_true rfl)⟩ (sp_ratePilgrim) (by decide) rfl rfl rfl rfl rfl (Nat.le_of_ble_eq_true rfl) ?_
  refine wp_imul (pc' := 19) dX6_rateMonk_18 rfl ?_
  refine wp_ireti dX6_rateMonk_19 rfl ?_
  exact ri_ok rfl rfl
theorem sp_rateThief {g : GG} {M : Mem} {k : Int32} : RI g mX6_rateThief [ob g 0, .int k] M ((rwV M k - lbF M k 24 0 0) + k) (trc (trc (trc M 10000) 100) 1) := by
  refine spec_of_wp (ls := [some (ob g 0), some (.int k)]) rfl (Nat.le_of_ble_eq_true rfl) 0 rfl ?_
  refine wp_aload_n (pc' := 1) dX6_rateThief_0 rfl rfl ⟨_, rfl⟩ ?_
  refine wp_dup (pc' := 2) dX6_rateThief_1 rfl rfl ?_
  refine wp_get (pc' := 5) (o := 0) dX6_rateThief_2 rfl flX6_56 (by decide) rfl rfl ?_
  refine wp_ldc2 (pc' := 8) (10000) dX6_rateThief_5 rfl (wR28 _ (List.mem_of_getElem? (i := 19) rfl)) ?_
  refine wp_ladd (pc' := 9) dX6_rateThief_8 rfl ?_
  refine wp_putl (pc' := 12) (o := 0) dX6_rateThief_9 rfl fpX6_56 (by decide) rfl (Nat.le_of_ble_eq_true rfl) rfl ?_
  refine wp_aload_n (pc' := 13) dX6_rateThief_12 rfl rfl ⟨_, rfl⟩ ?_
  refine wp_iload_n (pc' := 14) dX6_rateThief_13 rfl rfl ?_
  refine wp_cVI (μ' := mX6_rateShepherd) (pc' := 17) (o := 0) dX6_rateThief_14 rfl mlX6_202 cfX6_rateShepherd ⟨(Nat.le_of_ble_eq_true rfl), (Nat.le_of_ble_eq_true rfl)⟩ (sp_rateShepherd) (by decide) rfl rfl rfl rfl rfl (Nat.le_of_ble_eq_true rfl) ?_
  refine wp_iload_n (pc' := 18) dX6_rateThief_17 rfl rfl ?_
  refine wp_iadd (pc' := 19) dX6_rateThief_18 rfl ?_
  refine wp_ireti dX6_rateThief_19 rfl ?_
  exact ri_ok (by rw [lbF_congr (M' := M) rfl]; rfl) rfl
theorem sp_rateChild {g : GG} {M : Mem} {k : Int32} : RI g mX6_rateChild [ob g 0, .int k] M (rwV M k + stonesF (nearM M) (atF 4 (M.1 5) k) (atF 4 (M.1 6) k) (bearM M)) (trc (trc M 100000) 1) := by
  refine spec_of_wp (ls := [some (ob g 0), some (.int k)]) rfl (Nat.le_of_ble_eq_true rfl) 0 rfl ?_
  refine wp_aload_n (pc' := 1) dX6_rateChild_0 rfl rfl ⟨_, rfl⟩ ?_
  refine wp_dup (pc' := 2) dX6_rateChild_1 rfl rfl ?_
  refine wp_get (pc' := 5) (o := 0) dX6_rateChild_2 rfl flX6_56 (by decide) rfl rfl ?_
  refine wp_ldc2 (pc' := 8) (100000) dX6_rateChild_5 rfl (wR29 _ (List.mem_of_getElem? (i := 0) rfl)) ?_
  refine wp_ladd (pc' := 9) dX6_rateChild_8 rfl ?_
  refine wp_putl (pc' := 12) (o := 0) dX6_rateChild_9 rfl fpX6_56 (by decide) rfl (Nat.le_of_ble_eq_true rfl) rfl ?_
  refine wp_aload_n (pc' := 13) dX6_rateChild_12 rfl rfl ⟨_, rfl⟩ ?_
  refine wp_iload_n (pc' := 14) dX6_rateChild_13 rfl rfl ?_
  refine wp_cVI (μ' := mX6_rateWalker) (pc' := 17) (o := 0) dX6_rateChild_14 rfl mlX6_196 cfX6_rateWalker ⟨(Nat.le_of_ble_eq_true rfl), (Nat.le_of_ble_eq_true rfl)⟩ (sp_rateWalker) (by decide) rfl rfl rfl rfl rfl (Nat.le_of_ble_eq_true rfl) ?_
  refine wp_aload_n (pc' := 18) dX6_rateChild_17 rfl rfl ⟨_, rfl⟩ ?_
  refine wp_get (pc' := 21) (o := 0) dX6_rateChild_18 rfl flX6_42 (by decide) rfl rfl ?_
  refine wp_aload_n (pc' := 22) dX6_rateChild_21 rfl rfl ⟨_, rfl⟩ ?_
  refine wp_get (pc' := 25) (o := 0) dX6_rateChild_22 rfl flX6_24 (by decide) rfl rfl ?_
  refine wp_get (pc' := 28) (o := 4) dX6_rateChild_25 rfl flX6_123 (by decide) rfl rfl ?_
  refine wp_iload_n (pc' := 29) dX6_rateChild_28 rfl rfl ?_
  refine wp_cSI (μ' := mX6_at) (pc' := 32) dX6_rateChild_29 rfl mlX6_113 cfX6_at ⟨(Nat.le_of_ble_eq_true rfl), (Nat.le_of_ble_eq_true rfl)⟩ (sp_at arr5) rfl rfl (Nat.le_of_ble_eq_true rfl) ?_
  refine wp_aload_n (pc' := 33) dX6_rateChild_32 rfl rfl ⟨_, rfl⟩ ?_
  refine wp_get (pc' := 36) (o := 0) dX6_rateChild_33 rfl flX6_24 (by decide) rfl rfl ?_
  refine wp_get (pc' := 39) (o := 4) dX6_rateChild_36 rfl flX6_126 (by decide) rfl rfl ?_
  refine wp_iload_n (pc' := 40) dX6_rateChild_39 rfl rfl ?_
  refine wp_cSI (μ' := mX6_at) (pc' := 43) dX6_rateChild_40 rfl mlX6_113 cfX6_at ⟨(Nat.le_of_ble_eq_true rfl), (Nat.le_of_ble_eq_true rfl)⟩ (sp_at arr6) rfl rfl (Nat.le_of_ble_eq_true rfl) ?_
  refine wp_aload_n (pc' := 44) dX6_rateChild_43 rfl rfl ⟨_, rfl⟩ ?_
  refine wp_cVI (μ' := mX6_bearing) (pc' := 47) (o := 0) dX6_rateChild_44 rfl mlX6_169 cfX6_bearing ⟨(Nat.le_of_ble_eq_true rfl), (Nat.le_of_ble_eq_true rfl)⟩ (sp_bearing) (by decide) rfl rfl rfl rfl rfl (Nat.le_of_ble_eq_true rfl) ?_
  refine wp_cVI (μ' := mX5_fewestStones) (pc' := 50) (o := 11) dX6_rateChild_47 rfl mlX6_179 cfX5_fewestStones ⟨(Nat.le_of_ble_eq_true rfl), (Nat.le_of_ble_eq_true rfl)⟩ (sp_fewestStones) (by decide) rfl rfl rfl rfl rfl (Nat.le_of_ble_eq_true rfl) ?_
  refine wp_iadd (pc' := 51) dX6_rateChild_50 rfl ?_
  refine wp_ireti dX6_rateChild_51 rfl ?_
  exact ri_ok rfl rfl
def rateV (M : Mem) (kind k : Int32) : Int32 := if isWalkerF M k = 0 then -1000000 else if kind = 0 then rwV M k else if kind = 1 then rwV M k + atF 4 (M.1 16) k else if kind = 2 then rwV M k - lbF M k 24 0 0 else if kind = 3 then 2 * (rwV M k + atF 4 (M.1 16) k) else if kind = 4 then (rwV M k - lbF M k 24 0 0) + k else if kind = 5 then rwV M k + stonesF (nearM M) (atF 4 (M.1 5) k) (atF 4 (M.1 6) k) (bearM M) else -1000000
def rateM (M : Mem) (kind k : Int32) : Mem := if isWalkerF M k = 0 then M else if kind = 0 then trc M 1 else if kind = 1 then trc (trc M 10) 1 else if kind = 2 then trc (trc M 100) 1 else if kind = 3 then trc (trc (trc M 1000) 10) 1 else if kind = 4 then trc (trc (trc M 10000) 100) 1 else if kind = 5 then trc (trc M 100000) 1 else M
theorem sp_rate {g : GG} {M : Mem} {kind k : Int32} : RI g mX6_rate [ob g 0, .int kind, .int k] M (rateV M kind k) (rateM M kind k) := by
  refine spec_of_wp (ls := [some (ob g 0), some (.int kind), some (.int k)]) rfl (Nat.le_of_ble_eq_true rfl) 0 rfl ?_
  refine wp_aload_n (pc' := 1) dX6_rate_0 rfl rfl ⟨_, rfl⟩ ?_
  refine wp_iload_n (pc' := 2) dX6_rate_1 rfl rfl ?_
  refine wp_cVI (μ' := mX6_isWalker) (pc' := 5) (o := 0) dX6_rate_2 rfl mlX6_120 cfX6_isWalker ⟨(Nat.le_of_ble_eq_true rfl), (Nat.le_of_ble_eq_true rfl)⟩ (sp_isWalker) (by decide) rfl rfl rfl rfl rfl (Nat.le_of_ble_eq_true rfl) ?_
  refine wp_if_ne (pc' := 8) 11 dX6_rate_5 rfl (by decide) (fun h5 => ?_) (fun h5 => ?_)
  · refine wp_iload_n (pc' := 12) dX6_rate_11 rfl rfl ?_
    rcases tsw_6 kind with rfl | rfl | rfl | rfl | rfl | rfl | h12
    · refine wp_tin (off := 40) 52 dX6_rate_12 (by decide) (by decide) (by decide) (by decide) ?_
      refine wp_aload_n (pc' := 53) dX6_rate_52 rfl rfl ⟨_, rfl⟩ ?_
      refine wp_iload_n (pc' := 54) dX6_rate_53 rfl rfl ?_
      refine wp_cVI (μ' := mX6_rateWalker) (pc' := 57) (o := 0) dX6_rate_54 rfl mlX6_196 cfX6_rateWalker ⟨(Nat.le_of_ble_eq_true rfl), (Nat.le_of_ble_eq_true rfl)⟩ (sp_rateWalker) (by decide) rfl rfl rfl rfl rfl (Nat.le_of_ble_eq_true rfl) ?_
      refine wp_ireti dX6_rate_57 rfl ?_
      exact ri_ok (by rw [rateV, if_neg h5, if_pos rfl]) (by rw [rateM, if_neg h5, if_pos rfl])
    · refine wp_tin (off := 46) 58 dX6_rate_12 (by decide) (by decide) (by decide) (by decide) ?_
      refine wp_aload_n (pc' := 59) dX6_rate_58 rfl rfl ⟨_, rfl⟩ ?_
      refine wp_iload_n (pc' := 60) dX6_rate_59 rfl rfl ?_
      refine wp_cVI (μ' := mX6_ratePilgrim) (pc' := 63) (o := 0) dX6_rate_60 rfl mlX6_199 cfX6_ratePilgrim ⟨(Nat.le_of_ble_eq_true rfl), (Nat.le_of_ble_eq_true rfl)⟩ (sp_ratePilgrim) (by decide) rfl rfl rfl rfl rfl (Nat.le_of_ble_eq_true rfl) ?_
      refine wp_ireti dX6_rate_63 rfl ?_
      exact ri_ok (by rw [rateV, if_neg h5, if_neg (by decide), if_pos rfl]) (by rw [rateM, if_neg h5, if_neg (by decide), if_pos rfl])
    · refine wp_tin (off := 52) 64 dX6_rate_12 (by decide) (by decide) (by decide) (by decide) ?_
      refine wp_aload_n (pc' := 65) dX6_rate_64 rfl rfl ⟨_, rfl⟩ ?_
      refine wp_iload_n (pc' := 66) dX6_rate_65 rfl rfl ?_
      refine wp_cVI (μ' := mX6_rateShepherd) (pc' := 69) (o := 0) dX6_rate_66 rfl mlX6_202 cfX6_rateShepherd ⟨(Nat.le_of_ble_eq_true rfl), (Nat.le_of_ble_eq_true rfl)⟩ (sp_rateShepherd) (by decide) rfl rfl rfl rfl rfl (Nat.le_of_ble_eq_true rfl) ?_
      refine wp_ireti dX6_rate_69 rfl ?_
      exact ri_ok (by rw [rateV, if_neg h5, if_neg (by decide), if_neg (by decide), if_pos rfl]) (by rw [rateM, if_neg h5, if_neg (by decide), if_neg (by decide), if_pos rfl])
    · refine wp_tin (off := 58) 70 dX6_rate_12 (by decide) (by decide) (by decide) (by decide) ?_
      refine wp_aload_n (pc' := 71) dX6_rate_70 rfl rfl ⟨_, rfl⟩ ?_
      refine wp_iload_n (pc' := 72) dX6_rate_71 rfl rfl ?_
      refine wp_cVI (μ' := mX6_rateMonk) (pc' := 75) (o := 0) dX6_rate_72 rfl mlX6_205 cfX6_rateMonk ⟨(Nat.le_of_ble_eq_true rfl), (Nat.le_of_ble_eq_true rfl)⟩ (sp_rateMonk) (by decide) rfl rfl rfl rfl rfl (Nat.le_of_ble_eq_true rfl) ?_
      refine wp_ireti dX6_rate_75 rfl ?_
      exact ri_ok (by rw [rateV, if_neg h5, if_neg (by decide), if_neg (by decide), if_neg (by decide), if_pos rfl]) (by rw [rateM, if_neg h5, if_neg (by decide), if_neg (by decide), if_neg (by decide), if_pos rfl])
    · refine wp_tin (off := 64) 76 dX6_rate_12 (by decide) (by decide) (by decide) (by decide) ?_
      refine wp_aload_n (pc' := 77) dX6_rate_76 rfl rfl ⟨_, rfl⟩ ?_
      refine wp_iload_n (pc' := 78) dX6_rate_77 rfl rfl ?_
      refine wp_cVI (μ' := mX6_rateThief) (pc' := 81) (o := 0) dX6_rate_78 rfl mlX6_208 cfX6_rateThief ⟨(Nat.le_of_ble_eq_true rfl), (Nat.le_of_ble_eq_true rfl)⟩ (sp_rateThief) (by decide) rfl rfl rfl rfl rfl (Nat.le_of_ble_eq_true rfl) ?_
      refine wp_ireti dX6_rate_81 rfl ?_
      exact ri_ok (by rw [rateV, if_neg h5, if_neg (by decide), if_neg (by decide), if_neg (by decide), if_neg (by decide), if_pos rfl]) (by rw [rateM, if_neg h5, if_neg (by decide), if_neg (by decide), if_neg (by decide), if_neg (by decide), if_pos rfl])
    · refine wp_tin (off := 70) 82 dX6_rate_12 (by decide) (by decide) (by decide) (by decide) ?_
      refine wp_aload_n (pc' := 83) dX6_rate_82 rfl rfl ⟨_, rfl⟩ ?_
      refine wp_iload_n (pc' := 84) dX6_rate_83 rfl rfl ?_
      refine wp_cVI (μ' := mX6_rateChild) (pc' := 87) (o := 0) dX6_rate_84 rfl mlX6_211 cfX6_rateChild ⟨(Nat.le_of_ble_eq_true rfl), (Nat.le_of_ble_eq_true rfl)⟩ (sp_rateChild) (by decide) rfl rfl rfl rfl rfl (Nat.le_of_ble_eq_true rfl) ?_
      refine wp_ireti dX6_rate_87 rfl ?_
      exact ri_ok (by rw [rateV, if_neg h5, if_neg (by decide), if_neg (by decide), if_neg (by decide), if_neg (by decide), if_neg (by decide), if_pos rfl]) (by rw [rateM, if_neg h5, if_neg (by decide), if_neg (by decide), if_neg (by decide), if_neg (by decide), if_neg (by decide), if_pos rfl])
    · refine wp_tout 88 dX6_rate_12 h12 (by decide) ?_
      refine wp_ldc (pc' := 90) (-1000000) dX6_rate_88 rfl (wR27 _ (List.mem_of_getElem? (i := 18) rfl)) ?_
      refine wp_ireti dX6_rate_90 rfl ?_
      exact ri_ok (by rw [rateV, if_neg h5, if_neg (tsw_ne h12 0 (by decide)), if_neg (tsw_ne h12 1 (by decide)), if_neg (tsw_ne h12 2 (by decide)), if_neg (tsw_ne h12 3 (by decide)), if_neg (tsw_ne h12 4 (by decide)), if_neg (tsw_ne h12 5 (by decide))]) (by rw [rateM, if_neg h5, if_neg (tsw_ne h12 0 (by decide)), if_neg (tsw_ne h12 1 (by decide)), if_neg (tsw_ne h12 2 (by decide)), if_neg (tsw_ne h12 3 (by decide)), if_neg (tsw_ne h12 4 (by decide)), if_neg (tsw_ne h12 5 (by decide))])
  · refine wp_ldc (pc' := 10) (-1000000) dX6_rate_8 rfl (wR27 _ (List.mem_of_getElem? (i := 18) rfl)) ?_
    refine wp_ireti dX6_rate_10 rfl ?_
    exact ri_ok (by rw [rateV, if_pos h5]) (by rw [rateM, if_pos h5])
theorem sp_keep0 {g : GG} {M : Mem} : RI g mX6_keep [ob g 0, .int 0] M (pcF (M.1 13 1)) (upI (ncp17_13 M) 17 5 1) := by
  refine spec_of_wp (ls := [some (ob g 0), some (.int 0), none]) rfl (Nat.le_of_ble_eq_true rfl) 1 rfl ?_
  refine wp_iload_n (pc' := 1) dX6_keep_0 rfl rfl ?_
  refine wp_if_lt (pc' := 4) 9 dX6_keep_1 rfl (by decide) (fun hh => absurd hh (by decide)) (fun _ => ?_)
  refine wp_iload_n (pc' := 5) dX6_keep_4 rfl rfl ?_
  refine wp_iconst (pc' := 6) 1 dX6_keep_5 rfl (by decide) ?_
  refine wp_icmp_le (pc' := 9) 11 dX6_keep_6 rfl (by decide) (fun _ => ?_) (fun hh => absurd hh (by decide))
  refine wp_aload_n (pc' := 12) dX6_keep_11 rfl rfl ⟨_, rfl⟩ ?_
  refine wp_iload_n (pc' := 13) dX6_keep_12 rfl rfl ?_
  refine wp_cVO (μ' := mX6_imageOf) (pc' := 16) (o := 0) dX6_keep_13 rfl mlX6_214 cfX6_imageOf ⟨(Nat.le_of_ble_eq_true rfl), (Nat.le_of_ble_eq_true rfl)⟩ (sp_image0) (by decide) rfl rfl rfl rfl rfl (Nat.le_of_ble_eq_true rfl) ?_
  refine wp_ast2 (pc' := 17) dX6_keep_16 rfl (by decide) rfl ⟨_, rfl⟩ ?_
  refine wp_aload_n (pc' := 18) dX6_keep_17 rfl rfl ⟨_, rfl⟩ ?_
  refine wp_aload_n (pc' := 19) dX6_keep_18 rfl rfl ⟨_, rfl⟩ ?_
  refine wp_get (pc' := 22) (o := 0) dX6_keep_19 rfl flX6_46 (by decide) rfl rfl ?_
  refine wp_cVV (μ' := mX0_copy) (pc' := 25) (o := 17) dX6_keep_22 rfl mlX6_218 cfX0_copy ⟨(Nat.le_of_ble_eq_true rfl), (Nat.le_of_ble_eq_true rfl)⟩ (sp_ncopy17_13) (by decide) rfl rfl rfl rfl rfl (Nat.le_of_ble_eq_true rfl) ?_
  refine wp_aload_n (pc' := 26) dX6_keep_25 rfl rfl ⟨_, rfl⟩ ?_
  refine wp_iconst (pc' := 27) 1 dX6_keep_26 rfl (by decide) ?_
  refine wp_putz (pc' := 30) (o := 17) dX6_keep_27 rfl fpX6_97 (by decide) rfl (Nat.le_of_ble_eq_true rfl) rfl rfl rfl ?_
  refine wp_aload_n (pc' := 31) dX6_keep_30 rfl rfl ⟨_, rfl⟩ ?_
  refine wp_get (pc' := 34) (o := 0) dX6_keep_31 rfl flX6_46 (by decide) rfl rfl ?_
  refine wp_get (pc' := 37) (o := 13) dX6_keep_34 rfl flX6_158 (by decide) rfl rfl ?_
  refine wp_cSI (μ' := mJ6_bitCount_0f7a4) (pc' := 40) dX6_keep_37 rfl mlX6_161 cfJ6_bitCount_0f7a4 ⟨(Nat.le_of_ble_eq_true rfl), (Nat.le_of_ble_eq_true rfl)⟩ (sp_bitCount) rfl rfl (Nat.le_of_ble_eq_true rfl) ?_
  refine wp_ireti dX6_keep_40 rfl ?_
  exact ri_ok rfl rfl
def back0V (M : Mem) : Int32 := if M.1 17 5 = 0 then -2 else pcF (M.1 17 1)
def back0M (M : Mem) : Mem := if M.1 17 5 = 0 then M else ncp13_17 M
theorem sp_back0 {g : GG} {M : Mem} : RI g mX6_back [ob g 0, .int 0] M (back0V M) (back0M M) := by
  refine spec_of_wp (ls := [some (ob g 0), some (.int 0), none]) rfl (Nat.le_of_ble_eq_true rfl) 1 rfl ?_
  refine wp_iload_n (pc' := 1) dX6_back_0 rfl rfl ?_
  refine wp_if_lt (pc' := 4) 9 dX6_back_1 rfl (by decide) (fun hh => absurd hh (by decide)) (fun _ => ?_)
  refine wp_iload_n (pc' := 5) dX6_back_4 rfl rfl ?_
  refine wp_iconst (pc' := 6) 1 dX6_back_5 rfl (by decide) ?_
  refine wp_icmp_le (pc' := 9) 11 dX6_back_6 rfl (by decide) (fun _ => ?_) (fun hh => absurd hh (by decide))
  refine wp_aload_n (pc' := 12) dX6_back_11 rfl rfl ⟨_, rfl⟩ ?_
  refine wp_iload_n (pc' := 13) dX6_back_12 rfl rfl ?_
  refine wp_cVO (μ' := mX6_imageOf) (pc' := 16) (o := 0) dX6_back_13 rfl mlX6_214 cfX6_imageOf ⟨(Nat.le_of_ble_eq_true rfl), (Nat.le_of_ble_eq_true rfl)⟩ (sp_image0) (by decide) rfl rfl rfl rfl rfl (Nat.le_of_ble_eq_true rfl) ?_
  refine wp_ast2 (pc' := 17) dX6_back_16 rfl (by decide) rfl ⟨_, rfl⟩ ?_
  refine wp_aload_n (pc' := 18) dX6_back_17 rfl rfl ⟨_, rfl⟩ ?_
  refine wp_get (pc' := 21) (o := 17) dX6_back_18 rfl flX6_97 (by decide) rfl rfl ?_
  refine wp_if_ne (pc' := 24) 27 dX6_back_21 rfl (by decide) (fun h21 => ?_) (fun h21 => ?_)
  · refine wp_aload_n (pc' := 28) dX6_back_27 rfl rfl ⟨_, rfl⟩ ?_
    refine wp_get (pc' := 31) (o := 0) dX6_back_28 rfl flX6_46 (by decide) rfl rfl ?_
    refine wp_aload_n (pc' := 32) dX6_back_31 rfl rfl ⟨_, rfl⟩ ?_
    refine wp_cVV (μ' := mX0_copy) (pc' := 35) (o := 13) dX6_back_32 rfl mlX6_218 cfX0_copy ⟨(Nat.le_of_ble_eq_true rfl), (Nat.le_of_ble_eq_true rfl)⟩ (sp_ncopy13_17) (by decide) rfl rfl rfl rfl rfl (Nat.le_of_ble_eq_true rfl) ?_
    refine wp_aload_n (pc' := 36) dX6_back_35 rfl rfl ⟨_, rfl⟩ ?_
    refine wp_get (pc' := 39) (o := 0) dX6_back_36 rfl flX6_46 (by decide) rfl rfl ?_
    refine wp_get (pc' := 42) (o := 13) dX6_back_39 rfl flX6_158 (by decide) rfl rfl ?_
    refine wp_cSI (μ' := mJ6_bitCount_0f7a4) (pc' := 45) dX6_back_42 rfl mlX6_161 cfJ6_bitCount_0f7a4 ⟨(Nat.le_of_ble_eq_true rfl), (Nat.le_of_ble_eq_true rfl)⟩ (sp_bitCount) rfl rfl (Nat.le_of_ble_eq_true rfl) ?_
    refine wp_ireti dX6_back_45 rfl ?_
    exact ri_ok (by rw [back0V, if_neg h21]; rfl) (by rw [back0M, if_neg h21])
  · refine wp_bipush (pc' := 26) (-2) dX6_back_24 rfl (by decide) ?_
    refine wp_ireti dX6_back_26 rfl ?_
    exact ri_ok (by rw [back0V, if_pos h21]) (by rw [back0M, if_pos h21])
theorem sp_keep1 {g : GG} {M : Mem} : RI g mX6_keep [ob g 0, .int 1] M (pcF (M.1 13 1)) (upI (ncp21_13 M) 21 5 1) := by
  refine spec_of_wp (ls := [some (ob g 0), some (.int 1), none]) rfl (Nat.le_of_ble_eq_true rfl) 1 rfl ?_
  refine wp_iload_n (pc' := 1) dX6_keep_0 rfl rfl ?_
  refine wp_if_lt (pc' := 4) 9 dX6_keep_1 rfl (by decide) (fun hh => absurd hh (by decide)) (fun _ => ?_)
  refine wp_iload_n (pc' := 5) dX6_keep_4 rfl rfl ?_
  refine wp_iconst (pc' := 6) 1 dX6_keep_5 rfl (by decide) ?_
  refine wp_icmp_le (pc' := 9) 11 dX6_keep_6 rfl (by decide) (fun _ => ?_) (fun hh => absurd hh (by decide))
  refine wp_aload_n (pc' := 12) dX6_keep_11 rfl rfl ⟨_, rfl⟩ ?_
  refine wp_iload_n (pc' := 13) dX6_keep_12 rfl rfl ?_
  refine wp_cVO (μ' := mX6_imageOf) (pc' := 16) (o := 0) dX6_keep_13 rfl mlX6_214 cfX6_imageOf ⟨(Nat.le_of_ble_eq_true rfl), (Nat.le_of_ble_eq_true rfl)⟩ (sp_image1) (by decide) rfl rfl rfl rfl rfl (Nat.le_of_ble_eq_true rfl) ?_
  refine wp_ast2 (pc' := 17) dX6_keep_16 rfl (by decide) rfl ⟨_, rfl⟩ ?_
  refine wp_aload_n (pc' := 18) dX6_keep_17 rfl rfl ⟨_, rfl⟩ ?_
  refine wp_aload_n (pc' := 19) dX6_keep_18 rfl rfl ⟨_, rfl⟩ ?_
  refine wp_get (pc' := 22) (o := 0) dX6_keep_19 rfl flX6_46 (by decide) rfl rfl ?_
  refine wp_cVV (μ' := mX0_copy) (pc' := 25) (o := 21) dX6_keep_22 rfl mlX6_218 cfX0_copy ⟨(Nat.le_of_ble_eq_true rfl), (Nat.le_of_ble_eq_true rfl)⟩ (sp_ncopy21_13) (by decide) rfl rfl rfl rfl rfl (Nat.le_of_ble_eq_true rfl) ?_
  refine wp_aload_n (pc' := 26) dX6_keep_25 rfl rfl ⟨_, rfl⟩ ?_
  refine wp_iconst (pc' := 27) 1 dX6_keep_26 rfl (by decide) ?_
  refine wp_putz (pc' := 30) (o := 21) dX6_keep_27 rfl fpX6_97 (by decide) rfl (Nat.le_of_ble_eq_true rfl) rfl rfl rfl ?_
  refine wp_aload_n (pc' := 31) dX6_keep_30 rfl rfl ⟨_, rfl⟩ ?_
  refine wp_get (pc' := 34) (o := 0) dX6_keep_31 rfl flX6_46 (by decide) rfl rfl ?_
  refine wp_get (pc' := 37) (o := 13) dX6_keep_34 rfl flX6_158 (by decide) rfl rfl ?_
  refine wp_cSI (μ' := mJ6_bitCount_0f7a4) (pc' := 40) dX6_keep_37 rfl mlX6_161 cfJ6_bitCount_0f7a4 ⟨(Nat.le_of_ble_eq_true rfl), (Nat.le_of_ble_eq_true rfl)⟩ (sp_bitCount) rfl rfl (Nat.le_of_ble_eq_true rfl) ?_
  refine wp_ireti dX6_keep_40 rfl ?_
  exact ri_ok rfl rfl
def back1V (M : Mem) : Int32 := if M.1 21 5 = 0 then -2 else pcF (M.1 21 1)
def back1M (M : Mem) : Mem := if M.1 21 5 = 0 then M else ncp13_21 M
theorem sp_back1 {g : GG} {M : Mem} : RI g mX6_back [ob g 0, .int 1] M (back1V M) (back1M M) := by
  refine spec_of_wp (ls := [some (ob g 0), some (.int 1), none]) rfl (Nat.le_of_ble_eq_true rfl) 1 rfl ?_
  refine wp_iload_n (pc' := 1) dX6_back_0 rfl rfl ?_
  refine wp_if_lt (pc' := 4) 9 dX6_back_1 rfl (by decide) (fun hh => absurd hh (by decide)) (fun _ => ?_)
  refine wp_iload_n (pc' := 5) dX6_back_4 rfl rfl ?_
  refine wp_iconst (pc' := 6) 1 dX6_back_5 rfl (by decide) ?_
  refine wp_icmp_le (pc' := 9) 11 dX6_back_6 rfl (by decide) (fun _ => ?_) (fun hh => absurd hh (by decide))
  refine wp_aload_n (pc' := 12) dX6_back_11 rfl rfl ⟨_, rfl⟩ ?_
  refine wp_iload_n (pc' := 13) dX6_back_12 rfl rfl ?_
  refine wp_cVO (μ' := mX6_imageOf) (pc' := 16) (o := 0) dX6_back_13 rfl mlX6_214 cfX6_imageOf ⟨(Nat.le_of_ble_eq_true rfl), (Nat.le_of_ble_eq_true rfl)⟩ (sp_image1) (by decide) rfl rfl rfl rfl rfl (Nat.le_of_ble_eq_true rfl) ?_
  refine wp_ast2 (pc' := 17) dX6_back_16 rfl (by decide) rfl ⟨_, rfl⟩ ?_
  refine wp_aload_n (pc' := 18) dX6_back_17 rfl rfl ⟨_, rfl⟩ ?_
  refine wp_get (pc' := 21) (o := 21) dX6_back_18 rfl flX6_97 (by decide) rfl rfl ?_
  refine wp_if_ne (pc' := 24) 27 dX6_back_21 rfl (by decide) (fun h21 => ?_) (fun h21 => ?_)
  · refine wp_aload_n (pc' := 28) dX6_back_27 rfl rfl ⟨_, rfl⟩ ?_
    refine wp_get (pc' := 31) (o := 0) dX6_back_28 rfl flX6_46 (by decide) rfl rfl ?_
    refine wp_aload_n (pc' := 32) dX6_back_31 rfl rfl ⟨_, rfl⟩ ?_
    refine wp_cVV (μ' := mX0_copy) (pc' := 35) (o := 13) dX6_back_32 rfl mlX6_218 cfX0_copy ⟨(Nat.le_of_ble_eq_true rfl), (Nat.le_of_ble_eq_true rfl)⟩ (sp_ncopy13_21) (by decide) rfl rfl rfl rfl rfl (Nat.le_of_ble_eq_true rfl) ?_
    refine wp_aload_n (pc' := 36) dX6_back_35 rfl rfl ⟨_, rfl⟩ ?_
    refine wp_get (pc' := 39) (o := 0) dX6_back_36 rfl flX6_46 (by decide) rfl rfl ?_
    refine wp_get (pc' := 42) (o := 13) dX6_back_39 rfl flX6_158 (by decide) rfl rfl ?_
    refine wp_cSI (μ' := mJ6_bitCount_0f7a4) (pc' := 45) dX6_back_42 rfl mlX6_161 cfJ6_bitCount_0f7a4 ⟨(Nat.le_of_ble_eq_true rfl), (Nat.le_of_ble_eq_true rfl)⟩ (sp_bitCount) rfl rfl (Nat.le_of_ble_eq_true rfl) ?_
    refine wp_ireti dX6_back_45 rfl ?_
    exact ri_ok (by rw [back1V, if_neg h21]; rfl) (by rw [back1M, if_neg h21])
  · refine wp_bipush (pc' := 26) (-2) dX6_back_24 rfl (by decide) ?_
    refine wp_ireti dX6_back_26 rfl ?_
    exact ri_ok (by rw [back1V, if_pos h21]) (by rw [back1M, if_pos h21])
theorem sp_keep_bad {g : GG} {M : Mem} {i : Int32} (h : i < 0 ∨ 1 < i) : RI g mX6_keep [ob g 0, .int i] M (-1) M := by
  refine spec_of_wp (ls := [some (ob g 0), some (.int i), none]) rfl (Nat.le_of_ble_eq_true rfl) 1 rfl ?_
  refine wp_iload_n (pc' := 1) dX6_keep_0 rfl rfl ?_
  refine wp_if_lt (pc' := 4) 9 dX6_keep_1 rfl (by decide) (fun h1 => ?_) (fun h1 => ?_)
  · refine wp_iconst (pc' := 10) (-1) dX6_keep_9 rfl (by decide) ?_
    refine wp_ireti dX6_keep_10 rfl ?_
    exact ri_ok rfl rfl
  · refine wp_iload_n (pc' := 5) dX6_keep_4 rfl rfl ?_
    refine wp_iconst (pc' := 6) 1 dX6_keep_5 rfl (by decide) ?_
    refine wp_icmp_le (pc' := 9) 11 dX6_keep_6 rfl (by decide) (fun h6 => ?_) (fun h6 => ?_)
    · exact h.elim (fun h => absurd h h1) (fun h => absurd h6 (Int32.not_le.mpr h))
    · refine wp_iconst (pc' := 10) (-1) dX6_keep_9 rfl (by decide) ?_
      refine wp_ireti dX6_keep_10 rfl ?_
      exact ri_ok rfl rfl
theorem sp_back_bad {g : GG} {M : Mem} {i : Int32} (h : i < 0 ∨ 1 < i) : RI g mX6_back [ob g 0, .int i] M (-1) M := by
  refine spec_of_wp (ls := [some (ob g 0), some (.int i), none]) rfl (Nat.le_of_ble_eq_true rfl) 1 rfl ?_
  refine wp_iload_n (pc' := 1) dX6_back_0 rfl rfl ?_
  refine wp_if_lt (pc' := 4) 9 dX6_back_1 rfl (by decide) (fun h1 => ?_) (fun h1 => ?_)
  · refine wp_iconst (pc' := 10) (-1) dX6_back_9 rfl (by decide) ?_
    refine wp_ireti dX6_back_10 rfl ?_
    exact ri_ok rfl rfl
  · refine wp_iload_n (pc' := 5) dX6_back_4 rfl rfl ?_
    refine wp_iconst (pc' := 6) 1 dX6_back_5 rfl (by decide) ?_
    refine wp_icmp_le (pc' := 9) 11 dX6_back_6 rfl (by decide) (fun h6 => ?_) (fun h6 => ?_)
    · exact h.elim (fun h => absurd h h1) (fun h => absurd h6 (Int32.not_le.mpr h))
    · refine wp_iconst (pc' := 10) (-1) dX6_back_9 rfl (by decide) ?_
      refine wp_ireti dX6_back_10 rfl ?_
      exact ri_ok rfl rfl
