
/-! Plans -/
def lenF (x : Int32) : Int32 := if x = -9 then 24 else x
def btlF (nr : Int32 → Int32) (a b bear bog : Int32) : Nat → Nat → Int32 → Int32 → Int32
  | 0, _, best, _ => best
  | n + 1, j, best, few => if hasF bog (nI j) = 0 then btlF nr a b bear bog n (j + 1) best few else if few ≤ lenF (fsF nr a b (bear ||| shl 1 (nI j))) then btlF nr a b bear bog n (j + 1) best few else btlF nr a b bear bog n (j + 1) (nI j) (lenF (fsF nr a b (bear ||| shl 1 (nI j))))

theorem lp_bestToLay {g : GG} {M : Mem} {a b bear bog : Int32} : ∀ (n j : Nat), j + n = 24 → ∀ (best few : Int32) (x8 x9 : Option Value), wp g mX1_bestToLay 11 [some (ob g 10), some (.int a), some (.int b), some (.int bear), some (.int bog), some (.int best), some (.int few), some (.int (nI j)), x8, x9] [] M (fun q m => q = some (.int (btlF (nearM M) a b bear bog n j best few)) ∧ m = M) := by
  intro n
  induction n with
  | zero =>
    intro j hj best few x8 x9
    obtain rfl : j = 24 := by omega
    refine wp_iload (pc' := 13) dX1_bestToLay_11 rfl rfl ?_
    refine wp_bipush (pc' := 15) 24 dX1_bestToLay_13 rfl (by decide) ?_
    refine wp_icmp_ge (pc' := 18) 82 dX1_bestToLay_15 rfl (by decide) (fun _ => ?_) (fun hh => absurd hh (by decide))
    refine wp_iload (pc' := 84) dX1_bestToLay_82 rfl rfl ?_
    refine wp_ireti dX1_bestToLay_84 rfl ?_
    exact ri_ok rfl rfl
  | succ n ih =>
    intro j hj best few x8 x9
    refine wp_iload (pc' := 13) dX1_bestToLay_11 rfl rfl ?_
    refine wp_bipush (pc' := 15) 24 dX1_bestToLay_13 rfl (by decide) ?_
    refine wp_icmp_ge (pc' := 18) 82 dX1_bestToLay_15 rfl (by decide) (fun h15 => ?_) (fun h15 => ?_)
    · refine wp_iload (pc' := 84) dX1_bestToLay_82 rfl rfl ?_
      refine wp_ireti dX1_bestToLay_84 rfl ?_
      exact absurd h15 (nI_ge (a := j) (b := 24) (by omega) (by decide))
    · refine wp_iload (pc' := 20) dX1_bestToLay_18 rfl rfl ?_
      refine wp_iload (pc' := 22) dX1_bestToLay_20 rfl rfl ?_
      refine wp_cSI (μ' := mX6_has) (pc' := 25) dX1_bestToLay_22 rfl mlX1_22 cfX6_has ⟨(Nat.le_of_ble_eq_true rfl), (Nat.le_of_ble_eq_true rfl)⟩ (sp_has) rfl rfl (Nat.le_of_ble_eq_true rfl) ?_
      refine wp_if_eq (pc' := 28) 76 dX1_bestToLay_25 rfl (by decide) (fun h25 => ?_) (fun h25 => ?_)
      · refine wp_inc7 (pc' := 79) (nI (j + 1)) dX1_bestToLay_76 rfl (by decide) rfl (nI_1 j) ?_
        refine wp_goto 11 dX1_bestToLay_79 (by decide) ?_
        rw [btlF, if_pos h25]
        exact ih (j + 1) (by omega) _ _ _ _
      · refine wp_aload_n (pc' := 29) dX1_bestToLay_28 rfl rfl ⟨_, rfl⟩ ?_
        refine wp_get (pc' := 32) (o := 10) dX1_bestToLay_29 rfl flX1_12 (by decide) rfl rfl ?_
        refine wp_iload_n (pc' := 33) dX1_bestToLay_32 rfl rfl ?_
        refine wp_iload_n (pc' := 34) dX1_bestToLay_33 rfl rfl ?_
        refine wp_iload_n (pc' := 35) dX1_bestToLay_34 rfl rfl ?_
        refine wp_iconst (pc' := 36) 1 dX1_bestToLay_35 rfl (by decide) ?_
        refine wp_iload (pc' := 38) dX1_bestToLay_36 rfl rfl ?_
        refine wp_ishl (pc' := 39) dX1_bestToLay_38 rfl ?_
        refine wp_ior (pc' := 40) dX1_bestToLay_39 rfl ?_
        refine wp_cVI (μ' := mX5_fewestSteps) (pc' := 43) (o := 11) dX1_bestToLay_40 rfl mlX1_26 cfX5_fewestSteps ⟨(Nat.le_of_ble_eq_true rfl), (Nat.le_of_ble_eq_true rfl)⟩ (sp_fewestSteps) (by decide) rfl rfl rfl rfl rfl (Nat.le_of_ble_eq_true rfl) ?_
        refine wp_ist8 (pc' := 45) dX1_bestToLay_43 rfl (by decide) rfl ?_
        refine wp_iload (pc' := 47) dX1_bestToLay_45 rfl rfl ?_
        refine wp_bipush (pc' := 49) (-9) dX1_bestToLay_47 rfl (by decide) ?_
        refine wp_icmp_ne (pc' := 52) 57 dX1_bestToLay_49 rfl (by decide) (fun h49 => ?_) (fun h49 => ?_)
        · refine wp_iload (pc' := 59) dX1_bestToLay_57 rfl rfl ?_
          refine wp_ist9 (pc' := 61) dX1_bestToLay_59 rfl (by decide) rfl ?_
          refine wp_iload (pc' := 63) dX1_bestToLay_61 rfl rfl ?_
          refine wp_iload (pc' := 65) dX1_bestToLay_63 rfl rfl ?_
          refine wp_icmp_ge (pc' := 68) 76 dX1_bestToLay_65 rfl (by decide) (fun h65 => ?_) (fun h65 => ?_)
          · refine wp_inc7 (pc' := 79) (nI (j + 1)) dX1_bestToLay_76 rfl (by decide) rfl (nI_1 j) ?_
            refine wp_goto 11 dX1_bestToLay_79 (by decide) ?_
            rw [btlF, if_neg h25, if_pos (by rw [lenF, if_neg h49]; exact h65)]
            exact ih (j + 1) (by omega) _ _ _ _
          · refine wp_iload (pc' := 70) dX1_bestToLay_68 rfl rfl ?_
            refine wp_ist6 (pc' := 72) dX1_bestToLay_70 rfl (by decide) rfl ?_
            refine wp_iload (pc' := 74) dX1_bestToLay_72 rfl rfl ?_
            refine wp_ist5 (pc' := 76) dX1_bestToLay_74 rfl (by decide) rfl ?_
            refine wp_inc7 (pc' := 79) (nI (j + 1)) dX1_bestToLay_76 rfl (by decide) rfl (nI_1 j) ?_
            refine wp_goto 11 dX1_bestToLay_79 (by decide) ?_
            rw [btlF, if_neg h25, if_neg (by rw [lenF, if_neg h49]; exact h65), lenF, if_neg h49]
            exact ih (j + 1) (by omega) _ _ _ _
        · refine wp_bipush (pc' := 54) 24 dX1_bestToLay_52 rfl (by decide) ?_
          refine wp_goto 59 dX1_bestToLay_54 (by decide) ?_
          refine wp_ist9 (pc' := 61) dX1_bestToLay_59 rfl (by decide) rfl ?_
          refine wp_iload (pc' := 63) dX1_bestToLay_61 rfl rfl ?_
          refine wp_iload (pc' := 65) dX1_bestToLay_63 rfl rfl ?_
          refine wp_icmp_ge (pc' := 68) 76 dX1_bestToLay_65 rfl (by decide) (fun h65 => ?_) (fun h65 => ?_)
          · refine wp_inc7 (pc' := 79) (nI (j + 1)) dX1_bestToLay_76 rfl (by decide) rfl (nI_1 j) ?_
            refine wp_goto 11 dX1_bestToLay_79 (by decide) ?_
            rw [btlF, if_neg h25, if_pos (by rw [lenF, if_pos h49]; exact h65)]
            exact ih (j + 1) (by omega) _ _ _ _
          · refine wp_iload (pc' := 70) dX1_bestToLay_68 rfl rfl ?_
            refine wp_ist6 (pc' := 72) dX1_bestToLay_70 rfl (by decide) rfl ?_
            refine wp_iload (pc' := 74) dX1_bestToLay_72 rfl rfl ?_
            refine wp_ist5 (pc' := 76) dX1_bestToLay_74 rfl (by decide) rfl ?_
            refine wp_inc7 (pc' := 79) (nI (j + 1)) dX1_bestToLay_76 rfl (by decide) rfl (nI_1 j) ?_
            refine wp_goto 11 dX1_bestToLay_79 (by decide) ?_
            rw [btlF, if_neg h25, if_neg (by rw [lenF, if_pos h49]; exact h65), lenF, if_pos h49]
            exact ih (j + 1) (by omega) _ _ _ _
theorem sp_bestToLay {g : GG} {M : Mem} {a b bear bog : Int32} : RI g mX1_bestToLay [ob g 10, .int a, .int b, .int bear, .int bog] M (btlF (nearM M) a b bear bog 24 0 (-9) 25) M := by
  refine spec_of_wp (ls := [some (ob g 10), some (.int a), some (.int b), some (.int bear), some (.int bog), none, none, none, none, none]) rfl (Nat.le_of_ble_eq_true rfl) 5 rfl ?_
  refine wp_bipush (pc' := 2) (-9) dX1_bestToLay_0 rfl (by decide) ?_
  refine wp_ist5 (pc' := 4) dX1_bestToLay_2 rfl (by decide) rfl ?_
  refine wp_bipush (pc' := 6) 25 dX1_bestToLay_4 rfl (by decide) ?_
  refine wp_ist6 (pc' := 8) dX1_bestToLay_6 rfl (by decide) rfl ?_
  refine wp_iconst (pc' := 9) 0 dX1_bestToLay_8 rfl (by decide) ?_
  refine wp_ist7 (pc' := 11) dX1_bestToLay_9 rfl (by decide) rfl ?_
  exact lp_bestToLay 24 0 rfl _ _ _ _
def jaF (nr : Int32 → Int32) (set bear : Int32) : Int32 := if ¬ set &&& (bear ^^^ (-1)) = 0 then 0 else if ¬ set &&& (spF nr bear 24 (set &&& -set) ^^^ (-1)) = 0 then 0 else 1
theorem sp_joinsAll {g : GG} {M : Mem} {set bear : Int32} : RI g mX1_joinsAll [ob g 10, .int set, .int bear] M (jaF (nearM M) set bear) M := by
  refine spec_of_wp (ls := [some (ob g 10), some (.int set), some (.int bear), none]) rfl (Nat.le_of_ble_eq_true rfl) 1 rfl ?_
  refine wp_iload_n (pc' := 1) dX1_joinsAll_0 rfl rfl ?_
  refine wp_iload_n (pc' := 2) dX1_joinsAll_1 rfl rfl ?_
  refine wp_ineg (pc' := 3) dX1_joinsAll_2 rfl ?_
  refine wp_iand (pc' := 4) dX1_joinsAll_3 rfl ?_
  refine wp_ist3 (pc' := 5) dX1_joinsAll_4 rfl (by decide) rfl ?_
  refine wp_iload_n (pc' := 6) dX1_joinsAll_5 rfl rfl ?_
  refine wp_iload_n (pc' := 7) dX1_joinsAll_6 rfl rfl ?_
  refine wp_iconst (pc' := 8) (-1) dX1_joinsAll_7 rfl (by decide) ?_
  refine wp_ixor (pc' := 9) dX1_joinsAll_8 rfl ?_
  refine wp_iand (pc' := 10) dX1_joinsAll_9 rfl ?_
  refine wp_if_ne (pc' := 13) 33 dX1_joinsAll_10 rfl (by decide) (fun h10 => ?_) (fun h10 => ?_)
  · refine wp_iconst (pc' := 34) 0 dX1_joinsAll_33 rfl (by decide) ?_
    refine wp_iretz dX1_joinsAll_34 rfl rfl ?_
    exact ri_ok (by rw [jaF, if_pos h10]) rfl
  · refine wp_iload_n (pc' := 14) dX1_joinsAll_13 rfl rfl ?_
    refine wp_aload_n (pc' := 15) dX1_joinsAll_14 rfl rfl ⟨_, rfl⟩ ?_
    refine wp_get (pc' := 18) (o := 10) dX1_joinsAll_15 rfl flX1_12 (by decide) rfl rfl ?_
    refine wp_iload_n (pc' := 19) dX1_joinsAll_18 rfl rfl ?_
    refine wp_iload_n (pc' := 20) dX1_joinsAll_19 rfl rfl ?_
    refine wp_cVI (μ' := mX5_spread) (pc' := 23) (o := 11) dX1_joinsAll_20 rfl mlX1_39 cfX5_spread ⟨(Nat.le_of_ble_eq_true rfl), (Nat.le_of_ble_eq_true rfl)⟩ (sp_spread) (by decide) rfl rfl rfl rfl rfl (Nat.le_of_ble_eq_true rfl) ?_
    refine wp_iconst (pc' := 24) (-1) dX1_joinsAll_23 rfl (by decide) ?_
    refine wp_ixor (pc' := 25) dX1_joinsAll_24 rfl ?_
    refine wp_iand (pc' := 26) dX1_joinsAll_25 rfl ?_
    refine wp_if_ne (pc' := 29) 33 dX1_joinsAll_26 rfl (by decide) (fun h26 => ?_) (fun h26 => ?_)
    · refine wp_iconst (pc' := 34) 0 dX1_joinsAll_33 rfl (by decide) ?_
      refine wp_iretz dX1_joinsAll_34 rfl rfl ?_
      exact ri_ok (by rw [jaF, if_neg (fun h => h h10), if_pos h26]) rfl
    · refine wp_iconst (pc' := 30) 1 dX1_joinsAll_29 rfl (by decide) ?_
      refine wp_goto 34 dX1_joinsAll_30 (by decide) ?_
      refine wp_iretz dX1_joinsAll_34 rfl rfl ?_
      exact ri_ok (by rw [jaF, if_neg (fun h => h h10), if_neg (fun h => h h26)]) rfl

def ljF (nr : Int32 → Int32) (set bear bog : Int32) : Nat → Int32 → Int32 → Int32
  | 0, _, best => best
  | n + 1, part, best => if pcF best ≤ pcF part ∨ jaF nr set (bear ||| part) = 0 then ljF nr set bear bog n ((part - bog) &&& bog) best else ljF nr set bear bog n ((part - bog) &&& bog) part

theorem lp_leastJoining {g : GG} {M : Mem} {set bear bog : Int32} {s : Nat} (hs : s < 2 ^ 31) : ∀ (n j : Nat), j + n = s → ∀ (best part : Int32), wp g mX1_leastJoining 17 [some (ob g 10), some (.int set), some (.int bear), some (.int bog), some (.int (nI s)), some (.int best), some (.int part), some (.int (nI j))] [] M (fun q m => q = some (.int (ljF (nearM M) set bear bog n part best)) ∧ m = M) := by
  intro n
  induction n with
  | zero =>
    intro j hj best part
    obtain rfl : j = s := by omega
    refine wp_iload (pc' := 19) dX1_leastJoining_17 rfl rfl ?_
    refine wp_iload (pc' := 21) dX1_leastJoining_19 rfl rfl ?_
    refine wp_icmp_ge (pc' := 24) 67 dX1_leastJoining_21 rfl (by decide) (fun h21 => ?_) (fun h21 => ?_)
    · refine wp_iload (pc' := 69) dX1_leastJoining_67 rfl rfl ?_
      refine wp_ireti dX1_leastJoining_69 rfl ?_
      exact ri_ok rfl rfl
    · exact absurd (nI_le (Nat.le_refl j) hs) h21
  | succ n ih =>
    intro j hj best part
    refine wp_iload (pc' := 19) dX1_leastJoining_17 rfl rfl ?_
    refine wp_iload (pc' := 21) dX1_leastJoining_19 rfl rfl ?_
    refine wp_icmp_ge (pc' := 24) 67 dX1_leastJoining_21 rfl (by decide) (fun h21 => ?_) (fun h21 => ?_)
    · refine wp_iload (pc' := 69) dX1_leastJoining_67 rfl rfl ?_
      refine wp_ireti dX1_leastJoining_69 rfl ?_
      exact absurd h21 (nI_ge (by omega) hs)
    · refine wp_iload (pc' := 26) dX1_leastJoining_24 rfl rfl ?_
      refine wp_cSI (μ' := mJ6_bitCount_0f7a4) (pc' := 29) dX1_leastJoining_26 rfl mlX1_30 cfJ6_bitCount_0f7a4 ⟨(Nat.le_of_ble_eq_true rfl), (Nat.le_of_ble_eq_true rfl)⟩ (sp_bitCount) rfl rfl (Nat.le_of_ble_eq_true rfl) ?_
      refine wp_iload (pc' := 31) dX1_leastJoining_29 rfl rfl ?_
      refine wp_cSI (μ' := mJ6_bitCount_0f7a4) (pc' := 34) dX1_leastJoining_31 rfl mlX1_30 cfJ6_bitCount_0f7a4 ⟨(Nat.le_of_ble_eq_true rfl), (Nat.le_of_ble_eq_true rfl)⟩ (sp_bitCount) rfl rfl (Nat.le_of_ble_eq_true rfl) ?_
      refine wp_icmp_ge (pc' := 37) 53 dX1_leastJoining_34 rfl (by decide) (fun h34 => ?_) (fun h34 => ?_)
      · refine wp_iload (pc' := 55) dX1_leastJoining_53 rfl rfl ?_
        refine wp_iload_n (pc' := 56) dX1_leastJoining_55 rfl rfl ?_
        refine wp_isub (pc' := 57) dX1_leastJoining_56 rfl ?_
        refine wp_iload_n (pc' := 58) dX1_leastJoining_57 rfl rfl ?_
        refine wp_iand (pc' := 59) dX1_leastJoining_58 rfl ?_
        refine wp_ist6 (pc' := 61) dX1_leastJoining_59 rfl (by decide) rfl ?_
        refine wp_inc7 (pc' := 64) (nI (j + 1)) dX1_leastJoining_61 rfl (by decide) rfl (nI_1 j) ?_
        refine wp_goto 17 dX1_leastJoining_64 (by decide) ?_
        rw [ljF, if_pos (Or.inl h34)]
        exact ih (j + 1) (by omega) _ _
      · refine wp_aload_n (pc' := 38) dX1_leastJoining_37 rfl rfl ⟨_, rfl⟩ ?_
        refine wp_iload_n (pc' := 39) dX1_leastJoining_38 rfl rfl ?_
        refine wp_iload_n (pc' := 40) dX1_leastJoining_39 rfl rfl ?_
        refine wp_iload (pc' := 42) dX1_leastJoining_40 rfl rfl ?_
        refine wp_ior (pc' := 43) dX1_leastJoining_42 rfl ?_
        refine wp_cVI (μ' := mX1_joinsAll) (pc' := 46) (o := 10) dX1_leastJoining_43 rfl mlX1_36 cfX1_joinsAll ⟨(Nat.le_of_ble_eq_true rfl), (Nat.le_of_ble_eq_true rfl)⟩ (sp_joinsAll) (by decide) rfl rfl rfl rfl rfl (Nat.le_of_ble_eq_true rfl) ?_
        refine wp_if_eq (pc' := 49) 53 dX1_leastJoining_46 rfl (by decide) (fun h46 => ?_) (fun h46 => ?_)
        · refine wp_iload (pc' := 55) dX1_leastJoining_53 rfl rfl ?_
          refine wp_iload_n (pc' := 56) dX1_leastJoining_55 rfl rfl ?_
          refine wp_isub (pc' := 57) dX1_leastJoining_56 rfl ?_
          refine wp_iload_n (pc' := 58) dX1_leastJoining_57 rfl rfl ?_
          refine wp_iand (pc' := 59) dX1_leastJoining_58 rfl ?_
          refine wp_ist6 (pc' := 61) dX1_leastJoining_59 rfl (by decide) rfl ?_
          refine wp_inc7 (pc' := 64) (nI (j + 1)) dX1_leastJoining_61 rfl (by decide) rfl (nI_1 j) ?_
          refine wp_goto 17 dX1_leastJoining_64 (by decide) ?_
          rw [ljF, if_pos (Or.inr h46)]
          exact ih (j + 1) (by omega) _ _
        · refine wp_iload (pc' := 51) dX1_leastJoining_49 rfl rfl ?_
          refine wp_ist5 (pc' := 53) dX1_leastJoining_51 rfl (by decide) rfl ?_
          refine wp_iload (pc' := 55) dX1_leastJoining_53 rfl rfl ?_
          refine wp_iload_n (pc' := 56) dX1_leastJoining_55 rfl rfl ?_
          refine wp_isub (pc' := 57) dX1_leastJoining_56 rfl ?_
          refine wp_iload_n (pc' := 58) dX1_leastJoining_57 rfl rfl ?_
          refine wp_iand (pc' := 59) dX1_leastJoining_58 rfl ?_
          refine wp_ist6 (pc' := 61) dX1_leastJoining_59 rfl (by decide) rfl ?_
          refine wp_inc7 (pc' := 64) (nI (j + 1)) dX1_leastJoining_61 rfl (by decide) rfl (nI_1 j) ?_
          refine wp_goto 17 dX1_leastJoining_64 (by decide) ?_
          rw [ljF, if_neg (fun h => h.elim h34 h46)]
          exact ih (j + 1) (by omega) _ _
theorem sp_leastJoining {g : GG} {M : Mem} {set bear bog : Int32} {s : Nat} (hs : s < 2 ^ 31) (he : shl 1 (pcF bog) = nI s) : RI g mX1_leastJoining [ob g 10, .int set, .int bear, .int bog] M (ljF (nearM M) set bear bog s 0 bog) M := by
  refine spec_of_wp (ls := [some (ob g 10), some (.int set), some (.int bear), some (.int bog), none, none, none, none]) rfl (Nat.le_of_ble_eq_true rfl) 4 rfl ?_
  refine wp_iconst (pc' := 1) 1 dX1_leastJoining_0 rfl (by decide) ?_
  refine wp_iload_n (pc' := 2) dX1_leastJoining_1 rfl rfl ?_
  refine wp_cSI (μ' := mJ6_bitCount_0f7a4) (pc' := 5) dX1_leastJoining_2 rfl mlX1_30 cfJ6_bitCount_0f7a4 ⟨(Nat.le_of_ble_eq_true rfl), (Nat.le_of_ble_eq_true rfl)⟩ (sp_bitCount) rfl rfl (Nat.le_of_ble_eq_true rfl) ?_
  refine wp_ishl (pc' := 6) dX1_leastJoining_5 rfl ?_
  refine wp_ist4 (pc' := 8) dX1_leastJoining_6 rfl (by decide) rfl ?_
  refine wp_iload_n (pc' := 9) dX1_leastJoining_8 rfl rfl ?_
  refine wp_ist5 (pc' := 11) dX1_leastJoining_9 rfl (by decide) rfl ?_
  refine wp_iconst (pc' := 12) 0 dX1_leastJoining_11 rfl (by decide) ?_
  refine wp_ist6 (pc' := 14) dX1_leastJoining_12 rfl (by decide) rfl ?_
  refine wp_iconst (pc' := 15) 0 dX1_leastJoining_14 rfl (by decide) ?_
  refine wp_ist7 (pc' := 17) dX1_leastJoining_15 rfl (by decide) rfl ?_
  rw [he]
  exact lp_leastJoining hs s 0 (Nat.zero_add s) _ _

def soonF (i : Int32) : Int32 := if pcF i - pcF i / 2 * 2 = 0 then 1 else 0
def minF (x y : Int32) : Int32 := if y < x then y else x
def maxF (x y : Int32) : Int32 := if x < y then y else x
def bnF (M : Mem) (i soon : Int32) : Nat → Nat → Int32 → Int32
  | 0, _, best => best
  | n + 1, j, best => if hasF i (nI j) = 0 then (if soon = 0 then bnF M i soon n (j + 1) (maxF best (atF 256 (M.1 12) (i ||| shl 1 (nI j)))) else bnF M i soon n (j + 1) (minF best (atF 256 (M.1 12) (i ||| shl 1 (nI j))))) else bnF M i soon n (j + 1) best

theorem lp_bestOfNext {g : GG} {M : Mem} {i soon : Int32} {s : Nat} (hs : s < 2 ^ 31) : ∀ (n j : Nat), j + n = s → ∀ (best : Int32) (x6 : Option Value), wp g mX1_bestOfNext 30 [some (ob g 10), some (.int i), some (.int (nI s)), some (.int soon), some (.int best), some (.int (nI j)), x6] [] M (fun q m => q = some (.int (bnF M i soon n j best)) ∧ m = M) := by
  intro n
  induction n with
  | zero =>
    intro j hj best x6
    obtain rfl : j = s := by omega
    refine wp_iload (pc' := 32) dX1_bestOfNext_30 rfl rfl ?_
    refine wp_iload_n (pc' := 33) dX1_bestOfNext_32 rfl rfl ?_
    refine wp_icmp_ge (pc' := 36) 89 dX1_bestOfNext_33 rfl (by decide) (fun h33 => ?_) (fun h33 => ?_)
    · refine wp_iload (pc' := 91) dX1_bestOfNext_89 rfl rfl ?_
      refine wp_ireti dX1_bestOfNext_91 rfl ?_
      exact ri_ok rfl rfl
    · exact absurd (nI_le (Nat.le_refl j) hs) h33
  | succ n ih =>
    intro j hj best x6
    refine wp_iload (pc' := 32) dX1_bestOfNext_30 rfl rfl ?_
    refine wp_iload_n (pc' := 33) dX1_bestOfNext_32 rfl rfl ?_
    refine wp_icmp_ge (pc' := 36) 89 dX1_bestOfNext_33 rfl (by decide) (fun h33 => ?_) (fun h33 => ?_)
    · refine wp_iload (pc' := 91) dX1_bestOfNext_89 rfl rfl ?_
      refine wp_ireti dX1_bestOfNext_91 rfl ?_
      exact absurd h33 (nI_ge (by omega) hs)
    · refine wp_iload_n (pc' := 37) dX1_bestOfNext_36 rfl rfl ?_
      refine wp_iload (pc' := 39) dX1_bestOfNext_37 rfl rfl ?_
      refine wp_cSI (μ' := mX6_has) (pc' := 42) dX1_bestOfNext_39 rfl mlX1_22 cfX6_has ⟨(Nat.le_of_ble_eq_true rfl), (Nat.le_of_ble_eq_true rfl)⟩ (sp_has) rfl rfl (Nat.le_of_ble_eq_true rfl) ?_
      refine wp_if_ne (pc' := 45) 83 dX1_bestOfNext_42 rfl (by decide) (fun h42 => ?_) (fun h42 => ?_)
      · refine wp_inc5 (pc' := 86) (nI (j + 1)) dX1_bestOfNext_83 rfl (by decide) rfl (nI_1 j) ?_
        refine wp_goto 30 dX1_bestOfNext_86 (by decide) ?_
        rw [bnF, if_neg h42]
        exact ih (j + 1) (by omega) _ _
      · refine wp_aload_n (pc' := 46) dX1_bestOfNext_45 rfl rfl ⟨_, rfl⟩ ?_
        refine wp_get (pc' := 49) (o := 10) dX1_bestOfNext_46 rfl flX1_18 (by decide) rfl rfl ?_
        refine wp_iload_n (pc' := 50) dX1_bestOfNext_49 rfl rfl ?_
        refine wp_iconst (pc' := 51) 1 dX1_bestOfNext_50 rfl (by decide) ?_
        refine wp_iload (pc' := 53) dX1_bestOfNext_51 rfl rfl ?_
        refine wp_ishl (pc' := 54) dX1_bestOfNext_53 rfl ?_
        refine wp_ior (pc' := 55) dX1_bestOfNext_54 rfl ?_
        refine wp_cSI (μ' := mX6_at) (pc' := 58) dX1_bestOfNext_55 rfl mlX1_54 cfX6_at ⟨(Nat.le_of_ble_eq_true rfl), (Nat.le_of_ble_eq_true rfl)⟩ (sp_at arr12) rfl rfl (Nat.le_of_ble_eq_true rfl) ?_
        refine wp_ist6 (pc' := 60) dX1_bestOfNext_58 rfl (by decide) rfl ?_
        refine wp_iload_n (pc' := 61) dX1_bestOfNext_60 rfl rfl ?_
        refine wp_if_eq (pc' := 64) 74 dX1_bestOfNext_61 rfl (by decide) (fun h61 => ?_) (fun h61 => ?_)
        · refine wp_iload (pc' := 76) dX1_bestOfNext_74 rfl rfl ?_
          refine wp_iload (pc' := 78) dX1_bestOfNext_76 rfl rfl ?_
          refine wp_mmax (pc' := 81) dX1_bestOfNext_78 rfl mlX1_63 (Nat.le_of_ble_eq_true rfl) (Nat.le_of_ble_eq_true rfl) ?_
          refine wp_ist4 (pc' := 83) dX1_bestOfNext_81 rfl (by decide) rfl ?_
          refine wp_inc5 (pc' := 86) (nI (j + 1)) dX1_bestOfNext_83 rfl (by decide) rfl (nI_1 j) ?_
          refine wp_goto 30 dX1_bestOfNext_86 (by decide) ?_
          rw [bnF, if_pos h42, if_pos h61]
          exact ih (j + 1) (by omega) _ _
        · refine wp_iload (pc' := 66) dX1_bestOfNext_64 rfl rfl ?_
          refine wp_iload (pc' := 68) dX1_bestOfNext_66 rfl rfl ?_
          refine wp_mmin (pc' := 71) dX1_bestOfNext_68 rfl mlX1_58 (Nat.le_of_ble_eq_true rfl) (Nat.le_of_ble_eq_true rfl) ?_
          refine wp_goto 81 dX1_bestOfNext_71 (by decide) ?_
          refine wp_ist4 (pc' := 83) dX1_bestOfNext_81 rfl (by decide) rfl ?_
          refine wp_inc5 (pc' := 86) (nI (j + 1)) dX1_bestOfNext_83 rfl (by decide) rfl (nI_1 j) ?_
          refine wp_goto 30 dX1_bestOfNext_86 (by decide) ?_
          rw [bnF, if_pos h42, if_neg h61]
          exact ih (j + 1) (by omega) _ _
theorem sp_bestOfNext {g : GG} {M : Mem} {i : Int32} {s : Nat} (hs : s < 2 ^ 31) : RI g mX1_bestOfNext [ob g 10, .int i, .int (nI s)] M (bnF M i (soonF i) s 0 (if soonF i = 0 then 0 else 24)) M := by
  refine spec_of_wp (ls := [some (ob g 10), some (.int i), some (.int (nI s)), none, none, none, none]) rfl (Nat.le_of_ble_eq_true rfl) 4 rfl ?_
  refine wp_iload_n (pc' := 1) dX1_bestOfNext_0 rfl rfl ?_
  refine wp_cSI (μ' := mJ6_bitCount_0f7a4) (pc' := 4) dX1_bestOfNext_1 rfl mlX1_30 cfJ6_bitCount_0f7a4 ⟨(Nat.le_of_ble_eq_true rfl), (Nat.le_of_ble_eq_true rfl)⟩ (sp_bitCount) rfl rfl (Nat.le_of_ble_eq_true rfl) ?_
  refine wp_iconst (pc' := 5) 2 dX1_bestOfNext_4 rfl (by decide) ?_
  refine wp_irem (pc' := 6) dX1_bestOfNext_5 rfl (by decide) ?_
  refine wp_if_ne (pc' := 9) 13 dX1_bestOfNext_6 rfl (by decide) (fun h6 => ?_) (fun h6 => ?_)
  · refine wp_iconst (pc' := 14) 0 dX1_bestOfNext_13 rfl (by decide) ?_
    refine wp_ist3 (pc' := 15) dX1_bestOfNext_14 rfl (by decide) rfl ?_
    refine wp_iload_n (pc' := 16) dX1_bestOfNext_15 rfl rfl ?_
    refine wp_if_eq (pc' := 19) 24 dX1_bestOfNext_16 rfl (by decide) (fun _ => ?_) (fun hh => absurd hh (by decide))
    refine wp_iconst (pc' := 25) 0 dX1_bestOfNext_24 rfl (by decide) ?_
    refine wp_ist4 (pc' := 27) dX1_bestOfNext_25 rfl (by decide) rfl ?_
    refine wp_iconst (pc' := 28) 0 dX1_bestOfNext_27 rfl (by decide) ?_
    refine wp_ist5 (pc' := 30) dX1_bestOfNext_28 rfl (by decide) rfl ?_
    rw [show soonF i = 0 from if_neg h6, if_pos rfl]
    exact lp_bestOfNext hs s 0 (Nat.zero_add s) _ _
  · refine wp_iconst (pc' := 10) 1 dX1_bestOfNext_9 rfl (by decide) ?_
    refine wp_goto 14 dX1_bestOfNext_10 (by decide) ?_
    refine wp_ist3 (pc' := 15) dX1_bestOfNext_14 rfl (by decide) rfl ?_
    refine wp_iload_n (pc' := 16) dX1_bestOfNext_15 rfl rfl ?_
    refine wp_if_eq (pc' := 19) 24 dX1_bestOfNext_16 rfl (by decide) (fun hh => absurd hh (by decide)) (fun _ => ?_)
    refine wp_bipush (pc' := 21) 24 dX1_bestOfNext_19 rfl (by decide) ?_
    refine wp_goto 25 dX1_bestOfNext_21 (by decide) ?_
    refine wp_ist4 (pc' := 27) dX1_bestOfNext_25 rfl (by decide) rfl ?_
    refine wp_iconst (pc' := 28) 0 dX1_bestOfNext_27 rfl (by decide) ?_
    refine wp_ist5 (pc' := 30) dX1_bestOfNext_28 rfl (by decide) rfl ?_
    rw [show soonF i = 1 from if_pos h6, if_neg (by decide)]
    exact lp_bestOfNext hs s 0 (Nat.zero_add s) _ _

def ltV (M : Mem) (nr : Int32 → Int32) (a b bear : Int32) (s n : Nat) (part : Int32) : Int32 := if joF nr a b (bear ||| part) = 0 then 1 + bnF M (nI n) (soonF (nI n)) s 0 (if soonF (nI n) = 0 then 0 else 24) else 0
def ltM (nr : Int32 → Int32) (a b bear bog : Int32) (s : Nat) : Nat → Int32 → Mem → Mem
  | 0, _, M => M
  | n + 1, part, M => ltM nr a b bear bog s n ((part - 1) &&& bog) (putM M 12 256 (nI n) (ltV M nr a b bear s n part))
theorem nearM_put (M : Mem) (i x : Int32) : nearM (putM M 12 256 i x) = nearM M := by
  funext y
  unfold nearM
  rw [putM_ne _ _ _ _ _ (by decide)]

theorem dec1 (x : Int32) : x + Int32.ofInt (-1) = x - 1 := by
  rw [Int32.sub_eq_add_neg]
  rfl
theorem lp_laidByTurns {g : GG} {nr : Int32 → Int32} {a b bear bog : Int32} {s : Nat} (hs : s < 2 ^ 31) : ∀ (n : Nat), n < 2 ^ 31 → ∀ (M : Mem) (part x : Int32) (x8 : Option Value), nearM M = nr → x = nI n - 1 → wp g mX1_laidByTurns 19 [some (ob g 10), some (.int a), some (.int b), some (.int bear), some (.int bog), some (.int (nI s)), some (.int part), some (.int x), x8] [] M (fun q m => q = some (.int (atF 256 ((ltM nr a b bear bog s n part M).1 12) 0)) ∧ m = ltM nr a b bear bog s n part M) := by
  intro n
  induction n with
  | zero =>
    intro hn M part x x8 hM hx
    obtain rfl : x = -1 := hx
    refine wp_iload (pc' := 21) dX1_laidByTurns_19 rfl rfl ?_
    refine wp_if_lt (pc' := 24) 82 dX1_laidByTurns_21 rfl (by decide) (fun _ => ?_) (fun hh => absurd hh (by decide))
    refine wp_aload_n (pc' := 83) dX1_laidByTurns_82 rfl rfl ⟨_, rfl⟩ ?_
    refine wp_get (pc' := 86) (o := 10) dX1_laidByTurns_83 rfl flX1_18 (by decide) rfl rfl ?_
    refine wp_iconst (pc' := 87) 0 dX1_laidByTurns_86 rfl (by decide) ?_
    refine wp_cSI (μ' := mX6_at) (pc' := 90) dX1_laidByTurns_87 rfl mlX1_54 cfX6_at ⟨(Nat.le_of_ble_eq_true rfl), (Nat.le_of_ble_eq_true rfl)⟩ (sp_at arr12) rfl rfl (Nat.le_of_ble_eq_true rfl) ?_
    refine wp_ireti dX1_laidByTurns_90 rfl ?_
    exact ri_ok rfl rfl
  | succ n ih =>
    intro hn M part x x8 hM hx
    rw [nI_pred] at hx
    subst hx
    subst hM
    refine wp_iload (pc' := 21) dX1_laidByTurns_19 rfl rfl ?_
    refine wp_if_lt (pc' := 24) 82 dX1_laidByTurns_21 rfl (by decide) (fun h21 => ?_) (fun h21 => ?_)
    · exact absurd h21 (nI_pos (by omega))
    · refine wp_aload_n (pc' := 25) dX1_laidByTurns_24 rfl rfl ⟨_, rfl⟩ ?_
      refine wp_get (pc' := 28) (o := 10) dX1_laidByTurns_25 rfl flX1_12 (by decide) rfl rfl ?_
      refine wp_iload_n (pc' := 29) dX1_laidByTurns_28 rfl rfl ?_
      refine wp_iload_n (pc' := 30) dX1_laidByTurns_29 rfl rfl ?_
      refine wp_iload_n (pc' := 31) dX1_laidByTurns_30 rfl rfl ?_
      refine wp_iload (pc' := 33) dX1_laidByTurns_31 rfl rfl ?_
      refine wp_ior (pc' := 34) dX1_laidByTurns_33 rfl ?_
      refine wp_cVI (μ' := mX5_joins) (pc' := 37) (o := 11) dX1_laidByTurns_34 rfl mlX1_43 cfX5_joins ⟨(Nat.le_of_ble_eq_true rfl), (Nat.le_of_ble_eq_true rfl)⟩ (sp_joins) (by decide) rfl rfl rfl rfl rfl (Nat.le_of_ble_eq_true rfl) ?_
      refine wp_ist8 (pc' := 39) dX1_laidByTurns_37 rfl (by decide) rfl ?_
      refine wp_aload_n (pc' := 40) dX1_laidByTurns_39 rfl rfl ⟨_, rfl⟩ ?_
      refine wp_get (pc' := 43) (o := 10) dX1_laidByTurns_40 rfl flX1_18 (by decide) rfl rfl ?_
      refine wp_iload (pc' := 45) dX1_laidByTurns_43 rfl rfl ?_
      refine wp_iload (pc' := 47) dX1_laidByTurns_45 rfl rfl ?_
      refine wp_if_eq (pc' := 50) 54 dX1_laidByTurns_47 rfl (by decide) (fun h47 => ?_) (fun h47 => ?_)
      · refine wp_iconst (pc' := 55) 1 dX1_laidByTurns_54 rfl (by decide) ?_
        refine wp_aload_n (pc' := 56) dX1_laidByTurns_55 rfl rfl ⟨_, rfl⟩ ?_
        refine wp_iload (pc' := 58) dX1_laidByTurns_56 rfl rfl ?_
        refine wp_iload (pc' := 60) dX1_laidByTurns_58 rfl rfl ?_
        refine wp_cVI (μ' := mX1_bestOfNext) (pc' := 63) (o := 10) dX1_laidByTurns_60 rfl mlX1_47 cfX1_bestOfNext ⟨(Nat.le_of_ble_eq_true rfl), (Nat.le_of_ble_eq_true rfl)⟩ (sp_bestOfNext hs) (by decide) rfl rfl rfl rfl rfl (Nat.le_of_ble_eq_true rfl) ?_
        refine wp_iadd (pc' := 64) dX1_laidByTurns_63 rfl ?_
        refine wp_cSV (μ' := mX6_put) (pc' := 67) dX1_laidByTurns_64 rfl mlX1_50 cfX6_put ⟨(Nat.le_of_ble_eq_true rfl), (Nat.le_of_ble_eq_true rfl)⟩ (sp_put arr12) rfl rfl (Nat.le_of_ble_eq_true rfl) ?_
        refine wp_iload (pc' := 69) dX1_laidByTurns_67 rfl rfl ?_
        refine wp_iconst (pc' := 70) 1 dX1_laidByTurns_69 rfl (by decide) ?_
        refine wp_isub (pc' := 71) dX1_laidByTurns_70 rfl ?_
        refine wp_iload (pc' := 73) dX1_laidByTurns_71 rfl rfl ?_
        refine wp_iand (pc' := 74) dX1_laidByTurns_73 rfl ?_
        refine wp_ist6 (pc' := 76) dX1_laidByTurns_74 rfl (by decide) rfl ?_
        refine wp_inc7 (pc' := 79) (nI n - 1) dX1_laidByTurns_76 rfl (by decide) rfl (dec1 (nI n)) ?_
        refine wp_goto 19 dX1_laidByTurns_79 (by decide) ?_
        have e : ltV M (nearM M) a b bear s n part = _ := if_pos h47
        rw [ltM, e]
        exact ih (by omega) _ _ _ _ (nearM_put _ _ _) rfl
      · refine wp_iconst (pc' := 51) 0 dX1_laidByTurns_50 rfl (by decide) ?_
        refine wp_goto 64 dX1_laidByTurns_51 (by decide) ?_
        refine wp_cSV (μ' := mX6_put) (pc' := 67) dX1_laidByTurns_64 rfl mlX1_50 cfX6_put ⟨(Nat.le_of_ble_eq_true rfl), (Nat.le_of_ble_eq_true rfl)⟩ (sp_put arr12) rfl rfl (Nat.le_of_ble_eq_true rfl) ?_
        refine wp_iload (pc' := 69) dX1_laidByTurns_67 rfl rfl ?_
        refine wp_iconst (pc' := 70) 1 dX1_laidByTurns_69 rfl (by decide) ?_
        refine wp_isub (pc' := 71) dX1_laidByTurns_70 rfl ?_
        refine wp_iload (pc' := 73) dX1_laidByTurns_71 rfl rfl ?_
        refine wp_iand (pc' := 74) dX1_laidByTurns_73 rfl ?_
        refine wp_ist6 (pc' := 76) dX1_laidByTurns_74 rfl (by decide) rfl ?_
        refine wp_inc7 (pc' := 79) (nI n - 1) dX1_laidByTurns_76 rfl (by decide) rfl (dec1 (nI n)) ?_
        refine wp_goto 19 dX1_laidByTurns_79 (by decide) ?_
        have e : ltV M (nearM M) a b bear s n part = _ := if_neg h47
        rw [ltM, e]
        exact ih (by omega) _ _ _ _ (nearM_put _ _ _) rfl
theorem sp_laidByTurns {g : GG} {M : Mem} {a b bear bog : Int32} {s n : Nat} (hs : s < 2 ^ 31) (hn : n < 2 ^ 31) (he : pcF bog = nI s) (hf : shl 1 (nI s) = nI n) : RI g mX1_laidByTurns [ob g 10, .int a, .int b, .int bear, .int bog] M (atF 256 ((ltM (nearM M) a b bear bog s n bog M).1 12) 0) (ltM (nearM M) a b bear bog s n bog M) := by
  refine spec_of_wp (ls := [some (ob g 10), some (.int a), some (.int b), some (.int bear), some (.int bog), none, none, none, none]) rfl (Nat.le_of_ble_eq_true rfl) 4 rfl ?_
  refine wp_iload (pc' := 2) dX1_laidByTurns_0 rfl rfl ?_
  refine wp_cSI (μ' := mJ6_bitCount_0f7a4) (pc' := 5) dX1_laidByTurns_2 rfl mlX1_30 cfJ6_bitCount_0f7a4 ⟨(Nat.le_of_ble_eq_true rfl), (Nat.le_of_ble_eq_true rfl)⟩ (sp_bitCount) rfl rfl (Nat.le_of_ble_eq_true rfl) ?_
  refine wp_ist5 (pc' := 7) dX1_laidByTurns_5 rfl (by decide) rfl ?_
  refine wp_iload (pc' := 9) dX1_laidByTurns_7 rfl rfl ?_
  refine wp_ist6 (pc' := 11) dX1_laidByTurns_9 rfl (by decide) rfl ?_
  refine wp_iconst (pc' := 12) 1 dX1_laidByTurns_11 rfl (by decide) ?_
  refine wp_iload (pc' := 14) dX1_laidByTurns_12 rfl rfl ?_
  refine wp_ishl (pc' := 15) dX1_laidByTurns_14 rfl ?_
  refine wp_iconst (pc' := 16) 1 dX1_laidByTurns_15 rfl (by decide) ?_
  refine wp_isub (pc' := 17) dX1_laidByTurns_16 rfl ?_
  refine wp_ist7 (pc' := 19) dX1_laidByTurns_17 rfl (by decide) rfl ?_
  rw [he, hf]
  exact lp_laidByTurns hs n hn M _ _ _ rfl rfl

def faF (nr : Int32 → Int32) (a b others ends : Int32) : Nat → Int32 → Int32 → Int32
  | 0, _, few => few
  | n + 1, part, few => if few ≤ pcF part ∨ ¬ joF nr a b (ends ||| (others &&& (part ^^^ (-1)))) = 0 then faF nr a b others ends n ((part - others) &&& others) few else faF nr a b others ends n ((part - others) &&& others) (pcF part)

theorem lp_fewestApart {g : GG} {M : Mem} {a b others ends : Int32} {s : Nat} (hs : s < 2 ^ 31) : ∀ (n j : Nat), j + n = s → ∀ (few part : Int32), wp g mX1_fewestApart 40 [some (ob g 10), some (.int a), some (.int b), some (.int others), some (.int (nI s)), some (.int few), some (.int ends), some (.int part), some (.int (nI j))] [] M (fun q m => q = some (.int (faF (nearM M) a b others ends n part few)) ∧ m = M) := by
  intro n
  induction n with
  | zero =>
    intro j hj few part
    obtain rfl : j = s := by omega
    refine wp_iload (pc' := 42) dX1_fewestApart_40 rfl rfl ?_
    refine wp_iload (pc' := 44) dX1_fewestApart_42 rfl rfl ?_
    refine wp_icmp_ge (pc' := 47) 99 dX1_fewestApart_44 rfl (by decide) (fun h44 => ?_) (fun h44 => ?_)
    · refine wp_iload (pc' := 101) dX1_fewestApart_99 rfl rfl ?_
      refine wp_ireti dX1_fewestApart_101 rfl ?_
      exact ri_ok rfl rfl
    · exact absurd (nI_le (Nat.le_refl j) hs) h44
  | succ n ih =>
    intro j hj few part
    refine wp_iload (pc' := 42) dX1_fewestApart_40 rfl rfl ?_
    refine wp_iload (pc' := 44) dX1_fewestApart_42 rfl rfl ?_
    refine wp_icmp_ge (pc' := 47) 99 dX1_fewestApart_44 rfl (by decide) (fun h44 => ?_) (fun h44 => ?_)
    · refine wp_iload (pc' := 101) dX1_fewestApart_99 rfl rfl ?_
      refine wp_ireti dX1_fewestApart_101 rfl ?_
      exact absurd h44 (nI_ge (by omega) hs)
    · refine wp_iload (pc' := 49) dX1_fewestApart_47 rfl rfl ?_
      refine wp_cSI (μ' := mJ6_bitCount_0f7a4) (pc' := 52) dX1_fewestApart_49 rfl mlX1_30 cfJ6_bitCount_0f7a4 ⟨(Nat.le_of_ble_eq_true rfl), (Nat.le_of_ble_eq_true rfl)⟩ (sp_bitCount) rfl rfl (Nat.le_of_ble_eq_true rfl) ?_
      refine wp_iload (pc' := 54) dX1_fewestApart_52 rfl rfl ?_
      refine wp_icmp_ge (pc' := 57) 85 dX1_fewestApart_54 rfl (by decide) (fun h54 => ?_) (fun h54 => ?_)
      · refine wp_iload (pc' := 87) dX1_fewestApart_85 rfl rfl ?_
        refine wp_iload_n (pc' := 88) dX1_fewestApart_87 rfl rfl ?_
        refine wp_isub (pc' := 89) dX1_fewestApart_88 rfl ?_
        refine wp_iload_n (pc' := 90) dX1_fewestApart_89 rfl rfl ?_
        refine wp_iand (pc' := 91) dX1_fewestApart_90 rfl ?_
        refine wp_ist7 (pc' := 93) dX1_fewestApart_91 rfl (by decide) rfl ?_
        refine wp_inc8 (pc' := 96) (nI (j + 1)) dX1_fewestApart_93 rfl (by decide) rfl (nI_1 j) ?_
        refine wp_goto 40 dX1_fewestApart_96 (by decide) ?_
        rw [faF, if_pos (Or.inl h54)]
        exact ih (j + 1) (by omega) _ _
      · refine wp_aload_n (pc' := 58) dX1_fewestApart_57 rfl rfl ⟨_, rfl⟩ ?_
        refine wp_get (pc' := 61) (o := 10) dX1_fewestApart_58 rfl flX1_12 (by decide) rfl rfl ?_
        refine wp_iload_n (pc' := 62) dX1_fewestApart_61 rfl rfl ?_
        refine wp_iload_n (pc' := 63) dX1_fewestApart_62 rfl rfl ?_
        refine wp_iload (pc' := 65) dX1_fewestApart_63 rfl rfl ?_
        refine wp_iload_n (pc' := 66) dX1_fewestApart_65 rfl rfl ?_
        refine wp_iload (pc' := 68) dX1_fewestApart_66 rfl rfl ?_
        refine wp_iconst (pc' := 69) (-1) dX1_fewestApart_68 rfl (by decide) ?_
        refine wp_ixor (pc' := 70) dX1_fewestApart_69 rfl ?_
        refine wp_iand (pc' := 71) dX1_fewestApart_70 rfl ?_
        refine wp_ior (pc' := 72) dX1_fewestApart_71 rfl ?_
        refine wp_cVI (μ' := mX5_joins) (pc' := 75) (o := 11) dX1_fewestApart_72 rfl mlX1_43 cfX5_joins ⟨(Nat.le_of_ble_eq_true rfl), (Nat.le_of_ble_eq_true rfl)⟩ (sp_joins) (by decide) rfl rfl rfl rfl rfl (Nat.le_of_ble_eq_true rfl) ?_
        refine wp_if_ne (pc' := 78) 85 dX1_fewestApart_75 rfl (by decide) (fun h75 => ?_) (fun h75 => ?_)
        · refine wp_iload (pc' := 87) dX1_fewestApart_85 rfl rfl ?_
          refine wp_iload_n (pc' := 88) dX1_fewestApart_87 rfl rfl ?_
          refine wp_isub (pc' := 89) dX1_fewestApart_88 rfl ?_
          refine wp_iload_n (pc' := 90) dX1_fewestApart_89 rfl rfl ?_
          refine wp_iand (pc' := 91) dX1_fewestApart_90 rfl ?_
          refine wp_ist7 (pc' := 93) dX1_fewestApart_91 rfl (by decide) rfl ?_
          refine wp_inc8 (pc' := 96) (nI (j + 1)) dX1_fewestApart_93 rfl (by decide) rfl (nI_1 j) ?_
          refine wp_goto 40 dX1_fewestApart_96 (by decide) ?_
          rw [faF, if_pos (Or.inr h75)]
          exact ih (j + 1) (by omega) _ _
        · refine wp_iload (pc' := 80) dX1_fewestApart_78 rfl rfl ?_
          refine wp_cSI (μ' := mJ6_bitCount_0f7a4) (pc' := 83) dX1_fewestApart_80 rfl mlX1_30 cfJ6_bitCount_0f7a4 ⟨(Nat.le_of_ble_eq_true rfl), (Nat.le_of_ble_eq_true rfl)⟩ (sp_bitCount) rfl rfl (Nat.le_of_ble_eq_true rfl) ?_
          refine wp_ist5 (pc' := 85) dX1_fewestApart_83 rfl (by decide) rfl ?_
          refine wp_iload (pc' := 87) dX1_fewestApart_85 rfl rfl ?_
          refine wp_iload_n (pc' := 88) dX1_fewestApart_87 rfl rfl ?_
          refine wp_isub (pc' := 89) dX1_fewestApart_88 rfl ?_
          refine wp_iload_n (pc' := 90) dX1_fewestApart_89 rfl rfl ?_
          refine wp_iand (pc' := 91) dX1_fewestApart_90 rfl ?_
          refine wp_ist7 (pc' := 93) dX1_fewestApart_91 rfl (by decide) rfl ?_
          refine wp_inc8 (pc' := 96) (nI (j + 1)) dX1_fewestApart_93 rfl (by decide) rfl (nI_1 j) ?_
          refine wp_goto 40 dX1_fewestApart_96 (by decide) ?_
          rw [faF, if_neg (fun h => h.elim h54 (fun h => h h75))]
          exact ih (j + 1) (by omega) _ _
theorem sp_fewestApart {g : GG} {M : Mem} {a b others : Int32} {s : Nat} (hs : s < 2 ^ 31) (he : shl 1 (pcF others) = nI s) : RI g mX1_fewestApart [ob g 10, .int a, .int b, .int others] M (faF (nearM M) a b others (shl 1 a ||| shl 1 b) s 0 (pcF (nearM M (shl 1 a) &&& others))) M := by
  refine spec_of_wp (ls := [some (ob g 10), some (.int a), some (.int b), some (.int others), none, none, none, none, none]) rfl (Nat.le_of_ble_eq_true rfl) 5 rfl ?_
  refine wp_iconst (pc' := 1) 1 dX1_fewestApart_0 rfl (by decide) ?_
  refine wp_iload_n (pc' := 2) dX1_fewestApart_1 rfl rfl ?_
  refine wp_cSI (μ' := mJ6_bitCount_0f7a4) (pc' := 5) dX1_fewestApart_2 rfl mlX1_30 cfJ6_bitCount_0f7a4 ⟨(Nat.le_of_ble_eq_true rfl), (Nat.le_of_ble_eq_true rfl)⟩ (sp_bitCount) rfl rfl (Nat.le_of_ble_eq_true rfl) ?_
  refine wp_ishl (pc' := 6) dX1_fewestApart_5 rfl ?_
  refine wp_ist4 (pc' := 8) dX1_fewestApart_6 rfl (by decide) rfl ?_
  refine wp_aload_n (pc' := 9) dX1_fewestApart_8 rfl rfl ⟨_, rfl⟩ ?_
  refine wp_get (pc' := 12) (o := 10) dX1_fewestApart_9 rfl flX1_12 (by decide) rfl rfl ?_
  refine wp_iconst (pc' := 13) 1 dX1_fewestApart_12 rfl (by decide) ?_
  refine wp_iload_n (pc' := 14) dX1_fewestApart_13 rfl rfl ?_
  refine wp_ishl (pc' := 15) dX1_fewestApart_14 rfl ?_
  refine wp_cVI (μ' := mX5_near) (pc' := 18) (o := 11) dX1_fewestApart_15 rfl mlX1_66 cfX5_near ⟨(Nat.le_of_ble_eq_true rfl), (Nat.le_of_ble_eq_true rfl)⟩ (sp_near) (by decide) rfl rfl rfl rfl rfl (Nat.le_of_ble_eq_true rfl) ?_
  refine wp_iload_n (pc' := 19) dX1_fewestApart_18 rfl rfl ?_
  refine wp_iand (pc' := 20) dX1_fewestApart_19 rfl ?_
  refine wp_cSI (μ' := mJ6_bitCount_0f7a4) (pc' := 23) dX1_fewestApart_20 rfl mlX1_30 cfJ6_bitCount_0f7a4 ⟨(Nat.le_of_ble_eq_true rfl), (Nat.le_of_ble_eq_true rfl)⟩ (sp_bitCount) rfl rfl (Nat.le_of_ble_eq_true rfl) ?_
  refine wp_ist5 (pc' := 25) dX1_fewestApart_23 rfl (by decide) rfl ?_
  refine wp_iconst (pc' := 26) 1 dX1_fewestApart_25 rfl (by decide) ?_
  refine wp_iload_n (pc' := 27) dX1_fewestApart_26 rfl rfl ?_
  refine wp_ishl (pc' := 28) dX1_fewestApart_27 rfl ?_
  refine wp_iconst (pc' := 29) 1 dX1_fewestApart_28 rfl (by decide) ?_
  refine wp_iload_n (pc' := 30) dX1_fewestApart_29 rfl rfl ?_
  refine wp_ishl (pc' := 31) dX1_fewestApart_30 rfl ?_
  refine wp_ior (pc' := 32) dX1_fewestApart_31 rfl ?_
  refine wp_ist6 (pc' := 34) dX1_fewestApart_32 rfl (by decide) rfl ?_
  refine wp_iconst (pc' := 35) 0 dX1_fewestApart_34 rfl (by decide) ?_
  refine wp_ist7 (pc' := 37) dX1_fewestApart_35 rfl (by decide) rfl ?_
  refine wp_iconst (pc' := 38) 0 dX1_fewestApart_37 rfl (by decide) ?_
  refine wp_ist8 (pc' := 40) dX1_fewestApart_38 rfl (by decide) rfl ?_
  rw [he]
  exact lp_fewestApart hs s 0 (Nat.zero_add s) _ _
