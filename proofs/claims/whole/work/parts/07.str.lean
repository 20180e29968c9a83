
def pcF (x : Int32) : Int32 :=
  let a := x - (ushr x 1 &&& 1431655765)
  let b := (a &&& 858993459) + (ushr a 2 &&& 858993459)
  let c := (b + ushr b 4) &&& 252645135
  let d := c + ushr c 8
  (d + ushr d 16) &&& 63

theorem sp_bitCount {g : GG} {M : Mem} {x : Int32} : RI g mJ6_bitCount_0f7a4 [.int x] M (pcF x) M := by
  refine spec_of_wp (ls := [some (.int x)]) rfl (Nat.le_of_ble_eq_true rfl) 0 rfl ?_
  refine wp_iload_n (pc' := 1) dJ6_bitCount_0f7a4_0 rfl rfl ?_
  refine wp_iload_n (pc' := 2) dJ6_bitCount_0f7a4_1 rfl rfl ?_
  refine wp_iconst (pc' := 3) 1 dJ6_bitCount_0f7a4_2 rfl (by decide) ?_
  refine wp_iushr (pc' := 4) dJ6_bitCount_0f7a4_3 rfl ?_
  refine wp_ldcw (pc' := 7) (1431655765) dJ6_bitCount_0f7a4_4 rfl (wR21 _ (List.mem_of_getElem? (i := 4) rfl)) ?_
  refine wp_iand (pc' := 8) dJ6_bitCount_0f7a4_7 rfl ?_
  refine wp_isub (pc' := 9) dJ6_bitCount_0f7a4_8 rfl ?_
  refine wp_ist0 (pc' := 10) dJ6_bitCount_0f7a4_9 rfl (by decide) rfl ?_
  refine wp_iload_n (pc' := 11) dJ6_bitCount_0f7a4_10 rfl rfl ?_
  refine wp_ldcw (pc' := 14) (858993459) dJ6_bitCount_0f7a4_11 rfl (wR21 _ (List.mem_of_getElem? (i := 5) rfl)) ?_
  refine wp_iand (pc' := 15) dJ6_bitCount_0f7a4_14 rfl ?_
  refine wp_iload_n (pc' := 16) dJ6_bitCount_0f7a4_15 rfl rfl ?_
  refine wp_iconst (pc' := 17) 2 dJ6_bitCount_0f7a4_16 rfl (by decide) ?_
  refine wp_iushr (pc' := 18) dJ6_bitCount_0f7a4_17 rfl ?_
  refine wp_ldcw (pc' := 21) (858993459) dJ6_bitCount_0f7a4_18 rfl (wR21 _ (List.mem_of_getElem? (i := 5) rfl)) ?_
  refine wp_iand (pc' := 22) dJ6_bitCount_0f7a4_21 rfl ?_
  refine wp_iadd (pc' := 23) dJ6_bitCount_0f7a4_22 rfl ?_
  refine wp_ist0 (pc' := 24) dJ6_bitCount_0f7a4_23 rfl (by decide) rfl ?_
  refine wp_iload_n (pc' := 25) dJ6_bitCount_0f7a4_24 rfl rfl ?_
  refine wp_iload_n (pc' := 26) dJ6_bitCount_0f7a4_25 rfl rfl ?_
  refine wp_iconst (pc' := 27) 4 dJ6_bitCount_0f7a4_26 rfl (by decide) ?_
  refine wp_iushr (pc' := 28) dJ6_bitCount_0f7a4_27 rfl ?_
  refine wp_iadd (pc' := 29) dJ6_bitCount_0f7a4_28 rfl ?_
  refine wp_ldcw (pc' := 32) (252645135) dJ6_bitCount_0f7a4_29 rfl (wR21 _ (List.mem_of_getElem? (i := 6) rfl)) ?_
  refine wp_iand (pc' := 33) dJ6_bitCount_0f7a4_32 rfl ?_
  refine wp_ist0 (pc' := 34) dJ6_bitCount_0f7a4_33 rfl (by decide) rfl ?_
  refine wp_iload_n (pc' := 35) dJ6_bitCount_0f7a4_34 rfl rfl ?_
  refine wp_iload_n (pc' := 36) dJ6_bitCount_0f7a4_35 rfl rfl ?_
  refine wp_bipush (pc' := 38) 8 dJ6_bitCount_0f7a4_36 rfl (by decide) ?_
  refine wp_iushr (pc' := 39) dJ6_bitCount_0f7a4_38 rfl ?_
  refine wp_iadd (pc' := 40) dJ6_bitCount_0f7a4_39 rfl ?_
  refine wp_ist0 (pc' := 41) dJ6_bitCount_0f7a4_40 rfl (by decide) rfl ?_
  refine wp_iload_n (pc' := 42) dJ6_bitCount_0f7a4_41 rfl rfl ?_
  refine wp_iload_n (pc' := 43) dJ6_bitCount_0f7a4_42 rfl rfl ?_
  refine wp_bipush (pc' := 45) 16 dJ6_bitCount_0f7a4_43 rfl (by decide) ?_
  refine wp_iushr (pc' := 46) dJ6_bitCount_0f7a4_45 rfl ?_
  refine wp_iadd (pc' := 47) dJ6_bitCount_0f7a4_46 rfl ?_
  refine wp_ist0 (pc' := 48) dJ6_bitCount_0f7a4_47 rfl (by decide) rfl ?_
  refine wp_iload_n (pc' := 49) dJ6_bitCount_0f7a4_48 rfl rfl ?_
  refine wp_bipush (pc' := 51) 63 dJ6_bitCount_0f7a4_49 rfl (by decide) ?_
  refine wp_iand (pc' := 52) dJ6_bitCount_0f7a4_51 rfl ?_
  refine wp_ireti dJ6_bitCount_0f7a4_52 rfl ?_
  exact ri_ok rfl rfl
theorem sp_coder {g : GG} {M : Mem} {i : Nat} (hi : i < 3) : RI g mJ0_coder_7d493 [sk g i] M 0 M := by
  refine spec_of_wp (ls := [some (sk g i)]) rfl (Nat.le_of_ble_eq_true rfl) 0 rfl ?_
  refine wp_gcomp (pc' := 3) dJ0_coder_7d493_0 rfl (wR8 _ (List.mem_of_getElem? (i := 15) rfl)) ?_
  refine wp_if_eq (pc' := 6) 13 dJ0_coder_7d493_3 rfl (by decide) (fun hh => absurd hh (by decide)) (fun _ => ?_)
  refine wp_aload_n (pc' := 7) dJ0_coder_7d493_6 rfl rfl ⟨_, rfl⟩ ?_
  refine wp_kcod (pc' := 10) (i := i) dJ0_coder_7d493_7 rfl (wR8 _ (List.mem_of_getElem? (i := 16) rfl)) hi ?_
  refine wp_goto 14 dJ0_coder_7d493_10 (by decide) ?_
  refine wp_iretz dJ0_coder_7d493_14 rfl rfl ?_
  exact ri_ok rfl rfl
theorem sp_isLatin1 {g : GG} {M : Mem} {i : Nat} (hi : i < 3) : RI g mJ0_isLatin1_aae02 [sk g i] M 1 M := by
  refine spec_of_wp (ls := [some (sk g i)]) rfl (Nat.le_of_ble_eq_true rfl) 0 rfl ?_
  refine wp_gcomp (pc' := 3) dJ0_isLatin1_aae02_0 rfl (wR8 _ (List.mem_of_getElem? (i := 15) rfl)) ?_
  refine wp_if_eq (pc' := 6) 17 dJ0_isLatin1_aae02_3 rfl (by decide) (fun hh => absurd hh (by decide)) (fun _ => ?_)
  refine wp_aload_n (pc' := 7) dJ0_isLatin1_aae02_6 rfl rfl ⟨_, rfl⟩ ?_
  refine wp_kcod (pc' := 10) (i := i) dJ0_isLatin1_aae02_7 rfl (wR8 _ (List.mem_of_getElem? (i := 16) rfl)) hi ?_
  refine wp_if_ne (pc' := 13) 17 dJ0_isLatin1_aae02_10 rfl (by decide) (fun hh => absurd hh (by decide)) (fun _ => ?_)
  refine wp_iconst (pc' := 14) 1 dJ0_isLatin1_aae02_13 rfl (by decide) ?_
  refine wp_goto 18 dJ0_isLatin1_aae02_14 (by decide) ?_
  refine wp_iretz dJ0_isLatin1_aae02_18 rfl rfl ?_
  exact ri_ok rfl rfl
theorem str_len : ∀ i, i < 3 → strLen.getD i 0 < 2 ^ 31 := by decide
theorem sp_slen {g : GG} {M : Mem} {i : Nat} (hi : i < 3) : RI g mJ0_length_8abf5 [sk g i] M (nI (strLen.getD i 0)) M := by
  refine spec_of_wp (ls := [some (sk g i)]) rfl (Nat.le_of_ble_eq_true rfl) 0 rfl ?_
  refine wp_aload_n (pc' := 1) dJ0_length_8abf5_0 rfl rfl ⟨_, rfl⟩ ?_
  refine wp_kval (pc' := 4) (i := i) dJ0_length_8abf5_1 rfl (wR8 _ (List.mem_of_getElem? (i := 10) rfl)) hi ?_
  refine wp_klen (pc' := 5) (i := i) (v := nI (strLen.getD i 0)) dJ0_length_8abf5_4 rfl hi rfl ?_
  refine wp_aload_n (pc' := 6) dJ0_length_8abf5_5 rfl rfl ⟨_, rfl⟩ ?_
  refine wp_callK (μ' := mJ0_coder_7d493) (pc' := 9) (i := i) dJ0_length_8abf5_6 rfl mlJ0_335 cfJ0_coder_7d493 ⟨(Nat.le_of_ble_eq_true rfl), (Nat.le_of_ble_eq_true rfl)⟩ (sp_coder hi) hi rfl rfl rfl (Nat.le_of_ble_eq_true rfl) ?_
  refine wp_ishr (pc' := 10) dJ0_length_8abf5_9 rfl ?_
  refine wp_ireti dJ0_length_8abf5_10 rfl ?_
  exact ri_ok (sc_shr0 (str_len i hi)) rfl
theorem sp_ck3n {g : GG} {M : Mem} {j n : Nat} (hj : j < n) (hn : n < 2 ^ 31) : RI g mJ3_checkIndex_8e157 [.int (nI j), .int (nI n), .null] M (nI j) M := by
  refine spec_of_wp (ls := [some (.int (nI j)), some (.int (nI n)), some .null]) rfl (Nat.le_of_ble_eq_true rfl) 0 rfl ?_
  refine wp_iload_n (pc' := 1) dJ3_checkIndex_8e157_0 rfl rfl ?_
  refine wp_if_lt (pc' := 4) 9 dJ3_checkIndex_8e157_1 rfl (by decide) (fun h1 => ?_) (fun h1 => ?_)
  · exact absurd h1 (nI_pos (by omega))
  · refine wp_iload_n (pc' := 5) dJ3_checkIndex_8e157_4 rfl rfl ?_
    refine wp_iload_n (pc' := 6) dJ3_checkIndex_8e157_5 rfl rfl ?_
    refine wp_icmp_lt (pc' := 9) 16 dJ3_checkIndex_8e157_6 rfl (by decide) (fun h6 => ?_) (fun h6 => ?_)
    · refine wp_iload_n (pc' := 17) dJ3_checkIndex_8e157_16 rfl rfl ?_
      refine wp_ireti dJ3_checkIndex_8e157_17 rfl ?_
      exact ri_ok rfl rfl
    · exact absurd (nI_lt hj hn) h6
theorem sp_ck3r {g : GG} {M : Mem} {j n t : Nat} (hj : j < n) (hn : n < 2 ^ 31) : RI g mJ3_checkIndex_8e157 [.int (nI j), .int (nI n), .ref t] M (nI j) M := by
  refine spec_of_wp (ls := [some (.int (nI j)), some (.int (nI n)), some (.ref t)]) rfl (Nat.le_of_ble_eq_true rfl) 0 rfl ?_
  refine wp_iload_n (pc' := 1) dJ3_checkIndex_8e157_0 rfl rfl ?_
  refine wp_if_lt (pc' := 4) 9 dJ3_checkIndex_8e157_1 rfl (by decide) (fun h1 => ?_) (fun h1 => ?_)
  · exact absurd h1 (nI_pos (by omega))
  · refine wp_iload_n (pc' := 5) dJ3_checkIndex_8e157_4 rfl rfl ?_
    refine wp_iload_n (pc' := 6) dJ3_checkIndex_8e157_5 rfl rfl ?_
    refine wp_icmp_lt (pc' := 9) 16 dJ3_checkIndex_8e157_6 rfl (by decide) (fun h6 => ?_) (fun h6 => ?_)
    · refine wp_iload_n (pc' := 17) dJ3_checkIndex_8e157_16 rfl rfl ?_
      refine wp_ireti dJ3_checkIndex_8e157_17 rfl ?_
      exact ri_ok rfl rfl
    · exact absurd (nI_lt hj hn) h6
theorem sp_ck3 {g : GG} {M : Mem} {j n : Nat} {v : Value} (hv : v = .null ∨ ∃ t : Nat, v = .ref t) (hj : j < n) (hn : n < 2 ^ 31) : RI g mJ3_checkIndex_8e157 [.int (nI j), .int (nI n), v] M (nI j) M := by
  rcases hv with rfl | ⟨t, rfl⟩
  · exact sp_ck3n hj hn
  · exact sp_ck3r hj hn
theorem sp_ck0 {g : GG} {M : Mem} {j n : Nat} (hj : j < n) (hn : n < 2 ^ 31) : RV g mJ0_checkIndex_df160 [.int (nI j), .int (nI n)] M M := by
  refine spec_of_wp (ls := [some (.int (nI j)), some (.int (nI n))]) rfl (Nat.le_of_ble_eq_true rfl) 0 rfl ?_
  refine wp_iload_n (pc' := 1) dJ0_checkIndex_df160_0 rfl rfl ?_
  refine wp_iload_n (pc' := 2) dJ0_checkIndex_df160_1 rfl rfl ?_
  refine wp_gsio (pc' := 5) dJ0_checkIndex_df160_2 rfl (wR9 _ (List.mem_of_getElem? (i := 8) rfl)) (fun fm hfm => ?_)
  refine wp_cSI (μ' := mJ3_checkIndex_8e157) (pc' := 8) dJ0_checkIndex_df160_5 rfl mlJ0_1059 cfJ3_checkIndex_8e157 ⟨(Nat.le_of_ble_eq_true rfl), (Nat.le_of_ble_eq_true rfl)⟩ (sp_ck3 hfm hj hn) rfl rfl (Nat.le_of_ble_eq_true rfl) ?_
  refine wp_pop (pc' := 9) dJ0_checkIndex_df160_8 rfl rfl ?_
  refine wp_vret dJ0_checkIndex_df160_9 rfl ?_
  exact rv_ok rfl
def chS (i j : Nat) : Int32 := (strB.getD i []).getD j 0 &&& 255
theorem sp_ch1 {g : GG} {M : Mem} {i j : Nat} (hi : i < 3) (hj : j < strLen.getD i 0) : RI g mJ1_charAt_3b067 [sv g i, .int (nI j)] M (chS i j) M := by
  refine spec_of_wp (ls := [some (sv g i), some (.int (nI j))]) rfl (Nat.le_of_ble_eq_true rfl) 0 rfl ?_
  refine wp_iload_n (pc' := 1) dJ1_charAt_3b067_0 rfl rfl ?_
  refine wp_aload_n (pc' := 2) dJ1_charAt_3b067_1 rfl rfl ⟨_, rfl⟩ ?_
  refine wp_klen (pc' := 3) (i := i) (v := nI (strLen.getD i 0)) dJ1_charAt_3b067_2 rfl hi rfl ?_
  refine wp_cSV (μ' := mJ0_checkIndex_df160) (pc' := 6) dJ1_charAt_3b067_3 rfl mlJ1_9 cfJ0_checkIndex_df160 ⟨(Nat.le_of_ble_eq_true rfl), (Nat.le_of_ble_eq_true rfl)⟩ (sp_ck0 hj (str_len _ hi)) rfl rfl (Nat.le_of_ble_eq_true rfl) ?_
  refine wp_aload_n (pc' := 7) dJ1_charAt_3b067_6 rfl rfl ⟨_, rfl⟩ ?_
  refine wp_iload_n (pc' := 8) dJ1_charAt_3b067_7 rfl rfl ?_
  refine wp_kbald (pc' := 9) (i := i) dJ1_charAt_3b067_8 rfl hi (vp_in_nI hj (str_len _ hi)) rfl ?_
  refine wp_sipush (pc' := 12) 255 dJ1_charAt_3b067_9 rfl (by decide) ?_
  refine wp_iand (pc' := 13) dJ1_charAt_3b067_12 rfl ?_
  refine wp_i2c (pc' := 14) dJ1_charAt_3b067_13 rfl ?_
  refine wp_iretz dJ1_charAt_3b067_14 rfl (by rw [sc_c2]; exact sc_nar _) ?_
  exact ri_ok (by rw [sc_c2, nI_clamp (Nat.lt_trans hj (str_len _ hi))]; rfl) rfl
theorem sp_charAt {g : GG} {M : Mem} {i j : Nat} (hi : i < 3) (hj : j < strLen.getD i 0) : RI g mJ0_charAt_5068e [sk g i, .int (nI j)] M (chS i j) M := by
  refine spec_of_wp (ls := [some (sk g i), some (.int (nI j))]) rfl (Nat.le_of_ble_eq_true rfl) 0 rfl ?_
  refine wp_aload_n (pc' := 1) dJ0_charAt_5068e_0 rfl rfl ⟨_, rfl⟩ ?_
  refine wp_callK (μ' := mJ0_isLatin1_aae02) (pc' := 4) (i := i) dJ0_charAt_5068e_1 rfl mlJ0_492 cfJ0_isLatin1_aae02 ⟨(Nat.le_of_ble_eq_true rfl), (Nat.le_of_ble_eq_true rfl)⟩ (sp_isLatin1 hi) hi rfl rfl rfl (Nat.le_of_ble_eq_true rfl) ?_
  refine wp_if_eq (pc' := 7) 16 dJ0_charAt_5068e_4 rfl (by decide) (fun hh => absurd hh (by decide)) (fun _ => ?_)
  refine wp_aload_n (pc' := 8) dJ0_charAt_5068e_7 rfl rfl ⟨_, rfl⟩ ?_
  refine wp_kval (pc' := 11) (i := i) dJ0_charAt_5068e_8 rfl (wR8 _ (List.mem_of_getElem? (i := 10) rfl)) hi ?_
  refine wp_iload_n (pc' := 12) dJ0_charAt_5068e_11 rfl rfl ?_
  refine wp_cSI (μ' := mJ1_charAt_3b067) (pc' := 15) dJ0_charAt_5068e_12 rfl mlJ0_495 cfJ1_charAt_3b067 ⟨(Nat.le_of_ble_eq_true rfl), (Nat.le_of_ble_eq_true rfl)⟩ (sp_ch1 hi hj) rfl rfl (Nat.le_of_ble_eq_true rfl) ?_
  refine wp_iretz dJ0_charAt_5068e_15 rfl (sc_nar _) ?_
  exact ri_ok rfl rfl
