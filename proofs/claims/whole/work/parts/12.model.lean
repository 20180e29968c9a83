
/-! ===== the reference: its small methods ===== -/
def inF (v lo hi : Int32) : Int32 := if v < lo ∨ hi < v then 0 else 1

theorem sm_in {g : GG} {M : Mem} {v lo hi : Int32} : RI g mX7_in [.int v, .int lo, .int hi] M (inF v lo hi) M := by
  refine spec_of_wp (ls := [some (.int v), some (.int lo), some (.int hi)]) rfl (Nat.le_of_ble_eq_true rfl) 0 rfl ?_
  refine wp_iload_n (pc' := 1) dX7_in_0 rfl rfl ?_
  refine wp_iload_n (pc' := 2) dX7_in_1 rfl rfl ?_
  refine wp_icmp_lt (pc' := 5) 14 dX7_in_2 rfl (by decide) (fun h2 => ?_) (fun h2 => ?_)
  · refine wp_iconst (pc' := 15) 0 dX7_in_14 rfl (by decide) ?_
    refine wp_iretz dX7_in_15 rfl rfl ?_
    exact ri_ok (by rw [inF, if_pos (Or.inl h2)]) rfl
  · refine wp_iload_n (pc' := 6) dX7_in_5 rfl rfl ?_
    refine wp_iload_n (pc' := 7) dX7_in_6 rfl rfl ?_
    refine wp_icmp_gt (pc' := 10) 14 dX7_in_7 rfl (by decide) (fun h7 => ?_) (fun h7 => ?_)
    · refine wp_iconst (pc' := 15) 0 dX7_in_14 rfl (by decide) ?_
      refine wp_iretz dX7_in_15 rfl rfl ?_
      exact ri_ok (by rw [inF, if_pos (Or.inr h7)]) rfl
    · refine wp_iconst (pc' := 11) 1 dX7_in_10 rfl (by decide) ?_
      refine wp_goto 15 dX7_in_11 (by decide) ?_
      refine wp_iretz dX7_in_15 rfl rfl ?_
      exact ri_ok (by rw [inF, if_neg (fun h => h.elim h2 h7)]) rfl
def mCellF (M : Mem) (c : Int32) : Int32 := inF c 0 (M.1 25 8 * M.1 25 9 - 1)
def mWalkF (M : Mem) (c : Int32) : Int32 := inF c 0 (M.1 25 10 - 1)
def th (M : Mem) : Mem := upI M 25 0 0
theorem nar_in (v lo hi : Int32) : narrow .boolean (.int (inF v lo hi)) = .int (inF v lo hi) := by
  unfold inF
  split <;> rfl
theorem sm_isCell {g : GG} {M : Mem} {c : Int32} : RI g mX7_isCell [ob g 25, .int c] M (mCellF M c) M := by
  refine spec_of_wp (ls := [some (ob g 25), some (.int c)]) rfl (Nat.le_of_ble_eq_true rfl) 0 rfl ?_
  refine wp_iload_n (pc' := 1) dX7_isCell_0 rfl rfl ?_
  refine wp_iconst (pc' := 2) 0 dX7_isCell_1 rfl (by decide) ?_
  refine wp_aload_n (pc' := 3) dX7_isCell_2 rfl rfl ⟨_, rfl⟩ ?_
  refine wp_get (pc' := 6) (o := 25) dX7_isCell_3 rfl flX7_51 (by decide) rfl rfl ?_
  refine wp_aload_n (pc' := 7) dX7_isCell_6 rfl rfl ⟨_, rfl⟩ ?_
  refine wp_get (pc' := 10) (o := 25) dX7_isCell_7 rfl flX7_54 (by decide) rfl rfl ?_
  refine wp_imul (pc' := 11) dX7_isCell_10 rfl ?_
  refine wp_iconst (pc' := 12) 1 dX7_isCell_11 rfl (by decide) ?_
  refine wp_isub (pc' := 13) dX7_isCell_12 rfl ?_
  refine wp_cSI (μ' := mX7_in) (pc' := 16) dX7_isCell_13 rfl mlX7_57 cfX7_in ⟨(Nat.le_of_ble_eq_true rfl), (Nat.le_of_ble_eq_true rfl)⟩ (sm_in) rfl rfl (Nat.le_of_ble_eq_true rfl) ?_
  refine wp_iretz dX7_isCell_16 rfl (nar_in _ _ _) ?_
  exact ri_ok rfl rfl
theorem sm_isWalker {g : GG} {M : Mem} {c : Int32} : RI g mX7_isWalker [ob g 25, .int c] M (mWalkF M c) M := by
  refine spec_of_wp (ls := [some (ob g 25), some (.int c)]) rfl (Nat.le_of_ble_eq_true rfl) 0 rfl ?_
  refine wp_iload_n (pc' := 1) dX7_isWalker_0 rfl rfl ?_
  refine wp_iconst (pc' := 2) 0 dX7_isWalker_1 rfl (by decide) ?_
  refine wp_aload_n (pc' := 3) dX7_isWalker_2 rfl rfl ⟨_, rfl⟩ ?_
  refine wp_get (pc' := 6) (o := 25) dX7_isWalker_3 rfl flX7_61 (by decide) rfl rfl ?_
  refine wp_iconst (pc' := 7) 1 dX7_isWalker_6 rfl (by decide) ?_
  refine wp_isub (pc' := 8) dX7_isWalker_7 rfl ?_
  refine wp_cSI (μ' := mX7_in) (pc' := 11) dX7_isWalker_8 rfl mlX7_57 cfX7_in ⟨(Nat.le_of_ble_eq_true rfl), (Nat.le_of_ble_eq_true rfl)⟩ (sm_in) rfl rfl (Nat.le_of_ble_eq_true rfl) ?_
  refine wp_iretz dX7_isWalker_11 rfl (nar_in _ _ _) ?_
  exact ri_ok rfl rfl
def bM (v : Int64) (n : Nat) : Int32 := ((v >>> ((8 * nI n).toInt64 &&& 63)) &&& 255).toInt32
def mtyM (v : Int64) : Nat → Nat → Mem → Mem
  | 0, _, M => M
  | n + 1, t, M => mtyM v n (t + 1) (upI (upI M 26 t (bM v n)) 25 3 (nI t + 1))
theorem lpm_type {g : GG} {v : Int64} : ∀ (n t : Nat), t + n ≤ 300 → ∀ (M : Mem) (x k : Int32), M.1 25 3 = nI t → x = nI n - 1 → wp g mX7_type 37 [some (ob g 25), some (.long v), none, some (.int k), some (.int x)] [] M (fun q m => q = some (.int (nI (t + n))) ∧ m = mtyM v n t M) := by
  intro n
  induction n with
  | zero =>
    intro t ht M x k hM hx
    obtain rfl : x = -1 := hx
    refine wp_iload (pc' := 39) dX7_type_37 rfl rfl ?_
    refine wp_if_lt (pc' := 42) 79 dX7_type_39 rfl (by decide) (fun _ => ?_) (fun hh => absurd hh (by decide))
    refine wp_aload_n (pc' := 80) dX7_type_79 rfl rfl ⟨_, rfl⟩ ?_
    refine wp_get (pc' := 83) (o := 25) dX7_type_80 rfl flX7_64 (by decide) rfl rfl ?_
    refine wp_ireti dX7_type_83 rfl ?_
    exact ri_ok hM rfl
  | succ n ih =>
    intro t ht M x k hM hx
    rw [nI_pred] at hx
    subst hx
    refine wp_iload (pc' := 39) dX7_type_37 rfl rfl ?_
    refine wp_if_lt (pc' := 42) 79 dX7_type_39 rfl (by decide) (fun h39 => ?_) (fun h39 => ?_)
    · exact absurd h39 (nI_pos (by omega))
    · refine wp_aload_n (pc' := 43) dX7_type_42 rfl rfl ⟨_, rfl⟩ ?_
      refine wp_get (pc' := 46) (o := 25) dX7_type_43 rfl flX7_7 (by decide) rfl rfl ?_
      refine wp_aload_n (pc' := 47) dX7_type_46 rfl rfl ⟨_, rfl⟩ ?_
      refine wp_get (pc' := 50) (o := 25) dX7_type_47 rfl flX7_64 (by decide) rfl rfl ?_
      refine wp_lload_n (pc' := 51) dX7_type_50 rfl rfl ?_
      refine wp_bipush (pc' := 53) 8 dX7_type_51 rfl (by decide) ?_
      refine wp_iload (pc' := 55) dX7_type_53 rfl rfl ?_
      refine wp_imul (pc' := 56) dX7_type_55 rfl ?_
      refine wp_lshr (pc' := 57) dX7_type_56 rfl ?_
      refine wp_ldc2 (pc' := 60) (255) dX7_type_57 rfl (wR5 _ (List.mem_of_getElem? (i := 12) rfl)) ?_
      refine wp_land (pc' := 61) dX7_type_60 rfl ?_
      refine wp_l2i (pc' := 62) dX7_type_61 rfl ?_
      refine wp_iastN (pc' := 63) (o := 26) (n := 300) (t) dX7_type_62 rfl (by decide) (fun _ _ => rfl) (hM) (by omega) (by decide) ?_
      refine wp_aload_n (pc' := 64) dX7_type_63 rfl rfl ⟨_, rfl⟩ ?_
      refine wp_dup (pc' := 65) dX7_type_64 rfl rfl ?_
      refine wp_get (pc' := 68) (o := 25) dX7_type_65 rfl flX7_64 (by decide) rfl rfl ?_
      refine wp_iconst (pc' := 69) 1 dX7_type_68 rfl (by decide) ?_
      refine wp_iadd (pc' := 70) dX7_type_69 rfl ?_
      refine wp_put (pc' := 73) (o := 25) dX7_type_70 rfl fpX7_64 (by decide) rfl (Nat.le_of_ble_eq_true rfl) rfl ?_
      refine wp_inc4 (pc' := 76) (nI n - 1) dX7_type_73 rfl (by decide) rfl (dec1 (nI n)) ?_
      refine wp_goto 37 dX7_type_76 (by decide) ?_
      have e : upI (upI M 26 t (bM v n)) 25 3 (M.1 25 3 + 1) = upI (upI M 26 t (bM v n)) 25 3 (nI t + 1) := by rw [hM]
      rw [show t + (n + 1) = (t + 1) + n by omega]
      refine wp_mem e ?_
      exact ih (t + 1) (by omega) _ _ _ (nI_1 t) rfl
theorem sm_type_bad {g : GG} {M : Mem} {v : Int64} {k : Int32} (h : inF k 1 8 = 0) : RI g mX7_type [ob g 25, .long v, .int k] M (-1) (th M) := by
  refine spec_of_wp (ls := [some (ob g 25), some (.long v), none, some (.int k), none]) rfl (Nat.le_of_ble_eq_true rfl) 1 rfl ?_
  refine wp_aload_n (pc' := 1) dX7_type_0 rfl rfl ⟨_, rfl⟩ ?_
  refine wp_iconst (pc' := 2) 0 dX7_type_1 rfl (by decide) ?_
  refine wp_put (pc' := 5) (o := 25) dX7_type_2 rfl fpX7_47 (by decide) rfl (Nat.le_of_ble_eq_true rfl) rfl ?_
  refine wp_iload_n (pc' := 6) dX7_type_5 rfl rfl ?_
  refine wp_iconst (pc' := 7) 1 dX7_type_6 rfl (by decide) ?_
  refine wp_bipush (pc' := 9) 8 dX7_type_7 rfl (by decide) ?_
  refine wp_cSI (μ' := mX7_in) (pc' := 12) dX7_type_9 rfl mlX7_57 cfX7_in ⟨(Nat.le_of_ble_eq_true rfl), (Nat.le_of_ble_eq_true rfl)⟩ (sm_in) rfl rfl (Nat.le_of_ble_eq_true rfl) ?_
  refine wp_if_ne (pc' := 15) 17 dX7_type_12 rfl (by decide) (fun h12 => ?_) (fun h12 => ?_)
  · exact absurd h h12
  · refine wp_iconst (pc' := 16) (-1) dX7_type_15 rfl (by decide) ?_
    refine wp_ireti dX7_type_16 rfl ?_
    exact ri_ok rfl rfl
theorem sm_type_full {g : GG} {M : Mem} {v : Int64} {k : Int32} (h : ¬ inF k 1 8 = 0) (h3 : ¬ M.1 25 3 + k ≤ 300) : RI g mX7_type [ob g 25, .long v, .int k] M (-3) (th M) := by
  refine spec_of_wp (ls := [some (ob g 25), some (.long v), none, some (.int k), none]) rfl (Nat.le_of_ble_eq_true rfl) 1 rfl ?_
  refine wp_aload_n (pc' := 1) dX7_type_0 rfl rfl ⟨_, rfl⟩ ?_
  refine wp_iconst (pc' := 2) 0 dX7_type_1 rfl (by decide) ?_
  refine wp_put (pc' := 5) (o := 25) dX7_type_2 rfl fpX7_47 (by decide) rfl (Nat.le_of_ble_eq_true rfl) rfl ?_
  refine wp_iload_n (pc' := 6) dX7_type_5 rfl rfl ?_
  refine wp_iconst (pc' := 7) 1 dX7_type_6 rfl (by decide) ?_
  refine wp_bipush (pc' := 9) 8 dX7_type_7 rfl (by decide) ?_
  refine wp_cSI (μ' := mX7_in) (pc' := 12) dX7_type_9 rfl mlX7_57 cfX7_in ⟨(Nat.le_of_ble_eq_true rfl), (Nat.le_of_ble_eq_true rfl)⟩ (sm_in) rfl rfl (Nat.le_of_ble_eq_true rfl) ?_
  refine wp_if_ne (pc' := 15) 17 dX7_type_12 rfl (by decide) (fun q12 => ?_) (fun q12 => ?_)
  · refine wp_aload_n (pc' := 18) dX7_type_17 rfl rfl ⟨_, rfl⟩ ?_
    refine wp_get (pc' := 21) (o := 25) dX7_type_18 rfl flX7_64 (by decide) rfl rfl ?_
    refine wp_iload_n (pc' := 22) dX7_type_21 rfl rfl ?_
    refine wp_iadd (pc' := 23) dX7_type_22 rfl ?_
    refine wp_sipush (pc' := 26) 300 dX7_type_23 rfl (by decide) ?_
    refine wp_icmp_le (pc' := 29) 32 dX7_type_26 rfl (by decide) (fun q26 => ?_) (fun q26 => ?_)
    · exact absurd q26 h3
    · refine wp_bipush (pc' := 31) (-3) dX7_type_29 rfl (by decide) ?_
      refine wp_ireti dX7_type_31 rfl ?_
      exact ri_ok rfl rfl
  · exact absurd q12 h
theorem sm_type_ok {g : GG} {M : Mem} {v : Int64} {k t : Nat} (h : ¬ inF (nI k) 1 8 = 0) (h3 : M.1 25 3 + nI k ≤ 300) (ht : M.1 25 3 = nI t) (htk : t + k ≤ 300) : RI g mX7_type [ob g 25, .long v, .int (nI k)] M (nI (t + k)) (mtyM v k t (th M)) := by
  refine spec_of_wp (ls := [some (ob g 25), some (.long v), none, some (.int (nI k)), none]) rfl (Nat.le_of_ble_eq_true rfl) 1 rfl ?_
  refine wp_aload_n (pc' := 1) dX7_type_0 rfl rfl ⟨_, rfl⟩ ?_
  refine wp_iconst (pc' := 2) 0 dX7_type_1 rfl (by decide) ?_
  refine wp_put (pc' := 5) (o := 25) dX7_type_2 rfl fpX7_47 (by decide) rfl (Nat.le_of_ble_eq_true rfl) rfl ?_
  refine wp_iload_n (pc' := 6) dX7_type_5 rfl rfl ?_
  refine wp_iconst (pc' := 7) 1 dX7_type_6 rfl (by decide) ?_
  refine wp_bipush (pc' := 9) 8 dX7_type_7 rfl (by decide) ?_
  refine wp_cSI (μ' := mX7_in) (pc' := 12) dX7_type_9 rfl mlX7_57 cfX7_in ⟨(Nat.le_of_ble_eq_true rfl), (Nat.le_of_ble_eq_true rfl)⟩ (sm_in) rfl rfl (Nat.le_of_ble_eq_true rfl) ?_
  refine wp_if_ne (pc' := 15) 17 dX7_type_12 rfl (by decide) (fun q12 => ?_) (fun q12 => ?_)
  · refine wp_aload_n (pc' := 18) dX7_type_17 rfl rfl ⟨_, rfl⟩ ?_
    refine wp_get (pc' := 21) (o := 25) dX7_type_18 rfl flX7_64 (by decide) rfl rfl ?_
    refine wp_iload_n (pc' := 22) dX7_type_21 rfl rfl ?_
    refine wp_iadd (pc' := 23) dX7_type_22 rfl ?_
    refine wp_sipush (pc' := 26) 300 dX7_type_23 rfl (by decide) ?_
    refine wp_icmp_le (pc' := 29) 32 dX7_type_26 rfl (by decide) (fun q26 => ?_) (fun q26 => ?_)
    · refine wp_iload_n (pc' := 33) dX7_type_32 rfl rfl ?_
      refine wp_iconst (pc' := 34) 1 dX7_type_33 rfl (by decide) ?_
      refine wp_isub (pc' := 35) dX7_type_34 rfl ?_
      refine wp_ist4 (pc' := 37) dX7_type_35 rfl (by decide) rfl ?_
      exact lpm_type k t htk _ _ _ ht rfl
    · exact absurd h3 q26
  · exact absurd q12 h
theorem sm_clear {g : GG} {M : Mem} : RI g mX7_clear [ob g 25] M (M.1 25 3) (upI (th M) 25 3 0) := by
  refine spec_of_wp (ls := [some (ob g 25), none]) rfl (Nat.le_of_ble_eq_true rfl) 1 rfl ?_
  refine wp_aload_n (pc' := 1) dX7_clear_0 rfl rfl ⟨_, rfl⟩ ?_
  refine wp_iconst (pc' := 2) 0 dX7_clear_1 rfl (by decide) ?_
  refine wp_put (pc' := 5) (o := 25) dX7_clear_2 rfl fpX7_47 (by decide) rfl (Nat.le_of_ble_eq_true rfl) rfl ?_
  refine wp_aload_n (pc' := 6) dX7_clear_5 rfl rfl ⟨_, rfl⟩ ?_
  refine wp_get (pc' := 9) (o := 25) dX7_clear_6 rfl flX7_64 (by decide) rfl rfl ?_
  refine wp_ist1 (pc' := 10) dX7_clear_9 rfl (by decide) rfl ?_
  refine wp_aload_n (pc' := 11) dX7_clear_10 rfl rfl ⟨_, rfl⟩ ?_
  refine wp_iconst (pc' := 12) 0 dX7_clear_11 rfl (by decide) ?_
  refine wp_put (pc' := 15) (o := 25) dX7_clear_12 rfl fpX7_64 (by decide) rfl (Nat.le_of_ble_eq_true rfl) rfl ?_
  refine wp_iload_n (pc' := 16) dX7_clear_15 rfl rfl ?_
  refine wp_ireti dX7_clear_16 rfl ?_
  exact ri_ok rfl rfl

def bg0 : Nat → Nat → (Nat → Int32) → (Nat → Int32)
  | 0, _, f => f
  | n + 1, j, f => bg0 n (j + 1) (upd f j 0)
def bg1 (told : Nat → Int32) (sink : Int32) : Nat → Nat → (Nat → Int32) → (Nat → Int32)
  | 0, _, f => f
  | n + 1, j, f => bg1 told sink n (j + 1) (upd (upd (upd f j (told j)) (24 + j) (if told j = 2 then sink else 0)) (48 + j) (-9))

theorem lpm_bg1 {g : GG} {M : Mem} {N : Nat} (hN : N ≤ 24) (hwh : M.1 25 8 * M.1 25 9 = nI N) : ∀ (n j : Nat), j + n = N → ∀ (f : Nat → Int32), wp g mX7_begins 23 [some (ob g 25), some (.int (nI j))] [] (setO M 31 f) (fun q m => q = none ∧ m = setO M 31 (bg1 (M.1 27) (M.1 25 11) n j f)) := by
  intro n
  induction n with
  | zero =>
    intro j hj f
    obtain rfl : j = N := by omega
    refine wp_iload_n (pc' := 24) dX7_begins_23 rfl rfl ?_
    refine wp_aload_n (pc' := 25) dX7_begins_24 rfl rfl ⟨_, rfl⟩ ?_
    refine wp_get (pc' := 28) (o := 25) dX7_begins_25 rfl flX7_51 (by decide) rfl rfl ?_
    refine wp_aload_n (pc' := 29) dX7_begins_28 rfl rfl ⟨_, rfl⟩ ?_
    refine wp_get (pc' := 32) (o := 25) dX7_begins_29 rfl flX7_54 (by decide) rfl rfl ?_
    refine wp_imul (pc' := 33) dX7_begins_32 rfl ?_
    refine wp_top (hwh) ?_
    refine wp_icmp_ge (pc' := 36) 92 dX7_begins_33 rfl (by decide) (fun h33 => ?_) (fun h33 => ?_)
    · refine wp_vret dX7_begins_92 rfl ?_
      exact rv_ok rfl
    · exact absurd (nI_le (Nat.le_refl j) (by omega)) h33
  | succ n ih =>
    intro j hj f
    refine wp_iload_n (pc' := 24) dX7_begins_23 rfl rfl ?_
    refine wp_aload_n (pc' := 25) dX7_begins_24 rfl rfl ⟨_, rfl⟩ ?_
    refine wp_get (pc' := 28) (o := 25) dX7_begins_25 rfl flX7_51 (by decide) rfl rfl ?_
    refine wp_aload_n (pc' := 29) dX7_begins_28 rfl rfl ⟨_, rfl⟩ ?_
    refine wp_get (pc' := 32) (o := 25) dX7_begins_29 rfl flX7_54 (by decide) rfl rfl ?_
    refine wp_imul (pc' := 33) dX7_begins_32 rfl ?_
    refine wp_top (hwh) ?_
    refine wp_icmp_ge (pc' := 36) 92 dX7_begins_33 rfl (by decide) (fun h33 => ?_) (fun h33 => ?_)
    · refine wp_vret dX7_begins_92 rfl ?_
      exact absurd h33 (nI_ge (by omega) (by omega))
    · refine wp_aload_n (pc' := 37) dX7_begins_36 rfl rfl ⟨_, rfl⟩ ?_
      refine wp_get (pc' := 40) (o := 25) dX7_begins_37 rfl flX7_25 (by decide) rfl rfl ?_
      refine wp_iload_n (pc' := 41) dX7_begins_40 rfl rfl ?_
      refine wp_aload_n (pc' := 42) dX7_begins_41 rfl rfl ⟨_, rfl⟩ ?_
      refine wp_get (pc' := 45) (o := 25) dX7_begins_42 rfl flX7_13 (by decide) rfl rfl ?_
      refine wp_iload_n (pc' := 46) dX7_begins_45 rfl rfl ?_
      refine wp_ialdN (pc' := 47) (o := 27) (n := 24) (j) dX7_begins_46 rfl (by decide) rfl (rfl) (by omega) (by decide) ?_
      refine wp_iastN (pc' := 48) (o := 31) (n := 76) (j) dX7_begins_47 rfl (by decide) (fun _ _ => rfl) (rfl) (by omega) (by decide) ?_
      refine wp_aload_n (pc' := 49) dX7_begins_48 rfl rfl ⟨_, rfl⟩ ?_
      refine wp_get (pc' := 52) (o := 25) dX7_begins_49 rfl flX7_25 (by decide) rfl rfl ?_
      refine wp_bipush (pc' := 54) 24 dX7_begins_52 rfl (by decide) ?_
      refine wp_iload_n (pc' := 55) dX7_begins_54 rfl rfl ?_
      refine wp_iadd (pc' := 56) dX7_begins_55 rfl ?_
      refine wp_aload_n (pc' := 57) dX7_begins_56 rfl rfl ⟨_, rfl⟩ ?_
      refine wp_get (pc' := 60) (o := 25) dX7_begins_57 rfl flX7_13 (by decide) rfl rfl ?_
      refine wp_iload_n (pc' := 61) dX7_begins_60 rfl rfl ?_
      refine wp_ialdN (pc' := 62) (o := 27) (n := 24) (j) dX7_begins_61 rfl (by decide) rfl (rfl) (by omega) (by decide) ?_
      refine wp_iconst (pc' := 63) 2 dX7_begins_62 rfl (by decide) ?_
      refine wp_icmp_ne (pc' := 66) 73 dX7_begins_63 rfl (by decide) (fun h63 => ?_) (fun h63 => ?_)
      · refine wp_iconst (pc' := 74) 0 dX7_begins_73 rfl (by decide) ?_
        refine wp_iastN (pc' := 75) (o := 31) (n := 76) (24 + j) dX7_begins_74 rfl (by decide) (fun _ _ => rfl) (nI_add 24 j) (by omega) (by decide) ?_
        refine wp_aload_n (pc' := 76) dX7_begins_75 rfl rfl ⟨_, rfl⟩ ?_
        refine wp_get (pc' := 79) (o := 25) dX7_begins_76 rfl flX7_25 (by decide) rfl rfl ?_
        refine wp_bipush (pc' := 81) 48 dX7_begins_79 rfl (by decide) ?_
        refine wp_iload_n (pc' := 82) dX7_begins_81 rfl rfl ?_
        refine wp_iadd (pc' := 83) dX7_begins_82 rfl ?_
        refine wp_bipush (pc' := 85) (-9) dX7_begins_83 rfl (by decide) ?_
        refine wp_iastN (pc' := 86) (o := 31) (n := 76) (48 + j) dX7_begins_85 rfl (by decide) (fun _ _ => rfl) (nI_add 48 j) (by omega) (by decide) ?_
        refine wp_inc1 (pc' := 89) (nI (j + 1)) dX7_begins_86 rfl (by decide) rfl (nI_1 j) ?_
        refine wp_goto 23 dX7_begins_89 (by decide) ?_
        rw [upI_setO, upI_setO, upI_setO, bg1, if_neg (show ¬ M.1 27 j = 2 from h63)]
        exact ih (j + 1) (by omega) _
      · refine wp_aload_n (pc' := 67) dX7_begins_66 rfl rfl ⟨_, rfl⟩ ?_
        refine wp_get (pc' := 70) (o := 25) dX7_begins_67 rfl flX7_128 (by decide) rfl rfl ?_
        refine wp_goto 74 dX7_begins_70 (by decide) ?_
        refine wp_iastN (pc' := 75) (o := 31) (n := 76) (24 + j) dX7_begins_74 rfl (by decide) (fun _ _ => rfl) (nI_add 24 j) (by omega) (by decide) ?_
        refine wp_aload_n (pc' := 76) dX7_begins_75 rfl rfl ⟨_, rfl⟩ ?_
        refine wp_get (pc' := 79) (o := 25) dX7_begins_76 rfl flX7_25 (by decide) rfl rfl ?_
        refine wp_bipush (pc' := 81) 48 dX7_begins_79 rfl (by decide) ?_
        refine wp_iload_n (pc' := 82) dX7_begins_81 rfl rfl ?_
        refine wp_iadd (pc' := 83) dX7_begins_82 rfl ?_
        refine wp_bipush (pc' := 85) (-9) dX7_begins_83 rfl (by decide) ?_
        refine wp_iastN (pc' := 86) (o := 31) (n := 76) (48 + j) dX7_begins_85 rfl (by decide) (fun _ _ => rfl) (nI_add 48 j) (by omega) (by decide) ?_
        refine wp_inc1 (pc' := 89) (nI (j + 1)) dX7_begins_86 rfl (by decide) rfl (nI_1 j) ?_
        refine wp_goto 23 dX7_begins_89 (by decide) ?_
        rw [upI_setO, upI_setO, upI_setO, bg1, if_pos (show M.1 27 j = 2 from h63)]
        exact ih (j + 1) (by omega) _
theorem lpm_bg0 {g : GG} {M : Mem} {N : Nat} (hN : N ≤ 24) (hwh : M.1 25 8 * M.1 25 9 = nI N) : ∀ (n j : Nat), j + n = 76 → ∀ (f : Nat → Int32), wp g mX7_begins 2 [some (ob g 25), some (.int (nI j))] [] (setO M 31 f) (fun q m => q = none ∧ m = setO M 31 (bg1 (M.1 27) (M.1 25 11) N 0 (bg0 n j f))) := by
  intro n
  induction n with
  | zero =>
    intro j hj f
    obtain rfl : j = 76 := by omega
    refine wp_iload_n (pc' := 3) dX7_begins_2 rfl rfl ?_
    refine wp_bipush (pc' := 5) 76 dX7_begins_3 rfl (by decide) ?_
    refine wp_icmp_ge (pc' := 8) 21 dX7_begins_5 rfl (by decide) (fun _ => ?_) (fun hh => absurd hh (by decide))
    refine wp_iconst (pc' := 22) 0 dX7_begins_21 rfl (by decide) ?_
    refine wp_ist1 (pc' := 23) dX7_begins_22 rfl (by decide) rfl ?_
    exact lpm_bg1 hN hwh N 0 (Nat.zero_add N) _
  | succ n ih =>
    intro j hj f
    refine wp_iload_n (pc' := 3) dX7_begins_2 rfl rfl ?_
    refine wp_bipush (pc' := 5) 76 dX7_begins_3 rfl (by decide) ?_
    refine wp_icmp_ge (pc' := 8) 21 dX7_begins_5 rfl (by decide) (fun h5 => ?_) (fun h5 => ?_)
    · exact absurd h5 (nI_ge (a := j) (b := 76) (by omega) (by decide))
    · refine wp_aload_n (pc' := 9) dX7_begins_8 rfl rfl ⟨_, rfl⟩ ?_
      refine wp_get (pc' := 12) (o := 25) dX7_begins_9 rfl flX7_25 (by decide) rfl rfl ?_
      refine wp_iload_n (pc' := 13) dX7_begins_12 rfl rfl ?_
      refine wp_iconst (pc' := 14) 0 dX7_begins_13 rfl (by decide) ?_
      refine wp_iastN (pc' := 15) (o := 31) (n := 76) (j) dX7_begins_14 rfl (by decide) (fun _ _ => rfl) (rfl) (by omega) (by decide) ?_
      refine wp_inc1 (pc' := 18) (nI (j + 1)) dX7_begins_15 rfl (by decide) rfl (nI_1 j) ?_
      refine wp_goto 2 dX7_begins_18 (by decide) ?_
      rw [upI_setO, bg0]
      exact ih (j + 1) (by omega) _
def begS (M : Mem) (N : Nat) : Nat → Int32 := bg1 (M.1 27) (M.1 25 11) N 0 (bg0 76 0 (M.1 31))
theorem setO_self (M : Mem) (o : Nat) : setO M o (M.1 o) = M := by
  refine Prod.ext (funext fun a => ?_) rfl
  show (if a = o then M.1 o else M.1 a) = M.1 a
  by_cases h : a = o
  · rw [if_pos h, h]
  · rw [if_neg h]
theorem sm_begins {g : GG} {M : Mem} {N : Nat} (hN : N ≤ 24) (hwh : M.1 25 8 * M.1 25 9 = nI N) : RV g mX7_begins [ob g 25] M (setO M 31 (begS M N)) := by
  refine spec_of_wp (ls := [some (ob g 25), none]) rfl (Nat.le_of_ble_eq_true rfl) 1 rfl ?_
  refine wp_iconst (pc' := 1) 0 dX7_begins_0 rfl (by decide) ?_
  refine wp_ist1 (pc' := 2) dX7_begins_1 rfl (by decide) rfl ?_
  refine wp_mem (setO_self M 31).symm ?_
  exact lpm_bg0 hN hwh 76 0 rfl _
theorem sm_cell_bad {g : GG} {M : Mem} {c what : Int32} (h : mCellF M c = 0 ∨ inF what 0 2 = 0) : RI g mX7_cell [ob g 25, .int c, .int what] M (-1) (th M) := by
  refine spec_of_wp (ls := [some (ob g 25), some (.int c), some (.int what)]) rfl (Nat.le_of_ble_eq_true rfl) 0 rfl ?_
  refine wp_aload_n (pc' := 1) dX7_cell_0 rfl rfl ⟨_, rfl⟩ ?_
  refine wp_iconst (pc' := 2) 0 dX7_cell_1 rfl (by decide) ?_
  refine wp_put (pc' := 5) (o := 25) dX7_cell_2 rfl fpX7_47 (by decide) rfl (Nat.le_of_ble_eq_true rfl) rfl ?_
  refine wp_aload_n (pc' := 6) dX7_cell_5 rfl rfl ⟨_, rfl⟩ ?_
  refine wp_iload_n (pc' := 7) dX7_cell_6 rfl rfl ?_
  refine wp_cVI (μ' := mX7_isCell) (pc' := 10) (o := 25) dX7_cell_7 rfl mlX7_137 cfX7_isCell ⟨(Nat.le_of_ble_eq_true rfl), (Nat.le_of_ble_eq_true rfl)⟩ (sm_isCell) (by decide) rfl rfl rfl rfl rfl (Nat.le_of_ble_eq_true rfl) ?_
  refine wp_if_eq (pc' := 13) 36 dX7_cell_10 rfl (by decide) (fun q10 => ?_) (fun q10 => ?_)
  · refine wp_iconst (pc' := 37) (-1) dX7_cell_36 rfl (by decide) ?_
    refine wp_ireti dX7_cell_37 rfl ?_
    exact ri_ok rfl rfl
  · refine wp_iload_n (pc' := 14) dX7_cell_13 rfl rfl ?_
    refine wp_iconst (pc' := 15) 0 dX7_cell_14 rfl (by decide) ?_
    refine wp_iconst (pc' := 16) 2 dX7_cell_15 rfl (by decide) ?_
    refine wp_cSI (μ' := mX7_in) (pc' := 19) dX7_cell_16 rfl mlX7_57 cfX7_in ⟨(Nat.le_of_ble_eq_true rfl), (Nat.le_of_ble_eq_true rfl)⟩ (sm_in) rfl rfl (Nat.le_of_ble_eq_true rfl) ?_
    refine wp_if_eq (pc' := 22) 36 dX7_cell_19 rfl (by decide) (fun q19 => ?_) (fun q19 => ?_)
    · refine wp_iconst (pc' := 37) (-1) dX7_cell_36 rfl (by decide) ?_
      refine wp_ireti dX7_cell_37 rfl ?_
      exact ri_ok rfl rfl
    · exact (h.elim q10 q19).elim
theorem sm_cell {g : GG} {M : Mem} {c w : Nat} (hc : c < 24) (hw : w ≤ 2) (h : ¬ (mCellF M (nI c) = 0 ∨ inF (nI w) 0 2 = 0)) : RI g mX7_cell [ob g 25, .int (nI c), .int (nI w)] M (M.1 31 (24 * w + c)) (th M) := by
  refine spec_of_wp (ls := [some (ob g 25), some (.int (nI c)), some (.int (nI w))]) rfl (Nat.le_of_ble_eq_true rfl) 0 rfl ?_
  refine wp_aload_n (pc' := 1) dX7_cell_0 rfl rfl ⟨_, rfl⟩ ?_
  refine wp_iconst (pc' := 2) 0 dX7_cell_1 rfl (by decide) ?_
  refine wp_put (pc' := 5) (o := 25) dX7_cell_2 rfl fpX7_47 (by decide) rfl (Nat.le_of_ble_eq_true rfl) rfl ?_
  refine wp_aload_n (pc' := 6) dX7_cell_5 rfl rfl ⟨_, rfl⟩ ?_
  refine wp_iload_n (pc' := 7) dX7_cell_6 rfl rfl ?_
  refine wp_cVI (μ' := mX7_isCell) (pc' := 10) (o := 25) dX7_cell_7 rfl mlX7_137 cfX7_isCell ⟨(Nat.le_of_ble_eq_true rfl), (Nat.le_of_ble_eq_true rfl)⟩ (sm_isCell) (by decide) rfl rfl rfl rfl rfl (Nat.le_of_ble_eq_true rfl) ?_
  refine wp_if_eq (pc' := 13) 36 dX7_cell_10 rfl (by decide) (fun q10 => ?_) (fun q10 => ?_)
  · exact absurd (Or.inl q10) h
  · refine wp_iload_n (pc' := 14) dX7_cell_13 rfl rfl ?_
    refine wp_iconst (pc' := 15) 0 dX7_cell_14 rfl (by decide) ?_
    refine wp_iconst (pc' := 16) 2 dX7_cell_15 rfl (by decide) ?_
    refine wp_cSI (μ' := mX7_in) (pc' := 19) dX7_cell_16 rfl mlX7_57 cfX7_in ⟨(Nat.le_of_ble_eq_true rfl), (Nat.le_of_ble_eq_true rfl)⟩ (sm_in) rfl rfl (Nat.le_of_ble_eq_true rfl) ?_
    refine wp_if_eq (pc' := 22) 36 dX7_cell_19 rfl (by decide) (fun q19 => ?_) (fun q19 => ?_)
    · exact absurd (Or.inr q19) h
    · refine wp_aload_n (pc' := 23) dX7_cell_22 rfl rfl ⟨_, rfl⟩ ?_
      refine wp_get (pc' := 26) (o := 25) dX7_cell_23 rfl flX7_25 (by decide) rfl rfl ?_
      refine wp_bipush (pc' := 28) 24 dX7_cell_26 rfl (by decide) ?_
      refine wp_iload_n (pc' := 29) dX7_cell_28 rfl rfl ?_
      refine wp_imul (pc' := 30) dX7_cell_29 rfl ?_
      refine wp_iload_n (pc' := 31) dX7_cell_30 rfl rfl ?_
      refine wp_iadd (pc' := 32) dX7_cell_31 rfl ?_
      refine wp_ialdN (pc' := 33) (o := 31) (n := 76) (24 * w + c) dX7_cell_32 rfl (by decide) rfl (by rw [show (24 : Int32) = nI 24 from rfl, pk_mul, nI_add]) (by omega) (by decide) ?_
      refine wp_goto 37 dX7_cell_33 (by decide) ?_
      refine wp_ireti dX7_cell_37 rfl ?_
      exact ri_ok rfl rfl
def mlbF (s : Nat → Int32) (k : Int32) : Nat → Nat → Int32 → Int32
  | 0, _, t => t
  | n + 1, j, t => mlbF s k n (j + 1) (t + if s (48 + j) = k then 1 else 0)
theorem lpm_laidBy {g : GG} {M : Mem} {k : Int32} {N : Nat} (hN : N ≤ 24) (hwh : M.1 25 8 * M.1 25 9 = nI N) : ∀ (n j : Nat), j + n = N → ∀ (t : Int32), wp g mX7_laidBy 4 [some (ob g 25), some (.int k), some (.int t), some (.int (nI j))] [] M (fun q m => q = some (.int (mlbF (M.1 31) k n j t)) ∧ m = M) := by
  intro n
  induction n with
  | zero =>
    intro j hj t
    obtain rfl : j = N := by omega
    refine wp_iload_n (pc' := 5) dX7_laidBy_4 rfl rfl ?_
    refine wp_aload_n (pc' := 6) dX7_laidBy_5 rfl rfl ⟨_, rfl⟩ ?_
    refine wp_get (pc' := 9) (o := 25) dX7_laidBy_6 rfl flX7_51 (by decide) rfl rfl ?_
    refine wp_aload_n (pc' := 10) dX7_laidBy_9 rfl rfl ⟨_, rfl⟩ ?_
    refine wp_get (pc' := 13) (o := 25) dX7_laidBy_10 rfl flX7_54 (by decide) rfl rfl ?_
    refine wp_imul (pc' := 14) dX7_laidBy_13 rfl ?_
    refine wp_top (hwh) ?_
    refine wp_icmp_ge (pc' := 17) 44 dX7_laidBy_14 rfl (by decide) (fun h14 => ?_) (fun h14 => ?_)
    · refine wp_iload_n (pc' := 45) dX7_laidBy_44 rfl rfl ?_
      refine wp_ireti dX7_laidBy_45 rfl ?_
      exact ri_ok rfl rfl
    · exact absurd (nI_le (Nat.le_refl j) (by omega)) h14
  | succ n ih =>
    intro j hj t
    refine wp_iload_n (pc' := 5) dX7_laidBy_4 rfl rfl ?_
    refine wp_aload_n (pc' := 6) dX7_laidBy_5 rfl rfl ⟨_, rfl⟩ ?_
    refine wp_get (pc' := 9) (o := 25) dX7_laidBy_6 rfl flX7_51 (by decide) rfl rfl ?_
    refine wp_aload_n (pc' := 10) dX7_laidBy_9 rfl rfl ⟨_, rfl⟩ ?_
    refine wp_get (pc' := 13) (o := 25) dX7_laidBy_10 rfl flX7_54 (by decide) rfl rfl ?_
    refine wp_imul (pc' := 14) dX7_laidBy_13 rfl ?_
    refine wp_top (hwh) ?_
    refine wp_icmp_ge (pc' := 17) 44 dX7_laidBy_14 rfl (by decide) (fun h14 => ?_) (fun h14 => ?_)
    · refine wp_iload_n (pc' := 45) dX7_laidBy_44 rfl rfl ?_
      refine wp_ireti dX7_laidBy_45 rfl ?_
      exact absurd h14 (nI_ge (by omega) (by omega))
    · refine wp_iload_n (pc' := 18) dX7_laidBy_17 rfl rfl ?_
      refine wp_aload_n (pc' := 19) dX7_laidBy_18 rfl rfl ⟨_, rfl⟩ ?_
      refine wp_get (pc' := 22) (o := 25) dX7_laidBy_19 rfl flX7_25 (by decide) rfl rfl ?_
      refine wp_bipush (pc' := 24) 48 dX7_laidBy_22 rfl (by decide) ?_
      refine wp_iload_n (pc' := 25) dX7_laidBy_24 rfl rfl ?_
      refine wp_iadd (pc' := 26) dX7_laidBy_25 rfl ?_
      refine wp_ialdN (pc' := 27) (o := 31) (n := 76) (48 + j) dX7_laidBy_26 rfl (by decide) rfl (nI_add 48 j) (by omega) (by decide) ?_
      refine wp_iload_n (pc' := 28) dX7_laidBy_27 rfl rfl ?_
      refine wp_icmp_ne (pc' := 31) 35 dX7_laidBy_28 rfl (by decide) (fun h28 => ?_) (fun h28 => ?_)
      · refine wp_iconst (pc' := 36) 0 dX7_laidBy_35 rfl (by decide) ?_
        refine wp_iadd (pc' := 37) dX7_laidBy_36 rfl ?_
        refine wp_ist2 (pc' := 38) dX7_laidBy_37 rfl (by decide) rfl ?_
        refine wp_inc3 (pc' := 41) (nI (j + 1)) dX7_laidBy_38 rfl (by decide) rfl (nI_1 j) ?_
        refine wp_goto 4 dX7_laidBy_41 (by decide) ?_
        rw [mlbF, if_neg h28]
        exact ih (j + 1) (by omega) _
      · refine wp_iconst (pc' := 32) 1 dX7_laidBy_31 rfl (by decide) ?_
        refine wp_goto 36 dX7_laidBy_32 (by decide) ?_
        refine wp_iadd (pc' := 37) dX7_laidBy_36 rfl ?_
        refine wp_ist2 (pc' := 38) dX7_laidBy_37 rfl (by decide) rfl ?_
        refine wp_inc3 (pc' := 41) (nI (j + 1)) dX7_laidBy_38 rfl (by decide) rfl (nI_1 j) ?_
        refine wp_goto 4 dX7_laidBy_41 (by decide) ?_
        rw [mlbF, if_pos h28]
        exact ih (j + 1) (by omega) _
theorem sm_laidBy {g : GG} {M : Mem} {k : Int32} {N : Nat} (hN : N ≤ 24) (hwh : M.1 25 8 * M.1 25 9 = nI N) : RI g mX7_laidBy [ob g 25, .int k] M (mlbF (M.1 31) k N 0 0) M := by
  refine spec_of_wp (ls := [some (ob g 25), some (.int k), none, none]) rfl (Nat.le_of_ble_eq_true rfl) 2 rfl ?_
  refine wp_iconst (pc' := 1) 0 dX7_laidBy_0 rfl (by decide) ?_
  refine wp_ist2 (pc' := 2) dX7_laidBy_1 rfl (by decide) rfl ?_
  refine wp_iconst (pc' := 3) 0 dX7_laidBy_2 rfl (by decide) ?_
  refine wp_ist3 (pc' := 4) dX7_laidBy_3 rfl (by decide) rfl ?_
  exact lpm_laidBy hN hwh N 0 (Nat.zero_add N) _
def mmaF (s : Nat → Int32) (k : Int32) : Nat → Nat → Int32 → Int32
  | 0, _, t => t
  | n + 1, j, t => mmaF s k n (j + 1) (t + if s j = k then 1 else 0)
theorem lpm_many {g : GG} {M : Mem} {k : Int32} {N : Nat} (hN : N ≤ 24) (hwh : M.1 25 8 * M.1 25 9 = nI N) : ∀ (n j : Nat), j + n = N → ∀ (t : Int32), wp g mX7_many 4 [some (ob g 25), some (.int k), some (.int t), some (.int (nI j))] [] M (fun q m => q = some (.int (mmaF (M.1 31) k n j t)) ∧ m = M) := by
  intro n
  induction n with
  | zero =>
    intro j hj t
    obtain rfl : j = N := by omega
    refine wp_iload_n (pc' := 5) dX7_many_4 rfl rfl ?_
    refine wp_aload_n (pc' := 6) dX7_many_5 rfl rfl ⟨_, rfl⟩ ?_
    refine wp_get (pc' := 9) (o := 25) dX7_many_6 rfl flX7_51 (by decide) rfl rfl ?_
    refine wp_aload_n (pc' := 10) dX7_many_9 rfl rfl ⟨_, rfl⟩ ?_
    refine wp_get (pc' := 13) (o := 25) dX7_many_10 rfl flX7_54 (by decide) rfl rfl ?_
    refine wp_imul (pc' := 14) dX7_many_13 rfl ?_
    refine wp_top (hwh) ?_
    refine wp_icmp_ge (pc' := 17) 41 dX7_many_14 rfl (by decide) (fun h14 => ?_) (fun h14 => ?_)
    · refine wp_iload_n (pc' := 42) dX7_many_41 rfl rfl ?_
      refine wp_ireti dX7_many_42 rfl ?_
      exact ri_ok rfl rfl
    · exact absurd (nI_le (Nat.le_refl j) (by omega)) h14
  | succ n ih =>
    intro j hj t
    refine wp_iload_n (pc' := 5) dX7_many_4 rfl rfl ?_
    refine wp_aload_n (pc' := 6) dX7_many_5 rfl rfl ⟨_, rfl⟩ ?_
    refine wp_get (pc' := 9) (o := 25) dX7_many_6 rfl flX7_51 (by decide) rfl rfl ?_
    refine wp_aload_n (pc' := 10) dX7_many_9 rfl rfl ⟨_, rfl⟩ ?_
    refine wp_get (pc' := 13) (o := 25) dX7_many_10 rfl flX7_54 (by decide) rfl rfl ?_
    refine wp_imul (pc' := 14) dX7_many_13 rfl ?_
    refine wp_top (hwh) ?_
    refine wp_icmp_ge (pc' := 17) 41 dX7_many_14 rfl (by decide) (fun h14 => ?_) (fun h14 => ?_)
    · refine wp_iload_n (pc' := 42) dX7_many_41 rfl rfl ?_
      refine wp_ireti dX7_many_42 rfl ?_
      exact absurd h14 (nI_ge (by omega) (by omega))
    · refine wp_iload_n (pc' := 18) dX7_many_17 rfl rfl ?_
      refine wp_aload_n (pc' := 19) dX7_many_18 rfl rfl ⟨_, rfl⟩ ?_
      refine wp_get (pc' := 22) (o := 25) dX7_many_19 rfl flX7_25 (by decide) rfl rfl ?_
      refine wp_iload_n (pc' := 23) dX7_many_22 rfl rfl ?_
      refine wp_ialdN (pc' := 24) (o := 31) (n := 76) (j) dX7_many_23 rfl (by decide) rfl (rfl) (by omega) (by decide) ?_
      refine wp_iload_n (pc' := 25) dX7_many_24 rfl rfl ?_
      refine wp_icmp_ne (pc' := 28) 32 dX7_many_25 rfl (by decide) (fun h25 => ?_) (fun h25 => ?_)
      · refine wp_iconst (pc' := 33) 0 dX7_many_32 rfl (by decide) ?_
        refine wp_iadd (pc' := 34) dX7_many_33 rfl ?_
        refine wp_ist2 (pc' := 35) dX7_many_34 rfl (by decide) rfl ?_
        refine wp_inc3 (pc' := 38) (nI (j + 1)) dX7_many_35 rfl (by decide) rfl (nI_1 j) ?_
        refine wp_goto 4 dX7_many_38 (by decide) ?_
        rw [mmaF, if_neg h25]
        exact ih (j + 1) (by omega) _
      · refine wp_iconst (pc' := 29) 1 dX7_many_28 rfl (by decide) ?_
        refine wp_goto 33 dX7_many_29 (by decide) ?_
        refine wp_iadd (pc' := 34) dX7_many_33 rfl ?_
        refine wp_ist2 (pc' := 35) dX7_many_34 rfl (by decide) rfl ?_
        refine wp_inc3 (pc' := 38) (nI (j + 1)) dX7_many_35 rfl (by decide) rfl (nI_1 j) ?_
        refine wp_goto 4 dX7_many_38 (by decide) ?_
        rw [mmaF, if_pos h25]
        exact ih (j + 1) (by omega) _
theorem sm_many {g : GG} {M : Mem} {k : Int32} {N : Nat} (hN : N ≤ 24) (hwh : M.1 25 8 * M.1 25 9 = nI N) : RI g mX7_many [ob g 25, .int k] M (mmaF (M.1 31) k N 0 0) M := by
  refine spec_of_wp (ls := [some (ob g 25), some (.int k), none, none]) rfl (Nat.le_of_ble_eq_true rfl) 2 rfl ?_
  refine wp_iconst (pc' := 1) 0 dX7_many_0 rfl (by decide) ?_
  refine wp_ist2 (pc' := 2) dX7_many_1 rfl (by decide) rfl ?_
  refine wp_iconst (pc' := 3) 0 dX7_many_2 rfl (by decide) ?_
  refine wp_ist3 (pc' := 4) dX7_many_3 rfl (by decide) rfl ?_
  exact lpm_many hN hwh N 0 (Nat.zero_add N) _
theorem sm_walker_bad {g : GG} {M : Mem} {k what : Int32} (h : mWalkF M k = 0 ∨ inF what 0 3 = 0) : RI g mX7_walker [ob g 25, .int k, .int what] M (-1) (th M) := by
  refine spec_of_wp (ls := [some (ob g 25), some (.int k), some (.int what)]) rfl (Nat.le_of_ble_eq_true rfl) 0 rfl ?_
  refine wp_aload_n (pc' := 1) dX7_walker_0 rfl rfl ⟨_, rfl⟩ ?_
  refine wp_iconst (pc' := 2) 0 dX7_walker_1 rfl (by decide) ?_
  refine wp_put (pc' := 5) (o := 25) dX7_walker_2 rfl fpX7_47 (by decide) rfl (Nat.le_of_ble_eq_true rfl) rfl ?_
  refine wp_aload_n (pc' := 6) dX7_walker_5 rfl rfl ⟨_, rfl⟩ ?_
  refine wp_iload_n (pc' := 7) dX7_walker_6 rfl rfl ?_
  refine wp_cVI (μ' := mX7_isWalker) (pc' := 10) (o := 25) dX7_walker_7 rfl mlX7_141 cfX7_isWalker ⟨(Nat.le_of_ble_eq_true rfl), (Nat.le_of_ble_eq_true rfl)⟩ (sm_isWalker) (by decide) rfl rfl rfl rfl rfl (Nat.le_of_ble_eq_true rfl) ?_
  refine wp_if_eq (pc' := 13) 22 dX7_walker_10 rfl (by decide) (fun q10 => ?_) (fun q10 => ?_)
  · refine wp_iconst (pc' := 23) (-1) dX7_walker_22 rfl (by decide) ?_
    refine wp_ireti dX7_walker_23 rfl ?_
    exact ri_ok rfl rfl
  · refine wp_iload_n (pc' := 14) dX7_walker_13 rfl rfl ?_
    refine wp_iconst (pc' := 15) 0 dX7_walker_14 rfl (by decide) ?_
    refine wp_iconst (pc' := 16) 3 dX7_walker_15 rfl (by decide) ?_
    refine wp_cSI (μ' := mX7_in) (pc' := 19) dX7_walker_16 rfl mlX7_57 cfX7_in ⟨(Nat.le_of_ble_eq_true rfl), (Nat.le_of_ble_eq_true rfl)⟩ (sm_in) rfl rfl (Nat.le_of_ble_eq_true rfl) ?_
    refine wp_if_ne (pc' := 22) 24 dX7_walker_19 rfl (by decide) (fun q19 => ?_) (fun q19 => ?_)
    · exact (h.elim q10 q19).elim
    · refine wp_iconst (pc' := 23) (-1) dX7_walker_22 rfl (by decide) ?_
      refine wp_ireti dX7_walker_23 rfl ?_
      exact ri_ok rfl rfl
theorem sm_walker0 {g : GG} {M : Mem} {k N : Nat} (hN : N ≤ 24) (hwh : M.1 25 8 * M.1 25 9 = nI N) (hk : k < 4) (h : ¬ (mWalkF M (nI k) = 0 ∨ inF 0 0 3 = 0)) : RI g mX7_walker [ob g 25, .int (nI k), .int 0] M (M.1 29 (2 * k)) (th M) := by
  refine spec_of_wp (ls := [some (ob g 25), some (.int (nI k)), some (.int 0)]) rfl (Nat.le_of_ble_eq_true rfl) 0 rfl ?_
  refine wp_aload_n (pc' := 1) dX7_walker_0 rfl rfl ⟨_, rfl⟩ ?_
  refine wp_iconst (pc' := 2) 0 dX7_walker_1 rfl (by decide) ?_
  refine wp_put (pc' := 5) (o := 25) dX7_walker_2 rfl fpX7_47 (by decide) rfl (Nat.le_of_ble_eq_true rfl) rfl ?_
  refine wp_aload_n (pc' := 6) dX7_walker_5 rfl rfl ⟨_, rfl⟩ ?_
  refine wp_iload_n (pc' := 7) dX7_walker_6 rfl rfl ?_
  refine wp_cVI (μ' := mX7_isWalker) (pc' := 10) (o := 25) dX7_walker_7 rfl mlX7_141 cfX7_isWalker ⟨(Nat.le_of_ble_eq_true rfl), (Nat.le_of_ble_eq_true rfl)⟩ (sm_isWalker) (by decide) rfl rfl rfl rfl rfl (Nat.le_of_ble_eq_true rfl) ?_
  refine wp_if_eq (pc' := 13) 22 dX7_walker_10 rfl (by decide) (fun q10 => ?_) (fun q10 => ?_)
  · exact absurd (Or.inl q10) h
  · refine wp_iload_n (pc' := 14) dX7_walker_13 rfl rfl ?_
    refine wp_iconst (pc' := 15) 0 dX7_walker_14 rfl (by decide) ?_
    refine wp_iconst (pc' := 16) 3 dX7_walker_15 rfl (by decide) ?_
    refine wp_cSI (μ' := mX7_in) (pc' := 19) dX7_walker_16 rfl mlX7_57 cfX7_in ⟨(Nat.le_of_ble_eq_true rfl), (Nat.le_of_ble_eq_true rfl)⟩ (sm_in) rfl rfl (Nat.le_of_ble_eq_true rfl) ?_
    refine wp_if_ne (pc' := 22) 24 dX7_walker_19 rfl (by decide) (fun q19 => ?_) (fun q19 => ?_)
    · refine wp_iload_n (pc' := 25) dX7_walker_24 rfl rfl ?_
      refine wp_iconst (pc' := 26) 2 dX7_walker_25 rfl (by decide) ?_
      refine wp_icmp_ge (pc' := 29) 42 dX7_walker_26 rfl (by decide) (fun hh => absurd hh (by decide)) (fun _ => ?_)
      refine wp_aload_n (pc' := 30) dX7_walker_29 rfl rfl ⟨_, rfl⟩ ?_
      refine wp_get (pc' := 33) (o := 25) dX7_walker_30 rfl flX7_19 (by decide) rfl rfl ?_
      refine wp_iconst (pc' := 34) 2 dX7_walker_33 rfl (by decide) ?_
      refine wp_iload_n (pc' := 35) dX7_walker_34 rfl rfl ?_
      refine wp_imul (pc' := 36) dX7_walker_35 rfl ?_
      refine wp_iload_n (pc' := 37) dX7_walker_36 rfl rfl ?_
      refine wp_iadd (pc' := 38) dX7_walker_37 rfl ?_
      refine wp_ialdN (pc' := 39) (o := 29) (n := 8) (2 * k) dX7_walker_38 rfl (by decide) rfl (by rw [show (2 : Int32) = nI 2 from rfl, pk_mul]; exact nI_add (2 * k) 0) (by omega) (by decide) ?_
      refine wp_goto 64 dX7_walker_39 (by decide) ?_
      refine wp_ireti dX7_walker_64 rfl ?_
      exact ri_ok rfl rfl
    · exact absurd (Or.inr q19) h
theorem sm_walker1 {g : GG} {M : Mem} {k N : Nat} (hN : N ≤ 24) (hwh : M.1 25 8 * M.1 25 9 = nI N) (hk : k < 4) (h : ¬ (mWalkF M (nI k) = 0 ∨ inF 1 0 3 = 0)) : RI g mX7_walker [ob g 25, .int (nI k), .int 1] M (M.1 29 (2 * k + 1)) (th M) := by
  refine spec_of_wp (ls := [some (ob g 25), some (.int (nI k)), some (.int 1)]) rfl (Nat.le_of_ble_eq_true rfl) 0 rfl ?_
  refine wp_aload_n (pc' := 1) dX7_walker_0 rfl rfl ⟨_, rfl⟩ ?_
  refine wp_iconst (pc' := 2) 0 dX7_walker_1 rfl (by decide) ?_
  refine wp_put (pc' := 5) (o := 25) dX7_walker_2 rfl fpX7_47 (by decide) rfl (Nat.le_of_ble_eq_true rfl) rfl ?_
  refine wp_aload_n (pc' := 6) dX7_walker_5 rfl rfl ⟨_, rfl⟩ ?_
  refine wp_iload_n (pc' := 7) dX7_walker_6 rfl rfl ?_
  refine wp_cVI (μ' := mX7_isWalker) (pc' := 10) (o := 25) dX7_walker_7 rfl mlX7_141 cfX7_isWalker ⟨(Nat.le_of_ble_eq_true rfl), (Nat.le_of_ble_eq_true rfl)⟩ (sm_isWalker) (by decide) rfl rfl rfl rfl rfl (Nat.le_of_ble_eq_true rfl) ?_
  refine wp_if_eq (pc' := 13) 22 dX7_walker_10 rfl (by decide) (fun q10 => ?_) (fun q10 => ?_)
  · exact absurd (Or.inl q10) h
  · refine wp_iload_n (pc' := 14) dX7_walker_13 rfl rfl ?_
    refine wp_iconst (pc' := 15) 0 dX7_walker_14 rfl (by decide) ?_
    refine wp_iconst (pc' := 16) 3 dX7_walker_15 rfl (by decide) ?_
    refine wp_cSI (μ' := mX7_in) (pc' := 19) dX7_walker_16 rfl mlX7_57 cfX7_in ⟨(Nat.le_of_ble_eq_true rfl), (Nat.le_of_ble_eq_true rfl)⟩ (sm_in) rfl rfl (Nat.le_of_ble_eq_true rfl) ?_
    refine wp_if_ne (pc' := 22) 24 dX7_walker_19 rfl (by decide) (fun q19 => ?_) (fun q19 => ?_)
    · refine wp_iload_n (pc' := 25) dX7_walker_24 rfl rfl ?_
      refine wp_iconst (pc' := 26) 2 dX7_walker_25 rfl (by decide) ?_
      refine wp_icmp_ge (pc' := 29) 42 dX7_walker_26 rfl (by decide) (fun hh => absurd hh (by decide)) (fun _ => ?_)
      refine wp_aload_n (pc' := 30) dX7_walker_29 rfl rfl ⟨_, rfl⟩ ?_
      refine wp_get (pc' := 33) (o := 25) dX7_walker_30 rfl flX7_19 (by decide) rfl rfl ?_
      refine wp_iconst (pc' := 34) 2 dX7_walker_33 rfl (by decide) ?_
      refine wp_iload_n (pc' := 35) dX7_walker_34 rfl rfl ?_
      refine wp_imul (pc' := 36) dX7_walker_35 rfl ?_
      refine wp_iload_n (pc' := 37) dX7_walker_36 rfl rfl ?_
      refine wp_iadd (pc' := 38) dX7_walker_37 rfl ?_
      refine wp_ialdN (pc' := 39) (o := 29) (n := 8) (2 * k + 1) dX7_walker_38 rfl (by decide) rfl (by rw [show (2 : Int32) = nI 2 from rfl, pk_mul]; exact nI_add (2 * k) 1) (by omega) (by decide) ?_
      refine wp_goto 64 dX7_walker_39 (by decide) ?_
      refine wp_ireti dX7_walker_64 rfl ?_
      exact ri_ok rfl rfl
    · exact absurd (Or.inr q19) h
theorem sm_walker2 {g : GG} {M : Mem} {k N : Nat} (hN : N ≤ 24) (hwh : M.1 25 8 * M.1 25 9 = nI N) (hk : k < 4) (h : ¬ (mWalkF M (nI k) = 0 ∨ inF 2 0 3 = 0)) : RI g mX7_walker [ob g 25, .int (nI k), .int 2] M (M.1 31 (72 + k)) (th M) := by
  refine spec_of_wp (ls := [some (ob g 25), some (.int (nI k)), some (.int 2)]) rfl (Nat.le_of_ble_eq_true rfl) 0 rfl ?_
  refine wp_aload_n (pc' := 1) dX7_walker_0 rfl rfl ⟨_, rfl⟩ ?_
  refine wp_iconst (pc' := 2) 0 dX7_walker_1 rfl (by decide) ?_
  refine wp_put (pc' := 5) (o := 25) dX7_walker_2 rfl fpX7_47 (by decide) rfl (Nat.le_of_ble_eq_true rfl) rfl ?_
  refine wp_aload_n (pc' := 6) dX7_walker_5 rfl rfl ⟨_, rfl⟩ ?_
  refine wp_iload_n (pc' := 7) dX7_walker_6 rfl rfl ?_
  refine wp_cVI (μ' := mX7_isWalker) (pc' := 10) (o := 25) dX7_walker_7 rfl mlX7_141 cfX7_isWalker ⟨(Nat.le_of_ble_eq_true rfl), (Nat.le_of_ble_eq_true rfl)⟩ (sm_isWalker) (by decide) rfl rfl rfl rfl rfl (Nat.le_of_ble_eq_true rfl) ?_
  refine wp_if_eq (pc' := 13) 22 dX7_walker_10 rfl (by decide) (fun q10 => ?_) (fun q10 => ?_)
  · exact absurd (Or.inl q10) h
  · refine wp_iload_n (pc' := 14) dX7_walker_13 rfl rfl ?_
    refine wp_iconst (pc' := 15) 0 dX7_walker_14 rfl (by decide) ?_
    refine wp_iconst (pc' := 16) 3 dX7_walker_15 rfl (by decide) ?_
    refine wp_cSI (μ' := mX7_in) (pc' := 19) dX7_walker_16 rfl mlX7_57 cfX7_in ⟨(Nat.le_of_ble_eq_true rfl), (Nat.le_of_ble_eq_true rfl)⟩ (sm_in) rfl rfl (Nat.le_of_ble_eq_true rfl) ?_
    refine wp_if_ne (pc' := 22) 24 dX7_walker_19 rfl (by decide) (fun q19 => ?_) (fun q19 => ?_)
    · refine wp_iload_n (pc' := 25) dX7_walker_24 rfl rfl ?_
      refine wp_iconst (pc' := 26) 2 dX7_walker_25 rfl (by decide) ?_
      refine wp_icmp_ge (pc' := 29) 42 dX7_walker_26 rfl (by decide) (fun _ => ?_) (fun hh => absurd hh (by decide))
      refine wp_iload_n (pc' := 43) dX7_walker_42 rfl rfl ?_
      refine wp_iconst (pc' := 44) 2 dX7_walker_43 rfl (by decide) ?_
      refine wp_icmp_ne (pc' := 47) 59 dX7_walker_44 rfl (by decide) (fun hh => absurd hh (by decide)) (fun _ => ?_)
      refine wp_aload_n (pc' := 48) dX7_walker_47 rfl rfl ⟨_, rfl⟩ ?_
      refine wp_get (pc' := 51) (o := 25) dX7_walker_48 rfl flX7_25 (by decide) rfl rfl ?_
      refine wp_bipush (pc' := 53) 72 dX7_walker_51 rfl (by decide) ?_
      refine wp_iload_n (pc' := 54) dX7_walker_53 rfl rfl ?_
      refine wp_iadd (pc' := 55) dX7_walker_54 rfl ?_
      refine wp_ialdN (pc' := 56) (o := 31) (n := 76) (72 + k) dX7_walker_55 rfl (by decide) rfl (nI_add 72 k) (by omega) (by decide) ?_
      refine wp_goto 64 dX7_walker_56 (by decide) ?_
      refine wp_ireti dX7_walker_64 rfl ?_
      exact ri_ok rfl rfl
    · exact absurd (Or.inr q19) h
theorem sm_walker3 {g : GG} {M : Mem} {k N : Nat} (hN : N ≤ 24) (hwh : M.1 25 8 * M.1 25 9 = nI N) (hk : k < 4) (h : ¬ (mWalkF M (nI k) = 0 ∨ inF 3 0 3 = 0)) : RI g mX7_walker [ob g 25, .int (nI k), .int 3] M (mlbF (M.1 31) (nI k) N 0 0) (th M) := by
  refine spec_of_wp (ls := [some (ob g 25), some (.int (nI k)), some (.int 3)]) rfl (Nat.le_of_ble_eq_true rfl) 0 rfl ?_
  refine wp_aload_n (pc' := 1) dX7_walker_0 rfl rfl ⟨_, rfl⟩ ?_
  refine wp_iconst (pc' := 2) 0 dX7_walker_1 rfl (by decide) ?_
  refine wp_put (pc' := 5) (o := 25) dX7_walker_2 rfl fpX7_47 (by decide) rfl (Nat.le_of_ble_eq_true rfl) rfl ?_
  refine wp_aload_n (pc' := 6) dX7_walker_5 rfl rfl ⟨_, rfl⟩ ?_
  refine wp_iload_n (pc' := 7) dX7_walker_6 rfl rfl ?_
  refine wp_cVI (μ' := mX7_isWalker) (pc' := 10) (o := 25) dX7_walker_7 rfl mlX7_141 cfX7_isWalker ⟨(Nat.le_of_ble_eq_true rfl), (Nat.le_of_ble_eq_true rfl)⟩ (sm_isWalker) (by decide) rfl rfl rfl rfl rfl (Nat.le_of_ble_eq_true rfl) ?_
  refine wp_if_eq (pc' := 13) 22 dX7_walker_10 rfl (by decide) (fun q10 => ?_) (fun q10 => ?_)
  · exact absurd (Or.inl q10) h
  · refine wp_iload_n (pc' := 14) dX7_walker_13 rfl rfl ?_
    refine wp_iconst (pc' := 15) 0 dX7_walker_14 rfl (by decide) ?_
    refine wp_iconst (pc' := 16) 3 dX7_walker_15 rfl (by decide) ?_
    refine wp_cSI (μ' := mX7_in) (pc' := 19) dX7_walker_16 rfl mlX7_57 cfX7_in ⟨(Nat.le_of_ble_eq_true rfl), (Nat.le_of_ble_eq_true rfl)⟩ (sm_in) rfl rfl (Nat.le_of_ble_eq_true rfl) ?_
    refine wp_if_ne (pc' := 22) 24 dX7_walker_19 rfl (by decide) (fun q19 => ?_) (fun q19 => ?_)
    · refine wp_iload_n (pc' := 25) dX7_walker_24 rfl rfl ?_
      refine wp_iconst (pc' := 26) 2 dX7_walker_25 rfl (by decide) ?_
      refine wp_icmp_ge (pc' := 29) 42 dX7_walker_26 rfl (by decide) (fun _ => ?_) (fun hh => absurd hh (by decide))
      refine wp_iload_n (pc' := 43) dX7_walker_42 rfl rfl ?_
      refine wp_iconst (pc' := 44) 2 dX7_walker_43 rfl (by decide) ?_
      refine wp_icmp_ne (pc' := 47) 59 dX7_walker_44 rfl (by decide) (fun _ => ?_) (fun hh => absurd hh (by decide))
      refine wp_aload_n (pc' := 60) dX7_walker_59 rfl rfl ⟨_, rfl⟩ ?_
      refine wp_iload_n (pc' := 61) dX7_walker_60 rfl rfl ?_
      refine wp_cVI (μ' := mX7_laidBy) (pc' := 64) (o := 25) dX7_walker_61 rfl mlX7_144 cfX7_laidBy ⟨(Nat.le_of_ble_eq_true rfl), (Nat.le_of_ble_eq_true rfl)⟩ (sm_laidBy hN hwh) (by decide) rfl rfl rfl rfl rfl (Nat.le_of_ble_eq_true rfl) ?_
      refine wp_ireti dX7_walker_64 rfl ?_
      exact ri_ok rfl rfl
    · exact absurd (Or.inr q19) h
theorem sm_passedInAll {g : GG} {M : Mem} : RI g mX7_passedInAll [ob g 25] M (((M.1 31 72 + M.1 31 73) + M.1 31 74) + M.1 31 75) M := by
  refine spec_of_wp (ls := [some (ob g 25)]) rfl (Nat.le_of_ble_eq_true rfl) 0 rfl ?_
  refine wp_aload_n (pc' := 1) dX7_passedInAll_0 rfl rfl ⟨_, rfl⟩ ?_
  refine wp_get (pc' := 4) (o := 25) dX7_passedInAll_1 rfl flX7_25 (by decide) rfl rfl ?_
  refine wp_bipush (pc' := 6) 72 dX7_passedInAll_4 rfl (by decide) ?_
  refine wp_ialdN (pc' := 7) (o := 31) (n := 76) (72) dX7_passedInAll_6 rfl (by decide) rfl (rfl) (by decide) (by decide) ?_
  refine wp_aload_n (pc' := 8) dX7_passedInAll_7 rfl rfl ⟨_, rfl⟩ ?_
  refine wp_get (pc' := 11) (o := 25) dX7_passedInAll_8 rfl flX7_25 (by decide) rfl rfl ?_
  refine wp_bipush (pc' := 13) 73 dX7_passedInAll_11 rfl (by decide) ?_
  refine wp_ialdN (pc' := 14) (o := 31) (n := 76) (73) dX7_passedInAll_13 rfl (by decide) rfl (rfl) (by decide) (by decide) ?_
  refine wp_iadd (pc' := 15) dX7_passedInAll_14 rfl ?_
  refine wp_aload_n (pc' := 16) dX7_passedInAll_15 rfl rfl ⟨_, rfl⟩ ?_
  refine wp_get (pc' := 19) (o := 25) dX7_passedInAll_16 rfl flX7_25 (by decide) rfl rfl ?_
  refine wp_bipush (pc' := 21) 74 dX7_passedInAll_19 rfl (by decide) ?_
  refine wp_ialdN (pc' := 22) (o := 31) (n := 76) (74) dX7_passedInAll_21 rfl (by decide) rfl (rfl) (by decide) (by decide) ?_
  refine wp_iadd (pc' := 23) dX7_passedInAll_22 rfl ?_
  refine wp_aload_n (pc' := 24) dX7_passedInAll_23 rfl rfl ⟨_, rfl⟩ ?_
  refine wp_get (pc' := 27) (o := 25) dX7_passedInAll_24 rfl flX7_25 (by decide) rfl rfl ?_
  refine wp_bipush (pc' := 29) 75 dX7_passedInAll_27 rfl (by decide) ?_
  refine wp_ialdN (pc' := 30) (o := 31) (n := 76) (75) dX7_passedInAll_29 rfl (by decide) rfl (rfl) (by decide) (by decide) ?_
  refine wp_iadd (pc' := 31) dX7_passedInAll_30 rfl ?_
  refine wp_ireti dX7_passedInAll_31 rfl ?_
  exact ri_ok rfl rfl
def mpaF (s : Nat → Int32) : Int32 := ((s 72 + s 73) + s 74) + s 75
theorem sm_anew {g : GG} {M : Mem} {N : Nat} (hN : N ≤ 24) (hwh : M.1 25 8 * M.1 25 9 = nI N) : RI g mX7_anew [ob g 25] M (mpaF (M.1 31)) (setO (th M) 31 (begS (th M) N)) := by
  refine spec_of_wp (ls := [some (ob g 25), none]) rfl (Nat.le_of_ble_eq_true rfl) 1 rfl ?_
  refine wp_aload_n (pc' := 1) dX7_anew_0 rfl rfl ⟨_, rfl⟩ ?_
  refine wp_iconst (pc' := 2) 0 dX7_anew_1 rfl (by decide) ?_
  refine wp_put (pc' := 5) (o := 25) dX7_anew_2 rfl fpX7_47 (by decide) rfl (Nat.le_of_ble_eq_true rfl) rfl ?_
  refine wp_aload_n (pc' := 6) dX7_anew_5 rfl rfl ⟨_, rfl⟩ ?_
  refine wp_cVI (μ' := mX7_passedInAll) (pc' := 9) (o := 25) dX7_anew_6 rfl mlX7_175 cfX7_passedInAll ⟨(Nat.le_of_ble_eq_true rfl), (Nat.le_of_ble_eq_true rfl)⟩ (sm_passedInAll) (by decide) rfl rfl rfl rfl rfl (Nat.le_of_ble_eq_true rfl) ?_
  refine wp_ist1 (pc' := 10) dX7_anew_9 rfl (by decide) rfl ?_
  refine wp_aload_n (pc' := 11) dX7_anew_10 rfl rfl ⟨_, rfl⟩ ?_
  refine wp_cVV (μ' := mX7_begins) (pc' := 14) (o := 25) dX7_anew_11 rfl mlX7_134 cfX7_begins ⟨(Nat.le_of_ble_eq_true rfl), (Nat.le_of_ble_eq_true rfl)⟩ (sm_begins hN hwh) (by decide) rfl rfl rfl rfl rfl (Nat.le_of_ble_eq_true rfl) ?_
  refine wp_iload_n (pc' := 15) dX7_anew_14 rfl rfl ?_
  refine wp_ireti dX7_anew_15 rfl ?_
  exact ri_ok rfl rfl
def mcountV (M : Mem) (what : Int32) : Int32 := if what = 0 then M.1 25 8 else if what = 1 then M.1 25 9 else if what = 2 then M.1 25 10 else if what = 3 then M.1 25 11 else if what = 4 then M.1 25 3 else -1
theorem sm_count {g : GG} {M : Mem} {what : Int32} : RI g mX7_count [ob g 25, .int what] M (mcountV M what) (th M) := by
  refine spec_of_wp (ls := [some (ob g 25), some (.int what)]) rfl (Nat.le_of_ble_eq_true rfl) 0 rfl ?_
  refine wp_aload_n (pc' := 1) dX7_count_0 rfl rfl ⟨_, rfl⟩ ?_
  refine wp_iconst (pc' := 2) 0 dX7_count_1 rfl (by decide) ?_
  refine wp_put (pc' := 5) (o := 25) dX7_count_2 rfl fpX7_47 (by decide) rfl (Nat.le_of_ble_eq_true rfl) rfl ?_
  refine wp_iload_n (pc' := 6) dX7_count_5 rfl rfl ?_
  refine wp_if_ne (pc' := 9) 16 dX7_count_6 rfl (by decide) (fun h6 => ?_) (fun h6 => ?_)
  · refine wp_iload_n (pc' := 17) dX7_count_16 rfl rfl ?_
    refine wp_iconst (pc' := 18) 1 dX7_count_17 rfl (by decide) ?_
    refine wp_icmp_ne (pc' := 21) 28 dX7_count_18 rfl (by decide) (fun h18 => ?_) (fun h18 => ?_)
    · refine wp_iload_n (pc' := 29) dX7_count_28 rfl rfl ?_
      refine wp_iconst (pc' := 30) 2 dX7_count_29 rfl (by decide) ?_
      refine wp_icmp_ne (pc' := 33) 40 dX7_count_30 rfl (by decide) (fun h30 => ?_) (fun h30 => ?_)
      · refine wp_iload_n (pc' := 41) dX7_count_40 rfl rfl ?_
        refine wp_iconst (pc' := 42) 3 dX7_count_41 rfl (by decide) ?_
        refine wp_icmp_ne (pc' := 45) 52 dX7_count_42 rfl (by decide) (fun h42 => ?_) (fun h42 => ?_)
        · refine wp_iload_n (pc' := 53) dX7_count_52 rfl rfl ?_
          refine wp_iconst (pc' := 54) 4 dX7_count_53 rfl (by decide) ?_
          refine wp_icmp_ne (pc' := 57) 64 dX7_count_54 rfl (by decide) (fun h54 => ?_) (fun h54 => ?_)
          · refine wp_iconst (pc' := 65) (-1) dX7_count_64 rfl (by decide) ?_
            refine wp_ireti dX7_count_65 rfl ?_
            exact ri_ok (by rw [mcountV, if_neg h6, if_neg h18, if_neg h30, if_neg h42, if_neg h54]; try rfl) rfl
          · refine wp_aload_n (pc' := 58) dX7_count_57 rfl rfl ⟨_, rfl⟩ ?_
            refine wp_get (pc' := 61) (o := 25) dX7_count_58 rfl flX7_64 (by decide) rfl rfl ?_
            refine wp_goto 65 dX7_count_61 (by decide) ?_
            refine wp_ireti dX7_count_65 rfl ?_
            exact ri_ok (by rw [mcountV, if_neg h6, if_neg h18, if_neg h30, if_neg h42, if_pos h54]; try rfl) rfl
        · refine wp_aload_n (pc' := 46) dX7_count_45 rfl rfl ⟨_, rfl⟩ ?_
          refine wp_get (pc' := 49) (o := 25) dX7_count_46 rfl flX7_128 (by decide) rfl rfl ?_
          refine wp_goto 65 dX7_count_49 (by decide) ?_
          refine wp_ireti dX7_count_65 rfl ?_
          exact ri_ok (by rw [mcountV, if_neg h6, if_neg h18, if_neg h30, if_pos h42]; try rfl) rfl
      · refine wp_aload_n (pc' := 34) dX7_count_33 rfl rfl ⟨_, rfl⟩ ?_
        refine wp_get (pc' := 37) (o := 25) dX7_count_34 rfl flX7_61 (by decide) rfl rfl ?_
        refine wp_goto 65 dX7_count_37 (by decide) ?_
        refine wp_ireti dX7_count_65 rfl ?_
        exact ri_ok (by rw [mcountV, if_neg h6, if_neg h18, if_pos h30]; try rfl) rfl
    · refine wp_aload_n (pc' := 22) dX7_count_21 rfl rfl ⟨_, rfl⟩ ?_
      refine wp_get (pc' := 25) (o := 25) dX7_count_22 rfl flX7_54 (by decide) rfl rfl ?_
      refine wp_goto 65 dX7_count_25 (by decide) ?_
      refine wp_ireti dX7_count_65 rfl ?_
      exact ri_ok (by rw [mcountV, if_neg h6, if_pos h18]; try rfl) rfl
  · refine wp_aload_n (pc' := 10) dX7_count_9 rfl rfl ⟨_, rfl⟩ ?_
    refine wp_get (pc' := 13) (o := 25) dX7_count_10 rfl flX7_51 (by decide) rfl rfl ?_
    refine wp_goto 65 dX7_count_13 (by decide) ?_
    refine wp_ireti dX7_count_65 rfl ?_
    exact ri_ok (by rw [mcountV, if_pos h6]; try rfl) rfl
theorem sm_trace {g : GG} {M : Mem} : RL_ g mX7_trace [ob g 25] M (M.2 25) (th M) := by
  refine spec_of_wp (ls := [some (ob g 25)]) rfl (Nat.le_of_ble_eq_true rfl) 0 rfl ?_
  refine wp_aload_n (pc' := 1) dX7_trace_0 rfl rfl ⟨_, rfl⟩ ?_
  refine wp_iconst (pc' := 2) 0 dX7_trace_1 rfl (by decide) ?_
  refine wp_put (pc' := 5) (o := 25) dX7_trace_2 rfl fpX7_47 (by decide) rfl (Nat.le_of_ble_eq_true rfl) rfl ?_
  refine wp_aload_n (pc' := 6) dX7_trace_5 rfl rfl ⟨_, rfl⟩ ?_
  refine wp_get (pc' := 9) (o := 25) dX7_trace_6 rfl flX7_203 (by decide) rfl rfl ?_
  refine wp_lret dX7_trace_9 rfl ?_
  exact ⟨rfl, rfl⟩
