
def isB (x : Int32) : Prop := narrow .boolean (.int x) = .int x ∧ fits .boolean (.int x) = true
/-! Text -/
def addM (M : Mem) (b : Int32) : Mem := if 300 ≤ M.1 2 1 then M else upI (putM M 3 300 (M.1 2 1) b) 2 1 ((putM M 3 300 (M.1 2 1) b).1 2 1 + 1)

theorem sp_add {g : GG} {M : Mem} {b : Int32} : RV g mX3_add [ob g 2, .int b] M (addM M b) := by
  refine spec_of_wp (ls := [some (ob g 2), some (.int b)]) rfl (Nat.le_of_ble_eq_true rfl) 0 rfl ?_
  refine wp_aload_n (pc' := 1) dX3_add_0 rfl rfl ⟨_, rfl⟩ ?_
  refine wp_get (pc' := 4) (o := 2) dX3_add_1 rfl flX3_15 (by decide) rfl rfl ?_
  refine wp_sipush (pc' := 7) 300 dX3_add_4 rfl (by decide) ?_
  refine wp_icmp_ge (pc' := 10) 32 dX3_add_7 rfl (by decide) (fun h7 => ?_) (fun h7 => ?_)
  · refine wp_vret dX3_add_32 rfl ?_
    exact rv_ok (by simp [addM, h7]; done)
  · refine wp_aload_n (pc' := 11) dX3_add_10 rfl rfl ⟨_, rfl⟩ ?_
    refine wp_get (pc' := 14) (o := 2) dX3_add_11 rfl flX3_9 (by decide) rfl rfl ?_
    refine wp_aload_n (pc' := 15) dX3_add_14 rfl rfl ⟨_, rfl⟩ ?_
    refine wp_get (pc' := 18) (o := 2) dX3_add_15 rfl flX3_15 (by decide) rfl rfl ?_
    refine wp_iload_n (pc' := 19) dX3_add_18 rfl rfl ?_
    refine wp_cSV (μ' := mX6_put) (pc' := 22) dX3_add_19 rfl mlX3_19 cfX6_put ⟨(Nat.le_of_ble_eq_true rfl), (Nat.le_of_ble_eq_true rfl)⟩ (sp_put arr3) rfl rfl (Nat.le_of_ble_eq_true rfl) ?_
    refine wp_aload_n (pc' := 23) dX3_add_22 rfl rfl ⟨_, rfl⟩ ?_
    refine wp_dup (pc' := 24) dX3_add_23 rfl rfl ?_
    refine wp_get (pc' := 27) (o := 2) dX3_add_24 rfl flX3_15 (by decide) rfl rfl ?_
    refine wp_iconst (pc' := 28) 1 dX3_add_27 rfl (by decide) ?_
    refine wp_iadd (pc' := 29) dX3_add_28 rfl ?_
    refine wp_put (pc' := 32) (o := 2) dX3_add_29 rfl fpX3_15 (by decide) rfl (Nat.le_of_ble_eq_true rfl) rfl ?_
    refine wp_vret dX3_add_32 rfl ?_
    exact rv_ok (by rw [addM, if_neg h7])
theorem sp_tempty {g : GG} {M : Mem} : RI g mX3_empty [ob g 2] M (M.1 2 1) (upI M 2 1 0) := by
  refine spec_of_wp (ls := [some (ob g 2), none]) rfl (Nat.le_of_ble_eq_true rfl) 1 rfl ?_
  refine wp_aload_n (pc' := 1) dX3_empty_0 rfl rfl ⟨_, rfl⟩ ?_
  refine wp_get (pc' := 4) (o := 2) dX3_empty_1 rfl flX3_15 (by decide) rfl rfl ?_
  refine wp_ist1 (pc' := 5) dX3_empty_4 rfl (by decide) rfl ?_
  refine wp_aload_n (pc' := 6) dX3_empty_5 rfl rfl ⟨_, rfl⟩ ?_
  refine wp_iconst (pc' := 7) 0 dX3_empty_6 rfl (by decide) ?_
  refine wp_put (pc' := 10) (o := 2) dX3_empty_7 rfl fpX3_15 (by decide) rfl (Nat.le_of_ble_eq_true rfl) rfl ?_
  refine wp_iload_n (pc' := 11) dX3_empty_10 rfl rfl ?_
  refine wp_ireti dX3_empty_11 rfl ?_
  exact ri_ok rfl rfl
def byF (M : Mem) (i : Int32) : Int32 := if i < 0 ∨ M.1 2 1 ≤ i ∨ 300 ≤ i then -1 else M.1 3 i.toNatClampNeg
theorem sp_byteAt {g : GG} {M : Mem} {i : Int32} : RI g mX3_byteAt [ob g 2, .int i] M (byF M i) M := by
  refine spec_of_wp (ls := [some (ob g 2), some (.int i)]) rfl (Nat.le_of_ble_eq_true rfl) 0 rfl ?_
  refine wp_iload_n (pc' := 1) dX3_byteAt_0 rfl rfl ?_
  refine wp_if_lt (pc' := 4) 30 dX3_byteAt_1 rfl (by decide) (fun h1 => ?_) (fun h1 => ?_)
  · refine wp_iconst (pc' := 31) (-1) dX3_byteAt_30 rfl (by decide) ?_
    refine wp_ireti dX3_byteAt_31 rfl ?_
    exact ri_ok (by rw [byF, if_pos (Or.inl h1)]) rfl
  · refine wp_iload_n (pc' := 5) dX3_byteAt_4 rfl rfl ?_
    refine wp_aload_n (pc' := 6) dX3_byteAt_5 rfl rfl ⟨_, rfl⟩ ?_
    refine wp_get (pc' := 9) (o := 2) dX3_byteAt_6 rfl flX3_15 (by decide) rfl rfl ?_
    refine wp_icmp_ge (pc' := 12) 30 dX3_byteAt_9 rfl (by decide) (fun h9 => ?_) (fun h9 => ?_)
    · refine wp_iconst (pc' := 31) (-1) dX3_byteAt_30 rfl (by decide) ?_
      refine wp_ireti dX3_byteAt_31 rfl ?_
      exact ri_ok (by rw [byF, if_pos (Or.inr (Or.inl h9))]) rfl
    · refine wp_iload_n (pc' := 13) dX3_byteAt_12 rfl rfl ?_
      refine wp_aload_n (pc' := 14) dX3_byteAt_13 rfl rfl ⟨_, rfl⟩ ?_
      refine wp_get (pc' := 17) (o := 2) dX3_byteAt_14 rfl flX3_9 (by decide) rfl rfl ?_
      refine wp_alen (pc' := 18) (o := 3) (n := 300) (v := 300) dX3_byteAt_17 rfl (by decide) rfl (by decide) ?_
      refine wp_icmp_ge (pc' := 21) 30 dX3_byteAt_18 rfl (by decide) (fun h18 => ?_) (fun h18 => ?_)
      · refine wp_iconst (pc' := 31) (-1) dX3_byteAt_30 rfl (by decide) ?_
        refine wp_ireti dX3_byteAt_31 rfl ?_
        exact ri_ok (by rw [byF, if_pos (Or.inr (Or.inr h18))]) rfl
      · refine wp_aload_n (pc' := 22) dX3_byteAt_21 rfl rfl ⟨_, rfl⟩ ?_
        refine wp_get (pc' := 25) (o := 2) dX3_byteAt_22 rfl flX3_9 (by decide) rfl rfl ?_
        refine wp_iload_n (pc' := 26) dX3_byteAt_25 rfl rfl ?_
        refine wp_iald (pc' := 27) (o := 3) (n := 300) dX3_byteAt_26 rfl (by decide) rfl (in_of (n := 300) (by decide) h1 h18) ?_
        refine wp_goto 31 dX3_byteAt_27 (by decide) ?_
        refine wp_ireti dX3_byteAt_31 rfl ?_
        exact ri_ok (by rw [byF, if_neg (fun h => h.elim h1 (fun h => h.elim h9 h18))]) rfl

def brF (M : Mem) (lo hi : Int32) : Nat → Int32 → Int32
  | 0, i => i
  | n + 1, i => if M.1 2 1 ≤ i ∨ byF M i < lo ∨ hi < byF M i then i else brF M lo hi n (i + 1)
theorem byF_300 (M : Mem) : byF M (nI 300) = -1 := by rw [byF, if_pos (Or.inr (Or.inr (by decide)))]

theorem lp_behindRun {g : GG} {M : Mem} {lo hi : Int32} (hlo : (-1 : Int32) < lo) : ∀ (n j : Nat), j + n = 300 → ∀ (x : Int32), wp g mX3_behindRun 3 [some (ob g 2), some (.int x), some (.int lo), some (.int hi), some (.int (nI j))] [] M (fun q m => q = some (.int (brF M lo hi n (nI j))) ∧ m = M) := by
  intro n
  induction n with
  | zero =>
    intro j hj x
    obtain rfl : j = 300 := by omega
    refine wp_iload (pc' := 5) dX3_behindRun_3 rfl rfl ?_
    refine wp_aload_n (pc' := 6) dX3_behindRun_5 rfl rfl ⟨_, rfl⟩ ?_
    refine wp_get (pc' := 9) (o := 2) dX3_behindRun_6 rfl flX3_15 (by decide) rfl rfl ?_
    refine wp_icmp_ge (pc' := 12) 38 dX3_behindRun_9 rfl (by decide) (fun h9 => ?_) (fun h9 => ?_)
    · refine wp_iload (pc' := 40) dX3_behindRun_38 rfl rfl ?_
      refine wp_ireti dX3_behindRun_40 rfl ?_
      exact ri_ok rfl rfl
    · refine wp_aload_n (pc' := 13) dX3_behindRun_12 rfl rfl ⟨_, rfl⟩ ?_
      refine wp_iload (pc' := 15) dX3_behindRun_13 rfl rfl ?_
      refine wp_cVI (μ' := mX3_byteAt) (pc' := 18) (o := 2) dX3_behindRun_15 rfl mlX3_23 cfX3_byteAt ⟨(Nat.le_of_ble_eq_true rfl), (Nat.le_of_ble_eq_true rfl)⟩ (sp_byteAt) (by decide) rfl rfl rfl rfl rfl (Nat.le_of_ble_eq_true rfl) ?_
      refine wp_iload_n (pc' := 19) dX3_behindRun_18 rfl rfl ?_
      refine wp_icmp_lt (pc' := 22) 38 dX3_behindRun_19 rfl (by decide) (fun h19 => ?_) (fun h19 => ?_)
      · refine wp_iload (pc' := 40) dX3_behindRun_38 rfl rfl ?_
        refine wp_ireti dX3_behindRun_40 rfl ?_
        exact ri_ok rfl rfl
      · exact absurd (by rw [byF_300]; exact hlo) h19
  | succ n ih =>
    intro j hj x
    refine wp_iload (pc' := 5) dX3_behindRun_3 rfl rfl ?_
    refine wp_aload_n (pc' := 6) dX3_behindRun_5 rfl rfl ⟨_, rfl⟩ ?_
    refine wp_get (pc' := 9) (o := 2) dX3_behindRun_6 rfl flX3_15 (by decide) rfl rfl ?_
    refine wp_icmp_ge (pc' := 12) 38 dX3_behindRun_9 rfl (by decide) (fun h9 => ?_) (fun h9 => ?_)
    · refine wp_iload (pc' := 40) dX3_behindRun_38 rfl rfl ?_
      refine wp_ireti dX3_behindRun_40 rfl ?_
      exact ri_ok (by rw [brF, if_pos (Or.inl h9)]) rfl
    · refine wp_aload_n (pc' := 13) dX3_behindRun_12 rfl rfl ⟨_, rfl⟩ ?_
      refine wp_iload (pc' := 15) dX3_behindRun_13 rfl rfl ?_
      refine wp_cVI (μ' := mX3_byteAt) (pc' := 18) (o := 2) dX3_behindRun_15 rfl mlX3_23 cfX3_byteAt ⟨(Nat.le_of_ble_eq_true rfl), (Nat.le_of_ble_eq_true rfl)⟩ (sp_byteAt) (by decide) rfl rfl rfl rfl rfl (Nat.le_of_ble_eq_true rfl) ?_
      refine wp_iload_n (pc' := 19) dX3_behindRun_18 rfl rfl ?_
      refine wp_icmp_lt (pc' := 22) 38 dX3_behindRun_19 rfl (by decide) (fun h19 => ?_) (fun h19 => ?_)
      · refine wp_iload (pc' := 40) dX3_behindRun_38 rfl rfl ?_
        refine wp_ireti dX3_behindRun_40 rfl ?_
        exact ri_ok (by rw [brF, if_pos (Or.inr (Or.inl h19))]) rfl
      · refine wp_aload_n (pc' := 23) dX3_behindRun_22 rfl rfl ⟨_, rfl⟩ ?_
        refine wp_iload (pc' := 25) dX3_behindRun_23 rfl rfl ?_
        refine wp_cVI (μ' := mX3_byteAt) (pc' := 28) (o := 2) dX3_behindRun_25 rfl mlX3_23 cfX3_byteAt ⟨(Nat.le_of_ble_eq_true rfl), (Nat.le_of_ble_eq_true rfl)⟩ (sp_byteAt) (by decide) rfl rfl rfl rfl rfl (Nat.le_of_ble_eq_true rfl) ?_
        refine wp_iload_n (pc' := 29) dX3_behindRun_28 rfl rfl ?_
        refine wp_icmp_gt (pc' := 32) 38 dX3_behindRun_29 rfl (by decide) (fun h29 => ?_) (fun h29 => ?_)
        · refine wp_iload (pc' := 40) dX3_behindRun_38 rfl rfl ?_
          refine wp_ireti dX3_behindRun_40 rfl ?_
          exact ri_ok (by rw [brF, if_pos (Or.inr (Or.inr h29))]) rfl
        · refine wp_inc4 (pc' := 35) (nI (j + 1)) dX3_behindRun_32 rfl (by decide) rfl (nI_1 j) ?_
          refine wp_goto 3 dX3_behindRun_35 (by decide) ?_
          rw [brF, if_neg (fun h => h.elim h9 (fun h => h.elim h19 h29)), nI_1]
          exact ih (j + 1) (by omega) _
theorem sp_behindRun {g : GG} {M : Mem} {lo hi : Int32} {j : Nat} (hlo : (-1 : Int32) < lo) (hj : j ≤ 300) : RI g mX3_behindRun [ob g 2, .int (nI j), .int lo, .int hi] M (brF M lo hi (300 - j) (nI j)) M := by
  refine spec_of_wp (ls := [some (ob g 2), some (.int (nI j)), some (.int lo), some (.int hi), none]) rfl (Nat.le_of_ble_eq_true rfl) 1 rfl ?_
  refine wp_iload_n (pc' := 1) dX3_behindRun_0 rfl rfl ?_
  refine wp_ist4 (pc' := 3) dX3_behindRun_1 rfl (by decide) rfl ?_
  exact lp_behindRun hlo (300 - j) j (by omega) _
/-! Told -/
def temptyM (M : Mem) : Mem := (upI (upI (upI (upI (upI (upI (upI (upI M 7 0 0) 7 1 0) 7 2 0) 7 3 0) 7 4 0) 7 5 0) 7 6 0) 7 7 0)
theorem sp_dempty {g : GG} {M : Mem} : RV g mX4_empty [ob g 7] M (temptyM M) := by
  refine spec_of_wp (ls := [some (ob g 7)]) rfl (Nat.le_of_ble_eq_true rfl) 0 rfl ?_
  refine wp_aload_n (pc' := 1) dX4_empty_0 rfl rfl ⟨_, rfl⟩ ?_
  refine wp_iconst (pc' := 2) 0 dX4_empty_1 rfl (by decide) ?_
  refine wp_put (pc' := 5) (o := 7) dX4_empty_2 rfl fpX4_18 (by decide) rfl (Nat.le_of_ble_eq_true rfl) rfl ?_
  refine wp_aload_n (pc' := 6) dX4_empty_5 rfl rfl ⟨_, rfl⟩ ?_
  refine wp_iconst (pc' := 7) 0 dX4_empty_6 rfl (by decide) ?_
  refine wp_put (pc' := 10) (o := 7) dX4_empty_7 rfl fpX4_22 (by decide) rfl (Nat.le_of_ble_eq_true rfl) rfl ?_
  refine wp_aload_n (pc' := 11) dX4_empty_10 rfl rfl ⟨_, rfl⟩ ?_
  refine wp_iconst (pc' := 12) 0 dX4_empty_11 rfl (by decide) ?_
  refine wp_put (pc' := 15) (o := 7) dX4_empty_12 rfl fpX4_25 (by decide) rfl (Nat.le_of_ble_eq_true rfl) rfl ?_
  refine wp_aload_n (pc' := 16) dX4_empty_15 rfl rfl ⟨_, rfl⟩ ?_
  refine wp_iconst (pc' := 17) 0 dX4_empty_16 rfl (by decide) ?_
  refine wp_put (pc' := 20) (o := 7) dX4_empty_17 rfl fpX4_28 (by decide) rfl (Nat.le_of_ble_eq_true rfl) rfl ?_
  refine wp_aload_n (pc' := 21) dX4_empty_20 rfl rfl ⟨_, rfl⟩ ?_
  refine wp_iconst (pc' := 22) 0 dX4_empty_21 rfl (by decide) ?_
  refine wp_put (pc' := 25) (o := 7) dX4_empty_22 rfl fpX4_31 (by decide) rfl (Nat.le_of_ble_eq_true rfl) rfl ?_
  refine wp_aload_n (pc' := 26) dX4_empty_25 rfl rfl ⟨_, rfl⟩ ?_
  refine wp_iconst (pc' := 27) 0 dX4_empty_26 rfl (by decide) ?_
  refine wp_put (pc' := 30) (o := 7) dX4_empty_27 rfl fpX4_34 (by decide) rfl (Nat.le_of_ble_eq_true rfl) rfl ?_
  refine wp_aload_n (pc' := 31) dX4_empty_30 rfl rfl ⟨_, rfl⟩ ?_
  refine wp_iconst (pc' := 32) 0 dX4_empty_31 rfl (by decide) ?_
  refine wp_putz (pc' := 35) (o := 7) dX4_empty_32 rfl fpX4_37 (by decide) rfl (Nat.le_of_ble_eq_true rfl) rfl rfl rfl ?_
  refine wp_aload_n (pc' := 36) dX4_empty_35 rfl rfl ⟨_, rfl⟩ ?_
  refine wp_iconst (pc' := 37) 0 dX4_empty_36 rfl (by decide) ?_
  refine wp_put (pc' := 40) (o := 7) dX4_empty_37 rfl fpX4_41 (by decide) rfl (Nat.le_of_ble_eq_true rfl) rfl ?_
  refine wp_vret dX4_empty_40 rfl ?_
  exact rv_ok rfl
def toldCopyM (M : Mem) : Mem := setO (setO (upI (upI (upI (upI (upI (upI (upI (upI M 4 0 (M.1 7 0)) 4 1 (M.1 7 1)) 4 2 (M.1 7 2)) 4 3 (M.1 7 3)) 4 4 (M.1 7 4)) 4 5 (M.1 7 5)) 4 6 (M.1 7 6)) 4 7 (M.1 7 7)) 5 (cpyF 4 (M.1 8) (M.1 5))) 6 (cpyF 4 (M.1 9) (M.1 6))
theorem sp_dcopy {g : GG} {M : Mem} (hB : isB (M.1 7 6)) : RV g mX4_copy [ob g 4, ob g 7] M (toldCopyM M) := by
  refine spec_of_wp (ls := [some (ob g 4), some (ob g 7)]) rfl (Nat.le_of_ble_eq_true rfl) 0 rfl ?_
  refine wp_aload_n (pc' := 1) dX4_copy_0 rfl rfl ⟨_, rfl⟩ ?_
  refine wp_aload_n (pc' := 2) dX4_copy_1 rfl rfl ⟨_, rfl⟩ ?_
  refine wp_get (pc' := 5) (o := 7) dX4_copy_2 rfl flX4_18 (by decide) rfl rfl ?_
  refine wp_put (pc' := 8) (o := 4) dX4_copy_5 rfl fpX4_18 (by decide) rfl (Nat.le_of_ble_eq_true rfl) rfl ?_
  refine wp_aload_n (pc' := 9) dX4_copy_8 rfl rfl ⟨_, rfl⟩ ?_
  refine wp_aload_n (pc' := 10) dX4_copy_9 rfl rfl ⟨_, rfl⟩ ?_
  refine wp_get (pc' := 13) (o := 7) dX4_copy_10 rfl flX4_22 (by decide) rfl rfl ?_
  refine wp_put (pc' := 16) (o := 4) dX4_copy_13 rfl fpX4_22 (by decide) rfl (Nat.le_of_ble_eq_true rfl) rfl ?_
  refine wp_aload_n (pc' := 17) dX4_copy_16 rfl rfl ⟨_, rfl⟩ ?_
  refine wp_aload_n (pc' := 18) dX4_copy_17 rfl rfl ⟨_, rfl⟩ ?_
  refine wp_get (pc' := 21) (o := 7) dX4_copy_18 rfl flX4_25 (by decide) rfl rfl ?_
  refine wp_put (pc' := 24) (o := 4) dX4_copy_21 rfl fpX4_25 (by decide) rfl (Nat.le_of_ble_eq_true rfl) rfl ?_
  refine wp_aload_n (pc' := 25) dX4_copy_24 rfl rfl ⟨_, rfl⟩ ?_
  refine wp_aload_n (pc' := 26) dX4_copy_25 rfl rfl ⟨_, rfl⟩ ?_
  refine wp_get (pc' := 29) (o := 7) dX4_copy_26 rfl flX4_28 (by decide) rfl rfl ?_
  refine wp_put (pc' := 32) (o := 4) dX4_copy_29 rfl fpX4_28 (by decide) rfl (Nat.le_of_ble_eq_true rfl) rfl ?_
  refine wp_aload_n (pc' := 33) dX4_copy_32 rfl rfl ⟨_, rfl⟩ ?_
  refine wp_aload_n (pc' := 34) dX4_copy_33 rfl rfl ⟨_, rfl⟩ ?_
  refine wp_get (pc' := 37) (o := 7) dX4_copy_34 rfl flX4_31 (by decide) rfl rfl ?_
  refine wp_put (pc' := 40) (o := 4) dX4_copy_37 rfl fpX4_31 (by decide) rfl (Nat.le_of_ble_eq_true rfl) rfl ?_
  refine wp_aload_n (pc' := 41) dX4_copy_40 rfl rfl ⟨_, rfl⟩ ?_
  refine wp_aload_n (pc' := 42) dX4_copy_41 rfl rfl ⟨_, rfl⟩ ?_
  refine wp_get (pc' := 45) (o := 7) dX4_copy_42 rfl flX4_34 (by decide) rfl rfl ?_
  refine wp_put (pc' := 48) (o := 4) dX4_copy_45 rfl fpX4_34 (by decide) rfl (Nat.le_of_ble_eq_true rfl) rfl ?_
  refine wp_aload_n (pc' := 49) dX4_copy_48 rfl rfl ⟨_, rfl⟩ ?_
  refine wp_aload_n (pc' := 50) dX4_copy_49 rfl rfl ⟨_, rfl⟩ ?_
  refine wp_get (pc' := 53) (o := 7) dX4_copy_50 rfl flX4_37 (by decide) rfl rfl ?_
  refine wp_putz (pc' := 56) (o := 4) dX4_copy_53 rfl fpX4_37 (by decide) rfl (Nat.le_of_ble_eq_true rfl) rfl hB.1 hB.2 ?_
  refine wp_aload_n (pc' := 57) dX4_copy_56 rfl rfl ⟨_, rfl⟩ ?_
  refine wp_aload_n (pc' := 58) dX4_copy_57 rfl rfl ⟨_, rfl⟩ ?_
  refine wp_get (pc' := 61) (o := 7) dX4_copy_58 rfl flX4_41 (by decide) rfl rfl ?_
  refine wp_put (pc' := 64) (o := 4) dX4_copy_61 rfl fpX4_41 (by decide) rfl (Nat.le_of_ble_eq_true rfl) rfl ?_
  refine wp_aload_n (pc' := 65) dX4_copy_64 rfl rfl ⟨_, rfl⟩ ?_
  refine wp_get (pc' := 68) (o := 7) dX4_copy_65 rfl flX4_9 (by decide) rfl rfl ?_
  refine wp_aload_n (pc' := 69) dX4_copy_68 rfl rfl ⟨_, rfl⟩ ?_
  refine wp_get (pc' := 72) (o := 4) dX4_copy_69 rfl flX4_9 (by decide) rfl rfl ?_
  refine wp_cSV (μ' := mX6_copyRow) (pc' := 75) dX4_copy_72 rfl mlX4_44 cfX6_copyRow ⟨(Nat.le_of_ble_eq_true rfl), (Nat.le_of_ble_eq_true rfl)⟩ (sp_copyRow arr8 arr5) rfl rfl (Nat.le_of_ble_eq_true rfl) ?_
  refine wp_aload_n (pc' := 76) dX4_copy_75 rfl rfl ⟨_, rfl⟩ ?_
  refine wp_get (pc' := 79) (o := 7) dX4_copy_76 rfl flX4_15 (by decide) rfl rfl ?_
  refine wp_aload_n (pc' := 80) dX4_copy_79 rfl rfl ⟨_, rfl⟩ ?_
  refine wp_get (pc' := 83) (o := 4) dX4_copy_80 rfl flX4_15 (by decide) rfl rfl ?_
  refine wp_cSV (μ' := mX6_copyRow) (pc' := 86) dX4_copy_83 rfl mlX4_44 cfX6_copyRow ⟨(Nat.le_of_ble_eq_true rfl), (Nat.le_of_ble_eq_true rfl)⟩ (sp_copyRow arr9 arr6) rfl rfl (Nat.le_of_ble_eq_true rfl) ?_
  refine wp_vret dX4_copy_86 rfl ?_
  exact rv_ok rfl
def takesF (M : Mem) : Int32 := if 4 ≤ M.1 7 1 ∨ ¬ M.1 7 7 = 0 then 0 else 1
theorem sp_takesRow {g : GG} {M : Mem} : RI g mX4_takesRow [ob g 7] M (takesF M) M := by
  refine spec_of_wp (ls := [some (ob g 7)]) rfl (Nat.le_of_ble_eq_true rfl) 0 rfl ?_
  refine wp_aload_n (pc' := 1) dX4_takesRow_0 rfl rfl ⟨_, rfl⟩ ?_
  refine wp_get (pc' := 4) (o := 7) dX4_takesRow_1 rfl flX4_22 (by decide) rfl rfl ?_
  refine wp_iconst (pc' := 5) 4 dX4_takesRow_4 rfl (by decide) ?_
  refine wp_icmp_ge (pc' := 8) 19 dX4_takesRow_5 rfl (by decide) (fun h5 => ?_) (fun h5 => ?_)
  · refine wp_iconst (pc' := 20) 0 dX4_takesRow_19 rfl (by decide) ?_
    refine wp_iretz dX4_takesRow_20 rfl rfl ?_
    exact ri_ok (by rw [takesF, if_pos (Or.inl h5)]) rfl
  · refine wp_aload_n (pc' := 9) dX4_takesRow_8 rfl rfl ⟨_, rfl⟩ ?_
    refine wp_get (pc' := 12) (o := 7) dX4_takesRow_9 rfl flX4_41 (by decide) rfl rfl ?_
    refine wp_if_ne (pc' := 15) 19 dX4_takesRow_12 rfl (by decide) (fun h12 => ?_) (fun h12 => ?_)
    · refine wp_iconst (pc' := 20) 0 dX4_takesRow_19 rfl (by decide) ?_
      refine wp_iretz dX4_takesRow_20 rfl rfl ?_
      exact ri_ok (by rw [takesF, if_pos (Or.inr h12)]) rfl
    · refine wp_iconst (pc' := 16) 1 dX4_takesRow_15 rfl (by decide) ?_
      refine wp_goto 20 dX4_takesRow_16 (by decide) ?_
      refine wp_iretz dX4_takesRow_20 rfl rfl ?_
      exact ri_ok (by rw [takesF, if_neg (fun h => h.elim h5 (fun h => h h12))]) rfl
def rowBad (M : Mem) (l : Int32) : Prop := (M.1 7 1 = 0 ∧ ¬ l ≤ 6) ∨ (¬ M.1 7 1 = 0 ∧ ¬ l = M.1 7 0)
def browM (M : Mem) (l : Int32) : Mem := upI (upI M 7 0 l) 7 1 (M.1 7 1 + 1)
theorem sp_beginRow {g : GG} {M : Mem} {l : Int32} : SI g mX4_beginRow [ob g 7, .int l] M (fun x m => (x = 0 ∧ rowBad M l ∧ m = M) ∨ (x = 1 ∧ ¬ rowBad M l ∧ m = browM M l)) := by
  refine spec_of_wp (ls := [some (ob g 7), some (.int l)]) rfl (Nat.le_of_ble_eq_true rfl) 0 rfl ?_
  refine wp_aload_n (pc' := 1) dX4_beginRow_0 rfl rfl ⟨_, rfl⟩ ?_
  refine wp_get (pc' := 4) (o := 7) dX4_beginRow_1 rfl flX4_22 (by decide) rfl rfl ?_
  refine wp_if_ne (pc' := 7) 16 dX4_beginRow_4 rfl (by decide) (fun h4 => ?_) (fun h4 => ?_)
  · refine wp_iload_n (pc' := 17) dX4_beginRow_16 rfl rfl ?_
    refine wp_aload_n (pc' := 18) dX4_beginRow_17 rfl rfl ⟨_, rfl⟩ ?_
    refine wp_get (pc' := 21) (o := 7) dX4_beginRow_18 rfl flX4_18 (by decide) rfl rfl ?_
    refine wp_icmp_eq (pc' := 24) 26 dX4_beginRow_21 rfl (by decide) (fun h21 => ?_) (fun h21 => ?_)
    · refine wp_aload_n (pc' := 27) dX4_beginRow_26 rfl rfl ⟨_, rfl⟩ ?_
      refine wp_iload_n (pc' := 28) dX4_beginRow_27 rfl rfl ?_
      refine wp_put (pc' := 31) (o := 7) dX4_beginRow_28 rfl fpX4_18 (by decide) rfl (Nat.le_of_ble_eq_true rfl) rfl ?_
      refine wp_aload_n (pc' := 32) dX4_beginRow_31 rfl rfl ⟨_, rfl⟩ ?_
      refine wp_dup (pc' := 33) dX4_beginRow_32 rfl rfl ?_
      refine wp_get (pc' := 36) (o := 7) dX4_beginRow_33 rfl flX4_22 (by decide) rfl rfl ?_
      refine wp_iconst (pc' := 37) 1 dX4_beginRow_36 rfl (by decide) ?_
      refine wp_iadd (pc' := 38) dX4_beginRow_37 rfl ?_
      refine wp_put (pc' := 41) (o := 7) dX4_beginRow_38 rfl fpX4_22 (by decide) rfl (Nat.le_of_ble_eq_true rfl) rfl ?_
      refine wp_iconst (pc' := 42) 1 dX4_beginRow_41 rfl (by decide) ?_
      refine wp_iretz dX4_beginRow_42 rfl rfl ?_
      exact ⟨_, rfl, Or.inr ⟨rfl, fun h => h.elim (fun h => h4 h.1) (fun h => h.2 h21), rfl⟩⟩
    · refine wp_iconst (pc' := 25) 0 dX4_beginRow_24 rfl (by decide) ?_
      refine wp_iretz dX4_beginRow_25 rfl rfl ?_
      exact ⟨_, rfl, Or.inl ⟨rfl, Or.inr ⟨h4, h21⟩, rfl⟩⟩
  · refine wp_iload_n (pc' := 8) dX4_beginRow_7 rfl rfl ?_
    refine wp_bipush (pc' := 10) 6 dX4_beginRow_8 rfl (by decide) ?_
    refine wp_icmp_le (pc' := 13) 26 dX4_beginRow_10 rfl (by decide) (fun h10 => ?_) (fun h10 => ?_)
    · refine wp_aload_n (pc' := 27) dX4_beginRow_26 rfl rfl ⟨_, rfl⟩ ?_
      refine wp_iload_n (pc' := 28) dX4_beginRow_27 rfl rfl ?_
      refine wp_put (pc' := 31) (o := 7) dX4_beginRow_28 rfl fpX4_18 (by decide) rfl (Nat.le_of_ble_eq_true rfl) rfl ?_
      refine wp_aload_n (pc' := 32) dX4_beginRow_31 rfl rfl ⟨_, rfl⟩ ?_
      refine wp_dup (pc' := 33) dX4_beginRow_32 rfl rfl ?_
      refine wp_get (pc' := 36) (o := 7) dX4_beginRow_33 rfl flX4_22 (by decide) rfl rfl ?_
      refine wp_iconst (pc' := 37) 1 dX4_beginRow_36 rfl (by decide) ?_
      refine wp_iadd (pc' := 38) dX4_beginRow_37 rfl ?_
      refine wp_put (pc' := 41) (o := 7) dX4_beginRow_38 rfl fpX4_22 (by decide) rfl (Nat.le_of_ble_eq_true rfl) rfl ?_
      refine wp_iconst (pc' := 42) 1 dX4_beginRow_41 rfl (by decide) ?_
      refine wp_iretz dX4_beginRow_42 rfl rfl ?_
      exact ⟨_, rfl, Or.inr ⟨rfl, fun h => h.elim (fun h => h.2 h10) (fun h => h.1 h4), rfl⟩⟩
    · refine wp_goto 24 dX4_beginRow_13 (by decide) ?_
      refine wp_iconst (pc' := 25) 0 dX4_beginRow_24 rfl (by decide) ?_
      refine wp_iretz dX4_beginRow_25 rfl rfl ?_
      exact ⟨_, rfl, Or.inl ⟨rfl, Or.inl ⟨h4, h10⟩, rfl⟩⟩
def cellBad (l : Int32) : Prop := ¬ l = 104 ∧ ¬ l = 98 ∧ ¬ l = 115
def acB (M : Mem) (l : Int32) : Mem := if l = 98 then upI M 7 3 (M.1 7 3 ||| shl 1 (M.1 7 2)) else M
def acS (M : Mem) (l : Int32) : Mem := if l = 115 then upI M 7 4 (M.1 7 4 ||| shl 1 (M.1 7 2)) else M
def acM (M : Mem) (l : Int32) : Mem := upI (acS (acB M l) l) 7 2 ((acS (acB M l) l).1 7 2 + 1)
theorem sp_addCell {g : GG} {M : Mem} {l : Int32} : SI g mX4_addCell [ob g 7, .int l] M (fun x m => (x = 0 ∧ cellBad l ∧ m = M) ∨ (x = 1 ∧ ¬ cellBad l ∧ m = acM M l)) := by
  refine spec_of_wp (ls := [some (ob g 7), some (.int l)]) rfl (Nat.le_of_ble_eq_true rfl) 0 rfl ?_
  refine wp_iload_n (pc' := 1) dX4_addCell_0 rfl rfl ?_
  refine wp_bipush (pc' := 3) 104 dX4_addCell_1 rfl (by decide) ?_
  refine wp_icmp_eq (pc' := 6) 20 dX4_addCell_3 rfl (by decide) (fun h3 => ?_) (fun h3 => ?_)
  · refine wp_iload_n (pc' := 21) dX4_addCell_20 rfl rfl ?_
    refine wp_bipush (pc' := 23) 98 dX4_addCell_21 rfl (by decide) ?_
    refine wp_icmp_ne (pc' := 26) 41 dX4_addCell_23 rfl (by decide) (fun h23 => ?_) (fun h23 => ?_)
    · refine wp_iload_n (pc' := 42) dX4_addCell_41 rfl rfl ?_
      refine wp_bipush (pc' := 44) 115 dX4_addCell_42 rfl (by decide) ?_
      refine wp_icmp_ne (pc' := 47) 62 dX4_addCell_44 rfl (by decide) (fun h44 => ?_) (fun h44 => ?_)
      · refine wp_aload_n (pc' := 63) dX4_addCell_62 rfl rfl ⟨_, rfl⟩ ?_
        refine wp_dup (pc' := 64) dX4_addCell_63 rfl rfl ?_
        refine wp_get (pc' := 67) (o := 7) dX4_addCell_64 rfl flX4_25 (by decide) rfl rfl ?_
        refine wp_iconst (pc' := 68) 1 dX4_addCell_67 rfl (by decide) ?_
        refine wp_iadd (pc' := 69) dX4_addCell_68 rfl ?_
        refine wp_put (pc' := 72) (o := 7) dX4_addCell_69 rfl fpX4_25 (by decide) rfl (Nat.le_of_ble_eq_true rfl) rfl ?_
        refine wp_iconst (pc' := 73) 1 dX4_addCell_72 rfl (by decide) ?_
        refine wp_iretz dX4_addCell_73 rfl rfl ?_
        exact ⟨_, rfl, Or.inr ⟨rfl, fun h => h.1 h3, by rw [acM, acB, if_neg h23, acS, if_neg h44]⟩⟩
      · refine wp_aload_n (pc' := 48) dX4_addCell_47 rfl rfl ⟨_, rfl⟩ ?_
        refine wp_dup (pc' := 49) dX4_addCell_48 rfl rfl ?_
        refine wp_get (pc' := 52) (o := 7) dX4_addCell_49 rfl flX4_31 (by decide) rfl rfl ?_
        refine wp_iconst (pc' := 53) 1 dX4_addCell_52 rfl (by decide) ?_
        refine wp_aload_n (pc' := 54) dX4_addCell_53 rfl rfl ⟨_, rfl⟩ ?_
        refine wp_get (pc' := 57) (o := 7) dX4_addCell_54 rfl flX4_25 (by decide) rfl rfl ?_
        refine wp_ishl (pc' := 58) dX4_addCell_57 rfl ?_
        refine wp_ior (pc' := 59) dX4_addCell_58 rfl ?_
        refine wp_put (pc' := 62) (o := 7) dX4_addCell_59 rfl fpX4_31 (by decide) rfl (Nat.le_of_ble_eq_true rfl) rfl ?_
        refine wp_aload_n (pc' := 63) dX4_addCell_62 rfl rfl ⟨_, rfl⟩ ?_
        refine wp_dup (pc' := 64) dX4_addCell_63 rfl rfl ?_
        refine wp_get (pc' := 67) (o := 7) dX4_addCell_64 rfl flX4_25 (by decide) rfl rfl ?_
        refine wp_iconst (pc' := 68) 1 dX4_addCell_67 rfl (by decide) ?_
        refine wp_iadd (pc' := 69) dX4_addCell_68 rfl ?_
        refine wp_put (pc' := 72) (o := 7) dX4_addCell_69 rfl fpX4_25 (by decide) rfl (Nat.le_of_ble_eq_true rfl) rfl ?_
        refine wp_iconst (pc' := 73) 1 dX4_addCell_72 rfl (by decide) ?_
        refine wp_iretz dX4_addCell_73 rfl rfl ?_
        exact ⟨_, rfl, Or.inr ⟨rfl, fun h => h.1 h3, by rw [acM, acB, if_neg h23, acS, if_pos h44]⟩⟩
    · refine wp_aload_n (pc' := 27) dX4_addCell_26 rfl rfl ⟨_, rfl⟩ ?_
      refine wp_dup (pc' := 28) dX4_addCell_27 rfl rfl ?_
      refine wp_get (pc' := 31) (o := 7) dX4_addCell_28 rfl flX4_28 (by decide) rfl rfl ?_
      refine wp_iconst (pc' := 32) 1 dX4_addCell_31 rfl (by decide) ?_
      refine wp_aload_n (pc' := 33) dX4_addCell_32 rfl rfl ⟨_, rfl⟩ ?_
      refine wp_get (pc' := 36) (o := 7) dX4_addCell_33 rfl flX4_25 (by decide) rfl rfl ?_
      refine wp_ishl (pc' := 37) dX4_addCell_36 rfl ?_
      refine wp_ior (pc' := 38) dX4_addCell_37 rfl ?_
      refine wp_put (pc' := 41) (o := 7) dX4_addCell_38 rfl fpX4_28 (by decide) rfl (Nat.le_of_ble_eq_true rfl) rfl ?_
      refine wp_iload_n (pc' := 42) dX4_addCell_41 rfl rfl ?_
      refine wp_bipush (pc' := 44) 115 dX4_addCell_42 rfl (by decide) ?_
      refine wp_icmp_ne (pc' := 47) 62 dX4_addCell_44 rfl (by decide) (fun h44 => ?_) (fun h44 => ?_)
      · refine wp_aload_n (pc' := 63) dX4_addCell_62 rfl rfl ⟨_, rfl⟩ ?_
        refine wp_dup (pc' := 64) dX4_addCell_63 rfl rfl ?_
        refine wp_get (pc' := 67) (o := 7) dX4_addCell_64 rfl flX4_25 (by decide) rfl rfl ?_
        refine wp_iconst (pc' := 68) 1 dX4_addCell_67 rfl (by decide) ?_
        refine wp_iadd (pc' := 69) dX4_addCell_68 rfl ?_
        refine wp_put (pc' := 72) (o := 7) dX4_addCell_69 rfl fpX4_25 (by decide) rfl (Nat.le_of_ble_eq_true rfl) rfl ?_
        refine wp_iconst (pc' := 73) 1 dX4_addCell_72 rfl (by decide) ?_
        refine wp_iretz dX4_addCell_73 rfl rfl ?_
        exact ⟨_, rfl, Or.inr ⟨rfl, fun h => h.1 h3, by rw [acM, acB, if_pos h23, acS, if_neg h44]⟩⟩
      · refine wp_aload_n (pc' := 48) dX4_addCell_47 rfl rfl ⟨_, rfl⟩ ?_
        refine wp_dup (pc' := 49) dX4_addCell_48 rfl rfl ?_
        refine wp_get (pc' := 52) (o := 7) dX4_addCell_49 rfl flX4_31 (by decide) rfl rfl ?_
        refine wp_iconst (pc' := 53) 1 dX4_addCell_52 rfl (by decide) ?_
        refine wp_aload_n (pc' := 54) dX4_addCell_53 rfl rfl ⟨_, rfl⟩ ?_
        refine wp_get (pc' := 57) (o := 7) dX4_addCell_54 rfl flX4_25 (by decide) rfl rfl ?_
        refine wp_ishl (pc' := 58) dX4_addCell_57 rfl ?_
        refine wp_ior (pc' := 59) dX4_addCell_58 rfl ?_
        refine wp_put (pc' := 62) (o := 7) dX4_addCell_59 rfl fpX4_31 (by decide) rfl (Nat.le_of_ble_eq_true rfl) rfl ?_
        refine wp_aload_n (pc' := 63) dX4_addCell_62 rfl rfl ⟨_, rfl⟩ ?_
        refine wp_dup (pc' := 64) dX4_addCell_63 rfl rfl ?_
        refine wp_get (pc' := 67) (o := 7) dX4_addCell_64 rfl flX4_25 (by decide) rfl rfl ?_
        refine wp_iconst (pc' := 68) 1 dX4_addCell_67 rfl (by decide) ?_
        refine wp_iadd (pc' := 69) dX4_addCell_68 rfl ?_
        refine wp_put (pc' := 72) (o := 7) dX4_addCell_69 rfl fpX4_25 (by decide) rfl (Nat.le_of_ble_eq_true rfl) rfl ?_
        refine wp_iconst (pc' := 73) 1 dX4_addCell_72 rfl (by decide) ?_
        refine wp_iretz dX4_addCell_73 rfl rfl ?_
        exact ⟨_, rfl, Or.inr ⟨rfl, fun h => h.1 h3, by rw [acM, acB, if_pos h23, acS, if_pos h44]⟩⟩
  · refine wp_iload_n (pc' := 7) dX4_addCell_6 rfl rfl ?_
    refine wp_bipush (pc' := 9) 98 dX4_addCell_7 rfl (by decide) ?_
    refine wp_icmp_eq (pc' := 12) 20 dX4_addCell_9 rfl (by decide) (fun h9 => ?_) (fun h9 => ?_)
    · refine wp_iload_n (pc' := 21) dX4_addCell_20 rfl rfl ?_
      refine wp_bipush (pc' := 23) 98 dX4_addCell_21 rfl (by decide) ?_
      refine wp_icmp_ne (pc' := 26) 41 dX4_addCell_23 rfl (by decide) (fun h23 => ?_) (fun h23 => ?_)
      · refine wp_iload_n (pc' := 42) dX4_addCell_41 rfl rfl ?_
        refine wp_bipush (pc' := 44) 115 dX4_addCell_42 rfl (by decide) ?_
        refine wp_icmp_ne (pc' := 47) 62 dX4_addCell_44 rfl (by decide) (fun h44 => ?_) (fun h44 => ?_)
        · refine wp_aload_n (pc' := 63) dX4_addCell_62 rfl rfl ⟨_, rfl⟩ ?_
          refine wp_dup (pc' := 64) dX4_addCell_63 rfl rfl ?_
          refine wp_get (pc' := 67) (o := 7) dX4_addCell_64 rfl flX4_25 (by decide) rfl rfl ?_
          refine wp_iconst (pc' := 68) 1 dX4_addCell_67 rfl (by decide) ?_
          refine wp_iadd (pc' := 69) dX4_addCell_68 rfl ?_
          refine wp_put (pc' := 72) (o := 7) dX4_addCell_69 rfl fpX4_25 (by decide) rfl (Nat.le_of_ble_eq_true rfl) rfl ?_
          refine wp_iconst (pc' := 73) 1 dX4_addCell_72 rfl (by decide) ?_
          refine wp_iretz dX4_addCell_73 rfl rfl ?_
          exact ⟨_, rfl, Or.inr ⟨rfl, fun h => h.2.1 h9, by rw [acM, acB, if_neg h23, acS, if_neg h44]⟩⟩
        · refine wp_aload_n (pc' := 48) dX4_addCell_47 rfl rfl ⟨_, rfl⟩ ?_
          refine wp_dup (pc' := 49) dX4_addCell_48 rfl rfl ?_
          refine wp_get (pc' := 52) (o := 7) dX4_addCell_49 rfl flX4_31 (by decide) rfl rfl ?_
          refine wp_iconst (pc' := 53) 1 dX4_addCell_52 rfl (by decide) ?_
          refine wp_aload_n (pc' := 54) dX4_addCell_53 rfl rfl ⟨_, rfl⟩ ?_
          refine wp_get (pc' := 57) (o := 7) dX4_addCell_54 rfl flX4_25 (by decide) rfl rfl ?_
          refine wp_ishl (pc' := 58) dX4_addCell_57 rfl ?_
          refine wp_ior (pc' := 59) dX4_addCell_58 rfl ?_
          refine wp_put (pc' := 62) (o := 7) dX4_addCell_59 rfl fpX4_31 (by decide) rfl (Nat.le_of_ble_eq_true rfl) rfl ?_
          refine wp_aload_n (pc' := 63) dX4_addCell_62 rfl rfl ⟨_, rfl⟩ ?_
          refine wp_dup (pc' := 64) dX4_addCell_63 rfl rfl ?_
          refine wp_get (pc' := 67) (o := 7) dX4_addCell_64 rfl flX4_25 (by decide) rfl rfl ?_
          refine wp_iconst (pc' := 68) 1 dX4_addCell_67 rfl (by decide) ?_
          refine wp_iadd (pc' := 69) dX4_addCell_68 rfl ?_
          refine wp_put (pc' := 72) (o := 7) dX4_addCell_69 rfl fpX4_25 (by decide) rfl (Nat.le_of_ble_eq_true rfl) rfl ?_
          refine wp_iconst (pc' := 73) 1 dX4_addCell_72 rfl (by decide) ?_
          refine wp_iretz dX4_addCell_73 rfl rfl ?_
          exact ⟨_, rfl, Or.inr ⟨rfl, fun h => h.2.1 h9, by rw [acM, acB, if_neg h23, acS, if_pos h44]⟩⟩
      · refine wp_aload_n (pc' := 27) dX4_addCell_26 rfl rfl ⟨_, rfl⟩ ?_
        refine wp_dup (pc' := 28) dX4_addCell_27 rfl rfl ?_
        refine wp_get (pc' := 31) (o := 7) dX4_addCell_28 rfl flX4_28 (by decide) rfl rfl ?_
        refine wp_iconst (pc' := 32) 1 dX4_addCell_31 rfl (by decide) ?_
        refine wp_aload_n (pc' := 33) dX4_addCell_32 rfl rfl ⟨_, rfl⟩ ?_
        refine wp_get (pc' := 36) (o := 7) dX4_addCell_33 rfl flX4_25 (by decide) rfl rfl ?_
        refine wp_ishl (pc' := 37) dX4_addCell_36 rfl ?_
        refine wp_ior (pc' := 38) dX4_addCell_37 rfl ?_
        refine wp_put (pc' := 41) (o := 7) dX4_addCell_38 rfl fpX4_28 (by decide) rfl (Nat.le_of_ble_eq_true rfl) rfl ?_
        refine wp_iload_n (pc' := 42) dX4_addCell_41 rfl rfl ?_
        refine wp_bipush (pc' := 44) 115 dX4_addCell_42 rfl (by decide) ?_
        refine wp_icmp_ne (pc' := 47) 62 dX4_addCell_44 rfl (by decide) (fun h44 => ?_) (fun h44 => ?_)
        · refine wp_aload_n (pc' := 63) dX4_addCell_62 rfl rfl ⟨_, rfl⟩ ?_
          refine wp_dup (pc' := 64) dX4_addCell_63 rfl rfl ?_
          refine wp_get (pc' := 67) (o := 7) dX4_addCell_64 rfl flX4_25 (by decide) rfl rfl ?_
          refine wp_iconst (pc' := 68) 1 dX4_addCell_67 rfl (by decide) ?_
          refine wp_iadd (pc' := 69) dX4_addCell_68 rfl ?_
          refine wp_put (pc' := 72) (o := 7) dX4_addCell_69 rfl fpX4_25 (by decide) rfl (Nat.le_of_ble_eq_true rfl) rfl ?_
          refine wp_iconst (pc' := 73) 1 dX4_addCell_72 rfl (by decide) ?_
          refine wp_iretz dX4_addCell_73 rfl rfl ?_
          exact ⟨_, rfl, Or.inr ⟨rfl, fun h => h.2.1 h9, by rw [acM, acB, if_pos h23, acS, if_neg h44]⟩⟩
        · refine wp_aload_n (pc' := 48) dX4_addCell_47 rfl rfl ⟨_, rfl⟩ ?_
          refine wp_dup (pc' := 49) dX4_addCell_48 rfl rfl ?_
          refine wp_get (pc' := 52) (o := 7) dX4_addCell_49 rfl flX4_31 (by decide) rfl rfl ?_
          refine wp_iconst (pc' := 53) 1 dX4_addCell_52 rfl (by decide) ?_
          refine wp_aload_n (pc' := 54) dX4_addCell_53 rfl rfl ⟨_, rfl⟩ ?_
          refine wp_get (pc' := 57) (o := 7) dX4_addCell_54 rfl flX4_25 (by decide) rfl rfl ?_
          refine wp_ishl (pc' := 58) dX4_addCell_57 rfl ?_
          refine wp_ior (pc' := 59) dX4_addCell_58 rfl ?_
          refine wp_put (pc' := 62) (o := 7) dX4_addCell_59 rfl fpX4_31 (by decide) rfl (Nat.le_of_ble_eq_true rfl) rfl ?_
          refine wp_aload_n (pc' := 63) dX4_addCell_62 rfl rfl ⟨_, rfl⟩ ?_
          refine wp_dup (pc' := 64) dX4_addCell_63 rfl rfl ?_
          refine wp_get (pc' := 67) (o := 7) dX4_addCell_64 rfl flX4_25 (by decide) rfl rfl ?_
          refine wp_iconst (pc' := 68) 1 dX4_addCell_67 rfl (by decide) ?_
          refine wp_iadd (pc' := 69) dX4_addCell_68 rfl ?_
          refine wp_put (pc' := 72) (o := 7) dX4_addCell_69 rfl fpX4_25 (by decide) rfl (Nat.le_of_ble_eq_true rfl) rfl ?_
          refine wp_iconst (pc' := 73) 1 dX4_addCell_72 rfl (by decide) ?_
          refine wp_iretz dX4_addCell_73 rfl rfl ?_
          exact ⟨_, rfl, Or.inr ⟨rfl, fun h => h.2.1 h9, by rw [acM, acB, if_pos h23, acS, if_pos h44]⟩⟩
    · refine wp_iload_n (pc' := 13) dX4_addCell_12 rfl rfl ?_
      refine wp_bipush (pc' := 15) 115 dX4_addCell_13 rfl (by decide) ?_
      refine wp_icmp_eq (pc' := 18) 20 dX4_addCell_15 rfl (by decide) (fun h15 => ?_) (fun h15 => ?_)
      · refine wp_iload_n (pc' := 21) dX4_addCell_20 rfl rfl ?_
        refine wp_bipush (pc' := 23) 98 dX4_addCell_21 rfl (by decide) ?_
        refine wp_icmp_ne (pc' := 26) 41 dX4_addCell_23 rfl (by decide) (fun h23 => ?_) (fun h23 => ?_)
        · refine wp_iload_n (pc' := 42) dX4_addCell_41 rfl rfl ?_
          refine wp_bipush (pc' := 44) 115 dX4_addCell_42 rfl (by decide) ?_
          refine wp_icmp_ne (pc' := 47) 62 dX4_addCell_44 rfl (by decide) (fun h44 => ?_) (fun h44 => ?_)
          · refine wp_aload_n (pc' := 63) dX4_addCell_62 rfl rfl ⟨_, rfl⟩ ?_
            refine wp_dup (pc' := 64) dX4_addCell_63 rfl rfl ?_
            refine wp_get (pc' := 67) (o := 7) dX4_addCell_64 rfl flX4_25 (by decide) rfl rfl ?_
            refine wp_iconst (pc' := 68) 1 dX4_addCell_67 rfl (by decide) ?_
            refine wp_iadd (pc' := 69) dX4_addCell_68 rfl ?_
            refine wp_put (pc' := 72) (o := 7) dX4_addCell_69 rfl fpX4_25 (by decide) rfl (Nat.le_of_ble_eq_true rfl) rfl ?_
            refine wp_iconst (pc' := 73) 1 dX4_addCell_72 rfl (by decide) ?_
            refine wp_iretz dX4_addCell_73 rfl rfl ?_
            exact ⟨_, rfl, Or.inr ⟨rfl, fun h => h.2.2 h15, by rw [acM, acB, if_neg h23, acS, if_neg h44]⟩⟩
          · refine wp_aload_n (pc' := 48) dX4_addCell_47 rfl rfl ⟨_, rfl⟩ ?_
            refine wp_dup (pc' := 49) dX4_addCell_48 rfl rfl ?_
            refine wp_get (pc' := 52) (o := 7) dX4_addCell_49 rfl flX4_31 (by decide) rfl rfl ?_
            refine wp_iconst (pc' := 53) 1 dX4_addCell_52 rfl (by decide) ?_
            refine wp_aload_n (pc' := 54) dX4_addCell_53 rfl rfl ⟨_, rfl⟩ ?_
            refine wp_get (pc' := 57) (o := 7) dX4_addCell_54 rfl flX4_25 (by decide) rfl rfl ?_
            refine wp_ishl (pc' := 58) dX4_addCell_57 rfl ?_
            refine wp_ior (pc' := 59) dX4_addCell_58 rfl ?_
            refine wp_put (pc' := 62) (o := 7) dX4_addCell_59 rfl fpX4_31 (by decide) rfl (Nat.le_of_ble_eq_true rfl) rfl ?_
            refine wp_aload_n (pc' := 63) dX4_addCell_62 rfl rfl ⟨_, rfl⟩ ?_
            refine wp_dup (pc' := 64) dX4_addCell_63 rfl rfl ?_
            refine wp_get (pc' := 67) (o := 7) dX4_addCell_64 rfl flX4_25 (by decide) rfl rfl ?_
            refine wp_iconst (pc' := 68) 1 dX4_addCell_67 rfl (by decide) ?_
            refine wp_iadd (pc' := 69) dX4_addCell_68 rfl ?_
            refine wp_put (pc' := 72) (o := 7) dX4_addCell_69 rfl fpX4_25 (by decide) rfl (Nat.le_of_ble_eq_true rfl) rfl ?_
            refine wp_iconst (pc' := 73) 1 dX4_addCell_72 rfl (by decide) ?_
            refine wp_iretz dX4_addCell_73 rfl rfl ?_
            exact ⟨_, rfl, Or.inr ⟨rfl, fun h => h.2.2 h15, by rw [acM, acB, if_neg h23, acS, if_pos h44]⟩⟩
        · refine wp_aload_n (pc' := 27) dX4_addCell_26 rfl rfl ⟨_, rfl⟩ ?_
          refine wp_dup (pc' := 28) dX4_addCell_27 rfl rfl ?_
          refine wp_get (pc' := 31) (o := 7) dX4_addCell_28 rfl flX4_28 (by decide) rfl rfl ?_
          refine wp_iconst (pc' := 32) 1 dX4_addCell_31 rfl (by decide) ?_
          refine wp_aload_n (pc' := 33) dX4_addCell_32 rfl rfl ⟨_, rfl⟩ ?_
          refine wp_get (pc' := 36) (o := 7) dX4_addCell_33 rfl flX4_25 (by decide) rfl rfl ?_
          refine wp_ishl (pc' := 37) dX4_addCell_36 rfl ?_
          refine wp_ior (pc' := 38) dX4_addCell_37 rfl ?_
          refine wp_put (pc' := 41) (o := 7) dX4_addCell_38 rfl fpX4_28 (by decide) rfl (Nat.le_of_ble_eq_true rfl) rfl ?_
          refine wp_iload_n (pc' := 42) dX4_addCell_41 rfl rfl ?_
          refine wp_bipush (pc' := 44) 115 dX4_addCell_42 rfl (by decide) ?_
          refine wp_icmp_ne (pc' := 47) 62 dX4_addCell_44 rfl (by decide) (fun h44 => ?_) (fun h44 => ?_)
          · refine wp_aload_n (pc' := 63) dX4_addCell_62 rfl rfl ⟨_, rfl⟩ ?_
            refine wp_dup (pc' := 64) dX4_addCell_63 rfl rfl ?_
            refine wp_get (pc' := 67) (o := 7) dX4_addCell_64 rfl flX4_25 (by decide) rfl rfl ?_
            refine wp_iconst (pc' := 68) 1 dX4_addCell_67 rfl (by decide) ?_
            refine wp_iadd (pc' := 69) dX4_addCell_68 rfl ?_
            refine wp_put (pc' := 72) (o := 7) dX4_addCell_69 rfl fpX4_25 (by decide) rfl (Nat.le_of_ble_eq_true rfl) rfl ?_
            refine wp_iconst (pc' := 73) 1 dX4_addCell_72 rfl (by decide) ?_
            refine wp_iretz dX4_addCell_73 rfl rfl ?_
            exact ⟨_, rfl, Or.inr ⟨rfl, fun h => h.2.2 h15, by rw [acM, acB, if_pos h23, acS, if_neg h44]⟩⟩
          · refine wp_aload_n (pc' := 48) dX4_addCell_47 rfl rfl ⟨_, rfl⟩ ?_
            refine wp_dup (pc' := 49) dX4_addCell_48 rfl rfl ?_
            refine wp_get (pc' := 52) (o := 7) dX4_addCell_49 rfl flX4_31 (by decide) rfl rfl ?_
            refine wp_iconst (pc' := 53) 1 dX4_addCell_52 rfl (by decide) ?_
            refine wp_aload_n (pc' := 54) dX4_addCell_53 rfl rfl ⟨_, rfl⟩ ?_
            refine wp_get (pc' := 57) (o := 7) dX4_addCell_54 rfl flX4_25 (by decide) rfl rfl ?_
            refine wp_ishl (pc' := 58) dX4_addCell_57 rfl ?_
            refine wp_ior (pc' := 59) dX4_addCell_58 rfl ?_
            refine wp_put (pc' := 62) (o := 7) dX4_addCell_59 rfl fpX4_31 (by decide) rfl (Nat.le_of_ble_eq_true rfl) rfl ?_
            refine wp_aload_n (pc' := 63) dX4_addCell_62 rfl rfl ⟨_, rfl⟩ ?_
            refine wp_dup (pc' := 64) dX4_addCell_63 rfl rfl ?_
            refine wp_get (pc' := 67) (o := 7) dX4_addCell_64 rfl flX4_25 (by decide) rfl rfl ?_
            refine wp_iconst (pc' := 68) 1 dX4_addCell_67 rfl (by decide) ?_
            refine wp_iadd (pc' := 69) dX4_addCell_68 rfl ?_
            refine wp_put (pc' := 72) (o := 7) dX4_addCell_69 rfl fpX4_25 (by decide) rfl (Nat.le_of_ble_eq_true rfl) rfl ?_
            refine wp_iconst (pc' := 73) 1 dX4_addCell_72 rfl (by decide) ?_
            refine wp_iretz dX4_addCell_73 rfl rfl ?_
            exact ⟨_, rfl, Or.inr ⟨rfl, fun h => h.2.2 h15, by rw [acM, acB, if_pos h23, acS, if_pos h44]⟩⟩
      · refine wp_iconst (pc' := 19) 0 dX4_addCell_18 rfl (by decide) ?_
        refine wp_iretz dX4_addCell_19 rfl rfl ?_
        exact ⟨_, rfl, Or.inl ⟨rfl, ⟨h3, h9, h15⟩, rfl⟩⟩
def awM (M : Mem) (a b : Int32) : Mem := upI (putM (putM M 8 4 (M.1 7 7) a) 9 4 (M.1 7 7) b) 7 7 (M.1 7 7 + 1)
theorem putM_ne (M : Mem) (o n : Nat) (i x : Int32) {a : Nat} (h : a ≠ o) : (putM M o n i x).1 a = M.1 a := by unfold putM; split <;> simp [upI, h]
theorem sp_addWalker {g : GG} {M : Mem} {a b : Int32} : RV g mX4_addWalker [ob g 7, .int a, .int b] M (awM M a b) := by
  refine spec_of_wp (ls := [some (ob g 7), some (.int a), some (.int b)]) rfl (Nat.le_of_ble_eq_true rfl) 0 rfl ?_
  refine wp_aload_n (pc' := 1) dX4_addWalker_0 rfl rfl ⟨_, rfl⟩ ?_
  refine wp_get (pc' := 4) (o := 7) dX4_addWalker_1 rfl flX4_9 (by decide) rfl rfl ?_
  refine wp_aload_n (pc' := 5) dX4_addWalker_4 rfl rfl ⟨_, rfl⟩ ?_
  refine wp_get (pc' := 8) (o := 7) dX4_addWalker_5 rfl flX4_41 (by decide) rfl rfl ?_
  refine wp_iload_n (pc' := 9) dX4_addWalker_8 rfl rfl ?_
  refine wp_cSV (μ' := mX6_put) (pc' := 12) dX4_addWalker_9 rfl mlX4_48 cfX6_put ⟨(Nat.le_of_ble_eq_true rfl), (Nat.le_of_ble_eq_true rfl)⟩ (sp_put arr8) rfl rfl (Nat.le_of_ble_eq_true rfl) ?_
  refine wp_aload_n (pc' := 13) dX4_addWalker_12 rfl rfl ⟨_, rfl⟩ ?_
  refine wp_get (pc' := 16) (o := 7) dX4_addWalker_13 rfl flX4_15 (by decide) rfl rfl ?_
  refine wp_aload_n (pc' := 17) dX4_addWalker_16 rfl rfl ⟨_, rfl⟩ ?_
  refine wp_get (pc' := 20) (o := 7) dX4_addWalker_17 rfl flX4_41 (by decide) rfl rfl ?_
  refine wp_iload_n (pc' := 21) dX4_addWalker_20 rfl rfl ?_
  refine wp_cSV (μ' := mX6_put) (pc' := 24) dX4_addWalker_21 rfl mlX4_48 cfX6_put ⟨(Nat.le_of_ble_eq_true rfl), (Nat.le_of_ble_eq_true rfl)⟩ (sp_put arr9) rfl rfl (Nat.le_of_ble_eq_true rfl) ?_
  refine wp_aload_n (pc' := 25) dX4_addWalker_24 rfl rfl ⟨_, rfl⟩ ?_
  refine wp_dup (pc' := 26) dX4_addWalker_25 rfl rfl ?_
  refine wp_get (pc' := 29) (o := 7) dX4_addWalker_26 rfl flX4_41 (by decide) rfl rfl ?_
  refine wp_iconst (pc' := 30) 1 dX4_addWalker_29 rfl (by decide) ?_
  refine wp_iadd (pc' := 31) dX4_addWalker_30 rfl ?_
  refine wp_put (pc' := 34) (o := 7) dX4_addWalker_31 rfl fpX4_41 (by decide) rfl (Nat.le_of_ble_eq_true rfl) rfl ?_
  refine wp_vret dX4_addWalker_34 rfl ?_
  exact rv_ok (by simp [awM, putM_ne])

/-! Now -/
def bat2 : Nat → Nat → Mem → Mem
  | 0, _, M => M
  | n + 1, j, M => bat2 n (j + 1) (putM M 16 4 (nI j) 0)
def bat1 : Nat → Nat → Mem → Mem
  | 0, _, M => M
  | n + 1, j, M => bat1 n (j + 1) (putM (putM M 14 24 (nI j) (if hasF (M.1 13 1) (nI j) = 0 then 0 else M.1 4 5)) 15 24 (nI j) (-9))
def batM (M : Mem) : Mem := bat2 4 0 (bat1 24 0 (upI (upI M 13 0 (M.1 4 3)) 13 1 (M.1 4 4)))

theorem lp_bat2 {g : GG} {M0 : Mem} : ∀ (n j : Nat), j + n = 4 → ∀ (M : Mem), wp g mX0_beginAsTold 69 [some (ob g 13), some (ob g 4), some (.int (nI j))] [] M (fun q m => q = none ∧ m = bat2 n j M) := by
  intro n
  induction n with
  | zero =>
    intro j hj M
    obtain rfl : j = 4 := by omega
    refine wp_iload_n (pc' := 70) dX0_beginAsTold_69 rfl rfl ?_
    refine wp_iconst (pc' := 71) 4 dX0_beginAsTold_70 rfl (by decide) ?_
    refine wp_icmp_ge (pc' := 74) 89 dX0_beginAsTold_71 rfl (by decide) (fun _ => ?_) (fun hh => absurd hh (by decide))
    refine wp_vret dX0_beginAsTold_89 rfl ?_
    exact rv_ok rfl
  | succ n ih =>
    intro j hj M
    refine wp_iload_n (pc' := 70) dX0_beginAsTold_69 rfl rfl ?_
    refine wp_iconst (pc' := 71) 4 dX0_beginAsTold_70 rfl (by decide) ?_
    refine wp_icmp_ge (pc' := 74) 89 dX0_beginAsTold_71 rfl (by decide) (fun h71 => ?_) (fun h71 => ?_)
    · refine wp_vret dX0_beginAsTold_89 rfl ?_
      exact absurd h71 (nI_ge (a := j) (b := 4) (by omega) (by decide))
    · refine wp_aload_n (pc' := 75) dX0_beginAsTold_74 rfl rfl ⟨_, rfl⟩ ?_
      refine wp_get (pc' := 78) (o := 13) dX0_beginAsTold_75 rfl flX0_18 (by decide) rfl rfl ?_
      refine wp_iload_n (pc' := 79) dX0_beginAsTold_78 rfl rfl ?_
      refine wp_iconst (pc' := 80) 0 dX0_beginAsTold_79 rfl (by decide) ?_
      refine wp_cSV (μ' := mX6_put) (pc' := 83) dX0_beginAsTold_80 rfl mlX0_39 cfX6_put ⟨(Nat.le_of_ble_eq_true rfl), (Nat.le_of_ble_eq_true rfl)⟩ (sp_put arr16) rfl rfl (Nat.le_of_ble_eq_true rfl) ?_
      refine wp_inc2 (pc' := 86) (nI (j + 1)) dX0_beginAsTold_83 rfl (by decide) rfl (nI_1 j) ?_
      refine wp_goto 69 dX0_beginAsTold_86 (by decide) ?_
      exact ih (j + 1) (by omega) _
theorem lp_bat1 {g : GG} : ∀ (n j : Nat), j + n = 24 → ∀ (M : Mem), wp g mX0_beginAsTold 18 [some (ob g 13), some (ob g 4), some (.int (nI j))] [] M (fun q m => q = none ∧ m = bat2 4 0 (bat1 n j M)) := by
  intro n
  induction n with
  | zero =>
    intro j hj M
    obtain rfl : j = 24 := by omega
    refine wp_iload_n (pc' := 19) dX0_beginAsTold_18 rfl rfl ?_
    refine wp_bipush (pc' := 21) 24 dX0_beginAsTold_19 rfl (by decide) ?_
    refine wp_icmp_ge (pc' := 24) 67 dX0_beginAsTold_21 rfl (by decide) (fun _ => ?_) (fun hh => absurd hh (by decide))
    refine wp_iconst (pc' := 68) 0 dX0_beginAsTold_67 rfl (by decide) ?_
    refine wp_ist2 (pc' := 69) dX0_beginAsTold_68 rfl (by decide) rfl ?_
    exact lp_bat2 (M0 := M) 4 0 rfl _
  | succ n ih =>
    intro j hj M
    refine wp_iload_n (pc' := 19) dX0_beginAsTold_18 rfl rfl ?_
    refine wp_bipush (pc' := 21) 24 dX0_beginAsTold_19 rfl (by decide) ?_
    refine wp_icmp_ge (pc' := 24) 67 dX0_beginAsTold_21 rfl (by decide) (fun h21 => ?_) (fun h21 => ?_)
    · exact absurd h21 (nI_ge (a := j) (b := 24) (by omega) (by decide))
    · refine wp_aload_n (pc' := 25) dX0_beginAsTold_24 rfl rfl ⟨_, rfl⟩ ?_
      refine wp_get (pc' := 28) (o := 13) dX0_beginAsTold_25 rfl flX0_9 (by decide) rfl rfl ?_
      refine wp_iload_n (pc' := 29) dX0_beginAsTold_28 rfl rfl ?_
      refine wp_aload_n (pc' := 30) dX0_beginAsTold_29 rfl rfl ⟨_, rfl⟩ ?_
      refine wp_get (pc' := 33) (o := 13) dX0_beginAsTold_30 rfl flX0_31 (by decide) rfl rfl ?_
      refine wp_iload_n (pc' := 34) dX0_beginAsTold_33 rfl rfl ?_
      refine wp_cSI (μ' := mX6_has) (pc' := 37) dX0_beginAsTold_34 rfl mlX0_32 cfX6_has ⟨(Nat.le_of_ble_eq_true rfl), (Nat.le_of_ble_eq_true rfl)⟩ (sp_has) rfl rfl (Nat.le_of_ble_eq_true rfl) ?_
      refine wp_if_eq (pc' := 40) 47 dX0_beginAsTold_37 rfl (by decide) (fun h37 => ?_) (fun h37 => ?_)
      · refine wp_iconst (pc' := 48) 0 dX0_beginAsTold_47 rfl (by decide) ?_
        refine wp_cSV (μ' := mX6_put) (pc' := 51) dX0_beginAsTold_48 rfl mlX0_39 cfX6_put ⟨(Nat.le_of_ble_eq_true rfl), (Nat.le_of_ble_eq_true rfl)⟩ (sp_put arr14) rfl rfl (Nat.le_of_ble_eq_true rfl) ?_
        refine wp_aload_n (pc' := 52) dX0_beginAsTold_51 rfl rfl ⟨_, rfl⟩ ?_
        refine wp_get (pc' := 55) (o := 13) dX0_beginAsTold_52 rfl flX0_15 (by decide) rfl rfl ?_
        refine wp_iload_n (pc' := 56) dX0_beginAsTold_55 rfl rfl ?_
        refine wp_bipush (pc' := 58) (-9) dX0_beginAsTold_56 rfl (by decide) ?_
        refine wp_cSV (μ' := mX6_put) (pc' := 61) dX0_beginAsTold_58 rfl mlX0_39 cfX6_put ⟨(Nat.le_of_ble_eq_true rfl), (Nat.le_of_ble_eq_true rfl)⟩ (sp_put arr15) rfl rfl (Nat.le_of_ble_eq_true rfl) ?_
        refine wp_inc2 (pc' := 64) (nI (j + 1)) dX0_beginAsTold_61 rfl (by decide) rfl (nI_1 j) ?_
        refine wp_goto 18 dX0_beginAsTold_64 (by decide) ?_
        rw [bat1, if_pos h37]
        exact ih (j + 1) (by omega) _
      · refine wp_aload_n (pc' := 41) dX0_beginAsTold_40 rfl rfl ⟨_, rfl⟩ ?_
        refine wp_get (pc' := 44) (o := 4) dX0_beginAsTold_41 rfl flX0_36 (by decide) rfl rfl ?_
        refine wp_goto 48 dX0_beginAsTold_44 (by decide) ?_
        refine wp_cSV (μ' := mX6_put) (pc' := 51) dX0_beginAsTold_48 rfl mlX0_39 cfX6_put ⟨(Nat.le_of_ble_eq_true rfl), (Nat.le_of_ble_eq_true rfl)⟩ (sp_put arr14) rfl rfl (Nat.le_of_ble_eq_true rfl) ?_
        refine wp_aload_n (pc' := 52) dX0_beginAsTold_51 rfl rfl ⟨_, rfl⟩ ?_
        refine wp_get (pc' := 55) (o := 13) dX0_beginAsTold_52 rfl flX0_15 (by decide) rfl rfl ?_
        refine wp_iload_n (pc' := 56) dX0_beginAsTold_55 rfl rfl ?_
        refine wp_bipush (pc' := 58) (-9) dX0_beginAsTold_56 rfl (by decide) ?_
        refine wp_cSV (μ' := mX6_put) (pc' := 61) dX0_beginAsTold_58 rfl mlX0_39 cfX6_put ⟨(Nat.le_of_ble_eq_true rfl), (Nat.le_of_ble_eq_true rfl)⟩ (sp_put arr15) rfl rfl (Nat.le_of_ble_eq_true rfl) ?_
        refine wp_inc2 (pc' := 64) (nI (j + 1)) dX0_beginAsTold_61 rfl (by decide) rfl (nI_1 j) ?_
        refine wp_goto 18 dX0_beginAsTold_64 (by decide) ?_
        rw [bat1, if_neg h37]
        exact ih (j + 1) (by omega) _
theorem sp_beginAsTold {g : GG} {M : Mem} : RV g mX0_beginAsTold [ob g 13, ob g 4] M (batM M) := by
  refine spec_of_wp (ls := [some (ob g 13), some (ob g 4), none]) rfl (Nat.le_of_ble_eq_true rfl) 1 rfl ?_
  refine wp_aload_n (pc' := 1) dX0_beginAsTold_0 rfl rfl ⟨_, rfl⟩ ?_
  refine wp_aload_n (pc' := 2) dX0_beginAsTold_1 rfl rfl ⟨_, rfl⟩ ?_
  refine wp_get (pc' := 5) (o := 4) dX0_beginAsTold_2 rfl flX0_21 (by decide) rfl rfl ?_
  refine wp_put (pc' := 8) (o := 13) dX0_beginAsTold_5 rfl fpX0_27 (by decide) rfl (Nat.le_of_ble_eq_true rfl) rfl ?_
  refine wp_aload_n (pc' := 9) dX0_beginAsTold_8 rfl rfl ⟨_, rfl⟩ ?_
  refine wp_aload_n (pc' := 10) dX0_beginAsTold_9 rfl rfl ⟨_, rfl⟩ ?_
  refine wp_get (pc' := 13) (o := 4) dX0_beginAsTold_10 rfl flX0_28 (by decide) rfl rfl ?_
  refine wp_put (pc' := 16) (o := 13) dX0_beginAsTold_13 rfl fpX0_31 (by decide) rfl (Nat.le_of_ble_eq_true rfl) rfl ?_
  refine wp_iconst (pc' := 17) 0 dX0_beginAsTold_16 rfl (by decide) ?_
  refine wp_ist2 (pc' := 18) dX0_beginAsTold_17 rfl (by decide) rfl ?_
  exact lp_bat1 24 0 rfl _
def ncp17_13 (M : Mem) : Mem := setO (setO (setO (upI (upI M 17 0 (M.1 13 0)) 17 1 (M.1 13 1)) 18 (cpyF 24 (M.1 14) (M.1 18))) 19 (cpyF 24 (M.1 15) (M.1 19))) 20 (cpyF 4 (M.1 16) (M.1 20))
theorem sp_ncopy17_13 {g : GG} {M : Mem} : RV g mX0_copy [ob g 17, ob g 13] M (ncp17_13 M) := by
  refine spec_of_wp (ls := [some (ob g 17), some (ob g 13)]) rfl (Nat.le_of_ble_eq_true rfl) 0 rfl ?_
  refine wp_aload_n (pc' := 1) dX0_copy_0 rfl rfl ⟨_, rfl⟩ ?_
  refine wp_aload_n (pc' := 2) dX0_copy_1 rfl rfl ⟨_, rfl⟩ ?_
  refine wp_get (pc' := 5) (o := 13) dX0_copy_2 rfl flX0_27 (by decide) rfl rfl ?_
  refine wp_put (pc' := 8) (o := 17) dX0_copy_5 rfl fpX0_27 (by decide) rfl (Nat.le_of_ble_eq_true rfl) rfl ?_
  refine wp_aload_n (pc' := 9) dX0_copy_8 rfl rfl ⟨_, rfl⟩ ?_
  refine wp_aload_n (pc' := 10) dX0_copy_9 rfl rfl ⟨_, rfl⟩ ?_
  refine wp_get (pc' := 13) (o := 13) dX0_copy_10 rfl flX0_31 (by decide) rfl rfl ?_
  refine wp_put (pc' := 16) (o := 17) dX0_copy_13 rfl fpX0_31 (by decide) rfl (Nat.le_of_ble_eq_true rfl) rfl ?_
  refine wp_aload_n (pc' := 17) dX0_copy_16 rfl rfl ⟨_, rfl⟩ ?_
  refine wp_get (pc' := 20) (o := 13) dX0_copy_17 rfl flX0_9 (by decide) rfl rfl ?_
  refine wp_aload_n (pc' := 21) dX0_copy_20 rfl rfl ⟨_, rfl⟩ ?_
  refine wp_get (pc' := 24) (o := 17) dX0_copy_21 rfl flX0_9 (by decide) rfl rfl ?_
  refine wp_cSV (μ' := mX6_copyRow) (pc' := 27) dX0_copy_24 rfl mlX0_43 cfX6_copyRow ⟨(Nat.le_of_ble_eq_true rfl), (Nat.le_of_ble_eq_true rfl)⟩ (sp_copyRow arr14 arr18) rfl rfl (Nat.le_of_ble_eq_true rfl) ?_
  refine wp_aload_n (pc' := 28) dX0_copy_27 rfl rfl ⟨_, rfl⟩ ?_
  refine wp_get (pc' := 31) (o := 13) dX0_copy_28 rfl flX0_15 (by decide) rfl rfl ?_
  refine wp_aload_n (pc' := 32) dX0_copy_31 rfl rfl ⟨_, rfl⟩ ?_
  refine wp_get (pc' := 35) (o := 17) dX0_copy_32 rfl flX0_15 (by decide) rfl rfl ?_
  refine wp_cSV (μ' := mX6_copyRow) (pc' := 38) dX0_copy_35 rfl mlX0_43 cfX6_copyRow ⟨(Nat.le_of_ble_eq_true rfl), (Nat.le_of_ble_eq_true rfl)⟩ (sp_copyRow arr15 arr19) rfl rfl (Nat.le_of_ble_eq_true rfl) ?_
  refine wp_aload_n (pc' := 39) dX0_copy_38 rfl rfl ⟨_, rfl⟩ ?_
  refine wp_get (pc' := 42) (o := 13) dX0_copy_39 rfl flX0_18 (by decide) rfl rfl ?_
  refine wp_aload_n (pc' := 43) dX0_copy_42 rfl rfl ⟨_, rfl⟩ ?_
  refine wp_get (pc' := 46) (o := 17) dX0_copy_43 rfl flX0_18 (by decide) rfl rfl ?_
  refine wp_cSV (μ' := mX6_copyRow) (pc' := 49) dX0_copy_46 rfl mlX0_43 cfX6_copyRow ⟨(Nat.le_of_ble_eq_true rfl), (Nat.le_of_ble_eq_true rfl)⟩ (sp_copyRow arr16 arr20) rfl rfl (Nat.le_of_ble_eq_true rfl) ?_
  refine wp_vret dX0_copy_49 rfl ?_
  exact rv_ok rfl
def ncp21_13 (M : Mem) : Mem := setO (setO (setO (upI (upI M 21 0 (M.1 13 0)) 21 1 (M.1 13 1)) 22 (cpyF 24 (M.1 14) (M.1 22))) 23 (cpyF 24 (M.1 15) (M.1 23))) 24 (cpyF 4 (M.1 16) (M.1 24))
theorem sp_ncopy21_13 {g : GG} {M : Mem} : RV g mX0_copy [ob g 21, ob g 13] M (ncp21_13 M) := by
  refine spec_of_wp (ls := [some (ob g 21), some (ob g 13)]) rfl (Nat.le_of_ble_eq_true rfl) 0 rfl ?_
  refine wp_aload_n (pc' := 1) dX0_copy_0 rfl rfl ⟨_, rfl⟩ ?_
  refine wp_aload_n (pc' := 2) dX0_copy_1 rfl rfl ⟨_, rfl⟩ ?_
  refine wp_get (pc' := 5) (o := 13) dX0_copy_2 rfl flX0_27 (by decide) rfl rfl ?_
  refine wp_put (pc' := 8) (o := 21) dX0_copy_5 rfl fpX0_27 (by decide) rfl (Nat.le_of_ble_eq_true rfl) rfl ?_
  refine wp_aload_n (pc' := 9) dX0_copy_8 rfl rfl ⟨_, rfl⟩ ?_
  refine wp_aload_n (pc' := 10) dX0_copy_9 rfl rfl ⟨_, rfl⟩ ?_
  refine wp_get (pc' := 13) (o := 13) dX0_copy_10 rfl flX0_31 (by decide) rfl rfl ?_
  refine wp_put (pc' := 16) (o := 21) dX0_copy_13 rfl fpX0_31 (by decide) rfl (Nat.le_of_ble_eq_true rfl) rfl ?_
  refine wp_aload_n (pc' := 17) dX0_copy_16 rfl rfl ⟨_, rfl⟩ ?_
  refine wp_get (pc' := 20) (o := 13) dX0_copy_17 rfl flX0_9 (by decide) rfl rfl ?_
  refine wp_aload_n (pc' := 21) dX0_copy_20 rfl rfl ⟨_, rfl⟩ ?_
  refine wp_get (pc' := 24) (o := 21) dX0_copy_21 rfl flX0_9 (by decide) rfl rfl ?_
  refine wp_cSV (μ' := mX6_copyRow) (pc' := 27) dX0_copy_24 rfl mlX0_43 cfX6_copyRow ⟨(Nat.le_of_ble_eq_true rfl), (Nat.le_of_ble_eq_true rfl)⟩ (sp_copyRow arr14 arr22) rfl rfl (Nat.le_of_ble_eq_true rfl) ?_
  refine wp_aload_n (pc' := 28) dX0_copy_27 rfl rfl ⟨_, rfl⟩ ?_
  refine wp_get (pc' := 31) (o := 13) dX0_copy_28 rfl flX0_15 (by decide) rfl rfl ?_
  refine wp_aload_n (pc' := 32) dX0_copy_31 rfl rfl ⟨_, rfl⟩ ?_
  refine wp_get (pc' := 35) (o := 21) dX0_copy_32 rfl flX0_15 (by decide) rfl rfl ?_
  refine wp_cSV (μ' := mX6_copyRow) (pc' := 38) dX0_copy_35 rfl mlX0_43 cfX6_copyRow ⟨(Nat.le_of_ble_eq_true rfl), (Nat.le_of_ble_eq_true rfl)⟩ (sp_copyRow arr15 arr23) rfl rfl (Nat.le_of_ble_eq_true rfl) ?_
  refine wp_aload_n (pc' := 39) dX0_copy_38 rfl rfl ⟨_, rfl⟩ ?_
  refine wp_get (pc' := 42) (o := 13) dX0_copy_39 rfl flX0_18 (by decide) rfl rfl ?_
  refine wp_aload_n (pc' := 43) dX0_copy_42 rfl rfl ⟨_, rfl⟩ ?_
  refine wp_get (pc' := 46) (o := 21) dX0_copy_43 rfl flX0_18 (by decide) rfl rfl ?_
  refine wp_cSV (μ' := mX6_copyRow) (pc' := 49) dX0_copy_46 rfl mlX0_43 cfX6_copyRow ⟨(Nat.le_of_ble_eq_true rfl), (Nat.le_of_ble_eq_true rfl)⟩ (sp_copyRow arr16 arr24) rfl rfl (Nat.le_of_ble_eq_true rfl) ?_
  refine wp_vret dX0_copy_49 rfl ?_
  exact rv_ok rfl
def ncp13_17 (M : Mem) : Mem := setO (setO (setO (upI (upI M 13 0 (M.1 17 0)) 13 1 (M.1 17 1)) 14 (cpyF 24 (M.1 18) (M.1 14))) 15 (cpyF 24 (M.1 19) (M.1 15))) 16 (cpyF 4 (M.1 20) (M.1 16))
theorem sp_ncopy13_17 {g : GG} {M : Mem} : RV g mX0_copy [ob g 13, ob g 17] M (ncp13_17 M) := by
  refine spec_of_wp (ls := [some (ob g 13), some (ob g 17)]) rfl (Nat.le_of_ble_eq_true rfl) 0 rfl ?_
  refine wp_aload_n (pc' := 1) dX0_copy_0 rfl rfl ⟨_, rfl⟩ ?_
  refine wp_aload_n (pc' := 2) dX0_copy_1 rfl rfl ⟨_, rfl⟩ ?_
  refine wp_get (pc' := 5) (o := 17) dX0_copy_2 rfl flX0_27 (by decide) rfl rfl ?_
  refine wp_put (pc' := 8) (o := 13) dX0_copy_5 rfl fpX0_27 (by decide) rfl (Nat.le_of_ble_eq_true rfl) rfl ?_
  refine wp_aload_n (pc' := 9) dX0_copy_8 rfl rfl ⟨_, rfl⟩ ?_
  refine wp_aload_n (pc' := 10) dX0_copy_9 rfl rfl ⟨_, rfl⟩ ?_
  refine wp_get (pc' := 13) (o := 17) dX0_copy_10 rfl flX0_31 (by decide) rfl rfl ?_
  refine wp_put (pc' := 16) (o := 13) dX0_copy_13 rfl fpX0_31 (by decide) rfl (Nat.le_of_ble_eq_true rfl) rfl ?_
  refine wp_aload_n (pc' := 17) dX0_copy_16 rfl rfl ⟨_, rfl⟩ ?_
  refine wp_get (pc' := 20) (o := 17) dX0_copy_17 rfl flX0_9 (by decide) rfl rfl ?_
  refine wp_aload_n (pc' := 21) dX0_copy_20 rfl rfl ⟨_, rfl⟩ ?_
  refine wp_get (pc' := 24) (o := 13) dX0_copy_21 rfl flX0_9 (by decide) rfl rfl ?_
  refine wp_cSV (μ' := mX6_copyRow) (pc' := 27) dX0_copy_24 rfl mlX0_43 cfX6_copyRow ⟨(Nat.le_of_ble_eq_true rfl), (Nat.le_of_ble_eq_true rfl)⟩ (sp_copyRow arr18 arr14) rfl rfl (Nat.le_of_ble_eq_true rfl) ?_
  refine wp_aload_n (pc' := 28) dX0_copy_27 rfl rfl ⟨_, rfl⟩ ?_
  refine wp_get (pc' := 31) (o := 17) dX0_copy_28 rfl flX0_15 (by decide) rfl rfl ?_
  refine wp_aload_n (pc' := 32) dX0_copy_31 rfl rfl ⟨_, rfl⟩ ?_
  refine wp_get (pc' := 35) (o := 13) dX0_copy_32 rfl flX0_15 (by decide) rfl rfl ?_
  refine wp_cSV (μ' := mX6_copyRow) (pc' := 38) dX0_copy_35 rfl mlX0_43 cfX6_copyRow ⟨(Nat.le_of_ble_eq_true rfl), (Nat.le_of_ble_eq_true rfl)⟩ (sp_copyRow arr19 arr15) rfl rfl (Nat.le_of_ble_eq_true rfl) ?_
  refine wp_aload_n (pc' := 39) dX0_copy_38 rfl rfl ⟨_, rfl⟩ ?_
  refine wp_get (pc' := 42) (o := 17) dX0_copy_39 rfl flX0_18 (by decide) rfl rfl ?_
  refine wp_aload_n (pc' := 43) dX0_copy_42 rfl rfl ⟨_, rfl⟩ ?_
  refine wp_get (pc' := 46) (o := 13) dX0_copy_43 rfl flX0_18 (by decide) rfl rfl ?_
  refine wp_cSV (μ' := mX6_copyRow) (pc' := 49) dX0_copy_46 rfl mlX0_43 cfX6_copyRow ⟨(Nat.le_of_ble_eq_true rfl), (Nat.le_of_ble_eq_true rfl)⟩ (sp_copyRow arr20 arr16) rfl rfl (Nat.le_of_ble_eq_true rfl) ?_
  refine wp_vret dX0_copy_49 rfl ?_
  exact rv_ok rfl
def ncp13_21 (M : Mem) : Mem := setO (setO (setO (upI (upI M 13 0 (M.1 21 0)) 13 1 (M.1 21 1)) 14 (cpyF 24 (M.1 22) (M.1 14))) 15 (cpyF 24 (M.1 23) (M.1 15))) 16 (cpyF 4 (M.1 24) (M.1 16))
theorem sp_ncopy13_21 {g : GG} {M : Mem} : RV g mX0_copy [ob g 13, ob g 21] M (ncp13_21 M) := by
  refine spec_of_wp (ls := [some (ob g 13), some (ob g 21)]) rfl (Nat.le_of_ble_eq_true rfl) 0 rfl ?_
  refine wp_aload_n (pc' := 1) dX0_copy_0 rfl rfl ⟨_, rfl⟩ ?_
  refine wp_aload_n (pc' := 2) dX0_copy_1 rfl rfl ⟨_, rfl⟩ ?_
  refine wp_get (pc' := 5) (o := 21) dX0_copy_2 rfl flX0_27 (by decide) rfl rfl ?_
  refine wp_put (pc' := 8) (o := 13) dX0_copy_5 rfl fpX0_27 (by decide) rfl (Nat.le_of_ble_eq_true rfl) rfl ?_
  refine wp_aload_n (pc' := 9) dX0_copy_8 rfl rfl ⟨_, rfl⟩ ?_
  refine wp_aload_n (pc' := 10) dX0_copy_9 rfl rfl ⟨_, rfl⟩ ?_
  refine wp_get (pc' := 13) (o := 21) dX0_copy_10 rfl flX0_31 (by decide) rfl rfl ?_
  refine wp_put (pc' := 16) (o := 13) dX0_copy_13 rfl fpX0_31 (by decide) rfl (Nat.le_of_ble_eq_true rfl) rfl ?_
  refine wp_aload_n (pc' := 17) dX0_copy_16 rfl rfl ⟨_, rfl⟩ ?_
  refine wp_get (pc' := 20) (o := 21) dX0_copy_17 rfl flX0_9 (by decide) rfl rfl ?_
  refine wp_aload_n (pc' := 21) dX0_copy_20 rfl rfl ⟨_, rfl⟩ ?_
  refine wp_get (pc' := 24) (o := 13) dX0_copy_21 rfl flX0_9 (by decide) rfl rfl ?_
  refine wp_cSV (μ' := mX6_copyRow) (pc' := 27) dX0_copy_24 rfl mlX0_43 cfX6_copyRow ⟨(Nat.le_of_ble_eq_true rfl), (Nat.le_of_ble_eq_true rfl)⟩ (sp_copyRow arr22 arr14) rfl rfl (Nat.le_of_ble_eq_true rfl) ?_
  refine wp_aload_n (pc' := 28) dX0_copy_27 rfl rfl ⟨_, rfl⟩ ?_
  refine wp_get (pc' := 31) (o := 21) dX0_copy_28 rfl flX0_15 (by decide) rfl rfl ?_
  refine wp_aload_n (pc' := 32) dX0_copy_31 rfl rfl ⟨_, rfl⟩ ?_
  refine wp_get (pc' := 35) (o := 13) dX0_copy_32 rfl flX0_15 (by decide) rfl rfl ?_
  refine wp_cSV (μ' := mX6_copyRow) (pc' := 38) dX0_copy_35 rfl mlX0_43 cfX6_copyRow ⟨(Nat.le_of_ble_eq_true rfl), (Nat.le_of_ble_eq_true rfl)⟩ (sp_copyRow arr23 arr15) rfl rfl (Nat.le_of_ble_eq_true rfl) ?_
  refine wp_aload_n (pc' := 39) dX0_copy_38 rfl rfl ⟨_, rfl⟩ ?_
  refine wp_get (pc' := 42) (o := 21) dX0_copy_39 rfl flX0_18 (by decide) rfl rfl ?_
  refine wp_aload_n (pc' := 43) dX0_copy_42 rfl rfl ⟨_, rfl⟩ ?_
  refine wp_get (pc' := 46) (o := 13) dX0_copy_43 rfl flX0_18 (by decide) rfl rfl ?_
  refine wp_cSV (μ' := mX6_copyRow) (pc' := 49) dX0_copy_46 rfl mlX0_43 cfX6_copyRow ⟨(Nat.le_of_ble_eq_true rfl), (Nat.le_of_ble_eq_true rfl)⟩ (sp_copyRow arr24 arr16) rfl rfl (Nat.le_of_ble_eq_true rfl) ?_
  refine wp_vret dX0_copy_49 rfl ?_
  exact rv_ok rfl
def groundF (M : Mem) (c : Int32) : Int32 := if hasF (M.1 13 1) c = 0 then (if hasF (M.1 13 0) c = 0 then 0 else 1) else 2
theorem sp_groundOf {g : GG} {M : Mem} {c : Int32} : RI g mX0_groundOf [ob g 13, .int c] M (groundF M c) M := by
  refine spec_of_wp (ls := [some (ob g 13), some (.int c)]) rfl (Nat.le_of_ble_eq_true rfl) 0 rfl ?_
  refine wp_aload_n (pc' := 1) dX0_groundOf_0 rfl rfl ⟨_, rfl⟩ ?_
  refine wp_get (pc' := 4) (o := 13) dX0_groundOf_1 rfl flX0_31 (by decide) rfl rfl ?_
  refine wp_iload_n (pc' := 5) dX0_groundOf_4 rfl rfl ?_
  refine wp_cSI (μ' := mX6_has) (pc' := 8) dX0_groundOf_5 rfl mlX0_32 cfX6_has ⟨(Nat.le_of_ble_eq_true rfl), (Nat.le_of_ble_eq_true rfl)⟩ (sp_has) rfl rfl (Nat.le_of_ble_eq_true rfl) ?_
  refine wp_if_eq (pc' := 11) 13 dX0_groundOf_8 rfl (by decide) (fun h8 => ?_) (fun h8 => ?_)
  · refine wp_aload_n (pc' := 14) dX0_groundOf_13 rfl rfl ⟨_, rfl⟩ ?_
    refine wp_get (pc' := 17) (o := 13) dX0_groundOf_14 rfl flX0_27 (by decide) rfl rfl ?_
    refine wp_iload_n (pc' := 18) dX0_groundOf_17 rfl rfl ?_
    refine wp_cSI (μ' := mX6_has) (pc' := 21) dX0_groundOf_18 rfl mlX0_32 cfX6_has ⟨(Nat.le_of_ble_eq_true rfl), (Nat.le_of_ble_eq_true rfl)⟩ (sp_has) rfl rfl (Nat.le_of_ble_eq_true rfl) ?_
    refine wp_if_eq (pc' := 24) 28 dX0_groundOf_21 rfl (by decide) (fun h21 => ?_) (fun h21 => ?_)
    · refine wp_iconst (pc' := 29) 0 dX0_groundOf_28 rfl (by decide) ?_
      refine wp_ireti dX0_groundOf_29 rfl ?_
      exact ri_ok (by rw [groundF, if_pos h8, if_pos h21]) rfl
    · refine wp_iconst (pc' := 25) 1 dX0_groundOf_24 rfl (by decide) ?_
      refine wp_goto 29 dX0_groundOf_25 (by decide) ?_
      refine wp_ireti dX0_groundOf_29 rfl ?_
      exact ri_ok (by rw [groundF, if_pos h8, if_neg h21]) rfl
  · refine wp_iconst (pc' := 12) 2 dX0_groundOf_11 rfl (by decide) ?_
    refine wp_ireti dX0_groundOf_12 rfl ?_
    exact ri_ok (by rw [groundF, if_neg h8]) rfl
def lbF (M : Mem) (k : Int32) : Nat → Nat → Int32 → Int32
  | 0, _, t => t
  | n + 1, j, t => if hasF (M.1 13 1) (nI j) = 0 then lbF M k n (j + 1) t else if atF 24 (M.1 15) (nI j) = k then lbF M k n (j + 1) (t + 1) else lbF M k n (j + 1) t
theorem lp_laidBy {g : GG} {M : Mem} {k : Int32} : ∀ (n j : Nat), j + n = 24 → ∀ (t : Int32), wp g mX0_laidBy 4 [some (ob g 13), some (.int k), some (.int t), some (.int (nI j))] [] M (fun q m => q = some (.int (lbF M k n j t)) ∧ m = M) := by
  intro n
  induction n with
  | zero =>
    intro j hj t
    obtain rfl : j = 24 := by omega
    refine wp_iload_n (pc' := 5) dX0_laidBy_4 rfl rfl ?_
    refine wp_bipush (pc' := 7) 24 dX0_laidBy_5 rfl (by decide) ?_
    refine wp_icmp_ge (pc' := 10) 42 dX0_laidBy_7 rfl (by decide) (fun _ => ?_) (fun hh => absurd hh (by decide))
    refine wp_iload_n (pc' := 43) dX0_laidBy_42 rfl rfl ?_
    refine wp_ireti dX0_laidBy_43 rfl ?_
    exact ri_ok rfl rfl
  | succ n ih =>
    intro j hj t
    refine wp_iload_n (pc' := 5) dX0_laidBy_4 rfl rfl ?_
    refine wp_bipush (pc' := 7) 24 dX0_laidBy_5 rfl (by decide) ?_
    refine wp_icmp_ge (pc' := 10) 42 dX0_laidBy_7 rfl (by decide) (fun h7 => ?_) (fun h7 => ?_)
    · refine wp_iload_n (pc' := 43) dX0_laidBy_42 rfl rfl ?_
      refine wp_ireti dX0_laidBy_43 rfl ?_
      exact absurd h7 (nI_ge (a := j) (b := 24) (by omega) (by decide))
    · refine wp_aload_n (pc' := 11) dX0_laidBy_10 rfl rfl ⟨_, rfl⟩ ?_
      refine wp_get (pc' := 14) (o := 13) dX0_laidBy_11 rfl flX0_31 (by decide) rfl rfl ?_
      refine wp_iload_n (pc' := 15) dX0_laidBy_14 rfl rfl ?_
      refine wp_cSI (μ' := mX6_has) (pc' := 18) dX0_laidBy_15 rfl mlX0_32 cfX6_has ⟨(Nat.le_of_ble_eq_true rfl), (Nat.le_of_ble_eq_true rfl)⟩ (sp_has) rfl rfl (Nat.le_of_ble_eq_true rfl) ?_
      refine wp_if_eq (pc' := 21) 36 dX0_laidBy_18 rfl (by decide) (fun h18 => ?_) (fun h18 => ?_)
      · refine wp_inc3 (pc' := 39) (nI (j + 1)) dX0_laidBy_36 rfl (by decide) rfl (nI_1 j) ?_
        refine wp_goto 4 dX0_laidBy_39 (by decide) ?_
        rw [lbF, if_pos h18]
        exact ih (j + 1) (by omega) _
      · refine wp_aload_n (pc' := 22) dX0_laidBy_21 rfl rfl ⟨_, rfl⟩ ?_
        refine wp_get (pc' := 25) (o := 13) dX0_laidBy_22 rfl flX0_15 (by decide) rfl rfl ?_
        refine wp_iload_n (pc' := 26) dX0_laidBy_25 rfl rfl ?_
        refine wp_cSI (μ' := mX6_at) (pc' := 29) dX0_laidBy_26 rfl mlX0_47 cfX6_at ⟨(Nat.le_of_ble_eq_true rfl), (Nat.le_of_ble_eq_true rfl)⟩ (sp_at arr15) rfl rfl (Nat.le_of_ble_eq_true rfl) ?_
        refine wp_iload_n (pc' := 30) dX0_laidBy_29 rfl rfl ?_
        refine wp_icmp_ne (pc' := 33) 36 dX0_laidBy_30 rfl (by decide) (fun h30 => ?_) (fun h30 => ?_)
        · refine wp_inc3 (pc' := 39) (nI (j + 1)) dX0_laidBy_36 rfl (by decide) rfl (nI_1 j) ?_
          refine wp_goto 4 dX0_laidBy_39 (by decide) ?_
          rw [lbF, if_neg h18, if_neg h30]
          exact ih (j + 1) (by omega) _
        · refine wp_inc2 (pc' := 36) (t + 1) dX0_laidBy_33 rfl (by decide) rfl rfl ?_
          refine wp_inc3 (pc' := 39) (nI (j + 1)) dX0_laidBy_36 rfl (by decide) rfl (nI_1 j) ?_
          refine wp_goto 4 dX0_laidBy_39 (by decide) ?_
          rw [lbF, if_neg h18, if_pos h30]
          exact ih (j + 1) (by omega) _
theorem sp_laidBy {g : GG} {M : Mem} {k : Int32} : RI g mX0_laidBy [ob g 13, .int k] M (lbF M k 24 0 0) M := by
  refine spec_of_wp (ls := [some (ob g 13), some (.int k), none, none]) rfl (Nat.le_of_ble_eq_true rfl) 2 rfl ?_
  refine wp_iconst (pc' := 1) 0 dX0_laidBy_0 rfl (by decide) ?_
  refine wp_ist2 (pc' := 2) dX0_laidBy_1 rfl (by decide) rfl ?_
  refine wp_iconst (pc' := 3) 0 dX0_laidBy_2 rfl (by decide) ?_
  refine wp_ist3 (pc' := 4) dX0_laidBy_3 rfl (by decide) rfl ?_
  exact lp_laidBy 24 0 rfl _
def pbF (M : Mem) : Nat → Nat → Int32 → Int32
  | 0, _, t => t
  | n + 1, j, t => pbF M n (j + 1) (t + atF 4 (M.1 16) (nI j))
theorem lp_passedByAll {g : GG} {M : Mem} : ∀ (n j : Nat), j + n = 4 → ∀ (t : Int32), wp g mX0_passedByAll 4 [some (ob g 13), some (.int t), some (.int (nI j))] [] M (fun q m => q = some (.int (pbF M n j t)) ∧ m = M) := by
  intro n
  induction n with
  | zero =>
    intro j hj t
    obtain rfl : j = 4 := by omega
    refine wp_iload_n (pc' := 5) dX0_passedByAll_4 rfl rfl ?_
    refine wp_iconst (pc' := 6) 4 dX0_passedByAll_5 rfl (by decide) ?_
    refine wp_icmp_ge (pc' := 9) 26 dX0_passedByAll_6 rfl (by decide) (fun _ => ?_) (fun hh => absurd hh (by decide))
    refine wp_iload_n (pc' := 27) dX0_passedByAll_26 rfl rfl ?_
    refine wp_ireti dX0_passedByAll_27 rfl ?_
    exact ri_ok rfl rfl
  | succ n ih =>
    intro j hj t
    refine wp_iload_n (pc' := 5) dX0_passedByAll_4 rfl rfl ?_
    refine wp_iconst (pc' := 6) 4 dX0_passedByAll_5 rfl (by decide) ?_
    refine wp_icmp_ge (pc' := 9) 26 dX0_passedByAll_6 rfl (by decide) (fun h6 => ?_) (fun h6 => ?_)
    · refine wp_iload_n (pc' := 27) dX0_passedByAll_26 rfl rfl ?_
      refine wp_ireti dX0_passedByAll_27 rfl ?_
      exact absurd h6 (nI_ge (a := j) (b := 4) (by omega) (by decide))
    · refine wp_iload_n (pc' := 10) dX0_passedByAll_9 rfl rfl ?_
      refine wp_aload_n (pc' := 11) dX0_passedByAll_10 rfl rfl ⟨_, rfl⟩ ?_
      refine wp_get (pc' := 14) (o := 13) dX0_passedByAll_11 rfl flX0_18 (by decide) rfl rfl ?_
      refine wp_iload_n (pc' := 15) dX0_passedByAll_14 rfl rfl ?_
      refine wp_cSI (μ' := mX6_at) (pc' := 18) dX0_passedByAll_15 rfl mlX0_47 cfX6_at ⟨(Nat.le_of_ble_eq_true rfl), (Nat.le_of_ble_eq_true rfl)⟩ (sp_at arr16) rfl rfl (Nat.le_of_ble_eq_true rfl) ?_
      refine wp_iadd (pc' := 19) dX0_passedByAll_18 rfl ?_
      refine wp_ist1 (pc' := 20) dX0_passedByAll_19 rfl (by decide) rfl ?_
      refine wp_inc2 (pc' := 23) (nI (j + 1)) dX0_passedByAll_20 rfl (by decide) rfl (nI_1 j) ?_
      refine wp_goto 4 dX0_passedByAll_23 (by decide) ?_
      exact ih (j + 1) (by omega) _
theorem sp_passedByAll {g : GG} {M : Mem} : RI g mX0_passedByAll [ob g 13] M (pbF M 4 0 0) M := by
  refine spec_of_wp (ls := [some (ob g 13), none, none]) rfl (Nat.le_of_ble_eq_true rfl) 2 rfl ?_
  refine wp_iconst (pc' := 1) 0 dX0_passedByAll_0 rfl (by decide) ?_
  refine wp_ist1 (pc' := 2) dX0_passedByAll_1 rfl (by decide) rfl ?_
  refine wp_iconst (pc' := 3) 0 dX0_passedByAll_2 rfl (by decide) ?_
  refine wp_ist2 (pc' := 4) dX0_passedByAll_3 rfl (by decide) rfl ?_
  exact lp_passedByAll 4 0 rfl _
def sinkM (M : Mem) (c : Int32) : Mem := putM (upI (upI M 13 1 (M.1 13 1 &&& (shl 1 c ^^^ (-1)))) 13 0 (M.1 13 0 ||| shl 1 c)) 15 24 c (-9)
def stepM (M : Mem) (c : Int32) : Mem := if hasF (M.1 13 1) c = 0 ∨ atF 24 (M.1 14) c = 0 then M else if atF 24 (M.1 14) c = 1 then sinkM (putM M 14 24 c (atF 24 (M.1 14) c - 1)) c else putM M 14 24 c (atF 24 (M.1 14) c - 1)
theorem sp_stepOn {g : GG} {M : Mem} {c : Int32} : RV g mX0_stepOn [ob g 13, .int c] M (stepM M c) := by
  refine spec_of_wp (ls := [some (ob g 13), some (.int c), none]) rfl (Nat.le_of_ble_eq_true rfl) 1 rfl ?_
  refine wp_aload_n (pc' := 1) dX0_stepOn_0 rfl rfl ⟨_, rfl⟩ ?_
  refine wp_get (pc' := 4) (o := 13) dX0_stepOn_1 rfl flX0_9 (by decide) rfl rfl ?_
  refine wp_iload_n (pc' := 5) dX0_stepOn_4 rfl rfl ?_
  refine wp_cSI (μ' := mX6_at) (pc' := 8) dX0_stepOn_5 rfl mlX0_47 cfX6_at ⟨(Nat.le_of_ble_eq_true rfl), (Nat.le_of_ble_eq_true rfl)⟩ (sp_at arr14) rfl rfl (Nat.le_of_ble_eq_true rfl) ?_
  refine wp_ist2 (pc' := 9) dX0_stepOn_8 rfl (by decide) rfl ?_
  refine wp_aload_n (pc' := 10) dX0_stepOn_9 rfl rfl ⟨_, rfl⟩ ?_
  refine wp_get (pc' := 13) (o := 13) dX0_stepOn_10 rfl flX0_31 (by decide) rfl rfl ?_
  refine wp_iload_n (pc' := 14) dX0_stepOn_13 rfl rfl ?_
  refine wp_cSI (μ' := mX6_has) (pc' := 17) dX0_stepOn_14 rfl mlX0_32 cfX6_has ⟨(Nat.le_of_ble_eq_true rfl), (Nat.le_of_ble_eq_true rfl)⟩ (sp_has) rfl rfl (Nat.le_of_ble_eq_true rfl) ?_
  refine wp_if_eq (pc' := 20) 24 dX0_stepOn_17 rfl (by decide) (fun h17 => ?_) (fun h17 => ?_)
  · refine wp_vret dX0_stepOn_24 rfl ?_
    exact rv_ok (by rw [stepM, if_pos (Or.inl h17)])
  · refine wp_iload_n (pc' := 21) dX0_stepOn_20 rfl rfl ?_
    refine wp_if_ne (pc' := 24) 25 dX0_stepOn_21 rfl (by decide) (fun h21 => ?_) (fun h21 => ?_)
    · refine wp_aload_n (pc' := 26) dX0_stepOn_25 rfl rfl ⟨_, rfl⟩ ?_
      refine wp_get (pc' := 29) (o := 13) dX0_stepOn_26 rfl flX0_9 (by decide) rfl rfl ?_
      refine wp_iload_n (pc' := 30) dX0_stepOn_29 rfl rfl ?_
      refine wp_iload_n (pc' := 31) dX0_stepOn_30 rfl rfl ?_
      refine wp_iconst (pc' := 32) 1 dX0_stepOn_31 rfl (by decide) ?_
      refine wp_isub (pc' := 33) dX0_stepOn_32 rfl ?_
      refine wp_cSV (μ' := mX6_put) (pc' := 36) dX0_stepOn_33 rfl mlX0_39 cfX6_put ⟨(Nat.le_of_ble_eq_true rfl), (Nat.le_of_ble_eq_true rfl)⟩ (sp_put arr14) rfl rfl (Nat.le_of_ble_eq_true rfl) ?_
      refine wp_iload_n (pc' := 37) dX0_stepOn_36 rfl rfl ?_
      refine wp_iconst (pc' := 38) 1 dX0_stepOn_37 rfl (by decide) ?_
      refine wp_icmp_ne (pc' := 41) 77 dX0_stepOn_38 rfl (by decide) (fun h38 => ?_) (fun h38 => ?_)
      · refine wp_vret dX0_stepOn_77 rfl ?_
        exact rv_ok (by rw [stepM, if_neg (fun h => h.elim h17 h21), if_neg h38])
      · refine wp_aload_n (pc' := 42) dX0_stepOn_41 rfl rfl ⟨_, rfl⟩ ?_
        refine wp_dup (pc' := 43) dX0_stepOn_42 rfl rfl ?_
        refine wp_get (pc' := 46) (o := 13) dX0_stepOn_43 rfl flX0_31 (by decide) rfl rfl ?_
        refine wp_iconst (pc' := 47) 1 dX0_stepOn_46 rfl (by decide) ?_
        refine wp_iload_n (pc' := 48) dX0_stepOn_47 rfl rfl ?_
        refine wp_ishl (pc' := 49) dX0_stepOn_48 rfl ?_
        refine wp_iconst (pc' := 50) (-1) dX0_stepOn_49 rfl (by decide) ?_
        refine wp_ixor (pc' := 51) dX0_stepOn_50 rfl ?_
        refine wp_iand (pc' := 52) dX0_stepOn_51 rfl ?_
        refine wp_put (pc' := 55) (o := 13) dX0_stepOn_52 rfl fpX0_31 (by decide) rfl (Nat.le_of_ble_eq_true rfl) rfl ?_
        refine wp_aload_n (pc' := 56) dX0_stepOn_55 rfl rfl ⟨_, rfl⟩ ?_
        refine wp_dup (pc' := 57) dX0_stepOn_56 rfl rfl ?_
        refine wp_get (pc' := 60) (o := 13) dX0_stepOn_57 rfl flX0_27 (by decide) rfl rfl ?_
        refine wp_iconst (pc' := 61) 1 dX0_stepOn_60 rfl (by decide) ?_
        refine wp_iload_n (pc' := 62) dX0_stepOn_61 rfl rfl ?_
        refine wp_ishl (pc' := 63) dX0_stepOn_62 rfl ?_
        refine wp_ior (pc' := 64) dX0_stepOn_63 rfl ?_
        refine wp_put (pc' := 67) (o := 13) dX0_stepOn_64 rfl fpX0_27 (by decide) rfl (Nat.le_of_ble_eq_true rfl) rfl ?_
        refine wp_aload_n (pc' := 68) dX0_stepOn_67 rfl rfl ⟨_, rfl⟩ ?_
        refine wp_get (pc' := 71) (o := 13) dX0_stepOn_68 rfl flX0_15 (by decide) rfl rfl ?_
        refine wp_iload_n (pc' := 72) dX0_stepOn_71 rfl rfl ?_
        refine wp_bipush (pc' := 74) (-9) dX0_stepOn_72 rfl (by decide) ?_
        refine wp_cSV (μ' := mX6_put) (pc' := 77) dX0_stepOn_74 rfl mlX0_39 cfX6_put ⟨(Nat.le_of_ble_eq_true rfl), (Nat.le_of_ble_eq_true rfl)⟩ (sp_put arr15) rfl rfl (Nat.le_of_ble_eq_true rfl) ?_
        refine wp_vret dX0_stepOn_77 rfl ?_
        exact rv_ok (by rw [stepM, if_neg (fun h => h.elim h17 h21), if_pos h38]; rfl)
    · refine wp_vret dX0_stepOn_24 rfl ?_
      exact rv_ok (by rw [stepM, if_pos (Or.inr h21)])
def layG (M : Mem) (k c sink : Int32) : Mem := putM (putM (upI (upI M 13 0 (M.1 13 0 &&& (shl 1 c ^^^ (-1)))) 13 1 (M.1 13 1 ||| shl 1 c)) 14 24 c sink) 15 24 c k
def layM (M : Mem) (k c sink : Int32) : Mem := putM (layG M k c sink) 16 4 k (atF 4 ((layG M k c sink).1 16) k + 1)
theorem sp_lay {g : GG} {M : Mem} {k c sink : Int32} : RV g mX0_lay [ob g 13, .int k, .int c, .int sink] M (layM M k c sink) := by
  refine spec_of_wp (ls := [some (ob g 13), some (.int k), some (.int c), some (.int sink)]) rfl (Nat.le_of_ble_eq_true rfl) 0 rfl ?_
  refine wp_aload_n (pc' := 1) dX0_lay_0 rfl rfl ⟨_, rfl⟩ ?_
  refine wp_dup (pc' := 2) dX0_lay_1 rfl rfl ?_
  refine wp_get (pc' := 5) (o := 13) dX0_lay_2 rfl flX0_27 (by decide) rfl rfl ?_
  refine wp_iconst (pc' := 6) 1 dX0_lay_5 rfl (by decide) ?_
  refine wp_iload_n (pc' := 7) dX0_lay_6 rfl rfl ?_
  refine wp_ishl (pc' := 8) dX0_lay_7 rfl ?_
  refine wp_iconst (pc' := 9) (-1) dX0_lay_8 rfl (by decide) ?_
  refine wp_ixor (pc' := 10) dX0_lay_9 rfl ?_
  refine wp_iand (pc' := 11) dX0_lay_10 rfl ?_
  refine wp_put (pc' := 14) (o := 13) dX0_lay_11 rfl fpX0_27 (by decide) rfl (Nat.le_of_ble_eq_true rfl) rfl ?_
  refine wp_aload_n (pc' := 15) dX0_lay_14 rfl rfl ⟨_, rfl⟩ ?_
  refine wp_dup (pc' := 16) dX0_lay_15 rfl rfl ?_
  refine wp_get (pc' := 19) (o := 13) dX0_lay_16 rfl flX0_31 (by decide) rfl rfl ?_
  refine wp_iconst (pc' := 20) 1 dX0_lay_19 rfl (by decide) ?_
  refine wp_iload_n (pc' := 21) dX0_lay_20 rfl rfl ?_
  refine wp_ishl (pc' := 22) dX0_lay_21 rfl ?_
  refine wp_ior (pc' := 23) dX0_lay_22 rfl ?_
  refine wp_put (pc' := 26) (o := 13) dX0_lay_23 rfl fpX0_31 (by decide) rfl (Nat.le_of_ble_eq_true rfl) rfl ?_
  refine wp_aload_n (pc' := 27) dX0_lay_26 rfl rfl ⟨_, rfl⟩ ?_
  refine wp_get (pc' := 30) (o := 13) dX0_lay_27 rfl flX0_9 (by decide) rfl rfl ?_
  refine wp_iload_n (pc' := 31) dX0_lay_30 rfl rfl ?_
  refine wp_iload_n (pc' := 32) dX0_lay_31 rfl rfl ?_
  refine wp_cSV (μ' := mX6_put) (pc' := 35) dX0_lay_32 rfl mlX0_39 cfX6_put ⟨(Nat.le_of_ble_eq_true rfl), (Nat.le_of_ble_eq_true rfl)⟩ (sp_put arr14) rfl rfl (Nat.le_of_ble_eq_true rfl) ?_
  refine wp_aload_n (pc' := 36) dX0_lay_35 rfl rfl ⟨_, rfl⟩ ?_
  refine wp_get (pc' := 39) (o := 13) dX0_lay_36 rfl flX0_15 (by decide) rfl rfl ?_
  refine wp_iload_n (pc' := 40) dX0_lay_39 rfl rfl ?_
  refine wp_iload_n (pc' := 41) dX0_lay_40 rfl rfl ?_
  refine wp_cSV (μ' := mX6_put) (pc' := 44) dX0_lay_41 rfl mlX0_39 cfX6_put ⟨(Nat.le_of_ble_eq_true rfl), (Nat.le_of_ble_eq_true rfl)⟩ (sp_put arr15) rfl rfl (Nat.le_of_ble_eq_true rfl) ?_
  refine wp_aload_n (pc' := 45) dX0_lay_44 rfl rfl ⟨_, rfl⟩ ?_
  refine wp_get (pc' := 48) (o := 13) dX0_lay_45 rfl flX0_18 (by decide) rfl rfl ?_
  refine wp_iload_n (pc' := 49) dX0_lay_48 rfl rfl ?_
  refine wp_aload_n (pc' := 50) dX0_lay_49 rfl rfl ⟨_, rfl⟩ ?_
  refine wp_get (pc' := 53) (o := 13) dX0_lay_50 rfl flX0_18 (by decide) rfl rfl ?_
  refine wp_iload_n (pc' := 54) dX0_lay_53 rfl rfl ?_
  refine wp_cSI (μ' := mX6_at) (pc' := 57) dX0_lay_54 rfl mlX0_47 cfX6_at ⟨(Nat.le_of_ble_eq_true rfl), (Nat.le_of_ble_eq_true rfl)⟩ (sp_at arr16) rfl rfl (Nat.le_of_ble_eq_true rfl) ?_
  refine wp_iconst (pc' := 58) 1 dX0_lay_57 rfl (by decide) ?_
  refine wp_iadd (pc' := 59) dX0_lay_58 rfl ?_
  refine wp_cSV (μ' := mX6_put) (pc' := 62) dX0_lay_59 rfl mlX0_39 cfX6_put ⟨(Nat.le_of_ble_eq_true rfl), (Nat.le_of_ble_eq_true rfl)⟩ (sp_put arr16) rfl rfl (Nat.le_of_ble_eq_true rfl) ?_
  refine wp_vret dX0_lay_62 rfl ?_
  exact rv_ok rfl
/-! Ways.measure -/
theorem upI_setO (M : Mem) (o k : Nat) (f : Nat → Int32) (v : Int32) : upI (setO M o f) o k v = setO M o (upd f k v) := by
  refine Prod.ext (funext fun a => ?_) rfl
  show (if a = o then upd ((setO M o f).1 o) k v else (if a = o then f else M.1 a)) = (if a = o then upd f k v else M.1 a)
  rw [setO_eq]
  by_cases h : a = o <;> simp [h]
theorem upI_is (M : Mem) (o k : Nat) (v : Int32) : upI M o k v = setO M o (upd (M.1 o) k v) := rfl
def mesF (w : Int32) : Nat → Nat → (Nat → Int32) → (Nat → Int32)
  | 0, _, f => f
  | n + 1, j, f => mesF w n (j + 1) (upd (upd f 2 (f 2 ||| shl 1 (nI j * w))) 3 (f 3 ||| shl 1 (nI j * w + w - 1)))
def mesM (M : Mem) (w : Int32) (h : Nat) : Mem := setO M 11 (mesF w h 0 (upd (upd (upd (upd (M.1 11) 0 w) 1 (shl 1 (w * nI h) - 1)) 2 0) 3 0))
theorem lp_measure {g : GG} {M : Mem} {w : Int32} {h : Nat} (hh : h < 2 ^ 31) : ∀ (n j : Nat), j + n = h → ∀ (f : Nat → Int32), wp g mX5_measure 28 [some (ob g 11), some (.int w), some (.int (nI h)), some (.int (nI j))] [] (setO M 11 f) (fun q m => q = none ∧ m = setO M 11 (mesF w n j f)) := by
  intro n
  induction n with
  | zero =>
    intro j hj f
    obtain rfl : j = h := by omega
    refine wp_iload_n (pc' := 29) dX5_measure_28 rfl rfl ?_
    refine wp_iload_n (pc' := 30) dX5_measure_29 rfl rfl ?_
    refine wp_icmp_ge (pc' := 33) 71 dX5_measure_30 rfl (by decide) (fun h30 => ?_) (fun h30 => ?_)
    · refine wp_vret dX5_measure_71 rfl ?_
      exact rv_ok rfl
    · exact absurd (nI_le (Nat.le_refl j) hh) h30
  | succ n ih =>
    intro j hj f
    refine wp_iload_n (pc' := 29) dX5_measure_28 rfl rfl ?_
    refine wp_iload_n (pc' := 30) dX5_measure_29 rfl rfl ?_
    refine wp_icmp_ge (pc' := 33) 71 dX5_measure_30 rfl (by decide) (fun h30 => ?_) (fun h30 => ?_)
    · refine wp_vret dX5_measure_71 rfl ?_
      exact absurd h30 (nI_ge (by omega) hh)
    · refine wp_aload_n (pc' := 34) dX5_measure_33 rfl rfl ⟨_, rfl⟩ ?_
      refine wp_dup (pc' := 35) dX5_measure_34 rfl rfl ?_
      refine wp_get (pc' := 38) (o := 11) dX5_measure_35 rfl flX5_18 (by decide) rfl rfl ?_
      refine wp_iconst (pc' := 39) 1 dX5_measure_38 rfl (by decide) ?_
      refine wp_iload_n (pc' := 40) dX5_measure_39 rfl rfl ?_
      refine wp_iload_n (pc' := 41) dX5_measure_40 rfl rfl ?_
      refine wp_imul (pc' := 42) dX5_measure_41 rfl ?_
      refine wp_ishl (pc' := 43) dX5_measure_42 rfl ?_
      refine wp_ior (pc' := 44) dX5_measure_43 rfl ?_
      refine wp_put (pc' := 47) (o := 11) dX5_measure_44 rfl fpX5_18 (by decide) rfl (Nat.le_of_ble_eq_true rfl) rfl ?_
      refine wp_aload_n (pc' := 48) dX5_measure_47 rfl rfl ⟨_, rfl⟩ ?_
      refine wp_dup (pc' := 49) dX5_measure_48 rfl rfl ?_
      refine wp_get (pc' := 52) (o := 11) dX5_measure_49 rfl flX5_21 (by decide) rfl rfl ?_
      refine wp_iconst (pc' := 53) 1 dX5_measure_52 rfl (by decide) ?_
      refine wp_iload_n (pc' := 54) dX5_measure_53 rfl rfl ?_
      refine wp_iload_n (pc' := 55) dX5_measure_54 rfl rfl ?_
      refine wp_imul (pc' := 56) dX5_measure_55 rfl ?_
      refine wp_iload_n (pc' := 57) dX5_measure_56 rfl rfl ?_
      refine wp_iadd (pc' := 58) dX5_measure_57 rfl ?_
      refine wp_iconst (pc' := 59) 1 dX5_measure_58 rfl (by decide) ?_
      refine wp_isub (pc' := 60) dX5_measure_59 rfl ?_
      refine wp_ishl (pc' := 61) dX5_measure_60 rfl ?_
      refine wp_ior (pc' := 62) dX5_measure_61 rfl ?_
      refine wp_put (pc' := 65) (o := 11) dX5_measure_62 rfl fpX5_21 (by decide) rfl (Nat.le_of_ble_eq_true rfl) rfl ?_
      refine wp_inc3 (pc' := 68) (nI (j + 1)) dX5_measure_65 rfl (by decide) rfl (nI_1 j) ?_
      refine wp_goto 28 dX5_measure_68 (by decide) ?_
      rw [upI_setO, upI_setO, setO_eq, setO_eq]
      exact ih (j + 1) (by omega) _
theorem sp_measure {g : GG} {M : Mem} {w : Int32} {h : Nat} (hh : h < 2 ^ 31) : RV g mX5_measure [ob g 11, .int w, .int (nI h)] M (mesM M w h) := by
  refine spec_of_wp (ls := [some (ob g 11), some (.int w), some (.int (nI h)), none]) rfl (Nat.le_of_ble_eq_true rfl) 1 rfl ?_
  refine wp_aload_n (pc' := 1) dX5_measure_0 rfl rfl ⟨_, rfl⟩ ?_
  refine wp_iload_n (pc' := 2) dX5_measure_1 rfl rfl ?_
  refine wp_put (pc' := 5) (o := 11) dX5_measure_2 rfl fpX5_9 (by decide) rfl (Nat.le_of_ble_eq_true rfl) rfl ?_
  refine wp_aload_n (pc' := 6) dX5_measure_5 rfl rfl ⟨_, rfl⟩ ?_
  refine wp_iconst (pc' := 7) 1 dX5_measure_6 rfl (by decide) ?_
  refine wp_iload_n (pc' := 8) dX5_measure_7 rfl rfl ?_
  refine wp_iload_n (pc' := 9) dX5_measure_8 rfl rfl ?_
  refine wp_imul (pc' := 10) dX5_measure_9 rfl ?_
  refine wp_ishl (pc' := 11) dX5_measure_10 rfl ?_
  refine wp_iconst (pc' := 12) 1 dX5_measure_11 rfl (by decide) ?_
  refine wp_isub (pc' := 13) dX5_measure_12 rfl ?_
  refine wp_put (pc' := 16) (o := 11) dX5_measure_13 rfl fpX5_15 (by decide) rfl (Nat.le_of_ble_eq_true rfl) rfl ?_
  refine wp_aload_n (pc' := 17) dX5_measure_16 rfl rfl ⟨_, rfl⟩ ?_
  refine wp_iconst (pc' := 18) 0 dX5_measure_17 rfl (by decide) ?_
  refine wp_put (pc' := 21) (o := 11) dX5_measure_18 rfl fpX5_18 (by decide) rfl (Nat.le_of_ble_eq_true rfl) rfl ?_
  refine wp_aload_n (pc' := 22) dX5_measure_21 rfl rfl ⟨_, rfl⟩ ?_
  refine wp_iconst (pc' := 23) 0 dX5_measure_22 rfl (by decide) ?_
  refine wp_put (pc' := 26) (o := 11) dX5_measure_23 rfl fpX5_21 (by decide) rfl (Nat.le_of_ble_eq_true rfl) rfl ?_
  refine wp_iconst (pc' := 27) 0 dX5_measure_26 rfl (by decide) ?_
  refine wp_ist3 (pc' := 28) dX5_measure_27 rfl (by decide) rfl ?_
  rw [upI_is M 11 0 _, upI_setO, upI_setO, upI_setO]
  exact lp_measure hh h 0 (Nat.zero_add h) _
