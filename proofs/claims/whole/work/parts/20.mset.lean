
/-! the reference: sets of bits -/
def mbF (s : Nat → Int32) : Nat → Nat → Int32 → Int32
  | 0, _, t => t
  | n + 1, j, t => mbF s n (j + 1) (t ||| if s j = 1 then 0 else shl 1 (nI j))

theorem lpm_bearing {g : GG} {M : Mem} {N : Nat} (hN : N ≤ 24) (hwh : M.1 25 8 * M.1 25 9 = nI N) : ∀ (n j : Nat), j + n = N → ∀ (t : Int32), wp g mX7_bearing 4 [some (ob g 25), some (.int t), some (.int (nI j))] [] M (fun q m => q = some (.int (mbF (M.1 31) n j t)) ∧ m = M) := by
  intro n
  induction n with
  | zero =>
    intro j hj t
    obtain rfl : j = N := by omega
    refine wp_iload_n (pc' := 5) dX7_bearing_4 rfl rfl ?_
    refine wp_aload_n (pc' := 6) dX7_bearing_5 rfl rfl ⟨_, rfl⟩ ?_
    refine wp_get (pc' := 9) (o := 25) dX7_bearing_6 rfl flX7_51 (by decide) rfl rfl ?_
    refine wp_aload_n (pc' := 10) dX7_bearing_9 rfl rfl ⟨_, rfl⟩ ?_
    refine wp_get (pc' := 13) (o := 25) dX7_bearing_10 rfl flX7_54 (by decide) rfl rfl ?_
    refine wp_imul (pc' := 14) dX7_bearing_13 rfl ?_
    refine wp_top (hwh) ?_
    refine wp_icmp_ge (pc' := 17) 43 dX7_bearing_14 rfl (by decide) (fun h14 => ?_) (fun h14 => ?_)
    · refine wp_iload_n (pc' := 44) dX7_bearing_43 rfl rfl ?_
      refine wp_ireti dX7_bearing_44 rfl ?_
      exact ri_ok rfl rfl
    · exact absurd (nI_le (Nat.le_refl j) (by omega)) h14
  | succ n ih =>
    intro j hj t
    refine wp_iload_n (pc' := 5) dX7_bearing_4 rfl rfl ?_
    refine wp_aload_n (pc' := 6) dX7_bearing_5 rfl rfl ⟨_, rfl⟩ ?_
    refine wp_get (pc' := 9) (o := 25) dX7_bearing_6 rfl flX7_51 (by decide) rfl rfl ?_
    refine wp_aload_n (pc' := 10) dX7_bearing_9 rfl rfl ⟨_, rfl⟩ ?_
    refine wp_get (pc' := 13) (o := 25) dX7_bearing_10 rfl flX7_54 (by decide) rfl rfl ?_
    refine wp_imul (pc' := 14) dX7_bearing_13 rfl ?_
    refine wp_top (hwh) ?_
    refine wp_icmp_ge (pc' := 17) 43 dX7_bearing_14 rfl (by decide) (fun h14 => ?_) (fun h14 => ?_)
    · refine wp_iload_n (pc' := 44) dX7_bearing_43 rfl rfl ?_
      refine wp_ireti dX7_bearing_44 rfl ?_
      exact absurd h14 (nI_ge (by omega) (by omega))
    · refine wp_iload_n (pc' := 18) dX7_bearing_17 rfl rfl ?_
      refine wp_aload_n (pc' := 19) dX7_bearing_18 rfl rfl ⟨_, rfl⟩ ?_
      refine wp_get (pc' := 22) (o := 25) dX7_bearing_19 rfl flX7_25 (by decide) rfl rfl ?_
      refine wp_iload_n (pc' := 23) dX7_bearing_22 rfl rfl ?_
      refine wp_ialdN (pc' := 24) (o := 31) (n := 76) (j) dX7_bearing_23 rfl (by decide) rfl (rfl) (by omega) (by decide) ?_
      refine wp_iconst (pc' := 25) 1 dX7_bearing_24 rfl (by decide) ?_
      refine wp_icmp_eq (pc' := 28) 34 dX7_bearing_25 rfl (by decide) (fun h25 => ?_) (fun h25 => ?_)
      · refine wp_iconst (pc' := 35) 0 dX7_bearing_34 rfl (by decide) ?_
        refine wp_ior (pc' := 36) dX7_bearing_35 rfl ?_
        refine wp_ist1 (pc' := 37) dX7_bearing_36 rfl (by decide) rfl ?_
        refine wp_inc2 (pc' := 40) (nI (j + 1)) dX7_bearing_37 rfl (by decide) rfl (nI_1 j) ?_
        refine wp_goto 4 dX7_bearing_40 (by decide) ?_
        rw [mbF, if_pos h25]
        exact ih (j + 1) (by omega) _
      · refine wp_iconst (pc' := 29) 1 dX7_bearing_28 rfl (by decide) ?_
        refine wp_iload_n (pc' := 30) dX7_bearing_29 rfl rfl ?_
        refine wp_ishl (pc' := 31) dX7_bearing_30 rfl ?_
        refine wp_goto 35 dX7_bearing_31 (by decide) ?_
        refine wp_ior (pc' := 36) dX7_bearing_35 rfl ?_
        refine wp_ist1 (pc' := 37) dX7_bearing_36 rfl (by decide) rfl ?_
        refine wp_inc2 (pc' := 40) (nI (j + 1)) dX7_bearing_37 rfl (by decide) rfl (nI_1 j) ?_
        refine wp_goto 4 dX7_bearing_40 (by decide) ?_
        rw [mbF, if_neg h25]
        exact ih (j + 1) (by omega) _
theorem sm_bearing {g : GG} {M : Mem} {N : Nat} (hN : N ≤ 24) (hwh : M.1 25 8 * M.1 25 9 = nI N) : RI g mX7_bearing [ob g 25] M (mbF (M.1 31) N 0 0) M := by
  refine spec_of_wp (ls := [some (ob g 25), none, none]) rfl (Nat.le_of_ble_eq_true rfl) 2 rfl ?_
  refine wp_iconst (pc' := 1) 0 dX7_bearing_0 rfl (by decide) ?_
  refine wp_ist1 (pc' := 2) dX7_bearing_1 rfl (by decide) rfl ?_
  refine wp_iconst (pc' := 3) 0 dX7_bearing_2 rfl (by decide) ?_
  refine wp_ist2 (pc' := 4) dX7_bearing_3 rfl (by decide) rfl ?_
  exact lpm_bearing hN hwh N 0 (Nat.zero_add N) _

abbrev LB : Type := Nat × (Nat → Int32)
def lbG (s : Nat → Int32) : Nat → Nat → LB → LB
  | 0, _, st => st
  | n + 1, j, st => lbG s n (j + 1) (if s j = 1 then (st.1 + 1, upd st.2 st.1 (nI j)) else st)

theorem lpm_listsBogs {g : GG} {M : Mem} {N : Nat} (hN : N ≤ 24) (hwh : M.1 25 8 * M.1 25 9 = nI N) : ∀ (n j : Nat), j + n = N → ∀ (k : Nat) (f : Nat → Int32), k ≤ j → wp g mX7_listsBogs 4 [some (ob g 25), some (.int (nI k)), some (.int (nI j))] [] (setO M 35 f) (fun q m => q = some (.int (nI (lbG (M.1 31) n j (k, f)).1)) ∧ m = setO M 35 (lbG (M.1 31) n j (k, f)).2) := by
  intro n
  induction n with
  | zero =>
    intro j hj k f hk
    obtain rfl : j = N := by omega
    refine wp_iload_n (pc' := 5) dX7_listsBogs_4 rfl rfl ?_
    refine wp_aload_n (pc' := 6) dX7_listsBogs_5 rfl rfl ⟨_, rfl⟩ ?_
    refine wp_get (pc' := 9) (o := 25) dX7_listsBogs_6 rfl flX7_51 (by decide) rfl rfl ?_
    refine wp_aload_n (pc' := 10) dX7_listsBogs_9 rfl rfl ⟨_, rfl⟩ ?_
    refine wp_get (pc' := 13) (o := 25) dX7_listsBogs_10 rfl flX7_54 (by decide) rfl rfl ?_
    refine wp_imul (pc' := 14) dX7_listsBogs_13 rfl ?_
    refine wp_top (hwh) ?_
    refine wp_icmp_ge (pc' := 17) 43 dX7_listsBogs_14 rfl (by decide) (fun h14 => ?_) (fun h14 => ?_)
    · refine wp_iload_n (pc' := 44) dX7_listsBogs_43 rfl rfl ?_
      refine wp_ireti dX7_listsBogs_44 rfl ?_
      exact ri_ok rfl rfl
    · exact absurd (nI_le (Nat.le_refl j) (by omega)) h14
  | succ n ih =>
    intro j hj k f hk
    refine wp_iload_n (pc' := 5) dX7_listsBogs_4 rfl rfl ?_
    refine wp_aload_n (pc' := 6) dX7_listsBogs_5 rfl rfl ⟨_, rfl⟩ ?_
    refine wp_get (pc' := 9) (o := 25) dX7_listsBogs_6 rfl flX7_51 (by decide) rfl rfl ?_
    refine wp_aload_n (pc' := 10) dX7_listsBogs_9 rfl rfl ⟨_, rfl⟩ ?_
    refine wp_get (pc' := 13) (o := 25) dX7_listsBogs_10 rfl flX7_54 (by decide) rfl rfl ?_
    refine wp_imul (pc' := 14) dX7_listsBogs_13 rfl ?_
    refine wp_top (hwh) ?_
    refine wp_icmp_ge (pc' := 17) 43 dX7_listsBogs_14 rfl (by decide) (fun h14 => ?_) (fun h14 => ?_)
    · refine wp_iload_n (pc' := 44) dX7_listsBogs_43 rfl rfl ?_
      refine wp_ireti dX7_listsBogs_44 rfl ?_
      exact absurd h14 (nI_ge (by omega) (by omega))
    · refine wp_aload_n (pc' := 18) dX7_listsBogs_17 rfl rfl ⟨_, rfl⟩ ?_
      refine wp_get (pc' := 21) (o := 25) dX7_listsBogs_18 rfl flX7_25 (by decide) rfl rfl ?_
      refine wp_iload_n (pc' := 22) dX7_listsBogs_21 rfl rfl ?_
      refine wp_ialdN (pc' := 23) (o := 31) (n := 76) (j) dX7_listsBogs_22 rfl (by decide) rfl (rfl) (by omega) (by decide) ?_
      refine wp_iconst (pc' := 24) 1 dX7_listsBogs_23 rfl (by decide) ?_
      refine wp_icmp_ne (pc' := 27) 37 dX7_listsBogs_24 rfl (by decide) (fun h24 => ?_) (fun h24 => ?_)
      · refine wp_inc2 (pc' := 40) (nI (j + 1)) dX7_listsBogs_37 rfl (by decide) rfl (nI_1 j) ?_
        refine wp_goto 4 dX7_listsBogs_40 (by decide) ?_
        rw [lbG, if_neg (show ¬ M.1 31 j = 1 from h24)]
        exact ih (j + 1) (by omega) _ _ (by omega)
      · refine wp_aload_n (pc' := 28) dX7_listsBogs_27 rfl rfl ⟨_, rfl⟩ ?_
        refine wp_get (pc' := 31) (o := 25) dX7_listsBogs_28 rfl flX7_38 (by decide) rfl rfl ?_
        refine wp_iload_n (pc' := 32) dX7_listsBogs_31 rfl rfl ?_
        refine wp_iload_n (pc' := 33) dX7_listsBogs_32 rfl rfl ?_
        refine wp_iastN (pc' := 34) (o := 35) (n := 24) (k) dX7_listsBogs_33 rfl (by decide) (fun _ _ => rfl) (rfl) (by omega) (by decide) ?_
        refine wp_inc1 (pc' := 37) (nI (k + 1)) dX7_listsBogs_34 rfl (by decide) rfl (nI_1 k) ?_
        refine wp_inc2 (pc' := 40) (nI (j + 1)) dX7_listsBogs_37 rfl (by decide) rfl (nI_1 j) ?_
        refine wp_goto 4 dX7_listsBogs_40 (by decide) ?_
        rw [lbG, if_pos (show M.1 31 j = 1 from h24)]
        rw [upI_setO]
        exact ih (j + 1) (by omega) _ _ (by omega)
theorem sm_listsBogs {g : GG} {M : Mem} {N : Nat} (hN : N ≤ 24) (hwh : M.1 25 8 * M.1 25 9 = nI N) : RI g mX7_listsBogs [ob g 25] M (nI (lbG (M.1 31) N 0 (0, M.1 35)).1) (setO M 35 (lbG (M.1 31) N 0 (0, M.1 35)).2) := by
  refine spec_of_wp (ls := [some (ob g 25), none, none]) rfl (Nat.le_of_ble_eq_true rfl) 2 rfl ?_
  refine wp_iconst (pc' := 1) 0 dX7_listsBogs_0 rfl (by decide) ?_
  refine wp_ist1 (pc' := 2) dX7_listsBogs_1 rfl (by decide) rfl ?_
  refine wp_iconst (pc' := 3) 0 dX7_listsBogs_2 rfl (by decide) ?_
  refine wp_ist2 (pc' := 4) dX7_listsBogs_3 rfl (by decide) rfl ?_
  refine wp_mem (setO_self M 35).symm ?_
  exact lpm_listsBogs hN hwh N 0 (Nat.zero_add N) 0 (M.1 35) (Nat.le_refl 0)

def chF (bg : Nat → Int32) (idx : Int32) : Nat → Nat → Int32 → Int32
  | 0, _, t => t
  | n + 1, j, t => chF bg idx n (j + 1) (t ||| shl (sshr idx (nI j) &&& 1) (bg j))

theorem lpm_chosen {g : GG} {M : Mem} {idx : Int32} {s : Nat} (hs : s ≤ 24) : ∀ (n j : Nat), j + n = s → ∀ (t : Int32), wp g mX7_chosen 5 [some (ob g 25), some (.int idx), some (.int (nI s)), some (.int t), some (.int (nI j))] [] M (fun q m => q = some (.int (chF (M.1 35) idx n j t)) ∧ m = M) := by
  intro n
  induction n with
  | zero =>
    intro j hj t
    obtain rfl : j = s := by omega
    refine wp_iload (pc' := 7) dX7_chosen_5 rfl rfl ?_
    refine wp_iload_n (pc' := 8) dX7_chosen_7 rfl rfl ?_
    refine wp_icmp_ge (pc' := 11) 34 dX7_chosen_8 rfl (by decide) (fun h8 => ?_) (fun h8 => ?_)
    · refine wp_iload_n (pc' := 35) dX7_chosen_34 rfl rfl ?_
      refine wp_ireti dX7_chosen_35 rfl ?_
      exact ri_ok rfl rfl
    · exact absurd (nI_le (Nat.le_refl j) (by omega)) h8
  | succ n ih =>
    intro j hj t
    refine wp_iload (pc' := 7) dX7_chosen_5 rfl rfl ?_
    refine wp_iload_n (pc' := 8) dX7_chosen_7 rfl rfl ?_
    refine wp_icmp_ge (pc' := 11) 34 dX7_chosen_8 rfl (by decide) (fun h8 => ?_) (fun h8 => ?_)
    · refine wp_iload_n (pc' := 35) dX7_chosen_34 rfl rfl ?_
      refine wp_ireti dX7_chosen_35 rfl ?_
      exact absurd h8 (nI_ge (by omega) (by omega))
    · refine wp_iload_n (pc' := 12) dX7_chosen_11 rfl rfl ?_
      refine wp_iload_n (pc' := 13) dX7_chosen_12 rfl rfl ?_
      refine wp_iload (pc' := 15) dX7_chosen_13 rfl rfl ?_
      refine wp_ishr (pc' := 16) dX7_chosen_15 rfl ?_
      refine wp_iconst (pc' := 17) 1 dX7_chosen_16 rfl (by decide) ?_
      refine wp_iand (pc' := 18) dX7_chosen_17 rfl ?_
      refine wp_aload_n (pc' := 19) dX7_chosen_18 rfl rfl ⟨_, rfl⟩ ?_
      refine wp_get (pc' := 22) (o := 25) dX7_chosen_19 rfl flX7_38 (by decide) rfl rfl ?_
      refine wp_iload (pc' := 24) dX7_chosen_22 rfl rfl ?_
      refine wp_ialdN (pc' := 25) (o := 35) (n := 24) (j) dX7_chosen_24 rfl (by decide) rfl (rfl) (by omega) (by decide) ?_
      refine wp_ishl (pc' := 26) dX7_chosen_25 rfl ?_
      refine wp_ior (pc' := 27) dX7_chosen_26 rfl ?_
      refine wp_ist3 (pc' := 28) dX7_chosen_27 rfl (by decide) rfl ?_
      refine wp_inc4 (pc' := 31) (nI (j + 1)) dX7_chosen_28 rfl (by decide) rfl (nI_1 j) ?_
      refine wp_goto 5 dX7_chosen_31 (by decide) ?_
      exact ih (j + 1) (by omega) _
theorem sm_chosen {g : GG} {M : Mem} {idx : Int32} {s : Nat} (hs : s ≤ 24) : RI g mX7_chosen [ob g 25, .int idx, .int (nI s)] M (chF (M.1 35) idx s 0 0) M := by
  refine spec_of_wp (ls := [some (ob g 25), some (.int idx), some (.int (nI s)), none, none]) rfl (Nat.le_of_ble_eq_true rfl) 2 rfl ?_
  refine wp_iconst (pc' := 1) 0 dX7_chosen_0 rfl (by decide) ?_
  refine wp_ist3 (pc' := 2) dX7_chosen_1 rfl (by decide) rfl ?_
  refine wp_iconst (pc' := 3) 0 dX7_chosen_2 rfl (by decide) ?_
  refine wp_ist4 (pc' := 5) dX7_chosen_3 rfl (by decide) rfl ?_
  exact lpm_chosen hs s 0 (Nat.zero_add s) _

def onF (x : Int32) : Nat → Nat → Int32 → Int32
  | 0, _, t => t
  | n + 1, j, t => onF x n (j + 1) (t + (sshr x (nI j) &&& 1))
def onV (x : Int32) : Int32 := onF x 24 0 0

theorem lpm_ones {g : GG} {M : Mem} {x : Int32} : ∀ (n j : Nat), j + n = 24 → ∀ (t : Int32), wp g mX7_ones 4 [some (.int x), some (.int t), some (.int (nI j))] [] M (fun q m => q = some (.int (onF x n j t)) ∧ m = M) := by
  intro n
  induction n with
  | zero =>
    intro j hj t
    obtain rfl : j = 24 := by omega
    refine wp_iload_n (pc' := 5) dX7_ones_4 rfl rfl ?_
    refine wp_bipush (pc' := 7) 24 dX7_ones_5 rfl (by decide) ?_
    refine wp_icmp_ge (pc' := 10) 24 dX7_ones_7 rfl (by decide) (fun _ => ?_) (fun hh => absurd hh (by decide))
    refine wp_iload_n (pc' := 25) dX7_ones_24 rfl rfl ?_
    refine wp_ireti dX7_ones_25 rfl ?_
    exact ri_ok rfl rfl
  | succ n ih =>
    intro j hj t
    refine wp_iload_n (pc' := 5) dX7_ones_4 rfl rfl ?_
    refine wp_bipush (pc' := 7) 24 dX7_ones_5 rfl (by decide) ?_
    refine wp_icmp_ge (pc' := 10) 24 dX7_ones_7 rfl (by decide) (fun h7 => ?_) (fun h7 => ?_)
    · refine wp_iload_n (pc' := 25) dX7_ones_24 rfl rfl ?_
      refine wp_ireti dX7_ones_25 rfl ?_
      exact absurd h7 (nI_ge (a := j) (b := 24) (by omega) (by decide))
    · refine wp_iload_n (pc' := 11) dX7_ones_10 rfl rfl ?_
      refine wp_iload_n (pc' := 12) dX7_ones_11 rfl rfl ?_
      refine wp_iload_n (pc' := 13) dX7_ones_12 rfl rfl ?_
      refine wp_ishr (pc' := 14) dX7_ones_13 rfl ?_
      refine wp_iconst (pc' := 15) 1 dX7_ones_14 rfl (by decide) ?_
      refine wp_iand (pc' := 16) dX7_ones_15 rfl ?_
      refine wp_iadd (pc' := 17) dX7_ones_16 rfl ?_
      refine wp_ist1 (pc' := 18) dX7_ones_17 rfl (by decide) rfl ?_
      refine wp_inc2 (pc' := 21) (nI (j + 1)) dX7_ones_18 rfl (by decide) rfl (nI_1 j) ?_
      refine wp_goto 4 dX7_ones_21 (by decide) ?_
      exact ih (j + 1) (by omega) _
theorem sm_ones {g : GG} {M : Mem} {x : Int32} : RI g mX7_ones [.int x] M (onV x) M := by
  refine spec_of_wp (ls := [some (.int x), none, none]) rfl (Nat.le_of_ble_eq_true rfl) 2 rfl ?_
  refine wp_iconst (pc' := 1) 0 dX7_ones_0 rfl (by decide) ?_
  refine wp_ist1 (pc' := 2) dX7_ones_1 rfl (by decide) rfl ?_
  refine wp_iconst (pc' := 3) 0 dX7_ones_2 rfl (by decide) ?_
  refine wp_ist2 (pc' := 4) dX7_ones_3 rfl (by decide) rfl ?_
  exact lpm_ones 24 0 rfl _

def niF (w c : Nat) : Nat → Nat → (Nat → Int32) → (Nat → Int32)
  | 0, _, f => f
  | n + 1, d, f => niF w c n (d + 1) (upd f c (f c ||| if stI w c d = 0 then 0 else shl 1 (nI d)))
def noF (w N : Nat) : Nat → Nat → (Nat → Int32) → (Nat → Int32)
  | 0, _, f => f
  | n + 1, c, f => noF w N n (c + 1) (niF w c N 0 (upd f c 0))

theorem lpm_nearsI {g : GG} {M : Mem} {N w c : Nat} (h : MW M N w) (hc : c < N) {Q : Option Value → Mem → Prop} : ∀ (n d : Nat), d + n = N → ∀ (f : Nat → Int32), wp g mX7_nears 68 [some (ob g 25), some (.int (nI c)), some (.int (nI N))] [] (setO M 36 (niF w c n d f)) Q → wp g mX7_nears 24 [some (ob g 25), some (.int (nI c)), some (.int (nI d))] [] (setO M 36 f) Q := by
  obtain ⟨hN, hwh, hw, h0, hw2⟩ := h
  intro n
  induction n with
  | zero =>
    intro d hd f K
    obtain rfl : d = N := by omega
    refine wp_iload_n (pc' := 25) dX7_nears_24 rfl rfl ?_
    refine wp_aload_n (pc' := 26) dX7_nears_25 rfl rfl ⟨_, rfl⟩ ?_
    refine wp_get (pc' := 29) (o := 25) dX7_nears_26 rfl flX7_51 (by decide) rfl rfl ?_
    refine wp_aload_n (pc' := 30) dX7_nears_29 rfl rfl ⟨_, rfl⟩ ?_
    refine wp_get (pc' := 33) (o := 25) dX7_nears_30 rfl flX7_54 (by decide) rfl rfl ?_
    refine wp_imul (pc' := 34) dX7_nears_33 rfl ?_
    refine wp_top (hwh) ?_
    refine wp_icmp_ge (pc' := 37) 68 dX7_nears_34 rfl (by decide) (fun h34 => ?_) (fun h34 => ?_)
    · exact K
    · exact absurd (nI_le (Nat.le_refl d) (by omega)) h34
  | succ n ih =>
    intro d hd f K
    refine wp_iload_n (pc' := 25) dX7_nears_24 rfl rfl ?_
    refine wp_aload_n (pc' := 26) dX7_nears_25 rfl rfl ⟨_, rfl⟩ ?_
    refine wp_get (pc' := 29) (o := 25) dX7_nears_26 rfl flX7_51 (by decide) rfl rfl ?_
    refine wp_aload_n (pc' := 30) dX7_nears_29 rfl rfl ⟨_, rfl⟩ ?_
    refine wp_get (pc' := 33) (o := 25) dX7_nears_30 rfl flX7_54 (by decide) rfl rfl ?_
    refine wp_imul (pc' := 34) dX7_nears_33 rfl ?_
    refine wp_top (hwh) ?_
    refine wp_icmp_ge (pc' := 37) 68 dX7_nears_34 rfl (by decide) (fun h34 => ?_) (fun h34 => ?_)
    · exact absurd h34 (nI_ge (by omega) (by omega))
    · refine wp_aload_n (pc' := 38) dX7_nears_37 rfl rfl ⟨_, rfl⟩ ?_
      refine wp_get (pc' := 41) (o := 25) dX7_nears_38 rfl flX7_41 (by decide) rfl rfl ?_
      refine wp_iload_n (pc' := 42) dX7_nears_41 rfl rfl ?_
      refine wp_dup2 (pc' := 43) dX7_nears_42 rfl rfl rfl ?_
      refine wp_ialdN (pc' := 44) (o := 36) (n := 24) (c) dX7_nears_43 rfl (by decide) rfl (rfl) (by omega) (by decide) ?_
      refine wp_aload_n (pc' := 45) dX7_nears_44 rfl rfl ⟨_, rfl⟩ ?_
      refine wp_iload_n (pc' := 46) dX7_nears_45 rfl rfl ?_
      refine wp_iload_n (pc' := 47) dX7_nears_46 rfl rfl ?_
      refine wp_cVI (μ' := mX7_isStep) (pc' := 50) (o := 25) dX7_nears_47 rfl mlX7_151 cfX7_isStep ⟨(Nat.le_of_ble_eq_true rfl), (Nat.le_of_ble_eq_true rfl)⟩ (sm_isStep (M := setO M 36 f) hw h0 hw2 (by omega) (by omega)) (by decide) rfl rfl rfl rfl rfl (Nat.le_of_ble_eq_true rfl) ?_
      refine wp_if_eq (pc' := 53) 59 dX7_nears_50 rfl (by decide) (fun h50 => ?_) (fun h50 => ?_)
      · refine wp_iconst (pc' := 60) 0 dX7_nears_59 rfl (by decide) ?_
        refine wp_ior (pc' := 61) dX7_nears_60 rfl ?_
        refine wp_iastN (pc' := 62) (o := 36) (n := 24) (c) dX7_nears_61 rfl (by decide) (fun _ _ => rfl) (rfl) (by omega) (by decide) ?_
        refine wp_inc2 (pc' := 65) (nI (d + 1)) dX7_nears_62 rfl (by decide) rfl (nI_1 d) ?_
        refine wp_goto 24 dX7_nears_65 (by decide) ?_
        rw [niF, if_pos h50] at K
        rw [upI_setO]
        exact ih (d + 1) (by omega) _ K
      · refine wp_iconst (pc' := 54) 1 dX7_nears_53 rfl (by decide) ?_
        refine wp_iload_n (pc' := 55) dX7_nears_54 rfl rfl ?_
        refine wp_ishl (pc' := 56) dX7_nears_55 rfl ?_
        refine wp_goto 60 dX7_nears_56 (by decide) ?_
        refine wp_ior (pc' := 61) dX7_nears_60 rfl ?_
        refine wp_iastN (pc' := 62) (o := 36) (n := 24) (c) dX7_nears_61 rfl (by decide) (fun _ _ => rfl) (rfl) (by omega) (by decide) ?_
        refine wp_inc2 (pc' := 65) (nI (d + 1)) dX7_nears_62 rfl (by decide) rfl (nI_1 d) ?_
        refine wp_goto 24 dX7_nears_65 (by decide) ?_
        rw [niF, if_neg h50] at K
        rw [upI_setO]
        exact ih (d + 1) (by omega) _ K
theorem lpm_nearsO {g : GG} {M : Mem} {N w : Nat} (h : MW M N w) : ∀ (n c : Nat), c + n = N → ∀ (f : Nat → Int32) (x2 : Option Value), wp g mX7_nears 2 [some (ob g 25), some (.int (nI c)), x2] [] (setO M 36 f) (fun q m => q = none ∧ m = setO M 36 (noF w N n c f)) := by
  have hN := h.1
  intro n
  induction n with
  | zero =>
    intro c hc f x2
    obtain rfl : c = N := by omega
    refine wp_iload_n (pc' := 3) dX7_nears_2 rfl rfl ?_
    refine wp_aload_n (pc' := 4) dX7_nears_3 rfl rfl ⟨_, rfl⟩ ?_
    refine wp_get (pc' := 7) (o := 25) dX7_nears_4 rfl flX7_51 (by decide) rfl rfl ?_
    refine wp_aload_n (pc' := 8) dX7_nears_7 rfl rfl ⟨_, rfl⟩ ?_
    refine wp_get (pc' := 11) (o := 25) dX7_nears_8 rfl flX7_54 (by decide) rfl rfl ?_
    refine wp_imul (pc' := 12) dX7_nears_11 rfl ?_
    refine wp_top (h.2.1) ?_
    refine wp_icmp_ge (pc' := 15) 74 dX7_nears_12 rfl (by decide) (fun h12 => ?_) (fun h12 => ?_)
    · refine wp_vret dX7_nears_74 rfl ?_
      exact rv_ok rfl
    · exact absurd (nI_le (Nat.le_refl c) (by omega)) h12
  | succ n ih =>
    intro c hc f x2
    refine wp_iload_n (pc' := 3) dX7_nears_2 rfl rfl ?_
    refine wp_aload_n (pc' := 4) dX7_nears_3 rfl rfl ⟨_, rfl⟩ ?_
    refine wp_get (pc' := 7) (o := 25) dX7_nears_4 rfl flX7_51 (by decide) rfl rfl ?_
    refine wp_aload_n (pc' := 8) dX7_nears_7 rfl rfl ⟨_, rfl⟩ ?_
    refine wp_get (pc' := 11) (o := 25) dX7_nears_8 rfl flX7_54 (by decide) rfl rfl ?_
    refine wp_imul (pc' := 12) dX7_nears_11 rfl ?_
    refine wp_top (h.2.1) ?_
    refine wp_icmp_ge (pc' := 15) 74 dX7_nears_12 rfl (by decide) (fun h12 => ?_) (fun h12 => ?_)
    · refine wp_vret dX7_nears_74 rfl ?_
      exact absurd h12 (nI_ge (by omega) (by omega))
    · refine wp_aload_n (pc' := 16) dX7_nears_15 rfl rfl ⟨_, rfl⟩ ?_
      refine wp_get (pc' := 19) (o := 25) dX7_nears_16 rfl flX7_41 (by decide) rfl rfl ?_
      refine wp_iload_n (pc' := 20) dX7_nears_19 rfl rfl ?_
      refine wp_iconst (pc' := 21) 0 dX7_nears_20 rfl (by decide) ?_
      refine wp_iastN (pc' := 22) (o := 36) (n := 24) (c) dX7_nears_21 rfl (by decide) (fun _ _ => rfl) (rfl) (by omega) (by decide) ?_
      refine wp_iconst (pc' := 23) 0 dX7_nears_22 rfl (by decide) ?_
      refine wp_ist2 (pc' := 24) dX7_nears_23 rfl (by decide) rfl ?_
      rw [upI_setO]
      refine lpm_nearsI h (by omega) N 0 (Nat.zero_add N) _ ?_
      refine wp_inc1 (pc' := 71) (nI (c + 1)) dX7_nears_68 rfl (by decide) rfl (nI_1 c) ?_
      refine wp_goto 2 dX7_nears_71 (by decide) ?_
      exact ih (c + 1) (by omega) _ _
def nbM (M : Mem) (N w : Nat) : Nat → Int32 := noF w N N 0 (M.1 36)
theorem sm_nears {g : GG} {M : Mem} {N w : Nat} (h : MW M N w) : RV g mX7_nears [ob g 25] M (setO M 36 (nbM M N w)) := by
  refine spec_of_wp (ls := [some (ob g 25), none, none]) rfl (Nat.le_of_ble_eq_true rfl) 2 rfl ?_
  refine wp_iconst (pc' := 1) 0 dX7_nears_0 rfl (by decide) ?_
  refine wp_ist1 (pc' := 2) dX7_nears_1 rfl (by decide) rfl ?_
  refine wp_mem (setO_self M 36).symm ?_
  exact lpm_nearsO h N 0 (Nat.zero_add N) _ _

def rcI (nr : Nat → Int32) (bear set : Int32) : Nat → Nat → Int32 → Int32
  | 0, _, t => t
  | n + 1, c, t => rcI nr bear set n (c + 1) (t ||| if sshr set (nI c) &&& 1 = 1 then nr c &&& bear else 0)
def rcS (nr : Nat → Int32) (N : Nat) (bear x : Int32) : Int32 := rcI nr bear x N 0 x
theorem rcI_up (nr : Nat → Int32) (bear set : Int32) : ∀ (n c : Nat) (t : Int32) (i : Nat), bt t i = true → bt (rcI nr bear set n c t) i = true := by
  intro n
  induction n with
  | zero => intro c t i h; exact h
  | succ n ih => intro c t i h; exact ih (c + 1) _ i (by rw [b_or, h]; rfl)
theorem rcI_Sm {N : Nat} {nr : Nat → Int32} (bear set : Int32) (hn : ∀ c, c < N → Sm N (nr c)) : ∀ (n c : Nat), c + n ≤ N → ∀ (t : Int32), Sm N t → Sm N (rcI nr bear set n c t) := by
  intro n
  induction n with
  | zero => intro c _ t h; exact h
  | succ n ih =>
    intro c hc t h
    refine ih (c + 1) (by omega) _ (h.or ?_)
    split
    · exact (hn c (by omega)).and _
    · exact Sm.zero N
theorem up_toNat {x y : Int32} (h : ∀ i, bt x i = true → bt y i = true) (hne : ¬ y = x) : x.toBitVec.toNat < y.toBitVec.toNat := by
  have e : y = x ||| y := b_ext (fun i _ => by
    rw [b_or]
    cases hx : bt x i
    · rfl
    · rw [h i hx]; rfl)
  have h1 : x.toBitVec.toNat ≤ y.toBitVec.toNat := by
    rw [e, Int32.toBitVec_or, BitVec.toNat_or]
    exact Nat.left_le_or
  refine Nat.lt_of_le_of_ne h1 (fun h2 => hne (Int32.toBitVec_inj.mp (BitVec.eq_of_toNat_eq h2)).symm)

theorem lpm_rcI {g : GG} {M : Mem} {N : Nat} {a bear set x4 : Int32} (hN : N ≤ 24) (hwh : M.1 25 8 * M.1 25 9 = nI N) {Q : Option Value → Mem → Prop} : ∀ (n c : Nat), c + n = N → ∀ (t : Int32), wp g mX7_reached 66 [some (ob g 25), some (.int a), some (.int bear), some (.int set), some (.int x4), some (.int (rcI (M.1 36) bear set n c t)), some (.int (nI N))] [] M Q → wp g mX7_reached 18 [some (ob g 25), some (.int a), some (.int bear), some (.int set), some (.int x4), some (.int t), some (.int (nI c))] [] M Q := by
  intro n
  induction n with
  | zero =>
    intro c hc t K
    obtain rfl : c = N := by omega
    refine wp_iload (pc' := 20) dX7_reached_18 rfl rfl ?_
    refine wp_aload_n (pc' := 21) dX7_reached_20 rfl rfl ⟨_, rfl⟩ ?_
    refine wp_get (pc' := 24) (o := 25) dX7_reached_21 rfl flX7_51 (by decide) rfl rfl ?_
    refine wp_aload_n (pc' := 25) dX7_reached_24 rfl rfl ⟨_, rfl⟩ ?_
    refine wp_get (pc' := 28) (o := 25) dX7_reached_25 rfl flX7_54 (by decide) rfl rfl ?_
    refine wp_imul (pc' := 29) dX7_reached_28 rfl ?_
    refine wp_top (hwh) ?_
    refine wp_icmp_ge (pc' := 32) 66 dX7_reached_29 rfl (by decide) (fun h29 => ?_) (fun h29 => ?_)
    · exact K
    · exact absurd (nI_le (Nat.le_refl c) (by omega)) h29
  | succ n ih =>
    intro c hc t K
    refine wp_iload (pc' := 20) dX7_reached_18 rfl rfl ?_
    refine wp_aload_n (pc' := 21) dX7_reached_20 rfl rfl ⟨_, rfl⟩ ?_
    refine wp_get (pc' := 24) (o := 25) dX7_reached_21 rfl flX7_51 (by decide) rfl rfl ?_
    refine wp_aload_n (pc' := 25) dX7_reached_24 rfl rfl ⟨_, rfl⟩ ?_
    refine wp_get (pc' := 28) (o := 25) dX7_reached_25 rfl flX7_54 (by decide) rfl rfl ?_
    refine wp_imul (pc' := 29) dX7_reached_28 rfl ?_
    refine wp_top (hwh) ?_
    refine wp_icmp_ge (pc' := 32) 66 dX7_reached_29 rfl (by decide) (fun h29 => ?_) (fun h29 => ?_)
    · exact absurd h29 (nI_ge (by omega) (by omega))
    · refine wp_iload (pc' := 34) dX7_reached_32 rfl rfl ?_
      refine wp_iload_n (pc' := 35) dX7_reached_34 rfl rfl ?_
      refine wp_iload (pc' := 37) dX7_reached_35 rfl rfl ?_
      refine wp_ishr (pc' := 38) dX7_reached_37 rfl ?_
      refine wp_iconst (pc' := 39) 1 dX7_reached_38 rfl (by decide) ?_
      refine wp_iand (pc' := 40) dX7_reached_39 rfl ?_
      refine wp_iconst (pc' := 41) 1 dX7_reached_40 rfl (by decide) ?_
      refine wp_icmp_ne (pc' := 44) 56 dX7_reached_41 rfl (by decide) (fun h41 => ?_) (fun h41 => ?_)
      · refine wp_iconst (pc' := 57) 0 dX7_reached_56 rfl (by decide) ?_
        refine wp_ior (pc' := 58) dX7_reached_57 rfl ?_
        refine wp_ist5 (pc' := 60) dX7_reached_58 rfl (by decide) rfl ?_
        refine wp_inc6 (pc' := 63) (nI (c + 1)) dX7_reached_60 rfl (by decide) rfl (nI_1 c) ?_
        refine wp_goto 18 dX7_reached_63 (by decide) ?_
        rw [rcI, if_neg h41] at K
        exact ih (c + 1) (by omega) _ K
      · refine wp_aload_n (pc' := 45) dX7_reached_44 rfl rfl ⟨_, rfl⟩ ?_
        refine wp_get (pc' := 48) (o := 25) dX7_reached_45 rfl flX7_41 (by decide) rfl rfl ?_
        refine wp_iload (pc' := 50) dX7_reached_48 rfl rfl ?_
        refine wp_ialdN (pc' := 51) (o := 36) (n := 24) (c) dX7_reached_50 rfl (by decide) rfl (rfl) (by omega) (by decide) ?_
        refine wp_iload_n (pc' := 52) dX7_reached_51 rfl rfl ?_
        refine wp_iand (pc' := 53) dX7_reached_52 rfl ?_
        refine wp_goto 57 dX7_reached_53 (by decide) ?_
        refine wp_ior (pc' := 58) dX7_reached_57 rfl ?_
        refine wp_ist5 (pc' := 60) dX7_reached_58 rfl (by decide) rfl ?_
        refine wp_inc6 (pc' := 63) (nI (c + 1)) dX7_reached_60 rfl (by decide) rfl (nI_1 c) ?_
        refine wp_goto 18 dX7_reached_63 (by decide) ?_
        rw [rcI, if_pos h41] at K
        exact ih (c + 1) (by omega) _ K
theorem lpm_rcW {g : GG} {M : Mem} {N : Nat} {a bear x0 : Int32} (hN : N ≤ 24) (hwh : M.1 25 8 * M.1 25 9 = nI N) {Q : Option Value → Mem → Prop} (K : ∀ r k, r = it (rcS (M.1 36) N bear) k x0 → rcS (M.1 36) N bear r = r → Q (some (.int r)) M) : ∀ (T : Nat) (set : Int32) (k : Nat) (x5 x6 : Option Value), 2 ^ 32 - set.toBitVec.toNat ≤ T → set = it (rcS (M.1 36) N bear) k x0 → wp g mX7_reached 7 [some (ob g 25), some (.int a), some (.int bear), some (.int set), some (.int 1), x5, x6] [] M Q := by
  intro T
  induction T with
  | zero =>
    intro set k x5 x6 hT
    have := set.toBitVec.isLt
    omega
  | succ T ih =>
    intro set k x5 x6 hT hk
    refine wp_iload (pc' := 9) dX7_reached_7 rfl rfl ?_
    refine wp_if_eq (pc' := 12) 85 dX7_reached_9 rfl (by decide) (fun hh => absurd hh (by decide)) (fun _ => ?_)
    refine wp_iload_n (pc' := 13) dX7_reached_12 rfl rfl ?_
    refine wp_ist5 (pc' := 15) dX7_reached_13 rfl (by decide) rfl ?_
    refine wp_iconst (pc' := 16) 0 dX7_reached_15 rfl (by decide) ?_
    refine wp_ist6 (pc' := 18) dX7_reached_16 rfl (by decide) rfl ?_
    refine lpm_rcI hN hwh N 0 (Nat.zero_add N) set ?_
    have hup : ∀ i, bt set i = true → bt (rcI (M.1 36) bear set N 0 set) i = true := fun i hi => rcI_up _ _ _ N 0 set i hi
    refine wp_iload (pc' := 68) dX7_reached_66 rfl rfl ?_
    refine wp_iload_n (pc' := 69) dX7_reached_68 rfl rfl ?_
    refine wp_icmp_eq (pc' := 72) 76 dX7_reached_69 rfl (by decide) (fun h69 => ?_) (fun h69 => ?_)
    · refine wp_iconst (pc' := 77) 0 dX7_reached_76 rfl (by decide) ?_
      refine wp_ist4 (pc' := 79) dX7_reached_77 rfl (by decide) rfl ?_
      refine wp_iload (pc' := 81) dX7_reached_79 rfl rfl ?_
      refine wp_ist3 (pc' := 82) dX7_reached_81 rfl (by decide) rfl ?_
      refine wp_goto 7 dX7_reached_82 (by decide) ?_
      refine wp_iload (pc' := 9) dX7_reached_7 rfl rfl ?_
      refine wp_if_eq (pc' := 12) 85 dX7_reached_9 rfl (by decide) (fun _ => ?_) (fun hh => absurd hh (by decide))
      refine wp_iload_n (pc' := 86) dX7_reached_85 rfl rfl ?_
      refine wp_ireti dX7_reached_86 rfl ?_
      exact K _ k (by rw [h69]; exact hk) (by rw [h69]; exact h69)
    · refine wp_iconst (pc' := 73) 1 dX7_reached_72 rfl (by decide) ?_
      refine wp_goto 77 dX7_reached_73 (by decide) ?_
      refine wp_ist4 (pc' := 79) dX7_reached_77 rfl (by decide) rfl ?_
      refine wp_iload (pc' := 81) dX7_reached_79 rfl rfl ?_
      refine wp_ist3 (pc' := 82) dX7_reached_81 rfl (by decide) rfl ?_
      refine wp_goto 7 dX7_reached_82 (by decide) ?_
      have hlt := up_toNat hup h69
      refine ih (rcI (M.1 36) bear set N 0 set) (k + 1) _ _ (by omega) ?_
      rw [it_succ, ← hk]
      rfl
theorem sm_reached {g : GG} {M : Mem} {N a : Nat} {bear : Int32} (hN : N ≤ 24) (hwh : M.1 25 8 * M.1 25 9 = nI N) (ha : a < N) (hn : ∀ c, c < N → Sm N (M.1 36 c)) : RI g mX7_reached [ob g 25, .int (nI a), .int bear] M (it (rcS (M.1 36) N bear) 24 (shl 1 (nI a))) M := by
  refine spec_of_wp (ls := [some (ob g 25), some (.int (nI a)), some (.int bear), none, none, none, none]) rfl (Nat.le_of_ble_eq_true rfl) 4 rfl ?_
  refine wp_iconst (pc' := 1) 1 dX7_reached_0 rfl (by decide) ?_
  refine wp_iload_n (pc' := 2) dX7_reached_1 rfl rfl ?_
  refine wp_ishl (pc' := 3) dX7_reached_2 rfl ?_
  refine wp_ist3 (pc' := 4) dX7_reached_3 rfl (by decide) rfl ?_
  refine wp_iconst (pc' := 5) 1 dX7_reached_4 rfl (by decide) ?_
  refine wp_ist4 (pc' := 7) dX7_reached_5 rfl (by decide) rfl ?_
  refine lpm_rcW hN hwh (x0 := shl 1 (nI a)) (fun r k hr hf => ri_ok ?_ rfl) _ _ 0 _ _ (Nat.le_refl _) rfl
  rw [hr] at hf ⊢
  exact it_same (fun x i hi => rcI_up _ _ _ N 0 x i hi) (fun x hx => rcI_Sm bear x hn N 0 (by omega) x hx) (Sm.one ha (by omega)) hN hf
