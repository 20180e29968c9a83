
/-! the reference: joined, by turns, apart, rate -/
def rcV (nr : Nat → Int32) (N a : Nat) (bear : Int32) : Int32 := it (rcS nr N bear) 24 (shl 1 (nI a))
def jnG (nr bg : Nat → Int32) (N n b : Nat) (mb set fd more : Int32) : Int32 := if (fd = -9 ∨ onV more < onV fd) ∧ (mb ||| more) &&& set = set ∧ rcV nr N b (mb ||| more) &&& set = set then more else fd
def jnF (nr bg : Nat → Int32) (N n b : Nat) (mb set : Int32) : Nat → Nat → Int32 → Int32
  | 0, _, fd => fd
  | r + 1, k, fd => jnF nr bg N n b mb set r (k + 1) (jnG nr bg N n b mb set fd (chF bg (nI k) n 0 0))

theorem lpm_joins {g : GG} {M : Mem} {N n b s : Nat} {set : Int32} (hN : N ≤ 24) (hwh : M.1 25 8 * M.1 25 9 = nI N) (hn : n ≤ 24) (hb : b < N) (hsm : ∀ c, c < N → Sm N (M.1 36 c)) (hs : s < 2 ^ 31) (hse : shl 1 (nI n) = nI s) : ∀ (r k : Nat), k + r = s → ∀ (fd : Int32) (x6 x7 x8 : Option Value), wp g mX7_joins 23 [some (ob g 25), some (.int set), some (.int (nI n)), some (.int (nI b)), some (.int fd), some (.int (nI k)), x6, x7, x8] [] M (fun q m => q = some (.int (jnF (M.1 36) (M.1 35) N n b (mbF (M.1 31) N 0 0) set r k fd)) ∧ m = M) := by
  intro r
  induction r with
  | zero =>
    intro k hk fd x6 x7 x8
    obtain rfl : k = s := by omega
    refine wp_iload (pc' := 25) dX7_joins_23 rfl rfl ?_
    refine wp_iconst (pc' := 26) 1 dX7_joins_25 rfl (by decide) ?_
    refine wp_iload_n (pc' := 27) dX7_joins_26 rfl rfl ?_
    refine wp_ishl (pc' := 28) dX7_joins_27 rfl ?_
    refine wp_top (hse) ?_
    refine wp_icmp_ge (pc' := 31) 112 dX7_joins_28 rfl (by decide) (fun q28 => ?_) (fun q28 => ?_)
    · refine wp_iload (pc' := 114) dX7_joins_112 rfl rfl ?_
      refine wp_ireti dX7_joins_114 rfl ?_
      exact ri_ok rfl rfl
    · exact absurd (nI_le (Nat.le_refl k) hs) q28
  | succ r ih =>
    intro k hk fd x6 x7 x8
    refine wp_iload (pc' := 25) dX7_joins_23 rfl rfl ?_
    refine wp_iconst (pc' := 26) 1 dX7_joins_25 rfl (by decide) ?_
    refine wp_iload_n (pc' := 27) dX7_joins_26 rfl rfl ?_
    refine wp_ishl (pc' := 28) dX7_joins_27 rfl ?_
    refine wp_top (hse) ?_
    refine wp_icmp_ge (pc' := 31) 112 dX7_joins_28 rfl (by decide) (fun q28 => ?_) (fun q28 => ?_)
    · refine wp_iload (pc' := 114) dX7_joins_112 rfl rfl ?_
      refine wp_ireti dX7_joins_114 rfl ?_
      exact absurd q28 (nI_ge (by omega) hs)
    · refine wp_aload_n (pc' := 32) dX7_joins_31 rfl rfl ⟨_, rfl⟩ ?_
      refine wp_iload (pc' := 34) dX7_joins_32 rfl rfl ?_
      refine wp_iload_n (pc' := 35) dX7_joins_34 rfl rfl ?_
      refine wp_cVI (μ' := mX7_chosen) (pc' := 38) (o := 25) dX7_joins_35 rfl mlX7_181 cfX7_chosen ⟨(Nat.le_of_ble_eq_true rfl), (Nat.le_of_ble_eq_true rfl)⟩ (sm_chosen hn) (by decide) rfl rfl rfl rfl rfl (Nat.le_of_ble_eq_true rfl) ?_
      refine wp_ist6 (pc' := 40) dX7_joins_38 rfl (by decide) rfl ?_
      refine wp_aload_n (pc' := 41) dX7_joins_40 rfl rfl ⟨_, rfl⟩ ?_
      refine wp_cVI (μ' := mX7_bearing) (pc' := 44) (o := 25) dX7_joins_41 rfl mlX7_184 cfX7_bearing ⟨(Nat.le_of_ble_eq_true rfl), (Nat.le_of_ble_eq_true rfl)⟩ (sm_bearing hN hwh) (by decide) rfl rfl rfl rfl rfl (Nat.le_of_ble_eq_true rfl) ?_
      refine wp_iload (pc' := 46) dX7_joins_44 rfl rfl ?_
      refine wp_ior (pc' := 47) dX7_joins_46 rfl ?_
      refine wp_ist7 (pc' := 49) dX7_joins_47 rfl (by decide) rfl ?_
      refine wp_iload (pc' := 51) dX7_joins_49 rfl rfl ?_
      refine wp_bipush (pc' := 53) (-9) dX7_joins_51 rfl (by decide) ?_
      refine wp_icmp_eq (pc' := 56) 69 dX7_joins_53 rfl (by decide) (fun q53 => ?_) (fun q53 => ?_)
      · refine wp_iconst (pc' := 70) 1 dX7_joins_69 rfl (by decide) ?_
        refine wp_goto 74 dX7_joins_70 (by decide) ?_
        refine wp_ist8 (pc' := 76) dX7_joins_74 rfl (by decide) rfl ?_
        refine wp_iload (pc' := 78) dX7_joins_76 rfl rfl ?_
        refine wp_if_eq (pc' := 81) 106 dX7_joins_78 rfl (by decide) (fun hh => absurd hh (by decide)) (fun _ => ?_)
        refine wp_iload (pc' := 83) dX7_joins_81 rfl rfl ?_
        refine wp_iload_n (pc' := 84) dX7_joins_83 rfl rfl ?_
        refine wp_iand (pc' := 85) dX7_joins_84 rfl ?_
        refine wp_iload_n (pc' := 86) dX7_joins_85 rfl rfl ?_
        refine wp_icmp_ne (pc' := 89) 106 dX7_joins_86 rfl (by decide) (fun q86 => ?_) (fun q86 => ?_)
        · refine wp_inc5 (pc' := 109) (nI (k + 1)) dX7_joins_106 rfl (by decide) rfl (nI_1 k) ?_
          refine wp_goto 23 dX7_joins_109 (by decide) ?_
          have e : jnG (M.1 36) (M.1 35) N n b (mbF (M.1 31) N 0 0) set fd (chF (M.1 35) (nI k) n 0 0) = _ := if_neg (fun hh => q86 hh.2.1)
          rw [jnF, e]
          exact ih (k + 1) (by omega) _ _ _ _
        · refine wp_aload_n (pc' := 90) dX7_joins_89 rfl rfl ⟨_, rfl⟩ ?_
          refine wp_iload_n (pc' := 91) dX7_joins_90 rfl rfl ?_
          refine wp_iload (pc' := 93) dX7_joins_91 rfl rfl ?_
          refine wp_cVI (μ' := mX7_reached) (pc' := 96) (o := 25) dX7_joins_93 rfl mlX7_190 cfX7_reached ⟨(Nat.le_of_ble_eq_true rfl), (Nat.le_of_ble_eq_true rfl)⟩ (sm_reached hN hwh hb hsm) (by decide) rfl rfl rfl rfl rfl (Nat.le_of_ble_eq_true rfl) ?_
          refine wp_iload_n (pc' := 97) dX7_joins_96 rfl rfl ?_
          refine wp_iand (pc' := 98) dX7_joins_97 rfl ?_
          refine wp_iload_n (pc' := 99) dX7_joins_98 rfl rfl ?_
          refine wp_icmp_ne (pc' := 102) 106 dX7_joins_99 rfl (by decide) (fun q99 => ?_) (fun q99 => ?_)
          · refine wp_inc5 (pc' := 109) (nI (k + 1)) dX7_joins_106 rfl (by decide) rfl (nI_1 k) ?_
            refine wp_goto 23 dX7_joins_109 (by decide) ?_
            have e : jnG (M.1 36) (M.1 35) N n b (mbF (M.1 31) N 0 0) set fd (chF (M.1 35) (nI k) n 0 0) = _ := if_neg (fun hh => q99 hh.2.2)
            rw [jnF, e]
            exact ih (k + 1) (by omega) _ _ _ _
          · refine wp_iload (pc' := 104) dX7_joins_102 rfl rfl ?_
            refine wp_ist4 (pc' := 106) dX7_joins_104 rfl (by decide) rfl ?_
            refine wp_inc5 (pc' := 109) (nI (k + 1)) dX7_joins_106 rfl (by decide) rfl (nI_1 k) ?_
            refine wp_goto 23 dX7_joins_109 (by decide) ?_
            have e : jnG (M.1 36) (M.1 35) N n b (mbF (M.1 31) N 0 0) set fd (chF (M.1 35) (nI k) n 0 0) = _ := if_pos ⟨Or.inl q53, q86, q99⟩
            rw [jnF, e]
            exact ih (k + 1) (by omega) _ _ _ _
      · refine wp_iload (pc' := 58) dX7_joins_56 rfl rfl ?_
        refine wp_cSI (μ' := mX7_ones) (pc' := 61) dX7_joins_58 rfl mlX7_187 cfX7_ones ⟨(Nat.le_of_ble_eq_true rfl), (Nat.le_of_ble_eq_true rfl)⟩ (sm_ones) rfl rfl (Nat.le_of_ble_eq_true rfl) ?_
        refine wp_iload (pc' := 63) dX7_joins_61 rfl rfl ?_
        refine wp_cSI (μ' := mX7_ones) (pc' := 66) dX7_joins_63 rfl mlX7_187 cfX7_ones ⟨(Nat.le_of_ble_eq_true rfl), (Nat.le_of_ble_eq_true rfl)⟩ (sm_ones) rfl rfl (Nat.le_of_ble_eq_true rfl) ?_
        refine wp_icmp_ge (pc' := 69) 73 dX7_joins_66 rfl (by decide) (fun q66 => ?_) (fun q66 => ?_)
        · refine wp_iconst (pc' := 74) 0 dX7_joins_73 rfl (by decide) ?_
          refine wp_ist8 (pc' := 76) dX7_joins_74 rfl (by decide) rfl ?_
          refine wp_iload (pc' := 78) dX7_joins_76 rfl rfl ?_
          refine wp_if_eq (pc' := 81) 106 dX7_joins_78 rfl (by decide) (fun _ => ?_) (fun hh => absurd hh (by decide))
          refine wp_inc5 (pc' := 109) (nI (k + 1)) dX7_joins_106 rfl (by decide) rfl (nI_1 k) ?_
          refine wp_goto 23 dX7_joins_109 (by decide) ?_
          have e : jnG (M.1 36) (M.1 35) N n b (mbF (M.1 31) N 0 0) set fd (chF (M.1 35) (nI k) n 0 0) = _ := if_neg (fun hh => hh.1.elim q53 (fun z => Int32.not_lt.mpr q66 z))
          rw [jnF, e]
          exact ih (k + 1) (by omega) _ _ _ _
        · refine wp_iconst (pc' := 70) 1 dX7_joins_69 rfl (by decide) ?_
          refine wp_goto 74 dX7_joins_70 (by decide) ?_
          refine wp_ist8 (pc' := 76) dX7_joins_74 rfl (by decide) rfl ?_
          refine wp_iload (pc' := 78) dX7_joins_76 rfl rfl ?_
          refine wp_if_eq (pc' := 81) 106 dX7_joins_78 rfl (by decide) (fun hh => absurd hh (by decide)) (fun _ => ?_)
          refine wp_iload (pc' := 83) dX7_joins_81 rfl rfl ?_
          refine wp_iload_n (pc' := 84) dX7_joins_83 rfl rfl ?_
          refine wp_iand (pc' := 85) dX7_joins_84 rfl ?_
          refine wp_iload_n (pc' := 86) dX7_joins_85 rfl rfl ?_
          refine wp_icmp_ne (pc' := 89) 106 dX7_joins_86 rfl (by decide) (fun q86 => ?_) (fun q86 => ?_)
          · refine wp_inc5 (pc' := 109) (nI (k + 1)) dX7_joins_106 rfl (by decide) rfl (nI_1 k) ?_
            refine wp_goto 23 dX7_joins_109 (by decide) ?_
            have e : jnG (M.1 36) (M.1 35) N n b (mbF (M.1 31) N 0 0) set fd (chF (M.1 35) (nI k) n 0 0) = _ := if_neg (fun hh => q86 hh.2.1)
            rw [jnF, e]
            exact ih (k + 1) (by omega) _ _ _ _
          · refine wp_aload_n (pc' := 90) dX7_joins_89 rfl rfl ⟨_, rfl⟩ ?_
            refine wp_iload_n (pc' := 91) dX7_joins_90 rfl rfl ?_
            refine wp_iload (pc' := 93) dX7_joins_91 rfl rfl ?_
            refine wp_cVI (μ' := mX7_reached) (pc' := 96) (o := 25) dX7_joins_93 rfl mlX7_190 cfX7_reached ⟨(Nat.le_of_ble_eq_true rfl), (Nat.le_of_ble_eq_true rfl)⟩ (sm_reached hN hwh hb hsm) (by decide) rfl rfl rfl rfl rfl (Nat.le_of_ble_eq_true rfl) ?_
            refine wp_iload_n (pc' := 97) dX7_joins_96 rfl rfl ?_
            refine wp_iand (pc' := 98) dX7_joins_97 rfl ?_
            refine wp_iload_n (pc' := 99) dX7_joins_98 rfl rfl ?_
            refine wp_icmp_ne (pc' := 102) 106 dX7_joins_99 rfl (by decide) (fun q99 => ?_) (fun q99 => ?_)
            · refine wp_inc5 (pc' := 109) (nI (k + 1)) dX7_joins_106 rfl (by decide) rfl (nI_1 k) ?_
              refine wp_goto 23 dX7_joins_109 (by decide) ?_
              have e : jnG (M.1 36) (M.1 35) N n b (mbF (M.1 31) N 0 0) set fd (chF (M.1 35) (nI k) n 0 0) = _ := if_neg (fun hh => q99 hh.2.2)
              rw [jnF, e]
              exact ih (k + 1) (by omega) _ _ _ _
            · refine wp_iload (pc' := 104) dX7_joins_102 rfl rfl ?_
              refine wp_ist4 (pc' := 106) dX7_joins_104 rfl (by decide) rfl ?_
              refine wp_inc5 (pc' := 109) (nI (k + 1)) dX7_joins_106 rfl (by decide) rfl (nI_1 k) ?_
              refine wp_goto 23 dX7_joins_109 (by decide) ?_
              have e : jnG (M.1 36) (M.1 35) N n b (mbF (M.1 31) N 0 0) set fd (chF (M.1 35) (nI k) n 0 0) = _ := if_pos ⟨Or.inr (Int32.not_le.mp q66), q86, q99⟩
              rw [jnF, e]
              exact ih (k + 1) (by omega) _ _ _ _
theorem lpm_joins0 {g : GG} {M : Mem} {b : Nat} {n set : Int32} (hb : b < 32) (hb1 : bt set b = true) (hb0 : ∀ e, e < b → bt set e = false) {Q : Option Value → Mem → Prop} (K : wp g mX7_joins 16 [some (ob g 25), some (.int set), some (.int n), some (.int (nI b)), none, none, none, none, none] [] M Q) : ∀ (r e : Nat), e + r = b → wp g mX7_joins 2 [some (ob g 25), some (.int set), some (.int n), some (.int (nI e)), none, none, none, none, none] [] M Q := by
  intro r
  induction r with
  | zero =>
    intro e he
    obtain rfl : e = b := by omega
    refine wp_iload_n (pc' := 3) dX7_joins_2 rfl rfl ?_
    refine wp_iload_n (pc' := 4) dX7_joins_3 rfl rfl ?_
    refine wp_ishr (pc' := 5) dX7_joins_4 rfl ?_
    refine wp_iconst (pc' := 6) 1 dX7_joins_5 rfl (by decide) ?_
    refine wp_iand (pc' := 7) dX7_joins_6 rfl ?_
    refine wp_if_ne (pc' := 10) 16 dX7_joins_7 rfl (by decide) (fun q7 => ?_) (fun q7 => ?_)
    · exact K
    · refine wp_inc3 (pc' := 13) (nI (e + 1)) dX7_joins_10 rfl (by decide) rfl (nI_1 e) ?_
      refine wp_goto 2 dX7_joins_13 (by decide) ?_
      rw [bit_of hb, if_pos hb1] at q7
      exact absurd q7 (by decide)
  | succ r ih =>
    intro e he
    refine wp_iload_n (pc' := 3) dX7_joins_2 rfl rfl ?_
    refine wp_iload_n (pc' := 4) dX7_joins_3 rfl rfl ?_
    refine wp_ishr (pc' := 5) dX7_joins_4 rfl ?_
    refine wp_iconst (pc' := 6) 1 dX7_joins_5 rfl (by decide) ?_
    refine wp_iand (pc' := 7) dX7_joins_6 rfl ?_
    refine wp_if_ne (pc' := 10) 16 dX7_joins_7 rfl (by decide) (fun q7 => ?_) (fun q7 => ?_)
    · rw [bit_of (by omega), if_neg (by rw [hb0 e (by omega)]; decide)] at q7
      exact absurd rfl q7
    · refine wp_inc3 (pc' := 13) (nI (e + 1)) dX7_joins_10 rfl (by decide) rfl (nI_1 e) ?_
      refine wp_goto 2 dX7_joins_13 (by decide) ?_
      exact ih (e + 1) (by omega)
theorem sm_joins {g : GG} {M : Mem} {N n b s : Nat} {set : Int32} (hN : N ≤ 24) (hwh : M.1 25 8 * M.1 25 9 = nI N) (hn : n ≤ 24) (hb : b < N) (hb1 : bt set b = true) (hb0 : ∀ e, e < b → bt set e = false) (hsm : ∀ c, c < N → Sm N (M.1 36 c)) (hs : s < 2 ^ 31) (hse : shl 1 (nI n) = nI s) : RI g mX7_joins [ob g 25, .int set, .int (nI n)] M (jnF (M.1 36) (M.1 35) N n b (mbF (M.1 31) N 0 0) set s 0 (-9)) M := by
  refine spec_of_wp (ls := [some (ob g 25), some (.int set), some (.int (nI n)), none, none, none, none, none, none]) rfl (Nat.le_of_ble_eq_true rfl) 6 rfl ?_
  refine wp_iconst (pc' := 1) 0 dX7_joins_0 rfl (by decide) ?_
  refine wp_ist3 (pc' := 2) dX7_joins_1 rfl (by decide) rfl ?_
  refine lpm_joins0 (by omega) hb1 hb0 ?_ b 0 (Nat.zero_add b)
  refine wp_bipush (pc' := 18) (-9) dX7_joins_16 rfl (by decide) ?_
  refine wp_ist4 (pc' := 20) dX7_joins_18 rfl (by decide) rfl ?_
  refine wp_iconst (pc' := 21) 0 dX7_joins_20 rfl (by decide) ?_
  refine wp_ist5 (pc' := 23) dX7_joins_21 rfl (by decide) rfl ?_
  exact lpm_joins hN hwh hn hb hsm hs hse s 0 (Nat.zero_add s) _ _ _ _
def lbN (M : Mem) (N : Nat) : Nat := (lbG (M.1 31) N 0 (0, M.1 35)).1
def lbB (M : Mem) (N : Nat) : Nat → Int32 := (lbG (M.1 31) N 0 (0, M.1 35)).2
theorem sm_joined_bad {g : GG} {M : Mem} {set what : Int32} (h : inF what 0 1 = 0) : RI g mX7_joined [ob g 25, .int set, .int what] M (-1) (th M) := by
  refine spec_of_wp (ls := [some (ob g 25), some (.int set), some (.int what), none, none, none]) rfl (Nat.le_of_ble_eq_true rfl) 3 rfl ?_
  refine wp_aload_n (pc' := 1) dX7_joined_0 rfl rfl ⟨_, rfl⟩ ?_
  refine wp_iconst (pc' := 2) 0 dX7_joined_1 rfl (by decide) ?_
  refine wp_put (pc' := 5) (o := 25) dX7_joined_2 rfl fpX7_47 (by decide) rfl (Nat.le_of_ble_eq_true rfl) rfl ?_
  refine wp_iload_n (pc' := 6) dX7_joined_5 rfl rfl ?_
  refine wp_iconst (pc' := 7) 0 dX7_joined_6 rfl (by decide) ?_
  refine wp_iconst (pc' := 8) 1 dX7_joined_7 rfl (by decide) ?_
  refine wp_cSI (μ' := mX7_in) (pc' := 11) dX7_joined_8 rfl mlX7_57 cfX7_in ⟨(Nat.le_of_ble_eq_true rfl), (Nat.le_of_ble_eq_true rfl)⟩ (sm_in) rfl rfl (Nat.le_of_ble_eq_true rfl) ?_
  refine wp_if_ne (pc' := 14) 16 dX7_joined_11 rfl (by decide) (fun q11 => ?_) (fun q11 => ?_)
  · exact absurd h q11
  · refine wp_iconst (pc' := 15) (-1) dX7_joined_14 rfl (by decide) ?_
    refine wp_ireti dX7_joined_15 rfl ?_
    exact ri_ok rfl rfl
theorem sm_joined_state {g : GG} {M : Mem} {N w : Nat} {set what : Int32} (h : MW M N w) (hg : ¬ inF what 0 1 = 0) (hb : ¬ nI (lbN M N) ≤ 10) : RI g mX7_joined [ob g 25, .int set, .int what] M (-2) (setO (th M) 35 (lbB M N)) := by
  refine spec_of_wp (ls := [some (ob g 25), some (.int set), some (.int what), none, none, none]) rfl (Nat.le_of_ble_eq_true rfl) 3 rfl ?_
  refine wp_aload_n (pc' := 1) dX7_joined_0 rfl rfl ⟨_, rfl⟩ ?_
  refine wp_iconst (pc' := 2) 0 dX7_joined_1 rfl (by decide) ?_
  refine wp_put (pc' := 5) (o := 25) dX7_joined_2 rfl fpX7_47 (by decide) rfl (Nat.le_of_ble_eq_true rfl) rfl ?_
  refine wp_iload_n (pc' := 6) dX7_joined_5 rfl rfl ?_
  refine wp_iconst (pc' := 7) 0 dX7_joined_6 rfl (by decide) ?_
  refine wp_iconst (pc' := 8) 1 dX7_joined_7 rfl (by decide) ?_
  refine wp_cSI (μ' := mX7_in) (pc' := 11) dX7_joined_8 rfl mlX7_57 cfX7_in ⟨(Nat.le_of_ble_eq_true rfl), (Nat.le_of_ble_eq_true rfl)⟩ (sm_in) rfl rfl (Nat.le_of_ble_eq_true rfl) ?_
  refine wp_if_ne (pc' := 14) 16 dX7_joined_11 rfl (by decide) (fun q11 => ?_) (fun q11 => ?_)
  · refine wp_aload_n (pc' := 17) dX7_joined_16 rfl rfl ⟨_, rfl⟩ ?_
    refine wp_cVI (μ' := mX7_listsBogs) (pc' := 20) (o := 25) dX7_joined_17 rfl mlX7_193 cfX7_listsBogs ⟨(Nat.le_of_ble_eq_true rfl), (Nat.le_of_ble_eq_true rfl)⟩ (sm_listsBogs (M := th M) (N := N) h.1 h.2.1) (by decide) rfl rfl rfl rfl rfl (Nat.le_of_ble_eq_true rfl) ?_
    refine wp_ist3 (pc' := 21) dX7_joined_20 rfl (by decide) rfl ?_
    refine wp_iload_n (pc' := 22) dX7_joined_21 rfl rfl ?_
    refine wp_bipush (pc' := 24) 10 dX7_joined_22 rfl (by decide) ?_
    refine wp_icmp_le (pc' := 27) 30 dX7_joined_24 rfl (by decide) (fun q24 => ?_) (fun q24 => ?_)
    · exact absurd q24 hb
    · refine wp_bipush (pc' := 29) (-2) dX7_joined_27 rfl (by decide) ?_
      refine wp_ireti dX7_joined_29 rfl ?_
      exact ri_ok rfl rfl
  · exact absurd q11 hg
def jmask (set : Int32) (N : Nat) : Int32 := set &&& (shl 1 (nI N) - 1)
def mjM (M : Mem) (N w : Nat) : Mem := setO (setO (th M) 35 (lbB M N)) 36 (nbM (setO (th M) 35 (lbB M N)) N w)
theorem sm_joined_0 {g : GG} {M : Mem} {N w : Nat} {set what : Int32} (h : MW M N w) (hg : ¬ inF what 0 1 = 0) (hb : nI (lbN M N) ≤ 10) (h0 : jmask set N = 0) : RI g mX7_joined [ob g 25, .int set, .int what] M (if what = 0 then onV (0) else 0) (mjM M N w) := by
  refine spec_of_wp (ls := [some (ob g 25), some (.int set), some (.int what), none, none, none]) rfl (Nat.le_of_ble_eq_true rfl) 3 rfl ?_
  refine wp_aload_n (pc' := 1) dX7_joined_0 rfl rfl ⟨_, rfl⟩ ?_
  refine wp_iconst (pc' := 2) 0 dX7_joined_1 rfl (by decide) ?_
  refine wp_put (pc' := 5) (o := 25) dX7_joined_2 rfl fpX7_47 (by decide) rfl (Nat.le_of_ble_eq_true rfl) rfl ?_
  refine wp_iload_n (pc' := 6) dX7_joined_5 rfl rfl ?_
  refine wp_iconst (pc' := 7) 0 dX7_joined_6 rfl (by decide) ?_
  refine wp_iconst (pc' := 8) 1 dX7_joined_7 rfl (by decide) ?_
  refine wp_cSI (μ' := mX7_in) (pc' := 11) dX7_joined_8 rfl mlX7_57 cfX7_in ⟨(Nat.le_of_ble_eq_true rfl), (Nat.le_of_ble_eq_true rfl)⟩ (sm_in) rfl rfl (Nat.le_of_ble_eq_true rfl) ?_
  refine wp_if_ne (pc' := 14) 16 dX7_joined_11 rfl (by decide) (fun q11 => ?_) (fun q11 => ?_)
  · refine wp_aload_n (pc' := 17) dX7_joined_16 rfl rfl ⟨_, rfl⟩ ?_
    refine wp_cVI (μ' := mX7_listsBogs) (pc' := 20) (o := 25) dX7_joined_17 rfl mlX7_193 cfX7_listsBogs ⟨(Nat.le_of_ble_eq_true rfl), (Nat.le_of_ble_eq_true rfl)⟩ (sm_listsBogs (M := th M) (N := N) h.1 h.2.1) (by decide) rfl rfl rfl rfl rfl (Nat.le_of_ble_eq_true rfl) ?_
    refine wp_ist3 (pc' := 21) dX7_joined_20 rfl (by decide) rfl ?_
    refine wp_iload_n (pc' := 22) dX7_joined_21 rfl rfl ?_
    refine wp_bipush (pc' := 24) 10 dX7_joined_22 rfl (by decide) ?_
    refine wp_icmp_le (pc' := 27) 30 dX7_joined_24 rfl (by decide) (fun q24 => ?_) (fun q24 => ?_)
    · refine wp_aload_n (pc' := 31) dX7_joined_30 rfl rfl ⟨_, rfl⟩ ?_
      refine wp_cVV (μ' := mX7_nears) (pc' := 34) (o := 25) dX7_joined_31 rfl mlX7_196 cfX7_nears ⟨(Nat.le_of_ble_eq_true rfl), (Nat.le_of_ble_eq_true rfl)⟩ (sm_nears (M := setO (th M) 35 (lbB M N)) (N := N) (w := w) h) (by decide) rfl rfl rfl rfl rfl (Nat.le_of_ble_eq_true rfl) ?_
      refine wp_iload_n (pc' := 35) dX7_joined_34 rfl rfl ?_
      refine wp_iconst (pc' := 36) 1 dX7_joined_35 rfl (by decide) ?_
      refine wp_aload_n (pc' := 37) dX7_joined_36 rfl rfl ⟨_, rfl⟩ ?_
      refine wp_get (pc' := 40) (o := 25) dX7_joined_37 rfl flX7_51 (by decide) rfl rfl ?_
      refine wp_aload_n (pc' := 41) dX7_joined_40 rfl rfl ⟨_, rfl⟩ ?_
      refine wp_get (pc' := 44) (o := 25) dX7_joined_41 rfl flX7_54 (by decide) rfl rfl ?_
      refine wp_imul (pc' := 45) dX7_joined_44 rfl ?_
      refine wp_top (h.2.1) ?_
      refine wp_ishl (pc' := 46) dX7_joined_45 rfl ?_
      refine wp_iconst (pc' := 47) 1 dX7_joined_46 rfl (by decide) ?_
      refine wp_isub (pc' := 48) dX7_joined_47 rfl ?_
      refine wp_iand (pc' := 49) dX7_joined_48 rfl ?_
      refine wp_ist4 (pc' := 51) dX7_joined_49 rfl (by decide) rfl ?_
      refine wp_iload (pc' := 53) dX7_joined_51 rfl rfl ?_
      refine wp_if_ne (pc' := 56) 60 dX7_joined_53 rfl (by decide) (fun q53 => ?_) (fun q53 => ?_)
      · exact absurd h0 q53
      · refine wp_iconst (pc' := 57) 0 dX7_joined_56 rfl (by decide) ?_
        refine wp_goto 67 dX7_joined_57 (by decide) ?_
        refine wp_ist5 (pc' := 69) dX7_joined_67 rfl (by decide) rfl ?_
        refine wp_iload_n (pc' := 70) dX7_joined_69 rfl rfl ?_
        refine wp_if_ne (pc' := 73) 81 dX7_joined_70 rfl (by decide) (fun q70 => ?_) (fun q70 => ?_)
        · refine wp_iload (pc' := 83) dX7_joined_81 rfl rfl ?_
          refine wp_ireti dX7_joined_83 rfl ?_
          exact ri_ok (by rw [if_neg q70]) rfl
        · refine wp_iload (pc' := 75) dX7_joined_73 rfl rfl ?_
          refine wp_cSI (μ' := mX7_ones) (pc' := 78) dX7_joined_75 rfl mlX7_187 cfX7_ones ⟨(Nat.le_of_ble_eq_true rfl), (Nat.le_of_ble_eq_true rfl)⟩ (sm_ones) rfl rfl (Nat.le_of_ble_eq_true rfl) ?_
          refine wp_goto 83 dX7_joined_78 (by decide) ?_
          refine wp_ireti dX7_joined_83 rfl ?_
          exact ri_ok (by rw [if_pos q70]) rfl
    · exact absurd hb q24
  · exact absurd q11 hg
theorem sm_joined {g : GG} {M : Mem} {N w b s : Nat} {set what : Int32} (h : MW M N w) (hg : ¬ inF what 0 1 = 0) (hb : nI (lbN M N) ≤ 10) (h0 : ¬ jmask set N = 0) (hbN : b < N) (hb1 : bt (jmask set N) b = true) (hb0 : ∀ e, e < b → bt (jmask set N) e = false) (hn : lbN M N ≤ 24) (hsm : ∀ c, c < N → Sm N (nbM (setO (th M) 35 (lbB M N)) N w c)) (hs : s < 2 ^ 31) (hse : shl 1 (nI (lbN M N)) = nI s) : RI g mX7_joined [ob g 25, .int set, .int what] M (if what = 0 then onV (jnF (nbM (setO (th M) 35 (lbB M N)) N w) (lbB M N) N (lbN M N) b (mbF (M.1 31) N 0 0) (jmask set N) s 0 (-9)) else jnF (nbM (setO (th M) 35 (lbB M N)) N w) (lbB M N) N (lbN M N) b (mbF (M.1 31) N 0 0) (jmask set N) s 0 (-9)) (mjM M N w) := by
  refine spec_of_wp (ls := [some (ob g 25), some (.int set), some (.int what), none, none, none]) rfl (Nat.le_of_ble_eq_true rfl) 3 rfl ?_
  refine wp_aload_n (pc' := 1) dX7_joined_0 rfl rfl ⟨_, rfl⟩ ?_
  refine wp_iconst (pc' := 2) 0 dX7_joined_1 rfl (by decide) ?_
  refine wp_put (pc' := 5) (o := 25) dX7_joined_2 rfl fpX7_47 (by decide) rfl (Nat.le_of_ble_eq_true rfl) rfl ?_
  refine wp_iload_n (pc' := 6) dX7_joined_5 rfl rfl ?_
  refine wp_iconst (pc' := 7) 0 dX7_joined_6 rfl (by decide) ?_
  refine wp_iconst (pc' := 8) 1 dX7_joined_7 rfl (by decide) ?_
  refine wp_cSI (μ' := mX7_in) (pc' := 11) dX7_joined_8 rfl mlX7_57 cfX7_in ⟨(Nat.le_of_ble_eq_true rfl), (Nat.le_of_ble_eq_true rfl)⟩ (sm_in) rfl rfl (Nat.le_of_ble_eq_true rfl) ?_
  refine wp_if_ne (pc' := 14) 16 dX7_joined_11 rfl (by decide) (fun q11 => ?_) (fun q11 => ?_)
  · refine wp_aload_n (pc' := 17) dX7_joined_16 rfl rfl ⟨_, rfl⟩ ?_
    refine wp_cVI (μ' := mX7_listsBogs) (pc' := 20) (o := 25) dX7_joined_17 rfl mlX7_193 cfX7_listsBogs ⟨(Nat.le_of_ble_eq_true rfl), (Nat.le_of_ble_eq_true rfl)⟩ (sm_listsBogs (M := th M) (N := N) h.1 h.2.1) (by decide) rfl rfl rfl rfl rfl (Nat.le_of_ble_eq_true rfl) ?_
    refine wp_ist3 (pc' := 21) dX7_joined_20 rfl (by decide) rfl ?_
    refine wp_iload_n (pc' := 22) dX7_joined_21 rfl rfl ?_
    refine wp_bipush (pc' := 24) 10 dX7_joined_22 rfl (by decide) ?_
    refine wp_icmp_le (pc' := 27) 30 dX7_joined_24 rfl (by decide) (fun q24 => ?_) (fun q24 => ?_)
    · refine wp_aload_n (pc' := 31) dX7_joined_30 rfl rfl ⟨_, rfl⟩ ?_
      refine wp_cVV (μ' := mX7_nears) (pc' := 34) (o := 25) dX7_joined_31 rfl mlX7_196 cfX7_nears ⟨(Nat.le_of_ble_eq_true rfl), (Nat.le_of_ble_eq_true rfl)⟩ (sm_nears (M := setO (th M) 35 (lbB M N)) (N := N) (w := w) h) (by decide) rfl rfl rfl rfl rfl (Nat.le_of_ble_eq_true rfl) ?_
      refine wp_iload_n (pc' := 35) dX7_joined_34 rfl rfl ?_
      refine wp_iconst (pc' := 36) 1 dX7_joined_35 rfl (by decide) ?_
      refine wp_aload_n (pc' := 37) dX7_joined_36 rfl rfl ⟨_, rfl⟩ ?_
      refine wp_get (pc' := 40) (o := 25) dX7_joined_37 rfl flX7_51 (by decide) rfl rfl ?_
      refine wp_aload_n (pc' := 41) dX7_joined_40 rfl rfl ⟨_, rfl⟩ ?_
      refine wp_get (pc' := 44) (o := 25) dX7_joined_41 rfl flX7_54 (by decide) rfl rfl ?_
      refine wp_imul (pc' := 45) dX7_joined_44 rfl ?_
      refine wp_top (h.2.1) ?_
      refine wp_ishl (pc' := 46) dX7_joined_45 rfl ?_
      refine wp_iconst (pc' := 47) 1 dX7_joined_46 rfl (by decide) ?_
      refine wp_isub (pc' := 48) dX7_joined_47 rfl ?_
      refine wp_iand (pc' := 49) dX7_joined_48 rfl ?_
      refine wp_ist4 (pc' := 51) dX7_joined_49 rfl (by decide) rfl ?_
      refine wp_iload (pc' := 53) dX7_joined_51 rfl rfl ?_
      refine wp_if_ne (pc' := 56) 60 dX7_joined_53 rfl (by decide) (fun q53 => ?_) (fun q53 => ?_)
      · refine wp_aload_n (pc' := 61) dX7_joined_60 rfl rfl ⟨_, rfl⟩ ?_
        refine wp_iload (pc' := 63) dX7_joined_61 rfl rfl ?_
        refine wp_iload_n (pc' := 64) dX7_joined_63 rfl rfl ?_
        refine wp_cVI (μ' := mX7_joins) (pc' := 67) (o := 25) dX7_joined_64 rfl mlX7_199 cfX7_joins ⟨(Nat.le_of_ble_eq_true rfl), (Nat.le_of_ble_eq_true rfl)⟩ (sm_joins (M := mjM M N w) (N := N) (n := lbN M N) (b := b) (s := s) (set := jmask set N) h.1 h.2.1 hn hbN hb1 hb0 hsm hs hse) (by decide) rfl rfl rfl rfl rfl (Nat.le_of_ble_eq_true rfl) ?_
        refine wp_ist5 (pc' := 69) dX7_joined_67 rfl (by decide) rfl ?_
        refine wp_iload_n (pc' := 70) dX7_joined_69 rfl rfl ?_
        refine wp_if_ne (pc' := 73) 81 dX7_joined_70 rfl (by decide) (fun q70 => ?_) (fun q70 => ?_)
        · refine wp_iload (pc' := 83) dX7_joined_81 rfl rfl ?_
          refine wp_ireti dX7_joined_83 rfl ?_
          exact ri_ok (by rw [if_neg q70]; rfl) rfl
        · refine wp_iload (pc' := 75) dX7_joined_73 rfl rfl ?_
          refine wp_cSI (μ' := mX7_ones) (pc' := 78) dX7_joined_75 rfl mlX7_187 cfX7_ones ⟨(Nat.le_of_ble_eq_true rfl), (Nat.le_of_ble_eq_true rfl)⟩ (sm_ones) rfl rfl (Nat.le_of_ble_eq_true rfl) ?_
          refine wp_goto 83 dX7_joined_78 (by decide) ?_
          refine wp_ireti dX7_joined_83 rfl ?_
          exact ri_ok (by rw [if_pos q70]; rfl) rfl
      · exact absurd q53 h0
    · exact absurd hb q24
  · exact absurd q11 hg

def bkF (wo : Nat → Int32) (set : Nat) (soon : Int32) : Nat → Nat → Int32 → Int32
  | 0, _, best => best
  | n + 1, k, best =>
    bkF wo set soon n (k + 1) (if soon = (if (if sshr (nI set) (nI k) &&& 1 = 1 then best else wo (set ||| 2 ^ k) + 1) < best then (1 : Int32) else 0) then (if sshr (nI set) (nI k) &&& 1 = 1 then best else wo (set ||| 2 ^ k) + 1) else best)
theorem nI_or (a b : Nat) : nI a ||| nI b = nI (a ||| b) := by
  apply Int32.toBitVec_inj.1
  show BitVec.ofNat 32 a ||| BitVec.ofNat 32 b = BitVec.ofNat 32 (a ||| b)
  apply BitVec.eq_of_getLsbD_eq
  intro i hi
  simp [hi]
theorem nI_pow : ∀ k, k < 32 → shl 1 (nI k) = nI (2 ^ k) := by decide +kernel
def btV (nr bg : Nat → Int32) (N n a b : Nat) (mb : Int32) (wo : Nat → Int32) (set : Nat) : Int32 :=
  let bear := mb ||| chF bg (nI set) n 0 0
  if sshr bear (nI a) &&& 1 = 1 ∧ sshr (rcV nr N a bear) (nI b) &&& 1 = 1 then 0
  else bkF wo set (if onV (nI set) - onV (nI set) / 2 * 2 = 0 then 1 else 0) n 0 (if onV (nI set) - onV (nI set) / 2 * 2 = 0 then 99 else 0)
def btW (nr bg : Nat → Int32) (N n a b : Nat) (mb : Int32) : Nat → (Nat → Int32) → (Nat → Int32)
  | 0, wo => wo
  | r + 1, wo => btW nr bg N n a b mb r (upd wo r (btV nr bg N n a b mb wo r))

theorem lpm_btK {g : GG} {M : Mem} {n a b set : Nat} {x5 x6 soon : Int32} (hn : n ≤ 8) (hset : set < 2 ^ n) {Q : Option Value → Mem → Prop} : ∀ (r k : Nat), k + r = n → ∀ (best : Int32) (x10 : Option Value), (∀ x10, wp g mX7_byTurns 202 [some (ob g 25), some (.int (nI a)), some (.int (nI b)), some (.int (nI n)), some (.int (nI set)), some (.int x5), some (.int x6), some (.int soon), some (.int (bkF (M.1 37) set soon r k best)), some (.int (nI n)), x10] [] M Q) → wp g mX7_byTurns 132 [some (ob g 25), some (.int (nI a)), some (.int (nI b)), some (.int (nI n)), some (.int (nI set)), some (.int x5), some (.int x6), some (.int soon), some (.int best), some (.int (nI k)), x10] [] M Q := by
  have h8 : 2 ^ n ≤ 2 ^ 8 := Nat.pow_le_pow_right (by decide) hn
  intro r
  induction r with
  | zero =>
    intro k hk best x10 K
    obtain rfl : k = n := by omega
    refine wp_iload (pc' := 134) dX7_byTurns_132 rfl rfl ?_
    refine wp_iload_n (pc' := 135) dX7_byTurns_134 rfl rfl ?_
    refine wp_icmp_ge (pc' := 138) 202 dX7_byTurns_135 rfl (by decide) (fun q135 => ?_) (fun q135 => ?_)
    · exact K _
    · exact absurd (nI_le (Nat.le_refl k) (by omega)) q135
  | succ r ih =>
    intro k hk best x10 K
    have hor : set ||| 2 ^ k < 2 ^ n := Nat.or_lt_two_pow hset (Nat.pow_lt_pow_right (by decide) (by omega))
    have hix : nI set ||| shl 1 (nI k) = nI (set ||| 2 ^ k) := by rw [nI_pow k (by omega), nI_or]
    refine wp_iload (pc' := 134) dX7_byTurns_132 rfl rfl ?_
    refine wp_iload_n (pc' := 135) dX7_byTurns_134 rfl rfl ?_
    refine wp_icmp_ge (pc' := 138) 202 dX7_byTurns_135 rfl (by decide) (fun q135 => ?_) (fun q135 => ?_)
    · exact absurd q135 (nI_ge (by omega) (by omega))
    · refine wp_iload (pc' := 140) dX7_byTurns_138 rfl rfl ?_
      refine wp_iload (pc' := 142) dX7_byTurns_140 rfl rfl ?_
      refine wp_ishr (pc' := 143) dX7_byTurns_142 rfl ?_
      refine wp_iconst (pc' := 144) 1 dX7_byTurns_143 rfl (by decide) ?_
      refine wp_iand (pc' := 145) dX7_byTurns_144 rfl ?_
      refine wp_iconst (pc' := 146) 1 dX7_byTurns_145 rfl (by decide) ?_
      refine wp_icmp_ne (pc' := 149) 154 dX7_byTurns_146 rfl (by decide) (fun q146 => ?_) (fun q146 => ?_)
      · refine wp_aload_n (pc' := 155) dX7_byTurns_154 rfl rfl ⟨_, rfl⟩ ?_
        refine wp_get (pc' := 158) (o := 25) dX7_byTurns_155 rfl flX7_44 (by decide) rfl rfl ?_
        refine wp_iload (pc' := 160) dX7_byTurns_158 rfl rfl ?_
        refine wp_iconst (pc' := 161) 1 dX7_byTurns_160 rfl (by decide) ?_
        refine wp_iload (pc' := 163) dX7_byTurns_161 rfl rfl ?_
        refine wp_ishl (pc' := 164) dX7_byTurns_163 rfl ?_
        refine wp_ior (pc' := 165) dX7_byTurns_164 rfl ?_
        refine wp_ialdN (pc' := 166) (o := 37) (n := 256) (set ||| 2 ^ k) dX7_byTurns_165 rfl (by decide) rfl (hix) (Nat.lt_of_lt_of_le hor h8) (by decide) ?_
        refine wp_iconst (pc' := 167) 1 dX7_byTurns_166 rfl (by decide) ?_
        refine wp_iadd (pc' := 168) dX7_byTurns_167 rfl ?_
        refine wp_ist10 (pc' := 170) dX7_byTurns_168 rfl (by decide) rfl ?_
        refine wp_iload (pc' := 172) dX7_byTurns_170 rfl rfl ?_
        refine wp_iload (pc' := 174) dX7_byTurns_172 rfl rfl ?_
        refine wp_iload (pc' := 176) dX7_byTurns_174 rfl rfl ?_
        refine wp_icmp_ge (pc' := 179) 183 dX7_byTurns_176 rfl (by decide) (fun q176 => ?_) (fun q176 => ?_)
        · refine wp_iconst (pc' := 184) 0 dX7_byTurns_183 rfl (by decide) ?_
          refine wp_icmp_ne (pc' := 187) 192 dX7_byTurns_184 rfl (by decide) (fun q184 => ?_) (fun q184 => ?_)
          · refine wp_iload (pc' := 194) dX7_byTurns_192 rfl rfl ?_
            refine wp_ist8 (pc' := 196) dX7_byTurns_194 rfl (by decide) rfl ?_
            refine wp_inc9 (pc' := 199) (nI (k + 1)) dX7_byTurns_196 rfl (by decide) rfl (nI_1 k) ?_
            refine wp_goto 132 dX7_byTurns_199 (by decide) ?_
            rw [bkF, if_neg q146, if_neg (Int32.not_lt.mpr q176), if_neg q184] at K
            exact ih (k + 1) (by omega) _ _ K
          · refine wp_iload (pc' := 189) dX7_byTurns_187 rfl rfl ?_
            refine wp_goto 194 dX7_byTurns_189 (by decide) ?_
            refine wp_ist8 (pc' := 196) dX7_byTurns_194 rfl (by decide) rfl ?_
            refine wp_inc9 (pc' := 199) (nI (k + 1)) dX7_byTurns_196 rfl (by decide) rfl (nI_1 k) ?_
            refine wp_goto 132 dX7_byTurns_199 (by decide) ?_
            rw [bkF, if_neg q146, if_neg (Int32.not_lt.mpr q176), if_pos q184] at K
            exact ih (k + 1) (by omega) _ _ K
        · refine wp_iconst (pc' := 180) 1 dX7_byTurns_179 rfl (by decide) ?_
          refine wp_goto 184 dX7_byTurns_180 (by decide) ?_
          refine wp_icmp_ne (pc' := 187) 192 dX7_byTurns_184 rfl (by decide) (fun q184 => ?_) (fun q184 => ?_)
          · refine wp_iload (pc' := 194) dX7_byTurns_192 rfl rfl ?_
            refine wp_ist8 (pc' := 196) dX7_byTurns_194 rfl (by decide) rfl ?_
            refine wp_inc9 (pc' := 199) (nI (k + 1)) dX7_byTurns_196 rfl (by decide) rfl (nI_1 k) ?_
            refine wp_goto 132 dX7_byTurns_199 (by decide) ?_
            rw [bkF, if_neg q146, if_pos (Int32.not_le.mp q176), if_neg q184] at K
            exact ih (k + 1) (by omega) _ _ K
          · refine wp_iload (pc' := 189) dX7_byTurns_187 rfl rfl ?_
            refine wp_goto 194 dX7_byTurns_189 (by decide) ?_
            refine wp_ist8 (pc' := 196) dX7_byTurns_194 rfl (by decide) rfl ?_
            refine wp_inc9 (pc' := 199) (nI (k + 1)) dX7_byTurns_196 rfl (by decide) rfl (nI_1 k) ?_
            refine wp_goto 132 dX7_byTurns_199 (by decide) ?_
            rw [bkF, if_neg q146, if_pos (Int32.not_le.mp q176), if_pos q184] at K
            exact ih (k + 1) (by omega) _ _ K
      · refine wp_iload (pc' := 151) dX7_byTurns_149 rfl rfl ?_
        refine wp_goto 168 dX7_byTurns_151 (by decide) ?_
        refine wp_ist10 (pc' := 170) dX7_byTurns_168 rfl (by decide) rfl ?_
        refine wp_iload (pc' := 172) dX7_byTurns_170 rfl rfl ?_
        refine wp_iload (pc' := 174) dX7_byTurns_172 rfl rfl ?_
        refine wp_iload (pc' := 176) dX7_byTurns_174 rfl rfl ?_
        refine wp_icmp_ge (pc' := 179) 183 dX7_byTurns_176 rfl (by decide) (fun q176 => ?_) (fun q176 => ?_)
        · refine wp_iconst (pc' := 184) 0 dX7_byTurns_183 rfl (by decide) ?_
          refine wp_icmp_ne (pc' := 187) 192 dX7_byTurns_184 rfl (by decide) (fun q184 => ?_) (fun q184 => ?_)
          · refine wp_iload (pc' := 194) dX7_byTurns_192 rfl rfl ?_
            refine wp_ist8 (pc' := 196) dX7_byTurns_194 rfl (by decide) rfl ?_
            refine wp_inc9 (pc' := 199) (nI (k + 1)) dX7_byTurns_196 rfl (by decide) rfl (nI_1 k) ?_
            refine wp_goto 132 dX7_byTurns_199 (by decide) ?_
            rw [bkF, if_pos q146, if_neg (Int32.not_lt.mpr q176), if_neg q184] at K
            exact ih (k + 1) (by omega) _ _ K
          · refine wp_iload (pc' := 189) dX7_byTurns_187 rfl rfl ?_
            refine wp_goto 194 dX7_byTurns_189 (by decide) ?_
            refine wp_ist8 (pc' := 196) dX7_byTurns_194 rfl (by decide) rfl ?_
            refine wp_inc9 (pc' := 199) (nI (k + 1)) dX7_byTurns_196 rfl (by decide) rfl (nI_1 k) ?_
            refine wp_goto 132 dX7_byTurns_199 (by decide) ?_
            rw [bkF, if_pos q146, if_neg (Int32.not_lt.mpr q176), if_pos q184] at K
            exact ih (k + 1) (by omega) _ _ K
        · refine wp_iconst (pc' := 180) 1 dX7_byTurns_179 rfl (by decide) ?_
          refine wp_goto 184 dX7_byTurns_180 (by decide) ?_
          refine wp_icmp_ne (pc' := 187) 192 dX7_byTurns_184 rfl (by decide) (fun q184 => ?_) (fun q184 => ?_)
          · refine wp_iload (pc' := 194) dX7_byTurns_192 rfl rfl ?_
            refine wp_ist8 (pc' := 196) dX7_byTurns_194 rfl (by decide) rfl ?_
            refine wp_inc9 (pc' := 199) (nI (k + 1)) dX7_byTurns_196 rfl (by decide) rfl (nI_1 k) ?_
            refine wp_goto 132 dX7_byTurns_199 (by decide) ?_
            rw [bkF, if_pos q146, if_pos (Int32.not_le.mp q176), if_neg q184] at K
            exact ih (k + 1) (by omega) _ _ K
          · refine wp_iload (pc' := 189) dX7_byTurns_187 rfl rfl ?_
            refine wp_goto 194 dX7_byTurns_189 (by decide) ?_
            refine wp_ist8 (pc' := 196) dX7_byTurns_194 rfl (by decide) rfl ?_
            refine wp_inc9 (pc' := 199) (nI (k + 1)) dX7_byTurns_196 rfl (by decide) rfl (nI_1 k) ?_
            refine wp_goto 132 dX7_byTurns_199 (by decide) ?_
            rw [bkF, if_pos q146, if_pos (Int32.not_le.mp q176), if_pos q184] at K
            exact ih (k + 1) (by omega) _ _ K
theorem lpm_btW {g : GG} {M : Mem} {N w n a b : Nat} (h : MW M N w) (ha : a < N) (hb : b < N) (hn : n ≤ 8) (hsm : ∀ c, c < N → Sm N (M.1 36 c)) : ∀ (r : Nat), r ≤ 2 ^ n → ∀ (wo : Nat → Int32) (x : Int32) (y5 y6 y7 y8 y9 y10 : Option Value), x = nI r - 1 → wp g mX7_byTurns 48 [some (ob g 25), some (.int (nI a)), some (.int (nI b)), some (.int (nI n)), some (.int x), y5, y6, y7, y8, y9, y10] [] (setO M 37 wo) (fun q m => q = some (.int (btW (M.1 36) (M.1 35) N n a b (mbF (M.1 31) N 0 0) r wo 0)) ∧ m = setO M 37 (btW (M.1 36) (M.1 35) N n a b (mbF (M.1 31) N 0 0) r wo)) := by
  have h8 : 2 ^ n ≤ 2 ^ 8 := Nat.pow_le_pow_right (by decide) hn
  intro r
  induction r with
  | zero =>
    intro hr wo x y5 y6 y7 y8 y9 y10 hx
    obtain rfl : x = -1 := hx
    refine wp_iload (pc' := 50) dX7_byTurns_48 rfl rfl ?_
    refine wp_if_lt (pc' := 53) 226 dX7_byTurns_50 rfl (by decide) (fun _ => ?_) (fun hh => absurd hh (by decide))
    refine wp_aload_n (pc' := 227) dX7_byTurns_226 rfl rfl ⟨_, rfl⟩ ?_
    refine wp_get (pc' := 230) (o := 25) dX7_byTurns_227 rfl flX7_44 (by decide) rfl rfl ?_
    refine wp_iconst (pc' := 231) 0 dX7_byTurns_230 rfl (by decide) ?_
    refine wp_ialdN (pc' := 232) (o := 37) (n := 256) (0) dX7_byTurns_231 rfl (by decide) rfl (rfl) (by decide) (by decide) ?_
    refine wp_ireti dX7_byTurns_232 rfl ?_
    exact ri_ok rfl rfl
  | succ r ih =>
    intro hr wo x y5 y6 y7 y8 y9 y10 hx
    rw [nI_pred] at hx
    subst hx
    have hN24 := h.1
    refine wp_iload (pc' := 50) dX7_byTurns_48 rfl rfl ?_
    refine wp_if_lt (pc' := 53) 226 dX7_byTurns_50 rfl (by decide) (fun q50 => ?_) (fun q50 => ?_)
    · exact absurd q50 (nI_pos (by omega))
    · refine wp_aload_n (pc' := 54) dX7_byTurns_53 rfl rfl ⟨_, rfl⟩ ?_
      refine wp_cVI (μ' := mX7_bearing) (pc' := 57) (o := 25) dX7_byTurns_54 rfl mlX7_184 cfX7_bearing ⟨(Nat.le_of_ble_eq_true rfl), (Nat.le_of_ble_eq_true rfl)⟩ (sm_bearing (M := setO M 37 wo) h.1 h.2.1) (by decide) rfl rfl rfl rfl rfl (Nat.le_of_ble_eq_true rfl) ?_
      refine wp_aload_n (pc' := 58) dX7_byTurns_57 rfl rfl ⟨_, rfl⟩ ?_
      refine wp_iload (pc' := 60) dX7_byTurns_58 rfl rfl ?_
      refine wp_iload_n (pc' := 61) dX7_byTurns_60 rfl rfl ?_
      refine wp_cVI (μ' := mX7_chosen) (pc' := 64) (o := 25) dX7_byTurns_61 rfl mlX7_181 cfX7_chosen ⟨(Nat.le_of_ble_eq_true rfl), (Nat.le_of_ble_eq_true rfl)⟩ (sm_chosen (M := setO M 37 wo) (by omega)) (by decide) rfl rfl rfl rfl rfl (Nat.le_of_ble_eq_true rfl) ?_
      refine wp_ior (pc' := 65) dX7_byTurns_64 rfl ?_
      refine wp_ist5 (pc' := 67) dX7_byTurns_65 rfl (by decide) rfl ?_
      refine wp_iload (pc' := 69) dX7_byTurns_67 rfl rfl ?_
      refine wp_iload_n (pc' := 70) dX7_byTurns_69 rfl rfl ?_
      refine wp_ishr (pc' := 71) dX7_byTurns_70 rfl ?_
      refine wp_iconst (pc' := 72) 1 dX7_byTurns_71 rfl (by decide) ?_
      refine wp_iand (pc' := 73) dX7_byTurns_72 rfl ?_
      refine wp_iconst (pc' := 74) 1 dX7_byTurns_73 rfl (by decide) ?_
      refine wp_icmp_ne (pc' := 77) 96 dX7_byTurns_74 rfl (by decide) (fun q74 => ?_) (fun q74 => ?_)
      · refine wp_iconst (pc' := 97) 0 dX7_byTurns_96 rfl (by decide) ?_
        refine wp_ist6 (pc' := 99) dX7_byTurns_97 rfl (by decide) rfl ?_
        refine wp_iload (pc' := 101) dX7_byTurns_99 rfl rfl ?_
        refine wp_cSI (μ' := mX7_ones) (pc' := 104) dX7_byTurns_101 rfl mlX7_187 cfX7_ones ⟨(Nat.le_of_ble_eq_true rfl), (Nat.le_of_ble_eq_true rfl)⟩ (sm_ones) rfl rfl (Nat.le_of_ble_eq_true rfl) ?_
        refine wp_iconst (pc' := 105) 2 dX7_byTurns_104 rfl (by decide) ?_
        refine wp_irem (pc' := 106) dX7_byTurns_105 rfl (by decide) ?_
        refine wp_if_ne (pc' := 109) 113 dX7_byTurns_106 rfl (by decide) (fun q106 => ?_) (fun q106 => ?_)
        · refine wp_iconst (pc' := 114) 0 dX7_byTurns_113 rfl (by decide) ?_
          refine wp_ist7 (pc' := 116) dX7_byTurns_114 rfl (by decide) rfl ?_
          refine wp_iload (pc' := 118) dX7_byTurns_116 rfl rfl ?_
          refine wp_if_eq (pc' := 121) 126 dX7_byTurns_118 rfl (by decide) (fun _ => ?_) (fun hh => absurd hh (by decide))
          refine wp_iconst (pc' := 127) 0 dX7_byTurns_126 rfl (by decide) ?_
          refine wp_ist8 (pc' := 129) dX7_byTurns_127 rfl (by decide) rfl ?_
          refine wp_iconst (pc' := 130) 0 dX7_byTurns_129 rfl (by decide) ?_
          refine wp_ist9 (pc' := 132) dX7_byTurns_130 rfl (by decide) rfl ?_
          refine lpm_btK (M := setO M 37 wo) hn (by omega) n 0 (Nat.zero_add n) _ _ (fun x10 => ?_)
          refine wp_aload_n (pc' := 203) dX7_byTurns_202 rfl rfl ⟨_, rfl⟩ ?_
          refine wp_get (pc' := 206) (o := 25) dX7_byTurns_203 rfl flX7_44 (by decide) rfl rfl ?_
          refine wp_iload (pc' := 208) dX7_byTurns_206 rfl rfl ?_
          refine wp_iload (pc' := 210) dX7_byTurns_208 rfl rfl ?_
          refine wp_if_eq (pc' := 213) 217 dX7_byTurns_210 rfl (by decide) (fun _ => ?_) (fun hh => absurd hh (by decide))
          refine wp_iload (pc' := 219) dX7_byTurns_217 rfl rfl ?_
          refine wp_iastN (pc' := 220) (o := 37) (n := 256) (r) dX7_byTurns_219 rfl (by decide) (fun _ _ => rfl) (rfl) (by omega) (by decide) ?_
          refine wp_inc4 (pc' := 223) (nI r - 1) dX7_byTurns_220 rfl (by decide) rfl (dec1 (nI r)) ?_
          refine wp_goto 48 dX7_byTurns_223 (by decide) ?_
          have e : btV (M.1 36) (M.1 35) N n a b (mbF (M.1 31) N 0 0) wo r = _ := if_neg (fun hh => q74 hh.1)
          rw [if_neg q106, if_neg q106] at e
          rw [upI_setO, btW, e]
          exact ih (by omega) _ _ _ _ _ _ _ _ rfl
        · refine wp_iconst (pc' := 110) 1 dX7_byTurns_109 rfl (by decide) ?_
          refine wp_goto 114 dX7_byTurns_110 (by decide) ?_
          refine wp_ist7 (pc' := 116) dX7_byTurns_114 rfl (by decide) rfl ?_
          refine wp_iload (pc' := 118) dX7_byTurns_116 rfl rfl ?_
          refine wp_if_eq (pc' := 121) 126 dX7_byTurns_118 rfl (by decide) (fun hh => absurd hh (by decide)) (fun _ => ?_)
          refine wp_bipush (pc' := 123) 99 dX7_byTurns_121 rfl (by decide) ?_
          refine wp_goto 127 dX7_byTurns_123 (by decide) ?_
          refine wp_ist8 (pc' := 129) dX7_byTurns_127 rfl (by decide) rfl ?_
          refine wp_iconst (pc' := 130) 0 dX7_byTurns_129 rfl (by decide) ?_
          refine wp_ist9 (pc' := 132) dX7_byTurns_130 rfl (by decide) rfl ?_
          refine lpm_btK (M := setO M 37 wo) hn (by omega) n 0 (Nat.zero_add n) _ _ (fun x10 => ?_)
          refine wp_aload_n (pc' := 203) dX7_byTurns_202 rfl rfl ⟨_, rfl⟩ ?_
          refine wp_get (pc' := 206) (o := 25) dX7_byTurns_203 rfl flX7_44 (by decide) rfl rfl ?_
          refine wp_iload (pc' := 208) dX7_byTurns_206 rfl rfl ?_
          refine wp_iload (pc' := 210) dX7_byTurns_208 rfl rfl ?_
          refine wp_if_eq (pc' := 213) 217 dX7_byTurns_210 rfl (by decide) (fun _ => ?_) (fun hh => absurd hh (by decide))
          refine wp_iload (pc' := 219) dX7_byTurns_217 rfl rfl ?_
          refine wp_iastN (pc' := 220) (o := 37) (n := 256) (r) dX7_byTurns_219 rfl (by decide) (fun _ _ => rfl) (rfl) (by omega) (by decide) ?_
          refine wp_inc4 (pc' := 223) (nI r - 1) dX7_byTurns_220 rfl (by decide) rfl (dec1 (nI r)) ?_
          refine wp_goto 48 dX7_byTurns_223 (by decide) ?_
          have e : btV (M.1 36) (M.1 35) N n a b (mbF (M.1 31) N 0 0) wo r = _ := if_neg (fun hh => q74 hh.1)
          rw [if_pos q106, if_pos q106] at e
          rw [upI_setO, btW, e]
          exact ih (by omega) _ _ _ _ _ _ _ _ rfl
      · refine wp_aload_n (pc' := 78) dX7_byTurns_77 rfl rfl ⟨_, rfl⟩ ?_
        refine wp_iload_n (pc' := 79) dX7_byTurns_78 rfl rfl ?_
        refine wp_iload (pc' := 81) dX7_byTurns_79 rfl rfl ?_
        refine wp_cVI (μ' := mX7_reached) (pc' := 84) (o := 25) dX7_byTurns_81 rfl mlX7_190 cfX7_reached ⟨(Nat.le_of_ble_eq_true rfl), (Nat.le_of_ble_eq_true rfl)⟩ (sm_reached (M := setO M 37 wo) h.1 h.2.1 ha hsm) (by decide) rfl rfl rfl rfl rfl (Nat.le_of_ble_eq_true rfl) ?_
        refine wp_iload_n (pc' := 85) dX7_byTurns_84 rfl rfl ?_
        refine wp_ishr (pc' := 86) dX7_byTurns_85 rfl ?_
        refine wp_iconst (pc' := 87) 1 dX7_byTurns_86 rfl (by decide) ?_
        refine wp_iand (pc' := 88) dX7_byTurns_87 rfl ?_
        refine wp_iconst (pc' := 89) 1 dX7_byTurns_88 rfl (by decide) ?_
        refine wp_icmp_ne (pc' := 92) 96 dX7_byTurns_89 rfl (by decide) (fun q89 => ?_) (fun q89 => ?_)
        · refine wp_iconst (pc' := 97) 0 dX7_byTurns_96 rfl (by decide) ?_
          refine wp_ist6 (pc' := 99) dX7_byTurns_97 rfl (by decide) rfl ?_
          refine wp_iload (pc' := 101) dX7_byTurns_99 rfl rfl ?_
          refine wp_cSI (μ' := mX7_ones) (pc' := 104) dX7_byTurns_101 rfl mlX7_187 cfX7_ones ⟨(Nat.le_of_ble_eq_true rfl), (Nat.le_of_ble_eq_true rfl)⟩ (sm_ones) rfl rfl (Nat.le_of_ble_eq_true rfl) ?_
          refine wp_iconst (pc' := 105) 2 dX7_byTurns_104 rfl (by decide) ?_
          refine wp_irem (pc' := 106) dX7_byTurns_105 rfl (by decide) ?_
          refine wp_if_ne (pc' := 109) 113 dX7_byTurns_106 rfl (by decide) (fun q106 => ?_) (fun q106 => ?_)
          · refine wp_iconst (pc' := 114) 0 dX7_byTurns_113 rfl (by decide) ?_
            refine wp_ist7 (pc' := 116) dX7_byTurns_114 rfl (by decide) rfl ?_
            refine wp_iload (pc' := 118) dX7_byTurns_116 rfl rfl ?_
            refine wp_if_eq (pc' := 121) 126 dX7_byTurns_118 rfl (by decide) (fun _ => ?_) (fun hh => absurd hh (by decide))
            refine wp_iconst (pc' := 127) 0 dX7_byTurns_126 rfl (by decide) ?_
            refine wp_ist8 (pc' := 129) dX7_byTurns_127 rfl (by decide) rfl ?_
            refine wp_iconst (pc' := 130) 0 dX7_byTurns_129 rfl (by decide) ?_
            refine wp_ist9 (pc' := 132) dX7_byTurns_130 rfl (by decide) rfl ?_
            refine lpm_btK (M := setO M 37 wo) hn (by omega) n 0 (Nat.zero_add n) _ _ (fun x10 => ?_)
            refine wp_aload_n (pc' := 203) dX7_byTurns_202 rfl rfl ⟨_, rfl⟩ ?_
            refine wp_get (pc' := 206) (o := 25) dX7_byTurns_203 rfl flX7_44 (by decide) rfl rfl ?_
            refine wp_iload (pc' := 208) dX7_byTurns_206 rfl rfl ?_
            refine wp_iload (pc' := 210) dX7_byTurns_208 rfl rfl ?_
            refine wp_if_eq (pc' := 213) 217 dX7_byTurns_210 rfl (by decide) (fun _ => ?_) (fun hh => absurd hh (by decide))
            refine wp_iload (pc' := 219) dX7_byTurns_217 rfl rfl ?_
            refine wp_iastN (pc' := 220) (o := 37) (n := 256) (r) dX7_byTurns_219 rfl (by decide) (fun _ _ => rfl) (rfl) (by omega) (by decide) ?_
            refine wp_inc4 (pc' := 223) (nI r - 1) dX7_byTurns_220 rfl (by decide) rfl (dec1 (nI r)) ?_
            refine wp_goto 48 dX7_byTurns_223 (by decide) ?_
            have e : btV (M.1 36) (M.1 35) N n a b (mbF (M.1 31) N 0 0) wo r = _ := if_neg (fun hh => q89 hh.2)
            rw [if_neg q106, if_neg q106] at e
            rw [upI_setO, btW, e]
            exact ih (by omega) _ _ _ _ _ _ _ _ rfl
          · refine wp_iconst (pc' := 110) 1 dX7_byTurns_109 rfl (by decide) ?_
            refine wp_goto 114 dX7_byTurns_110 (by decide) ?_
            refine wp_ist7 (pc' := 116) dX7_byTurns_114 rfl (by decide) rfl ?_
            refine wp_iload (pc' := 118) dX7_byTurns_116 rfl rfl ?_
            refine wp_if_eq (pc' := 121) 126 dX7_byTurns_118 rfl (by decide) (fun hh => absurd hh (by decide)) (fun _ => ?_)
            refine wp_bipush (pc' := 123) 99 dX7_byTurns_121 rfl (by decide) ?_
            refine wp_goto 127 dX7_byTurns_123 (by decide) ?_
            refine wp_ist8 (pc' := 129) dX7_byTurns_127 rfl (by decide) rfl ?_
            refine wp_iconst (pc' := 130) 0 dX7_byTurns_129 rfl (by decide) ?_
            refine wp_ist9 (pc' := 132) dX7_byTurns_130 rfl (by decide) rfl ?_
            refine lpm_btK (M := setO M 37 wo) hn (by omega) n 0 (Nat.zero_add n) _ _ (fun x10 => ?_)
            refine wp_aload_n (pc' := 203) dX7_byTurns_202 rfl rfl ⟨_, rfl⟩ ?_
            refine wp_get (pc' := 206) (o := 25) dX7_byTurns_203 rfl flX7_44 (by decide) rfl rfl ?_
            refine wp_iload (pc' := 208) dX7_byTurns_206 rfl rfl ?_
            refine wp_iload (pc' := 210) dX7_byTurns_208 rfl rfl ?_
            refine wp_if_eq (pc' := 213) 217 dX7_byTurns_210 rfl (by decide) (fun _ => ?_) (fun hh => absurd hh (by decide))
            refine wp_iload (pc' := 219) dX7_byTurns_217 rfl rfl ?_
            refine wp_iastN (pc' := 220) (o := 37) (n := 256) (r) dX7_byTurns_219 rfl (by decide) (fun _ _ => rfl) (rfl) (by omega) (by decide) ?_
            refine wp_inc4 (pc' := 223) (nI r - 1) dX7_byTurns_220 rfl (by decide) rfl (dec1 (nI r)) ?_
            refine wp_goto 48 dX7_byTurns_223 (by decide) ?_
            have e : btV (M.1 36) (M.1 35) N n a b (mbF (M.1 31) N 0 0) wo r = _ := if_neg (fun hh => q89 hh.2)
            rw [if_pos q106, if_pos q106] at e
            rw [upI_setO, btW, e]
            exact ih (by omega) _ _ _ _ _ _ _ _ rfl
        · refine wp_iconst (pc' := 93) 1 dX7_byTurns_92 rfl (by decide) ?_
          refine wp_goto 97 dX7_byTurns_93 (by decide) ?_
          refine wp_ist6 (pc' := 99) dX7_byTurns_97 rfl (by decide) rfl ?_
          refine wp_iload (pc' := 101) dX7_byTurns_99 rfl rfl ?_
          refine wp_cSI (μ' := mX7_ones) (pc' := 104) dX7_byTurns_101 rfl mlX7_187 cfX7_ones ⟨(Nat.le_of_ble_eq_true rfl), (Nat.le_of_ble_eq_true rfl)⟩ (sm_ones) rfl rfl (Nat.le_of_ble_eq_true rfl) ?_
          refine wp_iconst (pc' := 105) 2 dX7_byTurns_104 rfl (by decide) ?_
          refine wp_irem (pc' := 106) dX7_byTurns_105 rfl (by decide) ?_
          refine wp_if_ne (pc' := 109) 113 dX7_byTurns_106 rfl (by decide) (fun q106 => ?_) (fun q106 => ?_)
          · refine wp_iconst (pc' := 114) 0 dX7_byTurns_113 rfl (by decide) ?_
            refine wp_ist7 (pc' := 116) dX7_byTurns_114 rfl (by decide) rfl ?_
            refine wp_iload (pc' := 118) dX7_byTurns_116 rfl rfl ?_
            refine wp_if_eq (pc' := 121) 126 dX7_byTurns_118 rfl (by decide) (fun _ => ?_) (fun hh => absurd hh (by decide))
            refine wp_iconst (pc' := 127) 0 dX7_byTurns_126 rfl (by decide) ?_
            refine wp_ist8 (pc' := 129) dX7_byTurns_127 rfl (by decide) rfl ?_
            refine wp_iconst (pc' := 130) 0 dX7_byTurns_129 rfl (by decide) ?_
            refine wp_ist9 (pc' := 132) dX7_byTurns_130 rfl (by decide) rfl ?_
            refine lpm_btK (M := setO M 37 wo) hn (by omega) n 0 (Nat.zero_add n) _ _ (fun x10 => ?_)
            refine wp_aload_n (pc' := 203) dX7_byTurns_202 rfl rfl ⟨_, rfl⟩ ?_
            refine wp_get (pc' := 206) (o := 25) dX7_byTurns_203 rfl flX7_44 (by decide) rfl rfl ?_
            refine wp_iload (pc' := 208) dX7_byTurns_206 rfl rfl ?_
            refine wp_iload (pc' := 210) dX7_byTurns_208 rfl rfl ?_
            refine wp_if_eq (pc' := 213) 217 dX7_byTurns_210 rfl (by decide) (fun hh => absurd hh (by decide)) (fun _ => ?_)
            refine wp_iconst (pc' := 214) 0 dX7_byTurns_213 rfl (by decide) ?_
            refine wp_goto 219 dX7_byTurns_214 (by decide) ?_
            refine wp_iastN (pc' := 220) (o := 37) (n := 256) (r) dX7_byTurns_219 rfl (by decide) (fun _ _ => rfl) (rfl) (by omega) (by decide) ?_
            refine wp_inc4 (pc' := 223) (nI r - 1) dX7_byTurns_220 rfl (by decide) rfl (dec1 (nI r)) ?_
            refine wp_goto 48 dX7_byTurns_223 (by decide) ?_
            have e : btV (M.1 36) (M.1 35) N n a b (mbF (M.1 31) N 0 0) wo r = _ := if_pos ⟨q74, q89⟩
            rw [upI_setO, btW, e]
            exact ih (by omega) _ _ _ _ _ _ _ _ rfl
          · refine wp_iconst (pc' := 110) 1 dX7_byTurns_109 rfl (by decide) ?_
            refine wp_goto 114 dX7_byTurns_110 (by decide) ?_
            refine wp_ist7 (pc' := 116) dX7_byTurns_114 rfl (by decide) rfl ?_
            refine wp_iload (pc' := 118) dX7_byTurns_116 rfl rfl ?_
            refine wp_if_eq (pc' := 121) 126 dX7_byTurns_118 rfl (by decide) (fun hh => absurd hh (by decide)) (fun _ => ?_)
            refine wp_bipush (pc' := 123) 99 dX7_byTurns_121 rfl (by decide) ?_
            refine wp_goto 127 dX7_byTurns_123 (by decide) ?_
            refine wp_ist8 (pc' := 129) dX7_byTurns_127 rfl (by decide) rfl ?_
            refine wp_iconst (pc' := 130) 0 dX7_byTurns_129 rfl (by decide) ?_
            refine wp_ist9 (pc' := 132) dX7_byTurns_130 rfl (by decide) rfl ?_
            refine lpm_btK (M := setO M 37 wo) hn (by omega) n 0 (Nat.zero_add n) _ _ (fun x10 => ?_)
            refine wp_aload_n (pc' := 203) dX7_byTurns_202 rfl rfl ⟨_, rfl⟩ ?_
            refine wp_get (pc' := 206) (o := 25) dX7_byTurns_203 rfl flX7_44 (by decide) rfl rfl ?_
            refine wp_iload (pc' := 208) dX7_byTurns_206 rfl rfl ?_
            refine wp_iload (pc' := 210) dX7_byTurns_208 rfl rfl ?_
            refine wp_if_eq (pc' := 213) 217 dX7_byTurns_210 rfl (by decide) (fun hh => absurd hh (by decide)) (fun _ => ?_)
            refine wp_iconst (pc' := 214) 0 dX7_byTurns_213 rfl (by decide) ?_
            refine wp_goto 219 dX7_byTurns_214 (by decide) ?_
            refine wp_iastN (pc' := 220) (o := 37) (n := 256) (r) dX7_byTurns_219 rfl (by decide) (fun _ _ => rfl) (rfl) (by omega) (by decide) ?_
            refine wp_inc4 (pc' := 223) (nI r - 1) dX7_byTurns_220 rfl (by decide) rfl (dec1 (nI r)) ?_
            refine wp_goto 48 dX7_byTurns_223 (by decide) ?_
            have e : btV (M.1 36) (M.1 35) N n a b (mbF (M.1 31) N 0 0) wo r = _ := if_pos ⟨q74, q89⟩
            rw [upI_setO, btW, e]
            exact ih (by omega) _ _ _ _ _ _ _ _ rfl
theorem sm_byTurns_bad {g : GG} {M : Mem} {a b : Int32} (h : mCellF M a = 0 ∨ mCellF M b = 0) : RI g mX7_byTurns [ob g 25, .int a, .int b] M (-1) (th M) := by
  refine spec_of_wp (ls := [some (ob g 25), some (.int a), some (.int b), none, none, none, none, none, none, none, none]) rfl (Nat.le_of_ble_eq_true rfl) 8 rfl ?_
  refine wp_aload_n (pc' := 1) dX7_byTurns_0 rfl rfl ⟨_, rfl⟩ ?_
  refine wp_iconst (pc' := 2) 0 dX7_byTurns_1 rfl (by decide) ?_
  refine wp_put (pc' := 5) (o := 25) dX7_byTurns_2 rfl fpX7_47 (by decide) rfl (Nat.le_of_ble_eq_true rfl) rfl ?_
  refine wp_aload_n (pc' := 6) dX7_byTurns_5 rfl rfl ⟨_, rfl⟩ ?_
  refine wp_iload_n (pc' := 7) dX7_byTurns_6 rfl rfl ?_
  refine wp_cVI (μ' := mX7_isCell) (pc' := 10) (o := 25) dX7_byTurns_7 rfl mlX7_137 cfX7_isCell ⟨(Nat.le_of_ble_eq_true rfl), (Nat.le_of_ble_eq_true rfl)⟩ (sm_isCell) (by decide) rfl rfl rfl rfl rfl (Nat.le_of_ble_eq_true rfl) ?_
  refine wp_if_eq (pc' := 13) 21 dX7_byTurns_10 rfl (by decide) (fun q10 => ?_) (fun q10 => ?_)
  · refine wp_iconst (pc' := 22) (-1) dX7_byTurns_21 rfl (by decide) ?_
    refine wp_ireti dX7_byTurns_22 rfl ?_
    exact ri_ok rfl rfl
  · refine wp_aload_n (pc' := 14) dX7_byTurns_13 rfl rfl ⟨_, rfl⟩ ?_
    refine wp_iload_n (pc' := 15) dX7_byTurns_14 rfl rfl ?_
    refine wp_cVI (μ' := mX7_isCell) (pc' := 18) (o := 25) dX7_byTurns_15 rfl mlX7_137 cfX7_isCell ⟨(Nat.le_of_ble_eq_true rfl), (Nat.le_of_ble_eq_true rfl)⟩ (sm_isCell) (by decide) rfl rfl rfl rfl rfl (Nat.le_of_ble_eq_true rfl) ?_
    refine wp_if_ne (pc' := 21) 23 dX7_byTurns_18 rfl (by decide) (fun q18 => ?_) (fun q18 => ?_)
    · exact (h.elim q10 q18).elim
    · refine wp_iconst (pc' := 22) (-1) dX7_byTurns_21 rfl (by decide) ?_
      refine wp_ireti dX7_byTurns_22 rfl ?_
      exact ri_ok rfl rfl
theorem sm_byTurns_state {g : GG} {M : Mem} {N w a b : Nat} (h : MW M N w) (hg : ¬ (mCellF M (nI a) = 0 ∨ mCellF M (nI b) = 0)) (hb : ¬ nI (lbN M N) ≤ 8) : RI g mX7_byTurns [ob g 25, .int (nI a), .int (nI b)] M (-2) (setO (th M) 35 (lbB M N)) := by
  refine spec_of_wp (ls := [some (ob g 25), some (.int (nI a)), some (.int (nI b)), none, none, none, none, none, none, none, none]) rfl (Nat.le_of_ble_eq_true rfl) 8 rfl ?_
  refine wp_aload_n (pc' := 1) dX7_byTurns_0 rfl rfl ⟨_, rfl⟩ ?_
  refine wp_iconst (pc' := 2) 0 dX7_byTurns_1 rfl (by decide) ?_
  refine wp_put (pc' := 5) (o := 25) dX7_byTurns_2 rfl fpX7_47 (by decide) rfl (Nat.le_of_ble_eq_true rfl) rfl ?_
  refine wp_aload_n (pc' := 6) dX7_byTurns_5 rfl rfl ⟨_, rfl⟩ ?_
  refine wp_iload_n (pc' := 7) dX7_byTurns_6 rfl rfl ?_
  refine wp_cVI (μ' := mX7_isCell) (pc' := 10) (o := 25) dX7_byTurns_7 rfl mlX7_137 cfX7_isCell ⟨(Nat.le_of_ble_eq_true rfl), (Nat.le_of_ble_eq_true rfl)⟩ (sm_isCell) (by decide) rfl rfl rfl rfl rfl (Nat.le_of_ble_eq_true rfl) ?_
  refine wp_if_eq (pc' := 13) 21 dX7_byTurns_10 rfl (by decide) (fun q10 => ?_) (fun q10 => ?_)
  · exact absurd (Or.inl q10) hg
  · refine wp_aload_n (pc' := 14) dX7_byTurns_13 rfl rfl ⟨_, rfl⟩ ?_
    refine wp_iload_n (pc' := 15) dX7_byTurns_14 rfl rfl ?_
    refine wp_cVI (μ' := mX7_isCell) (pc' := 18) (o := 25) dX7_byTurns_15 rfl mlX7_137 cfX7_isCell ⟨(Nat.le_of_ble_eq_true rfl), (Nat.le_of_ble_eq_true rfl)⟩ (sm_isCell) (by decide) rfl rfl rfl rfl rfl (Nat.le_of_ble_eq_true rfl) ?_
    refine wp_if_ne (pc' := 21) 23 dX7_byTurns_18 rfl (by decide) (fun q18 => ?_) (fun q18 => ?_)
    · refine wp_aload_n (pc' := 24) dX7_byTurns_23 rfl rfl ⟨_, rfl⟩ ?_
      refine wp_cVI (μ' := mX7_listsBogs) (pc' := 27) (o := 25) dX7_byTurns_24 rfl mlX7_193 cfX7_listsBogs ⟨(Nat.le_of_ble_eq_true rfl), (Nat.le_of_ble_eq_true rfl)⟩ (sm_listsBogs (M := th M) (N := N) h.1 h.2.1) (by decide) rfl rfl rfl rfl rfl (Nat.le_of_ble_eq_true rfl) ?_
      refine wp_ist3 (pc' := 28) dX7_byTurns_27 rfl (by decide) rfl ?_
      refine wp_iload_n (pc' := 29) dX7_byTurns_28 rfl rfl ?_
      refine wp_bipush (pc' := 31) 8 dX7_byTurns_29 rfl (by decide) ?_
      refine wp_icmp_le (pc' := 34) 37 dX7_byTurns_31 rfl (by decide) (fun q31 => ?_) (fun q31 => ?_)
      · exact absurd q31 hb
      · refine wp_bipush (pc' := 36) (-2) dX7_byTurns_34 rfl (by decide) ?_
        refine wp_ireti dX7_byTurns_36 rfl ?_
        exact ri_ok rfl rfl
    · exact absurd (Or.inr q18) hg
theorem sm_byTurns {g : GG} {M : Mem} {N w a b : Nat} (h : MW M N w) (ha : a < N) (hbN : b < N) (hg : ¬ (mCellF M (nI a) = 0 ∨ mCellF M (nI b) = 0)) (hb : nI (lbN M N) ≤ 8) (hn : lbN M N ≤ 8) (hsm : ∀ c, c < N → Sm N (nbM (setO (th M) 35 (lbB M N)) N w c)) : RI g mX7_byTurns [ob g 25, .int (nI a), .int (nI b)] M (btW (nbM (setO (th M) 35 (lbB M N)) N w) (lbB M N) N (lbN M N) a b (mbF (M.1 31) N 0 0) (2 ^ lbN M N) (M.1 37) 0) (setO (mjM M N w) 37 (btW (nbM (setO (th M) 35 (lbB M N)) N w) (lbB M N) N (lbN M N) a b (mbF (M.1 31) N 0 0) (2 ^ lbN M N) (M.1 37))) := by
  refine spec_of_wp (ls := [some (ob g 25), some (.int (nI a)), some (.int (nI b)), none, none, none, none, none, none, none, none]) rfl (Nat.le_of_ble_eq_true rfl) 8 rfl ?_
  refine wp_aload_n (pc' := 1) dX7_byTurns_0 rfl rfl ⟨_, rfl⟩ ?_
  refine wp_iconst (pc' := 2) 0 dX7_byTurns_1 rfl (by decide) ?_
  refine wp_put (pc' := 5) (o := 25) dX7_byTurns_2 rfl fpX7_47 (by decide) rfl (Nat.le_of_ble_eq_true rfl) rfl ?_
  refine wp_aload_n (pc' := 6) dX7_byTurns_5 rfl rfl ⟨_, rfl⟩ ?_
  refine wp_iload_n (pc' := 7) dX7_byTurns_6 rfl rfl ?_
  refine wp_cVI (μ' := mX7_isCell) (pc' := 10) (o := 25) dX7_byTurns_7 rfl mlX7_137 cfX7_isCell ⟨(Nat.le_of_ble_eq_true rfl), (Nat.le_of_ble_eq_true rfl)⟩ (sm_isCell) (by decide) rfl rfl rfl rfl rfl (Nat.le_of_ble_eq_true rfl) ?_
  refine wp_if_eq (pc' := 13) 21 dX7_byTurns_10 rfl (by decide) (fun q10 => ?_) (fun q10 => ?_)
  · exact absurd (Or.inl q10) hg
  · refine wp_aload_n (pc' := 14) dX7_byTurns_13 rfl rfl ⟨_, rfl⟩ ?_
    refine wp_iload_n (pc' := 15) dX7_byTurns_14 rfl rfl ?_
    refine wp_cVI (μ' := mX7_isCell) (pc' := 18) (o := 25) dX7_byTurns_15 rfl mlX7_137 cfX7_isCell ⟨(Nat.le_of_ble_eq_true rfl), (Nat.le_of_ble_eq_true rfl)⟩ (sm_isCell) (by decide) rfl rfl rfl rfl rfl (Nat.le_of_ble_eq_true rfl) ?_
    refine wp_if_ne (pc' := 21) 23 dX7_byTurns_18 rfl (by decide) (fun q18 => ?_) (fun q18 => ?_)
    · refine wp_aload_n (pc' := 24) dX7_byTurns_23 rfl rfl ⟨_, rfl⟩ ?_
      refine wp_cVI (μ' := mX7_listsBogs) (pc' := 27) (o := 25) dX7_byTurns_24 rfl mlX7_193 cfX7_listsBogs ⟨(Nat.le_of_ble_eq_true rfl), (Nat.le_of_ble_eq_true rfl)⟩ (sm_listsBogs (M := th M) (N := N) h.1 h.2.1) (by decide) rfl rfl rfl rfl rfl (Nat.le_of_ble_eq_true rfl) ?_
      refine wp_ist3 (pc' := 28) dX7_byTurns_27 rfl (by decide) rfl ?_
      refine wp_iload_n (pc' := 29) dX7_byTurns_28 rfl rfl ?_
      refine wp_bipush (pc' := 31) 8 dX7_byTurns_29 rfl (by decide) ?_
      refine wp_icmp_le (pc' := 34) 37 dX7_byTurns_31 rfl (by decide) (fun q31 => ?_) (fun q31 => ?_)
      · refine wp_aload_n (pc' := 38) dX7_byTurns_37 rfl rfl ⟨_, rfl⟩ ?_
        refine wp_cVV (μ' := mX7_nears) (pc' := 41) (o := 25) dX7_byTurns_38 rfl mlX7_196 cfX7_nears ⟨(Nat.le_of_ble_eq_true rfl), (Nat.le_of_ble_eq_true rfl)⟩ (sm_nears (M := setO (th M) 35 (lbB M N)) (N := N) (w := w) h) (by decide) rfl rfl rfl rfl rfl (Nat.le_of_ble_eq_true rfl) ?_
        refine wp_iconst (pc' := 42) 1 dX7_byTurns_41 rfl (by decide) ?_
        refine wp_iload_n (pc' := 43) dX7_byTurns_42 rfl rfl ?_
        refine wp_ishl (pc' := 44) dX7_byTurns_43 rfl ?_
        refine wp_iconst (pc' := 45) 1 dX7_byTurns_44 rfl (by decide) ?_
        refine wp_isub (pc' := 46) dX7_byTurns_45 rfl ?_
        refine wp_ist4 (pc' := 48) dX7_byTurns_46 rfl (by decide) rfl ?_
        refine wp_mem (setO_self _ 37).symm ?_
        refine lpm_btW (M := mjM M N w) (N := N) (w := w) (n := lbN M N) h ha hbN hn hsm (2 ^ lbN M N) (Nat.le_refl _) _ _ _ _ _ _ _ _ (congrArg (fun z => z - 1) (nI_pow (lbN M N) (by omega)))
      · exact absurd hb q31
    · exact absurd (Or.inr q18) hg

def lcG (x : Int32) : Nat → Nat → LB → LB
  | 0, _, st => st
  | n + 1, j, st => lcG x n (j + 1) (if sshr x (nI j) &&& 1 = 1 then (st.1 + 1, upd st.2 st.1 (nI j)) else st)
def apG (nr : Nat → Int32) (N a b : Nat) (others two : Int32) (gone le : Int32) : Int32 := if onV gone < le ∧ sshr (rcV nr N a ((others &&& (gone ^^^ (-1))) ||| two)) (nI b) &&& 1 = 0 then onV gone else le
def apF (nr bg : Nat → Int32) (N n a b : Nat) (others two : Int32) : Nat → Nat → Int32 → Int32
  | 0, _, le => le
  | r + 1, k, le => apF nr bg N n a b others two r (k + 1) (apG nr N a b others two (chF bg (nI k) n 0 0) le)
def moth (M : Mem) (N a b : Nat) : Int32 := mbF (M.1 31) N 0 0 &&& ((shl 1 (nI a) ||| shl 1 (nI b)) ^^^ (-1))
def mtwo (a b : Nat) : Int32 := shl 1 (nI a) ||| shl 1 (nI b)

theorem lpm_apL {g : GG} {M : Mem} {N a b : Nat} {two others : Int32} (hN : N ≤ 24) (hwh : M.1 25 8 * M.1 25 9 = nI N) {Q : Option Value → Mem → Prop} : ∀ (n j : Nat), j + n = N → ∀ (k : Nat) (f : Nat → Int32), k ≤ j → wp g mX7_apart 144 [some (ob g 25), some (.int (nI a)), some (.int (nI b)), some (.int two), some (.int others), some (.int (nI (lcG others n j (k, f)).1)), some (.int (nI N)), none, none, none] [] (setO M 35 (lcG others n j (k, f)).2) Q → wp g mX7_apart 101 [some (ob g 25), some (.int (nI a)), some (.int (nI b)), some (.int two), some (.int others), some (.int (nI k)), some (.int (nI j)), none, none, none] [] (setO M 35 f) Q := by
  intro n
  induction n with
  | zero =>
    intro j hj k f hk K
    obtain rfl : j = N := by omega
    refine wp_iload (pc' := 103) dX7_apart_101 rfl rfl ?_
    refine wp_aload_n (pc' := 104) dX7_apart_103 rfl rfl ⟨_, rfl⟩ ?_
    refine wp_get (pc' := 107) (o := 25) dX7_apart_104 rfl flX7_51 (by decide) rfl rfl ?_
    refine wp_aload_n (pc' := 108) dX7_apart_107 rfl rfl ⟨_, rfl⟩ ?_
    refine wp_get (pc' := 111) (o := 25) dX7_apart_108 rfl flX7_54 (by decide) rfl rfl ?_
    refine wp_imul (pc' := 112) dX7_apart_111 rfl ?_
    refine wp_top (hwh) ?_
    refine wp_icmp_ge (pc' := 115) 144 dX7_apart_112 rfl (by decide) (fun q112 => ?_) (fun q112 => ?_)
    · exact K
    · exact absurd (nI_le (Nat.le_refl j) (by omega)) q112
  | succ n ih =>
    intro j hj k f hk K
    refine wp_iload (pc' := 103) dX7_apart_101 rfl rfl ?_
    refine wp_aload_n (pc' := 104) dX7_apart_103 rfl rfl ⟨_, rfl⟩ ?_
    refine wp_get (pc' := 107) (o := 25) dX7_apart_104 rfl flX7_51 (by decide) rfl rfl ?_
    refine wp_aload_n (pc' := 108) dX7_apart_107 rfl rfl ⟨_, rfl⟩ ?_
    refine wp_get (pc' := 111) (o := 25) dX7_apart_108 rfl flX7_54 (by decide) rfl rfl ?_
    refine wp_imul (pc' := 112) dX7_apart_111 rfl ?_
    refine wp_top (hwh) ?_
    refine wp_icmp_ge (pc' := 115) 144 dX7_apart_112 rfl (by decide) (fun q112 => ?_) (fun q112 => ?_)
    · exact absurd q112 (nI_ge (by omega) (by omega))
    · refine wp_iload (pc' := 117) dX7_apart_115 rfl rfl ?_
      refine wp_iload (pc' := 119) dX7_apart_117 rfl rfl ?_
      refine wp_ishr (pc' := 120) dX7_apart_119 rfl ?_
      refine wp_iconst (pc' := 121) 1 dX7_apart_120 rfl (by decide) ?_
      refine wp_iand (pc' := 122) dX7_apart_121 rfl ?_
      refine wp_iconst (pc' := 123) 1 dX7_apart_122 rfl (by decide) ?_
      refine wp_icmp_ne (pc' := 126) 138 dX7_apart_123 rfl (by decide) (fun q123 => ?_) (fun q123 => ?_)
      · refine wp_inc6 (pc' := 141) (nI (j + 1)) dX7_apart_138 rfl (by decide) rfl (nI_1 j) ?_
        refine wp_goto 101 dX7_apart_141 (by decide) ?_
        rw [lcG, if_neg q123] at K
        exact ih (j + 1) (by omega) _ _ (by omega) K
      · refine wp_aload_n (pc' := 127) dX7_apart_126 rfl rfl ⟨_, rfl⟩ ?_
        refine wp_get (pc' := 130) (o := 25) dX7_apart_127 rfl flX7_38 (by decide) rfl rfl ?_
        refine wp_iload (pc' := 132) dX7_apart_130 rfl rfl ?_
        refine wp_iload (pc' := 134) dX7_apart_132 rfl rfl ?_
        refine wp_iastN (pc' := 135) (o := 35) (n := 24) (k) dX7_apart_134 rfl (by decide) (fun _ _ => rfl) (rfl) (by omega) (by decide) ?_
        refine wp_inc5 (pc' := 138) (nI (k + 1)) dX7_apart_135 rfl (by decide) rfl (nI_1 k) ?_
        refine wp_inc6 (pc' := 141) (nI (j + 1)) dX7_apart_138 rfl (by decide) rfl (nI_1 j) ?_
        refine wp_goto 101 dX7_apart_141 (by decide) ?_
        rw [lcG, if_pos q123] at K
        rw [upI_setO]
        exact ih (j + 1) (by omega) _ _ (by omega) K
theorem lpm_apW {g : GG} {M : Mem} {N n a b s : Nat} {two others : Int32} (hN : N ≤ 24) (hwh : M.1 25 8 * M.1 25 9 = nI N) (hn : n ≤ 24) (ha : a < N) (hsm : ∀ c, c < N → Sm N (M.1 36 c)) (hs : s < 2 ^ 31) (hse : shl 1 (nI n) = nI s) : ∀ (r k : Nat), k + r = s → ∀ (le : Int32) (x8 x9 : Option Value), wp g mX7_apart 151 [some (ob g 25), some (.int (nI a)), some (.int (nI b)), some (.int two), some (.int others), some (.int (nI n)), some (.int le), some (.int (nI k)), x8, x9] [] M (fun q m => q = some (.int (apF (M.1 36) (M.1 35) N n a b others two r k le)) ∧ m = M) := by
  intro r
  induction r with
  | zero =>
    intro k hk le x8 x9
    obtain rfl : k = s := by omega
    refine wp_iload (pc' := 153) dX7_apart_151 rfl rfl ?_
    refine wp_iconst (pc' := 154) 1 dX7_apart_153 rfl (by decide) ?_
    refine wp_iload (pc' := 156) dX7_apart_154 rfl rfl ?_
    refine wp_ishl (pc' := 157) dX7_apart_156 rfl ?_
    refine wp_top (hse) ?_
    refine wp_icmp_ge (pc' := 160) 231 dX7_apart_157 rfl (by decide) (fun q157 => ?_) (fun q157 => ?_)
    · refine wp_iload (pc' := 233) dX7_apart_231 rfl rfl ?_
      refine wp_ireti dX7_apart_233 rfl ?_
      exact ri_ok rfl rfl
    · exact absurd (nI_le (Nat.le_refl k) hs) q157
  | succ r ih =>
    intro k hk le x8 x9
    refine wp_iload (pc' := 153) dX7_apart_151 rfl rfl ?_
    refine wp_iconst (pc' := 154) 1 dX7_apart_153 rfl (by decide) ?_
    refine wp_iload (pc' := 156) dX7_apart_154 rfl rfl ?_
    refine wp_ishl (pc' := 157) dX7_apart_156 rfl ?_
    refine wp_top (hse) ?_
    refine wp_icmp_ge (pc' := 160) 231 dX7_apart_157 rfl (by decide) (fun q157 => ?_) (fun q157 => ?_)
    · refine wp_iload (pc' := 233) dX7_apart_231 rfl rfl ?_
      refine wp_ireti dX7_apart_233 rfl ?_
      exact absurd q157 (nI_ge (by omega) hs)
    · refine wp_aload_n (pc' := 161) dX7_apart_160 rfl rfl ⟨_, rfl⟩ ?_
      refine wp_iload (pc' := 163) dX7_apart_161 rfl rfl ?_
      refine wp_iload (pc' := 165) dX7_apart_163 rfl rfl ?_
      refine wp_cVI (μ' := mX7_chosen) (pc' := 168) (o := 25) dX7_apart_165 rfl mlX7_181 cfX7_chosen ⟨(Nat.le_of_ble_eq_true rfl), (Nat.le_of_ble_eq_true rfl)⟩ (sm_chosen hn) (by decide) rfl rfl rfl rfl rfl (Nat.le_of_ble_eq_true rfl) ?_
      refine wp_ist8 (pc' := 170) dX7_apart_168 rfl (by decide) rfl ?_
      refine wp_iload (pc' := 172) dX7_apart_170 rfl rfl ?_
      refine wp_cSI (μ' := mX7_ones) (pc' := 175) dX7_apart_172 rfl mlX7_187 cfX7_ones ⟨(Nat.le_of_ble_eq_true rfl), (Nat.le_of_ble_eq_true rfl)⟩ (sm_ones) rfl rfl (Nat.le_of_ble_eq_true rfl) ?_
      refine wp_iload (pc' := 177) dX7_apart_175 rfl rfl ?_
      refine wp_icmp_ge (pc' := 180) 184 dX7_apart_177 rfl (by decide) (fun q177 => ?_) (fun q177 => ?_)
      · refine wp_iconst (pc' := 185) 0 dX7_apart_184 rfl (by decide) ?_
        refine wp_ist9 (pc' := 187) dX7_apart_185 rfl (by decide) rfl ?_
        refine wp_iload (pc' := 189) dX7_apart_187 rfl rfl ?_
        refine wp_if_eq (pc' := 192) 221 dX7_apart_189 rfl (by decide) (fun _ => ?_) (fun hh => absurd hh (by decide))
        refine wp_iload (pc' := 223) dX7_apart_221 rfl rfl ?_
        refine wp_ist6 (pc' := 225) dX7_apart_223 rfl (by decide) rfl ?_
        refine wp_inc7 (pc' := 228) (nI (k + 1)) dX7_apart_225 rfl (by decide) rfl (nI_1 k) ?_
        refine wp_goto 151 dX7_apart_228 (by decide) ?_
        have e : apG (M.1 36) N a b others two (chF (M.1 35) (nI k) n 0 0) le = _ := if_neg (fun hh => Int32.not_lt.mpr q177 hh.1)
        rw [apF, e]
        exact ih (k + 1) (by omega) _ _ _
      · refine wp_iconst (pc' := 181) 1 dX7_apart_180 rfl (by decide) ?_
        refine wp_goto 185 dX7_apart_181 (by decide) ?_
        refine wp_ist9 (pc' := 187) dX7_apart_185 rfl (by decide) rfl ?_
        refine wp_iload (pc' := 189) dX7_apart_187 rfl rfl ?_
        refine wp_if_eq (pc' := 192) 221 dX7_apart_189 rfl (by decide) (fun hh => absurd hh (by decide)) (fun _ => ?_)
        refine wp_aload_n (pc' := 193) dX7_apart_192 rfl rfl ⟨_, rfl⟩ ?_
        refine wp_iload_n (pc' := 194) dX7_apart_193 rfl rfl ?_
        refine wp_iload (pc' := 196) dX7_apart_194 rfl rfl ?_
        refine wp_iload (pc' := 198) dX7_apart_196 rfl rfl ?_
        refine wp_iconst (pc' := 199) (-1) dX7_apart_198 rfl (by decide) ?_
        refine wp_ixor (pc' := 200) dX7_apart_199 rfl ?_
        refine wp_iand (pc' := 201) dX7_apart_200 rfl ?_
        refine wp_iload_n (pc' := 202) dX7_apart_201 rfl rfl ?_
        refine wp_ior (pc' := 203) dX7_apart_202 rfl ?_
        refine wp_cVI (μ' := mX7_reached) (pc' := 206) (o := 25) dX7_apart_203 rfl mlX7_190 cfX7_reached ⟨(Nat.le_of_ble_eq_true rfl), (Nat.le_of_ble_eq_true rfl)⟩ (sm_reached hN hwh ha hsm) (by decide) rfl rfl rfl rfl rfl (Nat.le_of_ble_eq_true rfl) ?_
        refine wp_iload_n (pc' := 207) dX7_apart_206 rfl rfl ?_
        refine wp_ishr (pc' := 208) dX7_apart_207 rfl ?_
        refine wp_iconst (pc' := 209) 1 dX7_apart_208 rfl (by decide) ?_
        refine wp_iand (pc' := 210) dX7_apart_209 rfl ?_
        refine wp_if_ne (pc' := 213) 221 dX7_apart_210 rfl (by decide) (fun q210 => ?_) (fun q210 => ?_)
        · refine wp_iload (pc' := 223) dX7_apart_221 rfl rfl ?_
          refine wp_ist6 (pc' := 225) dX7_apart_223 rfl (by decide) rfl ?_
          refine wp_inc7 (pc' := 228) (nI (k + 1)) dX7_apart_225 rfl (by decide) rfl (nI_1 k) ?_
          refine wp_goto 151 dX7_apart_228 (by decide) ?_
          have e : apG (M.1 36) N a b others two (chF (M.1 35) (nI k) n 0 0) le = _ := if_neg (fun hh => q210 hh.2)
          rw [apF, e]
          exact ih (k + 1) (by omega) _ _ _
        · refine wp_iload (pc' := 215) dX7_apart_213 rfl rfl ?_
          refine wp_cSI (μ' := mX7_ones) (pc' := 218) dX7_apart_215 rfl mlX7_187 cfX7_ones ⟨(Nat.le_of_ble_eq_true rfl), (Nat.le_of_ble_eq_true rfl)⟩ (sm_ones) rfl rfl (Nat.le_of_ble_eq_true rfl) ?_
          refine wp_goto 223 dX7_apart_218 (by decide) ?_
          refine wp_ist6 (pc' := 225) dX7_apart_223 rfl (by decide) rfl ?_
          refine wp_inc7 (pc' := 228) (nI (k + 1)) dX7_apart_225 rfl (by decide) rfl (nI_1 k) ?_
          refine wp_goto 151 dX7_apart_228 (by decide) ?_
          have e : apG (M.1 36) N a b others two (chF (M.1 35) (nI k) n 0 0) le = _ := if_pos ⟨Int32.not_le.mp q177, q210⟩
          rw [apF, e]
          exact ih (k + 1) (by omega) _ _ _
theorem sm_apart_bad {g : GG} {M : Mem} {a b : Int32} (h : mCellF M a = 0 ∨ mCellF M b = 0 ∨ a = b) : RI g mX7_apart [ob g 25, .int a, .int b] M (-1) (th M) := by
  refine spec_of_wp (ls := [some (ob g 25), some (.int a), some (.int b), none, none, none, none, none, none, none]) rfl (Nat.le_of_ble_eq_true rfl) 7 rfl ?_
  refine wp_aload_n (pc' := 1) dX7_apart_0 rfl rfl ⟨_, rfl⟩ ?_
  refine wp_iconst (pc' := 2) 0 dX7_apart_1 rfl (by decide) ?_
  refine wp_put (pc' := 5) (o := 25) dX7_apart_2 rfl fpX7_47 (by decide) rfl (Nat.le_of_ble_eq_true rfl) rfl ?_
  refine wp_aload_n (pc' := 6) dX7_apart_5 rfl rfl ⟨_, rfl⟩ ?_
  refine wp_iload_n (pc' := 7) dX7_apart_6 rfl rfl ?_
  refine wp_cVI (μ' := mX7_isCell) (pc' := 10) (o := 25) dX7_apart_7 rfl mlX7_137 cfX7_isCell ⟨(Nat.le_of_ble_eq_true rfl), (Nat.le_of_ble_eq_true rfl)⟩ (sm_isCell) (by decide) rfl rfl rfl rfl rfl (Nat.le_of_ble_eq_true rfl) ?_
  refine wp_if_eq (pc' := 13) 26 dX7_apart_10 rfl (by decide) (fun q10 => ?_) (fun q10 => ?_)
  · refine wp_iconst (pc' := 27) (-1) dX7_apart_26 rfl (by decide) ?_
    refine wp_ireti dX7_apart_27 rfl ?_
    exact ri_ok rfl rfl
  · refine wp_aload_n (pc' := 14) dX7_apart_13 rfl rfl ⟨_, rfl⟩ ?_
    refine wp_iload_n (pc' := 15) dX7_apart_14 rfl rfl ?_
    refine wp_cVI (μ' := mX7_isCell) (pc' := 18) (o := 25) dX7_apart_15 rfl mlX7_137 cfX7_isCell ⟨(Nat.le_of_ble_eq_true rfl), (Nat.le_of_ble_eq_true rfl)⟩ (sm_isCell) (by decide) rfl rfl rfl rfl rfl (Nat.le_of_ble_eq_true rfl) ?_
    refine wp_if_eq (pc' := 21) 26 dX7_apart_18 rfl (by decide) (fun q18 => ?_) (fun q18 => ?_)
    · refine wp_iconst (pc' := 27) (-1) dX7_apart_26 rfl (by decide) ?_
      refine wp_ireti dX7_apart_27 rfl ?_
      exact ri_ok rfl rfl
    · refine wp_iload_n (pc' := 22) dX7_apart_21 rfl rfl ?_
      refine wp_iload_n (pc' := 23) dX7_apart_22 rfl rfl ?_
      refine wp_icmp_ne (pc' := 26) 28 dX7_apart_23 rfl (by decide) (fun q23 => ?_) (fun q23 => ?_)
      · exact (h.elim q10 (fun hh => hh.elim q18 q23)).elim
      · refine wp_iconst (pc' := 27) (-1) dX7_apart_26 rfl (by decide) ?_
        refine wp_ireti dX7_apart_27 rfl ?_
        exact ri_ok rfl rfl
theorem sm_apart_state {g : GG} {M : Mem} {N w a b : Nat} (h : MW M N w) (ha : a < N) (hb : b < N) (hg : ¬ (mCellF M (nI a) = 0 ∨ mCellF M (nI b) = 0 ∨ nI a = nI b)) (ho : ¬ onV (moth M N a b) ≤ 12) : RI g mX7_apart [ob g 25, .int (nI a), .int (nI b)] M (-2) (th M) := by
  have hN24 := h.1
  refine spec_of_wp (ls := [some (ob g 25), some (.int (nI a)), some (.int (nI b)), none, none, none, none, none, none, none]) rfl (Nat.le_of_ble_eq_true rfl) 7 rfl ?_
  refine wp_aload_n (pc' := 1) dX7_apart_0 rfl rfl ⟨_, rfl⟩ ?_
  refine wp_iconst (pc' := 2) 0 dX7_apart_1 rfl (by decide) ?_
  refine wp_put (pc' := 5) (o := 25) dX7_apart_2 rfl fpX7_47 (by decide) rfl (Nat.le_of_ble_eq_true rfl) rfl ?_
  refine wp_aload_n (pc' := 6) dX7_apart_5 rfl rfl ⟨_, rfl⟩ ?_
  refine wp_iload_n (pc' := 7) dX7_apart_6 rfl rfl ?_
  refine wp_cVI (μ' := mX7_isCell) (pc' := 10) (o := 25) dX7_apart_7 rfl mlX7_137 cfX7_isCell ⟨(Nat.le_of_ble_eq_true rfl), (Nat.le_of_ble_eq_true rfl)⟩ (sm_isCell) (by decide) rfl rfl rfl rfl rfl (Nat.le_of_ble_eq_true rfl) ?_
  refine wp_if_eq (pc' := 13) 26 dX7_apart_10 rfl (by decide) (fun q10 => ?_) (fun q10 => ?_)
  · exact absurd (Or.inl q10) hg
  · refine wp_aload_n (pc' := 14) dX7_apart_13 rfl rfl ⟨_, rfl⟩ ?_
    refine wp_iload_n (pc' := 15) dX7_apart_14 rfl rfl ?_
    refine wp_cVI (μ' := mX7_isCell) (pc' := 18) (o := 25) dX7_apart_15 rfl mlX7_137 cfX7_isCell ⟨(Nat.le_of_ble_eq_true rfl), (Nat.le_of_ble_eq_true rfl)⟩ (sm_isCell) (by decide) rfl rfl rfl rfl rfl (Nat.le_of_ble_eq_true rfl) ?_
    refine wp_if_eq (pc' := 21) 26 dX7_apart_18 rfl (by decide) (fun q18 => ?_) (fun q18 => ?_)
    · exact absurd (Or.inr (Or.inl q18)) hg
    · refine wp_iload_n (pc' := 22) dX7_apart_21 rfl rfl ?_
      refine wp_iload_n (pc' := 23) dX7_apart_22 rfl rfl ?_
      refine wp_icmp_ne (pc' := 26) 28 dX7_apart_23 rfl (by decide) (fun q23 => ?_) (fun q23 => ?_)
      · refine wp_iconst (pc' := 29) 1 dX7_apart_28 rfl (by decide) ?_
        refine wp_iload_n (pc' := 30) dX7_apart_29 rfl rfl ?_
        refine wp_ishl (pc' := 31) dX7_apart_30 rfl ?_
        refine wp_iconst (pc' := 32) 1 dX7_apart_31 rfl (by decide) ?_
        refine wp_iload_n (pc' := 33) dX7_apart_32 rfl rfl ?_
        refine wp_ishl (pc' := 34) dX7_apart_33 rfl ?_
        refine wp_ior (pc' := 35) dX7_apart_34 rfl ?_
        refine wp_ist3 (pc' := 36) dX7_apart_35 rfl (by decide) rfl ?_
        refine wp_aload_n (pc' := 37) dX7_apart_36 rfl rfl ⟨_, rfl⟩ ?_
        refine wp_cVI (μ' := mX7_bearing) (pc' := 40) (o := 25) dX7_apart_37 rfl mlX7_184 cfX7_bearing ⟨(Nat.le_of_ble_eq_true rfl), (Nat.le_of_ble_eq_true rfl)⟩ (sm_bearing (M := th M) (N := N) h.1 h.2.1) (by decide) rfl rfl rfl rfl rfl (Nat.le_of_ble_eq_true rfl) ?_
        refine wp_iload_n (pc' := 41) dX7_apart_40 rfl rfl ?_
        refine wp_iconst (pc' := 42) (-1) dX7_apart_41 rfl (by decide) ?_
        refine wp_ixor (pc' := 43) dX7_apart_42 rfl ?_
        refine wp_iand (pc' := 44) dX7_apart_43 rfl ?_
        refine wp_ist4 (pc' := 46) dX7_apart_44 rfl (by decide) rfl ?_
        refine wp_iload (pc' := 48) dX7_apart_46 rfl rfl ?_
        refine wp_cSI (μ' := mX7_ones) (pc' := 51) dX7_apart_48 rfl mlX7_187 cfX7_ones ⟨(Nat.le_of_ble_eq_true rfl), (Nat.le_of_ble_eq_true rfl)⟩ (sm_ones) rfl rfl (Nat.le_of_ble_eq_true rfl) ?_
        refine wp_bipush (pc' := 53) 12 dX7_apart_51 rfl (by decide) ?_
        refine wp_icmp_le (pc' := 56) 59 dX7_apart_53 rfl (by decide) (fun q53 => ?_) (fun q53 => ?_)
        · exact absurd q53 ho
        · refine wp_bipush (pc' := 58) (-2) dX7_apart_56 rfl (by decide) ?_
          refine wp_ireti dX7_apart_58 rfl ?_
          exact ri_ok rfl rfl
      · exact absurd (Or.inr (Or.inr q23)) hg
theorem sm_apart_none {g : GG} {M : Mem} {N w a b : Nat} (h : MW M N w) (ha : a < N) (hb : b < N) (hg : ¬ (mCellF M (nI a) = 0 ∨ mCellF M (nI b) = 0 ∨ nI a = nI b)) (ho : onV (moth M N a b) ≤ 12) (hq : (M.1 31 a = 1 ∨ M.1 31 b = 1 ∨ ¬ stI w a b = 0)) : RI g mX7_apart [ob g 25, .int (nI a), .int (nI b)] M (-9) (th M) := by
  have hN24 := h.1
  refine spec_of_wp (ls := [some (ob g 25), some (.int (nI a)), some (.int (nI b)), none, none, none, none, none, none, none]) rfl (Nat.le_of_ble_eq_true rfl) 7 rfl ?_
  refine wp_aload_n (pc' := 1) dX7_apart_0 rfl rfl ⟨_, rfl⟩ ?_
  refine wp_iconst (pc' := 2) 0 dX7_apart_1 rfl (by decide) ?_
  refine wp_put (pc' := 5) (o := 25) dX7_apart_2 rfl fpX7_47 (by decide) rfl (Nat.le_of_ble_eq_true rfl) rfl ?_
  refine wp_aload_n (pc' := 6) dX7_apart_5 rfl rfl ⟨_, rfl⟩ ?_
  refine wp_iload_n (pc' := 7) dX7_apart_6 rfl rfl ?_
  refine wp_cVI (μ' := mX7_isCell) (pc' := 10) (o := 25) dX7_apart_7 rfl mlX7_137 cfX7_isCell ⟨(Nat.le_of_ble_eq_true rfl), (Nat.le_of_ble_eq_true rfl)⟩ (sm_isCell) (by decide) rfl rfl rfl rfl rfl (Nat.le_of_ble_eq_true rfl) ?_
  refine wp_if_eq (pc' := 13) 26 dX7_apart_10 rfl (by decide) (fun q10 => ?_) (fun q10 => ?_)
  · exact absurd (Or.inl q10) hg
  · refine wp_aload_n (pc' := 14) dX7_apart_13 rfl rfl ⟨_, rfl⟩ ?_
    refine wp_iload_n (pc' := 15) dX7_apart_14 rfl rfl ?_
    refine wp_cVI (μ' := mX7_isCell) (pc' := 18) (o := 25) dX7_apart_15 rfl mlX7_137 cfX7_isCell ⟨(Nat.le_of_ble_eq_true rfl), (Nat.le_of_ble_eq_true rfl)⟩ (sm_isCell) (by decide) rfl rfl rfl rfl rfl (Nat.le_of_ble_eq_true rfl) ?_
    refine wp_if_eq (pc' := 21) 26 dX7_apart_18 rfl (by decide) (fun q18 => ?_) (fun q18 => ?_)
    · exact absurd (Or.inr (Or.inl q18)) hg
    · refine wp_iload_n (pc' := 22) dX7_apart_21 rfl rfl ?_
      refine wp_iload_n (pc' := 23) dX7_apart_22 rfl rfl ?_
      refine wp_icmp_ne (pc' := 26) 28 dX7_apart_23 rfl (by decide) (fun q23 => ?_) (fun q23 => ?_)
      · refine wp_iconst (pc' := 29) 1 dX7_apart_28 rfl (by decide) ?_
        refine wp_iload_n (pc' := 30) dX7_apart_29 rfl rfl ?_
        refine wp_ishl (pc' := 31) dX7_apart_30 rfl ?_
        refine wp_iconst (pc' := 32) 1 dX7_apart_31 rfl (by decide) ?_
        refine wp_iload_n (pc' := 33) dX7_apart_32 rfl rfl ?_
        refine wp_ishl (pc' := 34) dX7_apart_33 rfl ?_
        refine wp_ior (pc' := 35) dX7_apart_34 rfl ?_
        refine wp_ist3 (pc' := 36) dX7_apart_35 rfl (by decide) rfl ?_
        refine wp_aload_n (pc' := 37) dX7_apart_36 rfl rfl ⟨_, rfl⟩ ?_
        refine wp_cVI (μ' := mX7_bearing) (pc' := 40) (o := 25) dX7_apart_37 rfl mlX7_184 cfX7_bearing ⟨(Nat.le_of_ble_eq_true rfl), (Nat.le_of_ble_eq_true rfl)⟩ (sm_bearing (M := th M) (N := N) h.1 h.2.1) (by decide) rfl rfl rfl rfl rfl (Nat.le_of_ble_eq_true rfl) ?_
        refine wp_iload_n (pc' := 41) dX7_apart_40 rfl rfl ?_
        refine wp_iconst (pc' := 42) (-1) dX7_apart_41 rfl (by decide) ?_
        refine wp_ixor (pc' := 43) dX7_apart_42 rfl ?_
        refine wp_iand (pc' := 44) dX7_apart_43 rfl ?_
        refine wp_ist4 (pc' := 46) dX7_apart_44 rfl (by decide) rfl ?_
        refine wp_iload (pc' := 48) dX7_apart_46 rfl rfl ?_
        refine wp_cSI (μ' := mX7_ones) (pc' := 51) dX7_apart_48 rfl mlX7_187 cfX7_ones ⟨(Nat.le_of_ble_eq_true rfl), (Nat.le_of_ble_eq_true rfl)⟩ (sm_ones) rfl rfl (Nat.le_of_ble_eq_true rfl) ?_
        refine wp_bipush (pc' := 53) 12 dX7_apart_51 rfl (by decide) ?_
        refine wp_icmp_le (pc' := 56) 59 dX7_apart_53 rfl (by decide) (fun q53 => ?_) (fun q53 => ?_)
        · refine wp_aload_n (pc' := 60) dX7_apart_59 rfl rfl ⟨_, rfl⟩ ?_
          refine wp_get (pc' := 63) (o := 25) dX7_apart_60 rfl flX7_25 (by decide) rfl rfl ?_
          refine wp_iload_n (pc' := 64) dX7_apart_63 rfl rfl ?_
          refine wp_ialdN (pc' := 65) (o := 31) (n := 76) (a) dX7_apart_64 rfl (by decide) rfl (rfl) (by omega) (by decide) ?_
          refine wp_iconst (pc' := 66) 1 dX7_apart_65 rfl (by decide) ?_
          refine wp_icmp_eq (pc' := 69) 88 dX7_apart_66 rfl (by decide) (fun q66 => ?_) (fun q66 => ?_)
          · refine wp_bipush (pc' := 90) (-9) dX7_apart_88 rfl (by decide) ?_
            refine wp_ireti dX7_apart_90 rfl ?_
            exact ri_ok rfl rfl
          · refine wp_aload_n (pc' := 70) dX7_apart_69 rfl rfl ⟨_, rfl⟩ ?_
            refine wp_get (pc' := 73) (o := 25) dX7_apart_70 rfl flX7_25 (by decide) rfl rfl ?_
            refine wp_iload_n (pc' := 74) dX7_apart_73 rfl rfl ?_
            refine wp_ialdN (pc' := 75) (o := 31) (n := 76) (b) dX7_apart_74 rfl (by decide) rfl (rfl) (by omega) (by decide) ?_
            refine wp_iconst (pc' := 76) 1 dX7_apart_75 rfl (by decide) ?_
            refine wp_icmp_eq (pc' := 79) 88 dX7_apart_76 rfl (by decide) (fun q76 => ?_) (fun q76 => ?_)
            · refine wp_bipush (pc' := 90) (-9) dX7_apart_88 rfl (by decide) ?_
              refine wp_ireti dX7_apart_90 rfl ?_
              exact ri_ok rfl rfl
            · refine wp_aload_n (pc' := 80) dX7_apart_79 rfl rfl ⟨_, rfl⟩ ?_
              refine wp_iload_n (pc' := 81) dX7_apart_80 rfl rfl ?_
              refine wp_iload_n (pc' := 82) dX7_apart_81 rfl rfl ?_
              refine wp_cVI (μ' := mX7_isStep) (pc' := 85) (o := 25) dX7_apart_82 rfl mlX7_151 cfX7_isStep ⟨(Nat.le_of_ble_eq_true rfl), (Nat.le_of_ble_eq_true rfl)⟩ (sm_isStep (M := th M) (w := w) h.2.2.1 h.2.2.2.1 h.2.2.2.2 (by omega) (by omega)) (by decide) rfl rfl rfl rfl rfl (Nat.le_of_ble_eq_true rfl) ?_
              refine wp_if_eq (pc' := 88) 91 dX7_apart_85 rfl (by decide) (fun q85 => ?_) (fun q85 => ?_)
              · exact (hq.elim q66 (fun z => z.elim q76 (fun z => z q85))).elim
              · refine wp_bipush (pc' := 90) (-9) dX7_apart_88 rfl (by decide) ?_
                refine wp_ireti dX7_apart_90 rfl ?_
                exact ri_ok rfl rfl
        · exact absurd ho q53
      · exact absurd (Or.inr (Or.inr q23)) hg
def lcN (M : Mem) (N a b : Nat) : Nat := (lcG (moth M N a b) N 0 (0, M.1 35)).1
def lcB (M : Mem) (N a b : Nat) : Nat → Int32 := (lcG (moth M N a b) N 0 (0, M.1 35)).2
def maM (M : Mem) (N w a b : Nat) : Mem := setO (setO (th M) 36 (nbM (th M) N w)) 35 (lcB M N a b)
theorem sm_apart {g : GG} {M : Mem} {N w a b s : Nat} (h : MW M N w) (ha : a < N) (hb : b < N) (hg : ¬ (mCellF M (nI a) = 0 ∨ mCellF M (nI b) = 0 ∨ nI a = nI b)) (ho : onV (moth M N a b) ≤ 12) (hq : ¬ (M.1 31 a = 1 ∨ M.1 31 b = 1 ∨ ¬ stI w a b = 0)) (hn : lcN M N a b ≤ 24) (hsm : ∀ c, c < N → Sm N (nbM (th M) N w c)) (hs : s < 2 ^ 31) (hse : shl 1 (nI (lcN M N a b)) = nI s) : RI g mX7_apart [ob g 25, .int (nI a), .int (nI b)] M (apF (nbM (th M) N w) (lcB M N a b) N (lcN M N a b) a b (moth M N a b) (mtwo a b) s 0 99) (maM M N w a b) := by
  have hN24 := h.1
  refine spec_of_wp (ls := [some (ob g 25), some (.int (nI a)), some (.int (nI b)), none, none, none, none, none, none, none]) rfl (Nat.le_of_ble_eq_true rfl) 7 rfl ?_
  refine wp_aload_n (pc' := 1) dX7_apart_0 rfl rfl ⟨_, rfl⟩ ?_
  refine wp_iconst (pc' := 2) 0 dX7_apart_1 rfl (by decide) ?_
  refine wp_put (pc' := 5) (o := 25) dX7_apart_2 rfl fpX7_47 (by decide) rfl (Nat.le_of_ble_eq_true rfl) rfl ?_
  refine wp_aload_n (pc' := 6) dX7_apart_5 rfl rfl ⟨_, rfl⟩ ?_
  refine wp_iload_n (pc' := 7) dX7_apart_6 rfl rfl ?_
  refine wp_cVI (μ' := mX7_isCell) (pc' := 10) (o := 25) dX7_apart_7 rfl mlX7_137 cfX7_isCell ⟨(Nat.le_of_ble_eq_true rfl), (Nat.le_of_ble_eq_true rfl)⟩ (sm_isCell) (by decide) rfl rfl rfl rfl rfl (Nat.le_of_ble_eq_true rfl) ?_
  refine wp_if_eq (pc' := 13) 26 dX7_apart_10 rfl (by decide) (fun q10 => ?_) (fun q10 => ?_)
  · exact absurd (Or.inl q10) hg
  · refine wp_aload_n (pc' := 14) dX7_apart_13 rfl rfl ⟨_, rfl⟩ ?_
    refine wp_iload_n (pc' := 15) dX7_apart_14 rfl rfl ?_
    refine wp_cVI (μ' := mX7_isCell) (pc' := 18) (o := 25) dX7_apart_15 rfl mlX7_137 cfX7_isCell ⟨(Nat.le_of_ble_eq_true rfl), (Nat.le_of_ble_eq_true rfl)⟩ (sm_isCell) (by decide) rfl rfl rfl rfl rfl (Nat.le_of_ble_eq_true rfl) ?_
    refine wp_if_eq (pc' := 21) 26 dX7_apart_18 rfl (by decide) (fun q18 => ?_) (fun q18 => ?_)
    · exact absurd (Or.inr (Or.inl q18)) hg
    · refine wp_iload_n (pc' := 22) dX7_apart_21 rfl rfl ?_
      refine wp_iload_n (pc' := 23) dX7_apart_22 rfl rfl ?_
      refine wp_icmp_ne (pc' := 26) 28 dX7_apart_23 rfl (by decide) (fun q23 => ?_) (fun q23 => ?_)
      · refine wp_iconst (pc' := 29) 1 dX7_apart_28 rfl (by decide) ?_
        refine wp_iload_n (pc' := 30) dX7_apart_29 rfl rfl ?_
        refine wp_ishl (pc' := 31) dX7_apart_30 rfl ?_
        refine wp_iconst (pc' := 32) 1 dX7_apart_31 rfl (by decide) ?_
        refine wp_iload_n (pc' := 33) dX7_apart_32 rfl rfl ?_
        refine wp_ishl (pc' := 34) dX7_apart_33 rfl ?_
        refine wp_ior (pc' := 35) dX7_apart_34 rfl ?_
        refine wp_ist3 (pc' := 36) dX7_apart_35 rfl (by decide) rfl ?_
        refine wp_aload_n (pc' := 37) dX7_apart_36 rfl rfl ⟨_, rfl⟩ ?_
        refine wp_cVI (μ' := mX7_bearing) (pc' := 40) (o := 25) dX7_apart_37 rfl mlX7_184 cfX7_bearing ⟨(Nat.le_of_ble_eq_true rfl), (Nat.le_of_ble_eq_true rfl)⟩ (sm_bearing (M := th M) (N := N) h.1 h.2.1) (by decide) rfl rfl rfl rfl rfl (Nat.le_of_ble_eq_true rfl) ?_
        refine wp_iload_n (pc' := 41) dX7_apart_40 rfl rfl ?_
        refine wp_iconst (pc' := 42) (-1) dX7_apart_41 rfl (by decide) ?_
        refine wp_ixor (pc' := 43) dX7_apart_42 rfl ?_
        refine wp_iand (pc' := 44) dX7_apart_43 rfl ?_
        refine wp_ist4 (pc' := 46) dX7_apart_44 rfl (by decide) rfl ?_
        refine wp_iload (pc' := 48) dX7_apart_46 rfl rfl ?_
        refine wp_cSI (μ' := mX7_ones) (pc' := 51) dX7_apart_48 rfl mlX7_187 cfX7_ones ⟨(Nat.le_of_ble_eq_true rfl), (Nat.le_of_ble_eq_true rfl)⟩ (sm_ones) rfl rfl (Nat.le_of_ble_eq_true rfl) ?_
        refine wp_bipush (pc' := 53) 12 dX7_apart_51 rfl (by decide) ?_
        refine wp_icmp_le (pc' := 56) 59 dX7_apart_53 rfl (by decide) (fun q53 => ?_) (fun q53 => ?_)
        · refine wp_aload_n (pc' := 60) dX7_apart_59 rfl rfl ⟨_, rfl⟩ ?_
          refine wp_get (pc' := 63) (o := 25) dX7_apart_60 rfl flX7_25 (by decide) rfl rfl ?_
          refine wp_iload_n (pc' := 64) dX7_apart_63 rfl rfl ?_
          refine wp_ialdN (pc' := 65) (o := 31) (n := 76) (a) dX7_apart_64 rfl (by decide) rfl (rfl) (by omega) (by decide) ?_
          refine wp_iconst (pc' := 66) 1 dX7_apart_65 rfl (by decide) ?_
          refine wp_icmp_eq (pc' := 69) 88 dX7_apart_66 rfl (by decide) (fun q66 => ?_) (fun q66 => ?_)
          · exact absurd (Or.inl q66) hq
          · refine wp_aload_n (pc' := 70) dX7_apart_69 rfl rfl ⟨_, rfl⟩ ?_
            refine wp_get (pc' := 73) (o := 25) dX7_apart_70 rfl flX7_25 (by decide) rfl rfl ?_
            refine wp_iload_n (pc' := 74) dX7_apart_73 rfl rfl ?_
            refine wp_ialdN (pc' := 75) (o := 31) (n := 76) (b) dX7_apart_74 rfl (by decide) rfl (rfl) (by omega) (by decide) ?_
            refine wp_iconst (pc' := 76) 1 dX7_apart_75 rfl (by decide) ?_
            refine wp_icmp_eq (pc' := 79) 88 dX7_apart_76 rfl (by decide) (fun q76 => ?_) (fun q76 => ?_)
            · exact absurd (Or.inr (Or.inl q76)) hq
            · refine wp_aload_n (pc' := 80) dX7_apart_79 rfl rfl ⟨_, rfl⟩ ?_
              refine wp_iload_n (pc' := 81) dX7_apart_80 rfl rfl ?_
              refine wp_iload_n (pc' := 82) dX7_apart_81 rfl rfl ?_
              refine wp_cVI (μ' := mX7_isStep) (pc' := 85) (o := 25) dX7_apart_82 rfl mlX7_151 cfX7_isStep ⟨(Nat.le_of_ble_eq_true rfl), (Nat.le_of_ble_eq_true rfl)⟩ (sm_isStep (M := th M) (w := w) h.2.2.1 h.2.2.2.1 h.2.2.2.2 (by omega) (by omega)) (by decide) rfl rfl rfl rfl rfl (Nat.le_of_ble_eq_true rfl) ?_
              refine wp_if_eq (pc' := 88) 91 dX7_apart_85 rfl (by decide) (fun q85 => ?_) (fun q85 => ?_)
              · refine wp_aload_n (pc' := 92) dX7_apart_91 rfl rfl ⟨_, rfl⟩ ?_
                refine wp_cVV (μ' := mX7_nears) (pc' := 95) (o := 25) dX7_apart_92 rfl mlX7_196 cfX7_nears ⟨(Nat.le_of_ble_eq_true rfl), (Nat.le_of_ble_eq_true rfl)⟩ (sm_nears (M := th M) (N := N) (w := w) h) (by decide) rfl rfl rfl rfl rfl (Nat.le_of_ble_eq_true rfl) ?_
                refine wp_iconst (pc' := 96) 0 dX7_apart_95 rfl (by decide) ?_
                refine wp_ist5 (pc' := 98) dX7_apart_96 rfl (by decide) rfl ?_
                refine wp_iconst (pc' := 99) 0 dX7_apart_98 rfl (by decide) ?_
                refine wp_ist6 (pc' := 101) dX7_apart_99 rfl (by decide) rfl ?_
                refine wp_mem (setO_self _ 35).symm ?_
                refine lpm_apL (M := setO (th M) 36 (nbM (th M) N w)) (others := moth M N a b) (two := mtwo a b) h.1 h.2.1 N 0 (Nat.zero_add N) 0 _ (Nat.le_refl 0) ?_
                refine wp_bipush (pc' := 146) 99 dX7_apart_144 rfl (by decide) ?_
                refine wp_ist6 (pc' := 148) dX7_apart_146 rfl (by decide) rfl ?_
                refine wp_iconst (pc' := 149) 0 dX7_apart_148 rfl (by decide) ?_
                refine wp_ist7 (pc' := 151) dX7_apart_149 rfl (by decide) rfl ?_
                exact lpm_apW (M := maM M N w a b) h.1 h.2.1 hn ha hsm hs hse s 0 (Nat.zero_add s) _ _ _
              · exact absurd (Or.inr (Or.inr q85)) hq
        · exact absurd ho q53
      · exact absurd (Or.inr (Or.inr q23)) hg
