
/-! the reference: rate, stones -/
def mstp (M : Mem) (N w a b : Nat) : Int32 := if dvM M N w a b = -9 then 0 else dvM M N w a b
theorem upT_setO (M : Mem) (o p : Nat) (f f2 : Nat → Int32) (t : Int64) : setO (upT (setO M o f) p t) o f2 = upT (setO M o f2) p t := by
  refine Prod.ext (funext fun a => ?_) rfl
  show (if a = o then f2 else (if a = o then f else M.1 a)) = (if a = o then f2 else M.1 a)
  by_cases e : a = o <;> simp [e]

theorem sm_rate_bad {g : GG} {M : Mem} {kind k : Int32} (h : inF kind 0 5 = 0 ∨ mWalkF M k = 0) : RI g mX7_rate [ob g 25, .int kind, .int k] M (-1000000) (th M) := by
  refine spec_of_wp (ls := [some (ob g 25), some (.int kind), some (.int k), none, none, none, none]) rfl (Nat.le_of_ble_eq_true rfl) 4 rfl ?_
  refine wp_aload_n (pc' := 1) dX7_rate_0 rfl rfl ⟨_, rfl⟩ ?_
  refine wp_iconst (pc' := 2) 0 dX7_rate_1 rfl (by decide) ?_
  refine wp_put (pc' := 5) (o := 25) dX7_rate_2 rfl fpX7_47 (by decide) rfl (Nat.le_of_ble_eq_true rfl) rfl ?_
  refine wp_iload_n (pc' := 6) dX7_rate_5 rfl rfl ?_
  refine wp_iconst (pc' := 7) 0 dX7_rate_6 rfl (by decide) ?_
  refine wp_iconst (pc' := 8) 5 dX7_rate_7 rfl (by decide) ?_
  refine wp_cSI (μ' := mX7_in) (pc' := 11) dX7_rate_8 rfl mlX7_57 cfX7_in ⟨(Nat.le_of_ble_eq_true rfl), (Nat.le_of_ble_eq_true rfl)⟩ (sm_in) rfl rfl (Nat.le_of_ble_eq_true rfl) ?_
  refine wp_if_eq (pc' := 14) 22 dX7_rate_11 rfl (by decide) (fun q11 => ?_) (fun q11 => ?_)
  · refine wp_ldc (pc' := 24) (-1000000) dX7_rate_22 rfl (wR29 _ (List.mem_of_getElem? (i := 5) rfl)) ?_
    refine wp_ireti dX7_rate_24 rfl ?_
    exact ri_ok rfl rfl
  · refine wp_aload_n (pc' := 15) dX7_rate_14 rfl rfl ⟨_, rfl⟩ ?_
    refine wp_iload_n (pc' := 16) dX7_rate_15 rfl rfl ?_
    refine wp_cVI (μ' := mX7_isWalker) (pc' := 19) (o := 25) dX7_rate_16 rfl mlX7_141 cfX7_isWalker ⟨(Nat.le_of_ble_eq_true rfl), (Nat.le_of_ble_eq_true rfl)⟩ (sm_isWalker) (by decide) rfl rfl rfl rfl rfl (Nat.le_of_ble_eq_true rfl) ?_
    refine wp_if_ne (pc' := 22) 25 dX7_rate_19 rfl (by decide) (fun q19 => ?_) (fun q19 => ?_)
    · exact (h.elim q11 q19).elim
    · refine wp_ldc (pc' := 24) (-1000000) dX7_rate_22 rfl (wR29 _ (List.mem_of_getElem? (i := 5) rfl)) ?_
      refine wp_ireti dX7_rate_24 rfl ?_
      exact ri_ok rfl rfl
theorem sm_rate0 {g : GG} {M : Mem} {N w k a b : Nat} (h : MW M N w) (hE : EN M N k a b) (hg : ¬ (inF 0 0 5 = 0 ∨ mWalkF M (nI k) = 0)) : SI g mX7_rate [ob g 25, .int 0, .int (nI k)] M (fun x m => x = mstp M N w a b ∧ ∃ f, m = upT (setO (th M) 34 f) 25 (M.2 25 + 1)) := by
  have hk := hE.2.2.2.2
  refine spec_of_wp (ls := [some (ob g 25), some (.int 0), some (.int (nI k)), none, none, none, none]) rfl (Nat.le_of_ble_eq_true rfl) 4 rfl ?_
  refine wp_aload_n (pc' := 1) dX7_rate_0 rfl rfl ⟨_, rfl⟩ ?_
  refine wp_iconst (pc' := 2) 0 dX7_rate_1 rfl (by decide) ?_
  refine wp_put (pc' := 5) (o := 25) dX7_rate_2 rfl fpX7_47 (by decide) rfl (Nat.le_of_ble_eq_true rfl) rfl ?_
  refine wp_iload_n (pc' := 6) dX7_rate_5 rfl rfl ?_
  refine wp_iconst (pc' := 7) 0 dX7_rate_6 rfl (by decide) ?_
  refine wp_iconst (pc' := 8) 5 dX7_rate_7 rfl (by decide) ?_
  refine wp_cSI (μ' := mX7_in) (pc' := 11) dX7_rate_8 rfl mlX7_57 cfX7_in ⟨(Nat.le_of_ble_eq_true rfl), (Nat.le_of_ble_eq_true rfl)⟩ (sm_in) rfl rfl (Nat.le_of_ble_eq_true rfl) ?_
  refine wp_if_eq (pc' := 14) 22 dX7_rate_11 rfl (by decide) (fun q11 => ?_) (fun q11 => ?_)
  · exact absurd (Or.inl q11) hg
  · refine wp_aload_n (pc' := 15) dX7_rate_14 rfl rfl ⟨_, rfl⟩ ?_
    refine wp_iload_n (pc' := 16) dX7_rate_15 rfl rfl ?_
    refine wp_cVI (μ' := mX7_isWalker) (pc' := 19) (o := 25) dX7_rate_16 rfl mlX7_141 cfX7_isWalker ⟨(Nat.le_of_ble_eq_true rfl), (Nat.le_of_ble_eq_true rfl)⟩ (sm_isWalker) (by decide) rfl rfl rfl rfl rfl (Nat.le_of_ble_eq_true rfl) ?_
    refine wp_if_ne (pc' := 22) 25 dX7_rate_19 rfl (by decide) (fun q19 => ?_) (fun q19 => ?_)
    · refine wp_aload_n (pc' := 26) dX7_rate_25 rfl rfl ⟨_, rfl⟩ ?_
      refine wp_aload_n (pc' := 27) dX7_rate_26 rfl rfl ⟨_, rfl⟩ ?_
      refine wp_get (pc' := 30) (o := 25) dX7_rate_27 rfl flX7_19 (by decide) rfl rfl ?_
      refine wp_iconst (pc' := 31) 2 dX7_rate_30 rfl (by decide) ?_
      refine wp_iload_n (pc' := 32) dX7_rate_31 rfl rfl ?_
      refine wp_imul (pc' := 33) dX7_rate_32 rfl ?_
      refine wp_ialdN (pc' := 34) (o := 29) (n := 8) (2 * k) dX7_rate_33 rfl (by decide) rfl (by rw [show (2 : Int32) = nI 2 from rfl, pk_mul]) (by omega) (by decide) ?_
      refine wp_top (hE.1) ?_
      refine wp_aload_n (pc' := 35) dX7_rate_34 rfl rfl ⟨_, rfl⟩ ?_
      refine wp_get (pc' := 38) (o := 25) dX7_rate_35 rfl flX7_19 (by decide) rfl rfl ?_
      refine wp_iconst (pc' := 39) 2 dX7_rate_38 rfl (by decide) ?_
      refine wp_iload_n (pc' := 40) dX7_rate_39 rfl rfl ?_
      refine wp_imul (pc' := 41) dX7_rate_40 rfl ?_
      refine wp_iconst (pc' := 42) 1 dX7_rate_41 rfl (by decide) ?_
      refine wp_iadd (pc' := 43) dX7_rate_42 rfl ?_
      refine wp_ialdN (pc' := 44) (o := 29) (n := 8) (2 * k + 1) dX7_rate_43 rfl (by decide) rfl (by rw [show (2 : Int32) = nI 2 from rfl, pk_mul]; exact nI_1 (2 * k)) (by omega) (by decide) ?_
      refine wp_top (hE.2.1) ?_
      refine wp_sVI (μ' := mX7_stepsOf) (pc' := 47) (o := 25) dX7_rate_44 rfl mlX7_159 cfX7_stepsOf ⟨(Nat.le_of_ble_eq_true rfl), (Nat.le_of_ble_eq_true rfl)⟩ (sm_stepsOf (M := th M) (N := N) (w := w) h hE.2.2.1 hE.2.2.2.1) (by decide) rfl rfl rfl rfl rfl (Nat.le_of_ble_eq_true rfl) (fun x m hm => ?_)
      obtain ⟨hx, f, rfl, hR⟩ := hm
      change x = dvM M N w a b at hx
      subst hx
      refine wp_ist3 (pc' := 48) dX7_rate_47 rfl (by decide) rfl ?_
      refine wp_iload_n (pc' := 49) dX7_rate_48 rfl rfl ?_
      refine wp_bipush (pc' := 51) (-9) dX7_rate_49 rfl (by decide) ?_
      refine wp_icmp_ne (pc' := 54) 58 dX7_rate_51 rfl (by decide) (fun q51 => ?_) (fun q51 => ?_)
      · refine wp_iload_n (pc' := 59) dX7_rate_58 rfl rfl ?_
        refine wp_ist4 (pc' := 61) dX7_rate_59 rfl (by decide) rfl ?_
        refine wp_aload_n (pc' := 62) dX7_rate_61 rfl rfl ⟨_, rfl⟩ ?_
        refine wp_dup (pc' := 63) dX7_rate_62 rfl rfl ?_
        refine wp_get (pc' := 66) (o := 25) dX7_rate_63 rfl flX7_203 (by decide) rfl rfl ?_
        refine wp_iload_n (pc' := 67) dX7_rate_66 rfl rfl ?_
        refine wp_if_ne (pc' := 70) 74 dX7_rate_67 rfl (by decide) (fun hh => absurd hh (by decide)) (fun _ => ?_)
        refine wp_lconst (pc' := 71) 1 dX7_rate_70 rfl (by decide) ?_
        refine wp_goto 121 dX7_rate_71 (by decide) ?_
        refine wp_ladd (pc' := 122) dX7_rate_121 rfl ?_
        refine wp_putl (pc' := 125) (o := 25) dX7_rate_122 rfl fpX7_203 (by decide) rfl (Nat.le_of_ble_eq_true rfl) rfl ?_
        refine wp_iload (pc' := 127) dX7_rate_125 rfl rfl ?_
        refine wp_aload_n (pc' := 128) dX7_rate_127 rfl rfl ⟨_, rfl⟩ ?_
        refine wp_get (pc' := 131) (o := 25) dX7_rate_128 rfl flX7_25 (by decide) rfl rfl ?_
        refine wp_bipush (pc' := 133) 72 dX7_rate_131 rfl (by decide) ?_
        refine wp_iload_n (pc' := 134) dX7_rate_133 rfl rfl ?_
        refine wp_iadd (pc' := 135) dX7_rate_134 rfl ?_
        refine wp_ialdN (pc' := 136) (o := 31) (n := 76) (72 + k) dX7_rate_135 rfl (by decide) rfl (nI_add 72 k) (by omega) (by decide) ?_
        refine wp_iadd (pc' := 137) dX7_rate_136 rfl ?_
        refine wp_ist5 (pc' := 139) dX7_rate_137 rfl (by decide) rfl ?_
        refine wp_iload (pc' := 141) dX7_rate_139 rfl rfl ?_
        refine wp_aload_n (pc' := 142) dX7_rate_141 rfl rfl ⟨_, rfl⟩ ?_
        refine wp_iload_n (pc' := 143) dX7_rate_142 rfl rfl ?_
        refine wp_cVI (μ' := mX7_laidBy) (pc' := 146) (o := 25) dX7_rate_143 rfl mlX7_144 cfX7_laidBy ⟨(Nat.le_of_ble_eq_true rfl), (Nat.le_of_ble_eq_true rfl)⟩ (sm_laidBy (M := upT (setO (th M) 34 f) 25 (M.2 25 + 1)) (N := N) h.1 h.2.1) (by decide) rfl rfl rfl rfl rfl (Nat.le_of_ble_eq_true rfl) ?_
        refine wp_isub (pc' := 147) dX7_rate_146 rfl ?_
        refine wp_ist6 (pc' := 149) dX7_rate_147 rfl (by decide) rfl ?_
        refine wp_iload_n (pc' := 150) dX7_rate_149 rfl rfl ?_
        refine wp_if_ne (pc' := 153) 158 dX7_rate_150 rfl (by decide) (fun hh => absurd hh (by decide)) (fun _ => ?_)
        refine wp_iload (pc' := 155) dX7_rate_153 rfl rfl ?_
        refine wp_goto 227 dX7_rate_155 (by decide) ?_
        refine wp_ireti dX7_rate_227 rfl ?_
        exact ⟨_, rfl, (by rw [show mstp M N w a b = dvM M N w a b from if_neg q51]; try rfl), f, rfl⟩
      · refine wp_iconst (pc' := 55) 0 dX7_rate_54 rfl (by decide) ?_
        refine wp_goto 59 dX7_rate_55 (by decide) ?_
        refine wp_ist4 (pc' := 61) dX7_rate_59 rfl (by decide) rfl ?_
        refine wp_aload_n (pc' := 62) dX7_rate_61 rfl rfl ⟨_, rfl⟩ ?_
        refine wp_dup (pc' := 63) dX7_rate_62 rfl rfl ?_
        refine wp_get (pc' := 66) (o := 25) dX7_rate_63 rfl flX7_203 (by decide) rfl rfl ?_
        refine wp_iload_n (pc' := 67) dX7_rate_66 rfl rfl ?_
        refine wp_if_ne (pc' := 70) 74 dX7_rate_67 rfl (by decide) (fun hh => absurd hh (by decide)) (fun _ => ?_)
        refine wp_lconst (pc' := 71) 1 dX7_rate_70 rfl (by decide) ?_
        refine wp_goto 121 dX7_rate_71 (by decide) ?_
        refine wp_ladd (pc' := 122) dX7_rate_121 rfl ?_
        refine wp_putl (pc' := 125) (o := 25) dX7_rate_122 rfl fpX7_203 (by decide) rfl (Nat.le_of_ble_eq_true rfl) rfl ?_
        refine wp_iload (pc' := 127) dX7_rate_125 rfl rfl ?_
        refine wp_aload_n (pc' := 128) dX7_rate_127 rfl rfl ⟨_, rfl⟩ ?_
        refine wp_get (pc' := 131) (o := 25) dX7_rate_128 rfl flX7_25 (by decide) rfl rfl ?_
        refine wp_bipush (pc' := 133) 72 dX7_rate_131 rfl (by decide) ?_
        refine wp_iload_n (pc' := 134) dX7_rate_133 rfl rfl ?_
        refine wp_iadd (pc' := 135) dX7_rate_134 rfl ?_
        refine wp_ialdN (pc' := 136) (o := 31) (n := 76) (72 + k) dX7_rate_135 rfl (by decide) rfl (nI_add 72 k) (by omega) (by decide) ?_
        refine wp_iadd (pc' := 137) dX7_rate_136 rfl ?_
        refine wp_ist5 (pc' := 139) dX7_rate_137 rfl (by decide) rfl ?_
        refine wp_iload (pc' := 141) dX7_rate_139 rfl rfl ?_
        refine wp_aload_n (pc' := 142) dX7_rate_141 rfl rfl ⟨_, rfl⟩ ?_
        refine wp_iload_n (pc' := 143) dX7_rate_142 rfl rfl ?_
        refine wp_cVI (μ' := mX7_laidBy) (pc' := 146) (o := 25) dX7_rate_143 rfl mlX7_144 cfX7_laidBy ⟨(Nat.le_of_ble_eq_true rfl), (Nat.le_of_ble_eq_true rfl)⟩ (sm_laidBy (M := upT (setO (th M) 34 f) 25 (M.2 25 + 1)) (N := N) h.1 h.2.1) (by decide) rfl rfl rfl rfl rfl (Nat.le_of_ble_eq_true rfl) ?_
        refine wp_isub (pc' := 147) dX7_rate_146 rfl ?_
        refine wp_ist6 (pc' := 149) dX7_rate_147 rfl (by decide) rfl ?_
        refine wp_iload_n (pc' := 150) dX7_rate_149 rfl rfl ?_
        refine wp_if_ne (pc' := 153) 158 dX7_rate_150 rfl (by decide) (fun hh => absurd hh (by decide)) (fun _ => ?_)
        refine wp_iload (pc' := 155) dX7_rate_153 rfl rfl ?_
        refine wp_goto 227 dX7_rate_155 (by decide) ?_
        refine wp_ireti dX7_rate_227 rfl ?_
        exact ⟨_, rfl, (by rw [show mstp M N w a b = 0 from if_pos q51]; try rfl), f, rfl⟩
    · exact absurd (Or.inr q19) hg
theorem sm_rate1 {g : GG} {M : Mem} {N w k a b : Nat} (h : MW M N w) (hE : EN M N k a b) (hg : ¬ (inF 1 0 5 = 0 ∨ mWalkF M (nI k) = 0)) : SI g mX7_rate [ob g 25, .int 1, .int (nI k)] M (fun x m => x = (mstp M N w a b + M.1 31 (72 + k)) ∧ ∃ f, m = upT (setO (th M) 34 f) 25 (M.2 25 + 11)) := by
  have hk := hE.2.2.2.2
  refine spec_of_wp (ls := [some (ob g 25), some (.int 1), some (.int (nI k)), none, none, none, none]) rfl (Nat.le_of_ble_eq_true rfl) 4 rfl ?_
  refine wp_aload_n (pc' := 1) dX7_rate_0 rfl rfl ⟨_, rfl⟩ ?_
  refine wp_iconst (pc' := 2) 0 dX7_rate_1 rfl (by decide) ?_
  refine wp_put (pc' := 5) (o := 25) dX7_rate_2 rfl fpX7_47 (by decide) rfl (Nat.le_of_ble_eq_true rfl) rfl ?_
  refine wp_iload_n (pc' := 6) dX7_rate_5 rfl rfl ?_
  refine wp_iconst (pc' := 7) 0 dX7_rate_6 rfl (by decide) ?_
  refine wp_iconst (pc' := 8) 5 dX7_rate_7 rfl (by decide) ?_
  refine wp_cSI (μ' := mX7_in) (pc' := 11) dX7_rate_8 rfl mlX7_57 cfX7_in ⟨(Nat.le_of_ble_eq_true rfl), (Nat.le_of_ble_eq_true rfl)⟩ (sm_in) rfl rfl (Nat.le_of_ble_eq_true rfl) ?_
  refine wp_if_eq (pc' := 14) 22 dX7_rate_11 rfl (by decide) (fun q11 => ?_) (fun q11 => ?_)
  · exact absurd (Or.inl q11) hg
  · refine wp_aload_n (pc' := 15) dX7_rate_14 rfl rfl ⟨_, rfl⟩ ?_
    refine wp_iload_n (pc' := 16) dX7_rate_15 rfl rfl ?_
    refine wp_cVI (μ' := mX7_isWalker) (pc' := 19) (o := 25) dX7_rate_16 rfl mlX7_141 cfX7_isWalker ⟨(Nat.le_of_ble_eq_true rfl), (Nat.le_of_ble_eq_true rfl)⟩ (sm_isWalker) (by decide) rfl rfl rfl rfl rfl (Nat.le_of_ble_eq_true rfl) ?_
    refine wp_if_ne (pc' := 22) 25 dX7_rate_19 rfl (by decide) (fun q19 => ?_) (fun q19 => ?_)
    · refine wp_aload_n (pc' := 26) dX7_rate_25 rfl rfl ⟨_, rfl⟩ ?_
      refine wp_aload_n (pc' := 27) dX7_rate_26 rfl rfl ⟨_, rfl⟩ ?_
      refine wp_get (pc' := 30) (o := 25) dX7_rate_27 rfl flX7_19 (by decide) rfl rfl ?_
      refine wp_iconst (pc' := 31) 2 dX7_rate_30 rfl (by decide) ?_
      refine wp_iload_n (pc' := 32) dX7_rate_31 rfl rfl ?_
      refine wp_imul (pc' := 33) dX7_rate_32 rfl ?_
      refine wp_ialdN (pc' := 34) (o := 29) (n := 8) (2 * k) dX7_rate_33 rfl (by decide) rfl (by rw [show (2 : Int32) = nI 2 from rfl, pk_mul]) (by omega) (by decide) ?_
      refine wp_top (hE.1) ?_
      refine wp_aload_n (pc' := 35) dX7_rate_34 rfl rfl ⟨_, rfl⟩ ?_
      refine wp_get (pc' := 38) (o := 25) dX7_rate_35 rfl flX7_19 (by decide) rfl rfl ?_
      refine wp_iconst (pc' := 39) 2 dX7_rate_38 rfl (by decide) ?_
      refine wp_iload_n (pc' := 40) dX7_rate_39 rfl rfl ?_
      refine wp_imul (pc' := 41) dX7_rate_40 rfl ?_
      refine wp_iconst (pc' := 42) 1 dX7_rate_41 rfl (by decide) ?_
      refine wp_iadd (pc' := 43) dX7_rate_42 rfl ?_
      refine wp_ialdN (pc' := 44) (o := 29) (n := 8) (2 * k + 1) dX7_rate_43 rfl (by decide) rfl (by rw [show (2 : Int32) = nI 2 from rfl, pk_mul]; exact nI_1 (2 * k)) (by omega) (by decide) ?_
      refine wp_top (hE.2.1) ?_
      refine wp_sVI (μ' := mX7_stepsOf) (pc' := 47) (o := 25) dX7_rate_44 rfl mlX7_159 cfX7_stepsOf ⟨(Nat.le_of_ble_eq_true rfl), (Nat.le_of_ble_eq_true rfl)⟩ (sm_stepsOf (M := th M) (N := N) (w := w) h hE.2.2.1 hE.2.2.2.1) (by decide) rfl rfl rfl rfl rfl (Nat.le_of_ble_eq_true rfl) (fun x m hm => ?_)
      obtain ⟨hx, f, rfl, hR⟩ := hm
      change x = dvM M N w a b at hx
      subst hx
      refine wp_ist3 (pc' := 48) dX7_rate_47 rfl (by decide) rfl ?_
      refine wp_iload_n (pc' := 49) dX7_rate_48 rfl rfl ?_
      refine wp_bipush (pc' := 51) (-9) dX7_rate_49 rfl (by decide) ?_
      refine wp_icmp_ne (pc' := 54) 58 dX7_rate_51 rfl (by decide) (fun q51 => ?_) (fun q51 => ?_)
      · refine wp_iload_n (pc' := 59) dX7_rate_58 rfl rfl ?_
        refine wp_ist4 (pc' := 61) dX7_rate_59 rfl (by decide) rfl ?_
        refine wp_aload_n (pc' := 62) dX7_rate_61 rfl rfl ⟨_, rfl⟩ ?_
        refine wp_dup (pc' := 63) dX7_rate_62 rfl rfl ?_
        refine wp_get (pc' := 66) (o := 25) dX7_rate_63 rfl flX7_203 (by decide) rfl rfl ?_
        refine wp_iload_n (pc' := 67) dX7_rate_66 rfl rfl ?_
        refine wp_if_ne (pc' := 70) 74 dX7_rate_67 rfl (by decide) (fun _ => ?_) (fun hh => absurd hh (by decide))
        refine wp_iload_n (pc' := 75) dX7_rate_74 rfl rfl ?_
        refine wp_iconst (pc' := 76) 1 dX7_rate_75 rfl (by decide) ?_
        refine wp_icmp_ne (pc' := 79) 85 dX7_rate_76 rfl (by decide) (fun hh => absurd hh (by decide)) (fun _ => ?_)
        refine wp_ldc2 (pc' := 82) (11) dX7_rate_79 rfl (wR29 _ (List.mem_of_getElem? (i := 7) rfl)) ?_
        refine wp_goto 121 dX7_rate_82 (by decide) ?_
        refine wp_ladd (pc' := 122) dX7_rate_121 rfl ?_
        refine wp_putl (pc' := 125) (o := 25) dX7_rate_122 rfl fpX7_203 (by decide) rfl (Nat.le_of_ble_eq_true rfl) rfl ?_
        refine wp_iload (pc' := 127) dX7_rate_125 rfl rfl ?_
        refine wp_aload_n (pc' := 128) dX7_rate_127 rfl rfl ⟨_, rfl⟩ ?_
        refine wp_get (pc' := 131) (o := 25) dX7_rate_128 rfl flX7_25 (by decide) rfl rfl ?_
        refine wp_bipush (pc' := 133) 72 dX7_rate_131 rfl (by decide) ?_
        refine wp_iload_n (pc' := 134) dX7_rate_133 rfl rfl ?_
        refine wp_iadd (pc' := 135) dX7_rate_134 rfl ?_
        refine wp_ialdN (pc' := 136) (o := 31) (n := 76) (72 + k) dX7_rate_135 rfl (by decide) rfl (nI_add 72 k) (by omega) (by decide) ?_
        refine wp_iadd (pc' := 137) dX7_rate_136 rfl ?_
        refine wp_ist5 (pc' := 139) dX7_rate_137 rfl (by decide) rfl ?_
        refine wp_iload (pc' := 141) dX7_rate_139 rfl rfl ?_
        refine wp_aload_n (pc' := 142) dX7_rate_141 rfl rfl ⟨_, rfl⟩ ?_
        refine wp_iload_n (pc' := 143) dX7_rate_142 rfl rfl ?_
        refine wp_cVI (μ' := mX7_laidBy) (pc' := 146) (o := 25) dX7_rate_143 rfl mlX7_144 cfX7_laidBy ⟨(Nat.le_of_ble_eq_true rfl), (Nat.le_of_ble_eq_true rfl)⟩ (sm_laidBy (M := upT (setO (th M) 34 f) 25 (M.2 25 + 11)) (N := N) h.1 h.2.1) (by decide) rfl rfl rfl rfl rfl (Nat.le_of_ble_eq_true rfl) ?_
        refine wp_isub (pc' := 147) dX7_rate_146 rfl ?_
        refine wp_ist6 (pc' := 149) dX7_rate_147 rfl (by decide) rfl ?_
        refine wp_iload_n (pc' := 150) dX7_rate_149 rfl rfl ?_
        refine wp_if_ne (pc' := 153) 158 dX7_rate_150 rfl (by decide) (fun _ => ?_) (fun hh => absurd hh (by decide))
        refine wp_iload_n (pc' := 159) dX7_rate_158 rfl rfl ?_
        refine wp_iconst (pc' := 160) 1 dX7_rate_159 rfl (by decide) ?_
        refine wp_icmp_ne (pc' := 163) 168 dX7_rate_160 rfl (by decide) (fun hh => absurd hh (by decide)) (fun _ => ?_)
        refine wp_iload (pc' := 165) dX7_rate_163 rfl rfl ?_
        refine wp_goto 227 dX7_rate_165 (by decide) ?_
        refine wp_ireti dX7_rate_227 rfl ?_
        exact ⟨_, rfl, (by rw [show mstp M N w a b = dvM M N w a b from if_neg q51]; try rfl), f, rfl⟩
      · refine wp_iconst (pc' := 55) 0 dX7_rate_54 rfl (by decide) ?_
        refine wp_goto 59 dX7_rate_55 (by decide) ?_
        refine wp_ist4 (pc' := 61) dX7_rate_59 rfl (by decide) rfl ?_
        refine wp_aload_n (pc' := 62) dX7_rate_61 rfl rfl ⟨_, rfl⟩ ?_
        refine wp_dup (pc' := 63) dX7_rate_62 rfl rfl ?_
        refine wp_get (pc' := 66) (o := 25) dX7_rate_63 rfl flX7_203 (by decide) rfl rfl ?_
        refine wp_iload_n (pc' := 67) dX7_rate_66 rfl rfl ?_
        refine wp_if_ne (pc' := 70) 74 dX7_rate_67 rfl (by decide) (fun _ => ?_) (fun hh => absurd hh (by decide))
        refine wp_iload_n (pc' := 75) dX7_rate_74 rfl rfl ?_
        refine wp_iconst (pc' := 76) 1 dX7_rate_75 rfl (by decide) ?_
        refine wp_icmp_ne (pc' := 79) 85 dX7_rate_76 rfl (by decide) (fun hh => absurd hh (by decide)) (fun _ => ?_)
        refine wp_ldc2 (pc' := 82) (11) dX7_rate_79 rfl (wR29 _ (List.mem_of_getElem? (i := 7) rfl)) ?_
        refine wp_goto 121 dX7_rate_82 (by decide) ?_
        refine wp_ladd (pc' := 122) dX7_rate_121 rfl ?_
        refine wp_putl (pc' := 125) (o := 25) dX7_rate_122 rfl fpX7_203 (by decide) rfl (Nat.le_of_ble_eq_true rfl) rfl ?_
        refine wp_iload (pc' := 127) dX7_rate_125 rfl rfl ?_
        refine wp_aload_n (pc' := 128) dX7_rate_127 rfl rfl ⟨_, rfl⟩ ?_
        refine wp_get (pc' := 131) (o := 25) dX7_rate_128 rfl flX7_25 (by decide) rfl rfl ?_
        refine wp_bipush (pc' := 133) 72 dX7_rate_131 rfl (by decide) ?_
        refine wp_iload_n (pc' := 134) dX7_rate_133 rfl rfl ?_
        refine wp_iadd (pc' := 135) dX7_rate_134 rfl ?_
        refine wp_ialdN (pc' := 136) (o := 31) (n := 76) (72 + k) dX7_rate_135 rfl (by decide) rfl (nI_add 72 k) (by omega) (by decide) ?_
        refine wp_iadd (pc' := 137) dX7_rate_136 rfl ?_
        refine wp_ist5 (pc' := 139) dX7_rate_137 rfl (by decide) rfl ?_
        refine wp_iload (pc' := 141) dX7_rate_139 rfl rfl ?_
        refine wp_aload_n (pc' := 142) dX7_rate_141 rfl rfl ⟨_, rfl⟩ ?_
        refine wp_iload_n (pc' := 143) dX7_rate_142 rfl rfl ?_
        refine wp_cVI (μ' := mX7_laidBy) (pc' := 146) (o := 25) dX7_rate_143 rfl mlX7_144 cfX7_laidBy ⟨(Nat.le_of_ble_eq_true rfl), (Nat.le_of_ble_eq_true rfl)⟩ (sm_laidBy (M := upT (setO (th M) 34 f) 25 (M.2 25 + 11)) (N := N) h.1 h.2.1) (by decide) rfl rfl rfl rfl rfl (Nat.le_of_ble_eq_true rfl) ?_
        refine wp_isub (pc' := 147) dX7_rate_146 rfl ?_
        refine wp_ist6 (pc' := 149) dX7_rate_147 rfl (by decide) rfl ?_
        refine wp_iload_n (pc' := 150) dX7_rate_149 rfl rfl ?_
        refine wp_if_ne (pc' := 153) 158 dX7_rate_150 rfl (by decide) (fun _ => ?_) (fun hh => absurd hh (by decide))
        refine wp_iload_n (pc' := 159) dX7_rate_158 rfl rfl ?_
        refine wp_iconst (pc' := 160) 1 dX7_rate_159 rfl (by decide) ?_
        refine wp_icmp_ne (pc' := 163) 168 dX7_rate_160 rfl (by decide) (fun hh => absurd hh (by decide)) (fun _ => ?_)
        refine wp_iload (pc' := 165) dX7_rate_163 rfl rfl ?_
        refine wp_goto 227 dX7_rate_165 (by decide) ?_
        refine wp_ireti dX7_rate_227 rfl ?_
        exact ⟨_, rfl, (by rw [show mstp M N w a b = 0 from if_pos q51]; try rfl), f, rfl⟩
    · exact absurd (Or.inr q19) hg
theorem sm_rate2 {g : GG} {M : Mem} {N w k a b : Nat} (h : MW M N w) (hE : EN M N k a b) (hg : ¬ (inF 2 0 5 = 0 ∨ mWalkF M (nI k) = 0)) : SI g mX7_rate [ob g 25, .int 2, .int (nI k)] M (fun x m => x = (mstp M N w a b - mlbF (M.1 31) (nI k) N 0 0) ∧ ∃ f, m = upT (setO (th M) 34 f) 25 (M.2 25 + 101)) := by
  have hk := hE.2.2.2.2
  refine spec_of_wp (ls := [some (ob g 25), some (.int 2), some (.int (nI k)), none, none, none, none]) rfl (Nat.le_of_ble_eq_true rfl) 4 rfl ?_
  refine wp_aload_n (pc' := 1) dX7_rate_0 rfl rfl ⟨_, rfl⟩ ?_
  refine wp_iconst (pc' := 2) 0 dX7_rate_1 rfl (by decide) ?_
  refine wp_put (pc' := 5) (o := 25) dX7_rate_2 rfl fpX7_47 (by decide) rfl (Nat.le_of_ble_eq_true rfl) rfl ?_
  refine wp_iload_n (pc' := 6) dX7_rate_5 rfl rfl ?_
  refine wp_iconst (pc' := 7) 0 dX7_rate_6 rfl (by decide) ?_
  refine wp_iconst (pc' := 8) 5 dX7_rate_7 rfl (by decide) ?_
  refine wp_cSI (μ' := mX7_in) (pc' := 11) dX7_rate_8 rfl mlX7_57 cfX7_in ⟨(Nat.le_of_ble_eq_true rfl), (Nat.le_of_ble_eq_true rfl)⟩ (sm_in) rfl rfl (Nat.le_of_ble_eq_true rfl) ?_
  refine wp_if_eq (pc' := 14) 22 dX7_rate_11 rfl (by decide) (fun q11 => ?_) (fun q11 => ?_)
  · exact absurd (Or.inl q11) hg
  · refine wp_aload_n (pc' := 15) dX7_rate_14 rfl rfl ⟨_, rfl⟩ ?_
    refine wp_iload_n (pc' := 16) dX7_rate_15 rfl rfl ?_
    refine wp_cVI (μ' := mX7_isWalker) (pc' := 19) (o := 25) dX7_rate_16 rfl mlX7_141 cfX7_isWalker ⟨(Nat.le_of_ble_eq_true rfl), (Nat.le_of_ble_eq_true rfl)⟩ (sm_isWalker) (by decide) rfl rfl rfl rfl rfl (Nat.le_of_ble_eq_true rfl) ?_
    refine wp_if_ne (pc' := 22) 25 dX7_rate_19 rfl (by decide) (fun q19 => ?_) (fun q19 => ?_)
    · refine wp_aload_n (pc' := 26) dX7_rate_25 rfl rfl ⟨_, rfl⟩ ?_
      refine wp_aload_n (pc' := 27) dX7_rate_26 rfl rfl ⟨_, rfl⟩ ?_
      refine wp_get (pc' := 30) (o := 25) dX7_rate_27 rfl flX7_19 (by decide) rfl rfl ?_
      refine wp_iconst (pc' := 31) 2 dX7_rate_30 rfl (by decide) ?_
      refine wp_iload_n (pc' := 32) dX7_rate_31 rfl rfl ?_
      refine wp_imul (pc' := 33) dX7_rate_32 rfl ?_
      refine wp_ialdN (pc' := 34) (o := 29) (n := 8) (2 * k) dX7_rate_33 rfl (by decide) rfl (by rw [show (2 : Int32) = nI 2 from rfl, pk_mul]) (by omega) (by decide) ?_
      refine wp_top (hE.1) ?_
      refine wp_aload_n (pc' := 35) dX7_rate_34 rfl rfl ⟨_, rfl⟩ ?_
      refine wp_get (pc' := 38) (o := 25) dX7_rate_35 rfl flX7_19 (by decide) rfl rfl ?_
      refine wp_iconst (pc' := 39) 2 dX7_rate_38 rfl (by decide) ?_
      refine wp_iload_n (pc' := 40) dX7_rate_39 rfl rfl ?_
      refine wp_imul (pc' := 41) dX7_rate_40 rfl ?_
      refine wp_iconst (pc' := 42) 1 dX7_rate_41 rfl (by decide) ?_
      refine wp_iadd (pc' := 43) dX7_rate_42 rfl ?_
      refine wp_ialdN (pc' := 44) (o := 29) (n := 8) (2 * k + 1) dX7_rate_43 rfl (by decide) rfl (by rw [show (2 : Int32) = nI 2 from rfl, pk_mul]; exact nI_1 (2 * k)) (by omega) (by decide) ?_
      refine wp_top (hE.2.1) ?_
      refine wp_sVI (μ' := mX7_stepsOf) (pc' := 47) (o := 25) dX7_rate_44 rfl mlX7_159 cfX7_stepsOf ⟨(Nat.le_of_ble_eq_true rfl), (Nat.le_of_ble_eq_true rfl)⟩ (sm_stepsOf (M := th M) (N := N) (w := w) h hE.2.2.1 hE.2.2.2.1) (by decide) rfl rfl rfl rfl rfl (Nat.le_of_ble_eq_true rfl) (fun x m hm => ?_)
      obtain ⟨hx, f, rfl, hR⟩ := hm
      change x = dvM M N w a b at hx
      subst hx
      refine wp_ist3 (pc' := 48) dX7_rate_47 rfl (by decide) rfl ?_
      refine wp_iload_n (pc' := 49) dX7_rate_48 rfl rfl ?_
      refine wp_bipush (pc' := 51) (-9) dX7_rate_49 rfl (by decide) ?_
      refine wp_icmp_ne (pc' := 54) 58 dX7_rate_51 rfl (by decide) (fun q51 => ?_) (fun q51 => ?_)
      · refine wp_iload_n (pc' := 59) dX7_rate_58 rfl rfl ?_
        refine wp_ist4 (pc' := 61) dX7_rate_59 rfl (by decide) rfl ?_
        refine wp_aload_n (pc' := 62) dX7_rate_61 rfl rfl ⟨_, rfl⟩ ?_
        refine wp_dup (pc' := 63) dX7_rate_62 rfl rfl ?_
        refine wp_get (pc' := 66) (o := 25) dX7_rate_63 rfl flX7_203 (by decide) rfl rfl ?_
        refine wp_iload_n (pc' := 67) dX7_rate_66 rfl rfl ?_
        refine wp_if_ne (pc' := 70) 74 dX7_rate_67 rfl (by decide) (fun _ => ?_) (fun hh => absurd hh (by decide))
        refine wp_iload_n (pc' := 75) dX7_rate_74 rfl rfl ?_
        refine wp_iconst (pc' := 76) 1 dX7_rate_75 rfl (by decide) ?_
        refine wp_icmp_ne (pc' := 79) 85 dX7_rate_76 rfl (by decide) (fun _ => ?_) (fun hh => absurd hh (by decide))
        refine wp_iload_n (pc' := 86) dX7_rate_85 rfl rfl ?_
        refine wp_iconst (pc' := 87) 2 dX7_rate_86 rfl (by decide) ?_
        refine wp_icmp_ne (pc' := 90) 96 dX7_rate_87 rfl (by decide) (fun hh => absurd hh (by decide)) (fun _ => ?_)
        refine wp_ldc2 (pc' := 93) (101) dX7_rate_90 rfl (wR29 _ (List.mem_of_getElem? (i := 8) rfl)) ?_
        refine wp_goto 121 dX7_rate_93 (by decide) ?_
        refine wp_ladd (pc' := 122) dX7_rate_121 rfl ?_
        refine wp_putl (pc' := 125) (o := 25) dX7_rate_122 rfl fpX7_203 (by decide) rfl (Nat.le_of_ble_eq_true rfl) rfl ?_
        refine wp_iload (pc' := 127) dX7_rate_125 rfl rfl ?_
        refine wp_aload_n (pc' := 128) dX7_rate_127 rfl rfl ⟨_, rfl⟩ ?_
        refine wp_get (pc' := 131) (o := 25) dX7_rate_128 rfl flX7_25 (by decide) rfl rfl ?_
        refine wp_bipush (pc' := 133) 72 dX7_rate_131 rfl (by decide) ?_
        refine wp_iload_n (pc' := 134) dX7_rate_133 rfl rfl ?_
        refine wp_iadd (pc' := 135) dX7_rate_134 rfl ?_
        refine wp_ialdN (pc' := 136) (o := 31) (n := 76) (72 + k) dX7_rate_135 rfl (by decide) rfl (nI_add 72 k) (by omega) (by decide) ?_
        refine wp_iadd (pc' := 137) dX7_rate_136 rfl ?_
        refine wp_ist5 (pc' := 139) dX7_rate_137 rfl (by decide) rfl ?_
        refine wp_iload (pc' := 141) dX7_rate_139 rfl rfl ?_
        refine wp_aload_n (pc' := 142) dX7_rate_141 rfl rfl ⟨_, rfl⟩ ?_
        refine wp_iload_n (pc' := 143) dX7_rate_142 rfl rfl ?_
        refine wp_cVI (μ' := mX7_laidBy) (pc' := 146) (o := 25) dX7_rate_143 rfl mlX7_144 cfX7_laidBy ⟨(Nat.le_of_ble_eq_true rfl), (Nat.le_of_ble_eq_true rfl)⟩ (sm_laidBy (M := upT (setO (th M) 34 f) 25 (M.2 25 + 101)) (N := N) h.1 h.2.1) (by decide) rfl rfl rfl rfl rfl (Nat.le_of_ble_eq_true rfl) ?_
        refine wp_isub (pc' := 147) dX7_rate_146 rfl ?_
        refine wp_ist6 (pc' := 149) dX7_rate_147 rfl (by decide) rfl ?_
        refine wp_iload_n (pc' := 150) dX7_rate_149 rfl rfl ?_
        refine wp_if_ne (pc' := 153) 158 dX7_rate_150 rfl (by decide) (fun _ => ?_) (fun hh => absurd hh (by decide))
        refine wp_iload_n (pc' := 159) dX7_rate_158 rfl rfl ?_
        refine wp_iconst (pc' := 160) 1 dX7_rate_159 rfl (by decide) ?_
        refine wp_icmp_ne (pc' := 163) 168 dX7_rate_160 rfl (by decide) (fun _ => ?_) (fun hh => absurd hh (by decide))
        refine wp_iload_n (pc' := 169) dX7_rate_168 rfl rfl ?_
        refine wp_iconst (pc' := 170) 2 dX7_rate_169 rfl (by decide) ?_
        refine wp_icmp_ne (pc' := 173) 178 dX7_rate_170 rfl (by decide) (fun hh => absurd hh (by decide)) (fun _ => ?_)
        refine wp_iload (pc' := 175) dX7_rate_173 rfl rfl ?_
        refine wp_goto 227 dX7_rate_175 (by decide) ?_
        refine wp_ireti dX7_rate_227 rfl ?_
        exact ⟨_, rfl, (by rw [show mstp M N w a b = dvM M N w a b from if_neg q51]; try rfl), f, rfl⟩
      · refine wp_iconst (pc' := 55) 0 dX7_rate_54 rfl (by decide) ?_
        refine wp_goto 59 dX7_rate_55 (by decide) ?_
        refine wp_ist4 (pc' := 61) dX7_rate_59 rfl (by decide) rfl ?_
        refine wp_aload_n (pc' := 62) dX7_rate_61 rfl rfl ⟨_, rfl⟩ ?_
        refine wp_dup (pc' := 63) dX7_rate_62 rfl rfl ?_
        refine wp_get (pc' := 66) (o := 25) dX7_rate_63 rfl flX7_203 (by decide) rfl rfl ?_
        refine wp_iload_n (pc' := 67) dX7_rate_66 rfl rfl ?_
        refine wp_if_ne (pc' := 70) 74 dX7_rate_67 rfl (by decide) (fun _ => ?_) (fun hh => absurd hh (by decide))
        refine wp_iload_n (pc' := 75) dX7_rate_74 rfl rfl ?_
        refine wp_iconst (pc' := 76) 1 dX7_rate_75 rfl (by decide) ?_
        refine wp_icmp_ne (pc' := 79) 85 dX7_rate_76 rfl (by decide) (fun _ => ?_) (fun hh => absurd hh (by decide))
        refine wp_iload_n (pc' := 86) dX7_rate_85 rfl rfl ?_
        refine wp_iconst (pc' := 87) 2 dX7_rate_86 rfl (by decide) ?_
        refine wp_icmp_ne (pc' := 90) 96 dX7_rate_87 rfl (by decide) (fun hh => absurd hh (by decide)) (fun _ => ?_)
        refine wp_ldc2 (pc' := 93) (101) dX7_rate_90 rfl (wR29 _ (List.mem_of_getElem? (i := 8) rfl)) ?_
        refine wp_goto 121 dX7_rate_93 (by decide) ?_
        refine wp_ladd (pc' := 122) dX7_rate_121 rfl ?_
        refine wp_putl (pc' := 125) (o := 25) dX7_rate_122 rfl fpX7_203 (by decide) rfl (Nat.le_of_ble_eq_true rfl) rfl ?_
        refine wp_iload (pc' := 127) dX7_rate_125 rfl rfl ?_
        refine wp_aload_n (pc' := 128) dX7_rate_127 rfl rfl ⟨_, rfl⟩ ?_
        refine wp_get (pc' := 131) (o := 25) dX7_rate_128 rfl flX7_25 (by decide) rfl rfl ?_
        refine wp_bipush (pc' := 133) 72 dX7_rate_131 rfl (by decide) ?_
        refine wp_iload_n (pc' := 134) dX7_rate_133 rfl rfl ?_
        refine wp_iadd (pc' := 135) dX7_rate_134 rfl ?_
        refine wp_ialdN (pc' := 136) (o := 31) (n := 76) (72 + k) dX7_rate_135 rfl (by decide) rfl (nI_add 72 k) (by omega) (by decide) ?_
        refine wp_iadd (pc' := 137) dX7_rate_136 rfl ?_
        refine wp_ist5 (pc' := 139) dX7_rate_137 rfl (by decide) rfl ?_
        refine wp_iload (pc' := 141) dX7_rate_139 rfl rfl ?_
        refine wp_aload_n (pc' := 142) dX7_rate_141 rfl rfl ⟨_, rfl⟩ ?_
        refine wp_iload_n (pc' := 143) dX7_rate_142 rfl rfl ?_
        refine wp_cVI (μ' := mX7_laidBy) (pc' := 146) (o := 25) dX7_rate_143 rfl mlX7_144 cfX7_laidBy ⟨(Nat.le_of_ble_eq_true rfl), (Nat.le_of_ble_eq_true rfl)⟩ (sm_laidBy (M := upT (setO (th M) 34 f) 25 (M.2 25 + 101)) (N := N) h.1 h.2.1) (by decide) rfl rfl rfl rfl rfl (Nat.le_of_ble_eq_true rfl) ?_
        refine wp_isub (pc' := 147) dX7_rate_146 rfl ?_
        refine wp_ist6 (pc' := 149) dX7_rate_147 rfl (by decide) rfl ?_
        refine wp_iload_n (pc' := 150) dX7_rate_149 rfl rfl ?_
        refine wp_if_ne (pc' := 153) 158 dX7_rate_150 rfl (by decide) (fun _ => ?_) (fun hh => absurd hh (by decide))
        refine wp_iload_n (pc' := 159) dX7_rate_158 rfl rfl ?_
        refine wp_iconst (pc' := 160) 1 dX7_rate_159 rfl (by decide) ?_
        refine wp_icmp_ne (pc' := 163) 168 dX7_rate_160 rfl (by decide) (fun _ => ?_) (fun hh => absurd hh (by decide))
        refine wp_iload_n (pc' := 169) dX7_rate_168 rfl rfl ?_
        refine wp_iconst (pc' := 170) 2 dX7_rate_169 rfl (by decide) ?_
        refine wp_icmp_ne (pc' := 173) 178 dX7_rate_170 rfl (by decide) (fun hh => absurd hh (by decide)) (fun _ => ?_)
        refine wp_iload (pc' := 175) dX7_rate_173 rfl rfl ?_
        refine wp_goto 227 dX7_rate_175 (by decide) ?_
        refine wp_ireti dX7_rate_227 rfl ?_
        exact ⟨_, rfl, (by rw [show mstp M N w a b = 0 from if_pos q51]; try rfl), f, rfl⟩
    · exact absurd (Or.inr q19) hg
theorem sm_rate3 {g : GG} {M : Mem} {N w k a b : Nat} (h : MW M N w) (hE : EN M N k a b) (hg : ¬ (inF 3 0 5 = 0 ∨ mWalkF M (nI k) = 0)) : SI g mX7_rate [ob g 25, .int 3, .int (nI k)] M (fun x m => x = 2 * (mstp M N w a b + M.1 31 (72 + k)) ∧ ∃ f, m = upT (setO (th M) 34 f) 25 (M.2 25 + 1011)) := by
  have hk := hE.2.2.2.2
  refine spec_of_wp (ls := [some (ob g 25), some (.int 3), some (.int (nI k)), none, none, none, none]) rfl (Nat.le_of_ble_eq_true rfl) 4 rfl ?_
  refine wp_aload_n (pc' := 1) dX7_rate_0 rfl rfl ⟨_, rfl⟩ ?_
  refine wp_iconst (pc' := 2) 0 dX7_rate_1 rfl (by decide) ?_
  refine wp_put (pc' := 5) (o := 25) dX7_rate_2 rfl fpX7_47 (by decide) rfl (Nat.le_of_ble_eq_true rfl) rfl ?_
  refine wp_iload_n (pc' := 6) dX7_rate_5 rfl rfl ?_
  refine wp_iconst (pc' := 7) 0 dX7_rate_6 rfl (by decide) ?_
  refine wp_iconst (pc' := 8) 5 dX7_rate_7 rfl (by decide) ?_
  refine wp_cSI (μ' := mX7_in) (pc' := 11) dX7_rate_8 rfl mlX7_57 cfX7_in ⟨(Nat.le_of_ble_eq_true rfl), (Nat.le_of_ble_eq_true rfl)⟩ (sm_in) rfl rfl (Nat.le_of_ble_eq_true rfl) ?_
  refine wp_if_eq (pc' := 14) 22 dX7_rate_11 rfl (by decide) (fun q11 => ?_) (fun q11 => ?_)
  · exact absurd (Or.inl q11) hg
  · refine wp_aload_n (pc' := 15) dX7_rate_14 rfl rfl ⟨_, rfl⟩ ?_
    refine wp_iload_n (pc' := 16) dX7_rate_15 rfl rfl ?_
    refine wp_cVI (μ' := mX7_isWalker) (pc' := 19) (o := 25) dX7_rate_16 rfl mlX7_141 cfX7_isWalker ⟨(Nat.le_of_ble_eq_true rfl), (Nat.le_of_ble_eq_true rfl)⟩ (sm_isWalker) (by decide) rfl rfl rfl rfl rfl (Nat.le_of_ble_eq_true rfl) ?_
    refine wp_if_ne (pc' := 22) 25 dX7_rate_19 rfl (by decide) (fun q19 => ?_) (fun q19 => ?_)
    · refine wp_aload_n (pc' := 26) dX7_rate_25 rfl rfl ⟨_, rfl⟩ ?_
      refine wp_aload_n (pc' := 27) dX7_rate_26 rfl rfl ⟨_, rfl⟩ ?_
      refine wp_get (pc' := 30) (o := 25) dX7_rate_27 rfl flX7_19 (by decide) rfl rfl ?_
      refine wp_iconst (pc' := 31) 2 dX7_rate_30 rfl (by decide) ?_
      refine wp_iload_n (pc' := 32) dX7_rate_31 rfl rfl ?_
      refine wp_imul (pc' := 33) dX7_rate_32 rfl ?_
      refine wp_ialdN (pc' := 34) (o := 29) (n := 8) (2 * k) dX7_rate_33 rfl (by decide) rfl (by rw [show (2 : Int32) = nI 2 from rfl, pk_mul]) (by omega) (by decide) ?_
      refine wp_top (hE.1) ?_
      refine wp_aload_n (pc' := 35) dX7_rate_34 rfl rfl ⟨_, rfl⟩ ?_
      refine wp_get (pc' := 38) (o := 25) dX7_rate_35 rfl flX7_19 (by decide) rfl rfl ?_
      refine wp_iconst (pc' := 39) 2 dX7_rate_38 rfl (by decide) ?_
      refine wp_iload_n (pc' := 40) dX7_rate_39 rfl rfl ?_
      refine wp_imul (pc' := 41) dX7_rate_40 rfl ?_
      refine wp_iconst (pc' := 42) 1 dX7_rate_41 rfl (by decide) ?_
      refine wp_iadd (pc' := 43) dX7_rate_42 rfl ?_
      refine wp_ialdN (pc' := 44) (o := 29) (n := 8) (2 * k + 1) dX7_rate_43 rfl (by decide) rfl (by rw [show (2 : Int32) = nI 2 from rfl, pk_mul]; exact nI_1 (2 * k)) (by omega) (by decide) ?_
      refine wp_top (hE.2.1) ?_
      refine wp_sVI (μ' := mX7_stepsOf) (pc' := 47) (o := 25) dX7_rate_44 rfl mlX7_159 cfX7_stepsOf ⟨(Nat.le_of_ble_eq_true rfl), (Nat.le_of_ble_eq_true rfl)⟩ (sm_stepsOf (M := th M) (N := N) (w := w) h hE.2.2.1 hE.2.2.2.1) (by decide) rfl rfl rfl rfl rfl (Nat.le_of_ble_eq_true rfl) (fun x m hm => ?_)
      obtain ⟨hx, f, rfl, hR⟩ := hm
      change x = dvM M N w a b at hx
      subst hx
      refine wp_ist3 (pc' := 48) dX7_rate_47 rfl (by decide) rfl ?_
      refine wp_iload_n (pc' := 49) dX7_rate_48 rfl rfl ?_
      refine wp_bipush (pc' := 51) (-9) dX7_rate_49 rfl (by decide) ?_
      refine wp_icmp_ne (pc' := 54) 58 dX7_rate_51 rfl (by decide) (fun q51 => ?_) (fun q51 => ?_)
      · refine wp_iload_n (pc' := 59) dX7_rate_58 rfl rfl ?_
        refine wp_ist4 (pc' := 61) dX7_rate_59 rfl (by decide) rfl ?_
        refine wp_aload_n (pc' := 62) dX7_rate_61 rfl rfl ⟨_, rfl⟩ ?_
        refine wp_dup (pc' := 63) dX7_rate_62 rfl rfl ?_
        refine wp_get (pc' := 66) (o := 25) dX7_rate_63 rfl flX7_203 (by decide) rfl rfl ?_
        refine wp_iload_n (pc' := 67) dX7_rate_66 rfl rfl ?_
        refine wp_if_ne (pc' := 70) 74 dX7_rate_67 rfl (by decide) (fun _ => ?_) (fun hh => absurd hh (by decide))
        refine wp_iload_n (pc' := 75) dX7_rate_74 rfl rfl ?_
        refine wp_iconst (pc' := 76) 1 dX7_rate_75 rfl (by decide) ?_
        refine wp_icmp_ne (pc' := 79) 85 dX7_rate_76 rfl (by decide) (fun _ => ?_) (fun hh => absurd hh (by decide))
        refine wp_iload_n (pc' := 86) dX7_rate_85 rfl rfl ?_
        refine wp_iconst (pc' := 87) 2 dX7_rate_86 rfl (by decide) ?_
        refine wp_icmp_ne (pc' := 90) 96 dX7_rate_87 rfl (by decide) (fun _ => ?_) (fun hh => absurd hh (by decide))
        refine wp_iload_n (pc' := 97) dX7_rate_96 rfl rfl ?_
        refine wp_iconst (pc' := 98) 3 dX7_rate_97 rfl (by decide) ?_
        refine wp_icmp_ne (pc' := 101) 107 dX7_rate_98 rfl (by decide) (fun hh => absurd hh (by decide)) (fun _ => ?_)
        refine wp_ldc2 (pc' := 104) (1011) dX7_rate_101 rfl (wR29 _ (List.mem_of_getElem? (i := 9) rfl)) ?_
        refine wp_goto 121 dX7_rate_104 (by decide) ?_
        refine wp_ladd (pc' := 122) dX7_rate_121 rfl ?_
        refine wp_putl (pc' := 125) (o := 25) dX7_rate_122 rfl fpX7_203 (by decide) rfl (Nat.le_of_ble_eq_true rfl) rfl ?_
        refine wp_iload (pc' := 127) dX7_rate_125 rfl rfl ?_
        refine wp_aload_n (pc' := 128) dX7_rate_127 rfl rfl ⟨_, rfl⟩ ?_
        refine wp_get (pc' := 131) (o := 25) dX7_rate_128 rfl flX7_25 (by decide) rfl rfl ?_
        refine wp_bipush (pc' := 133) 72 dX7_rate_131 rfl (by decide) ?_
        refine wp_iload_n (pc' := 134) dX7_rate_133 rfl rfl ?_
        refine wp_iadd (pc' := 135) dX7_rate_134 rfl ?_
        refine wp_ialdN (pc' := 136) (o := 31) (n := 76) (72 + k) dX7_rate_135 rfl (by decide) rfl (nI_add 72 k) (by omega) (by decide) ?_
        refine wp_iadd (pc' := 137) dX7_rate_136 rfl ?_
        refine wp_ist5 (pc' := 139) dX7_rate_137 rfl (by decide) rfl ?_
        refine wp_iload (pc' := 141) dX7_rate_139 rfl rfl ?_
        refine wp_aload_n (pc' := 142) dX7_rate_141 rfl rfl ⟨_, rfl⟩ ?_
        refine wp_iload_n (pc' := 143) dX7_rate_142 rfl rfl ?_
        refine wp_cVI (μ' := mX7_laidBy) (pc' := 146) (o := 25) dX7_rate_143 rfl mlX7_144 cfX7_laidBy ⟨(Nat.le_of_ble_eq_true rfl), (Nat.le_of_ble_eq_true rfl)⟩ (sm_laidBy (M := upT (setO (th M) 34 f) 25 (M.2 25 + 1011)) (N := N) h.1 h.2.1) (by decide) rfl rfl rfl rfl rfl (Nat.le_of_ble_eq_true rfl) ?_
        refine wp_isub (pc' := 147) dX7_rate_146 rfl ?_
        refine wp_ist6 (pc' := 149) dX7_rate_147 rfl (by decide) rfl ?_
        refine wp_iload_n (pc' := 150) dX7_rate_149 rfl rfl ?_
        refine wp_if_ne (pc' := 153) 158 dX7_rate_150 rfl (by decide) (fun _ => ?_) (fun hh => absurd hh (by decide))
        refine wp_iload_n (pc' := 159) dX7_rate_158 rfl rfl ?_
        refine wp_iconst (pc' := 160) 1 dX7_rate_159 rfl (by decide) ?_
        refine wp_icmp_ne (pc' := 163) 168 dX7_rate_160 rfl (by decide) (fun _ => ?_) (fun hh => absurd hh (by decide))
        refine wp_iload_n (pc' := 169) dX7_rate_168 rfl rfl ?_
        refine wp_iconst (pc' := 170) 2 dX7_rate_169 rfl (by decide) ?_
        refine wp_icmp_ne (pc' := 173) 178 dX7_rate_170 rfl (by decide) (fun _ => ?_) (fun hh => absurd hh (by decide))
        refine wp_iload_n (pc' := 179) dX7_rate_178 rfl rfl ?_
        refine wp_iconst (pc' := 180) 3 dX7_rate_179 rfl (by decide) ?_
        refine wp_icmp_ne (pc' := 183) 190 dX7_rate_180 rfl (by decide) (fun hh => absurd hh (by decide)) (fun _ => ?_)
        refine wp_iconst (pc' := 184) 2 dX7_rate_183 rfl (by decide) ?_
        refine wp_iload (pc' := 186) dX7_rate_184 rfl rfl ?_
        refine wp_imul (pc' := 187) dX7_rate_186 rfl ?_
        refine wp_goto 227 dX7_rate_187 (by decide) ?_
        refine wp_ireti dX7_rate_227 rfl ?_
        exact ⟨_, rfl, (by rw [show mstp M N w a b = dvM M N w a b from if_neg q51]; try rfl), f, rfl⟩
      · refine wp_iconst (pc' := 55) 0 dX7_rate_54 rfl (by decide) ?_
        refine wp_goto 59 dX7_rate_55 (by decide) ?_
        refine wp_ist4 (pc' := 61) dX7_rate_59 rfl (by decide) rfl ?_
        refine wp_aload_n (pc' := 62) dX7_rate_61 rfl rfl ⟨_, rfl⟩ ?_
        refine wp_dup (pc' := 63) dX7_rate_62 rfl rfl ?_
        refine wp_get (pc' := 66) (o := 25) dX7_rate_63 rfl flX7_203 (by decide) rfl rfl ?_
        refine wp_iload_n (pc' := 67) dX7_rate_66 rfl rfl ?_
        refine wp_if_ne (pc' := 70) 74 dX7_rate_67 rfl (by decide) (fun _ => ?_) (fun hh => absurd hh (by decide))
        refine wp_iload_n (pc' := 75) dX7_rate_74 rfl rfl ?_
        refine wp_iconst (pc' := 76) 1 dX7_rate_75 rfl (by decide) ?_
        refine wp_icmp_ne (pc' := 79) 85 dX7_rate_76 rfl (by decide) (fun _ => ?_) (fun hh => absurd hh (by decide))
        refine wp_iload_n (pc' := 86) dX7_rate_85 rfl rfl ?_
        refine wp_iconst (pc' := 87) 2 dX7_rate_86 rfl (by decide) ?_
        refine wp_icmp_ne (pc' := 90) 96 dX7_rate_87 rfl (by decide) (fun _ => ?_) (fun hh => absurd hh (by decide))
        refine wp_iload_n (pc' := 97) dX7_rate_96 rfl rfl ?_
        refine wp_iconst (pc' := 98) 3 dX7_rate_97 rfl (by decide) ?_
        refine wp_icmp_ne (pc' := 101) 107 dX7_rate_98 rfl (by decide) (fun hh => absurd hh (by decide)) (fun _ => ?_)
        refine wp_ldc2 (pc' := 104) (1011) dX7_rate_101 rfl (wR29 _ (List.mem_of_getElem? (i := 9) rfl)) ?_
        refine wp_goto 121 dX7_rate_104 (by decide) ?_
        refine wp_ladd (pc' := 122) dX7_rate_121 rfl ?_
        refine wp_putl (pc' := 125) (o := 25) dX7_rate_122 rfl fpX7_203 (by decide) rfl (Nat.le_of_ble_eq_true rfl) rfl ?_
        refine wp_iload (pc' := 127) dX7_rate_125 rfl rfl ?_
        refine wp_aload_n (pc' := 128) dX7_rate_127 rfl rfl ⟨_, rfl⟩ ?_
        refine wp_get (pc' := 131) (o := 25) dX7_rate_128 rfl flX7_25 (by decide) rfl rfl ?_
        refine wp_bipush (pc' := 133) 72 dX7_rate_131 rfl (by decide) ?_
        refine wp_iload_n (pc' := 134) dX7_rate_133 rfl rfl ?_
        refine wp_iadd (pc' := 135) dX7_rate_134 rfl ?_
        refine wp_ialdN (pc' := 136) (o := 31) (n := 76) (72 + k) dX7_rate_135 rfl (by decide) rfl (nI_add 72 k) (by omega) (by decide) ?_
        refine wp_iadd (pc' := 137) dX7_rate_136 rfl ?_
        refine wp_ist5 (pc' := 139) dX7_rate_137 rfl (by decide) rfl ?_
        refine wp_iload (pc' := 141) dX7_rate_139 rfl rfl ?_
        refine wp_aload_n (pc' := 142) dX7_rate_141 rfl rfl ⟨_, rfl⟩ ?_
        refine wp_iload_n (pc' := 143) dX7_rate_142 rfl rfl ?_
        refine wp_cVI (μ' := mX7_laidBy) (pc' := 146) (o := 25) dX7_rate_143 rfl mlX7_144 cfX7_laidBy ⟨(Nat.le_of_ble_eq_true rfl), (Nat.le_of_ble_eq_true rfl)⟩ (sm_laidBy (M := upT (setO (th M) 34 f) 25 (M.2 25 + 1011)) (N := N) h.1 h.2.1) (by decide) rfl rfl rfl rfl rfl (Nat.le_of_ble_eq_true rfl) ?_
        refine wp_isub (pc' := 147) dX7_rate_146 rfl ?_
        refine wp_ist6 (pc' := 149) dX7_rate_147 rfl (by decide) rfl ?_
        refine wp_iload_n (pc' := 150) dX7_rate_149 rfl rfl ?_
        refine wp_if_ne (pc' := 153) 158 dX7_rate_150 rfl (by decide) (fun _ => ?_) (fun hh => absurd hh (by decide))
        refine wp_iload_n (pc' := 159) dX7_rate_158 rfl rfl ?_
        refine wp_iconst (pc' := 160) 1 dX7_rate_159 rfl (by decide) ?_
        refine wp_icmp_ne (pc' := 163) 168 dX7_rate_160 rfl (by decide) (fun _ => ?_) (fun hh => absurd hh (by decide))
        refine wp_iload_n (pc' := 169) dX7_rate_168 rfl rfl ?_
        refine wp_iconst (pc' := 170) 2 dX7_rate_169 rfl (by decide) ?_
        refine wp_icmp_ne (pc' := 173) 178 dX7_rate_170 rfl (by decide) (fun _ => ?_) (fun hh => absurd hh (by decide))
        refine wp_iload_n (pc' := 179) dX7_rate_178 rfl rfl ?_
        refine wp_iconst (pc' := 180) 3 dX7_rate_179 rfl (by decide) ?_
        refine wp_icmp_ne (pc' := 183) 190 dX7_rate_180 rfl (by decide) (fun hh => absurd hh (by decide)) (fun _ => ?_)
        refine wp_iconst (pc' := 184) 2 dX7_rate_183 rfl (by decide) ?_
        refine wp_iload (pc' := 186) dX7_rate_184 rfl rfl ?_
        refine wp_imul (pc' := 187) dX7_rate_186 rfl ?_
        refine wp_goto 227 dX7_rate_187 (by decide) ?_
        refine wp_ireti dX7_rate_227 rfl ?_
        exact ⟨_, rfl, (by rw [show mstp M N w a b = 0 from if_pos q51]; try rfl), f, rfl⟩
    · exact absurd (Or.inr q19) hg
theorem sm_rate4 {g : GG} {M : Mem} {N w k a b : Nat} (h : MW M N w) (hE : EN M N k a b) (hg : ¬ (inF 4 0 5 = 0 ∨ mWalkF M (nI k) = 0)) : SI g mX7_rate [ob g 25, .int 4, .int (nI k)] M (fun x m => x = ((mstp M N w a b - mlbF (M.1 31) (nI k) N 0 0) + nI k) ∧ ∃ f, m = upT (setO (th M) 34 f) 25 (M.2 25 + 10101)) := by
  have hk := hE.2.2.2.2
  refine spec_of_wp (ls := [some (ob g 25), some (.int 4), some (.int (nI k)), none, none, none, none]) rfl (Nat.le_of_ble_eq_true rfl) 4 rfl ?_
  refine wp_aload_n (pc' := 1) dX7_rate_0 rfl rfl ⟨_, rfl⟩ ?_
  refine wp_iconst (pc' := 2) 0 dX7_rate_1 rfl (by decide) ?_
  refine wp_put (pc' := 5) (o := 25) dX7_rate_2 rfl fpX7_47 (by decide) rfl (Nat.le_of_ble_eq_true rfl) rfl ?_
  refine wp_iload_n (pc' := 6) dX7_rate_5 rfl rfl ?_
  refine wp_iconst (pc' := 7) 0 dX7_rate_6 rfl (by decide) ?_
  refine wp_iconst (pc' := 8) 5 dX7_rate_7 rfl (by decide) ?_
  refine wp_cSI (μ' := mX7_in) (pc' := 11) dX7_rate_8 rfl mlX7_57 cfX7_in ⟨(Nat.le_of_ble_eq_true rfl), (Nat.le_of_ble_eq_true rfl)⟩ (sm_in) rfl rfl (Nat.le_of_ble_eq_true rfl) ?_
  refine wp_if_eq (pc' := 14) 22 dX7_rate_11 rfl (by decide) (fun q11 => ?_) (fun q11 => ?_)
  · exact absurd (Or.inl q11) hg
  · refine wp_aload_n (pc' := 15) dX7_rate_14 rfl rfl ⟨_, rfl⟩ ?_
    refine wp_iload_n (pc' := 16) dX7_rate_15 rfl rfl ?_
    refine wp_cVI (μ' := mX7_isWalker) (pc' := 19) (o := 25) dX7_rate_16 rfl mlX7_141 cfX7_isWalker ⟨(Nat.le_of_ble_eq_true rfl), (Nat.le_of_ble_eq_true rfl)⟩ (sm_isWalker) (by decide) rfl rfl rfl rfl rfl (Nat.le_of_ble_eq_true rfl) ?_
    refine wp_if_ne (pc' := 22) 25 dX7_rate_19 rfl (by decide) (fun q19 => ?_) (fun q19 => ?_)
    · refine wp_aload_n (pc' := 26) dX7_rate_25 rfl rfl ⟨_, rfl⟩ ?_
      refine wp_aload_n (pc' := 27) dX7_rate_26 rfl rfl ⟨_, rfl⟩ ?_
      refine wp_get (pc' := 30) (o := 25) dX7_rate_27 rfl flX7_19 (by decide) rfl rfl ?_
      refine wp_iconst (pc' := 31) 2 dX7_rate_30 rfl (by decide) ?_
      refine wp_iload_n (pc' := 32) dX7_rate_31 rfl rfl ?_
      refine wp_imul (pc' := 33) dX7_rate_32 rfl ?_
      refine wp_ialdN (pc' := 34) (o := 29) (n := 8) (2 * k) dX7_rate_33 rfl (by decide) rfl (by rw [show (2 : Int32) = nI 2 from rfl, pk_mul]) (by omega) (by decide) ?_
      refine wp_top (hE.1) ?_
      refine wp_aload_n (pc' := 35) dX7_rate_34 rfl rfl ⟨_, rfl⟩ ?_
      refine wp_get (pc' := 38) (o := 25) dX7_rate_35 rfl flX7_19 (by decide) rfl rfl ?_
      refine wp_iconst (pc' := 39) 2 dX7_rate_38 rfl (by decide) ?_
      refine wp_iload_n (pc' := 40) dX7_rate_39 rfl rfl ?_
      refine wp_imul (pc' := 41) dX7_rate_40 rfl ?_
      refine wp_iconst (pc' := 42) 1 dX7_rate_41 rfl (by decide) ?_
      refine wp_iadd (pc' := 43) dX7_rate_42 rfl ?_
      refine wp_ialdN (pc' := 44) (o := 29) (n := 8) (2 * k + 1) dX7_rate_43 rfl (by decide) rfl (by rw [show (2 : Int32) = nI 2 from rfl, pk_mul]; exact nI_1 (2 * k)) (by omega) (by decide) ?_
      refine wp_top (hE.2.1) ?_
      refine wp_sVI (μ' := mX7_stepsOf) (pc' := 47) (o := 25) dX7_rate_44 rfl mlX7_159 cfX7_stepsOf ⟨(Nat.le_of_ble_eq_true rfl), (Nat.le_of_ble_eq_true rfl)⟩ (sm_stepsOf (M := th M) (N := N) (w := w) h hE.2.2.1 hE.2.2.2.1) (by decide) rfl rfl rfl rfl rfl (Nat.le_of_ble_eq_true rfl) (fun x m hm => ?_)
      obtain ⟨hx, f, rfl, hR⟩ := hm
      change x = dvM M N w a b at hx
      subst hx
      refine wp_ist3 (pc' := 48) dX7_rate_47 rfl (by decide) rfl ?_
      refine wp_iload_n (pc' := 49) dX7_rate_48 rfl rfl ?_
      refine wp_bipush (pc' := 51) (-9) dX7_rate_49 rfl (by decide) ?_
      refine wp_icmp_ne (pc' := 54) 58 dX7_rate_51 rfl (by decide) (fun q51 => ?_) (fun q51 => ?_)
      · refine wp_iload_n (pc' := 59) dX7_rate_58 rfl rfl ?_
        refine wp_ist4 (pc' := 61) dX7_rate_59 rfl (by decide) rfl ?_
        refine wp_aload_n (pc' := 62) dX7_rate_61 rfl rfl ⟨_, rfl⟩ ?_
        refine wp_dup (pc' := 63) dX7_rate_62 rfl rfl ?_
        refine wp_get (pc' := 66) (o := 25) dX7_rate_63 rfl flX7_203 (by decide) rfl rfl ?_
        refine wp_iload_n (pc' := 67) dX7_rate_66 rfl rfl ?_
        refine wp_if_ne (pc' := 70) 74 dX7_rate_67 rfl (by decide) (fun _ => ?_) (fun hh => absurd hh (by decide))
        refine wp_iload_n (pc' := 75) dX7_rate_74 rfl rfl ?_
        refine wp_iconst (pc' := 76) 1 dX7_rate_75 rfl (by decide) ?_
        refine wp_icmp_ne (pc' := 79) 85 dX7_rate_76 rfl (by decide) (fun _ => ?_) (fun hh => absurd hh (by decide))
        refine wp_iload_n (pc' := 86) dX7_rate_85 rfl rfl ?_
        refine wp_iconst (pc' := 87) 2 dX7_rate_86 rfl (by decide) ?_
        refine wp_icmp_ne (pc' := 90) 96 dX7_rate_87 rfl (by decide) (fun _ => ?_) (fun hh => absurd hh (by decide))
        refine wp_iload_n (pc' := 97) dX7_rate_96 rfl rfl ?_
        refine wp_iconst (pc' := 98) 3 dX7_rate_97 rfl (by decide) ?_
        refine wp_icmp_ne (pc' := 101) 107 dX7_rate_98 rfl (by decide) (fun _ => ?_) (fun hh => absurd hh (by decide))
        refine wp_iload_n (pc' := 108) dX7_rate_107 rfl rfl ?_
        refine wp_iconst (pc' := 109) 4 dX7_rate_108 rfl (by decide) ?_
        refine wp_icmp_ne (pc' := 112) 118 dX7_rate_109 rfl (by decide) (fun hh => absurd hh (by decide)) (fun _ => ?_)
        refine wp_ldc2 (pc' := 115) (10101) dX7_rate_112 rfl (wR29 _ (List.mem_of_getElem? (i := 10) rfl)) ?_
        refine wp_goto 121 dX7_rate_115 (by decide) ?_
        refine wp_ladd (pc' := 122) dX7_rate_121 rfl ?_
        refine wp_putl (pc' := 125) (o := 25) dX7_rate_122 rfl fpX7_203 (by decide) rfl (Nat.le_of_ble_eq_true rfl) rfl ?_
        refine wp_iload (pc' := 127) dX7_rate_125 rfl rfl ?_
        refine wp_aload_n (pc' := 128) dX7_rate_127 rfl rfl ⟨_, rfl⟩ ?_
        refine wp_get (pc' := 131) (o := 25) dX7_rate_128 rfl flX7_25 (by decide) rfl rfl ?_
        refine wp_bipush (pc' := 133) 72 dX7_rate_131 rfl (by decide) ?_
        refine wp_iload_n (pc' := 134) dX7_rate_133 rfl rfl ?_
        refine wp_iadd (pc' := 135) dX7_rate_134 rfl ?_
        refine wp_ialdN (pc' := 136) (o := 31) (n := 76) (72 + k) dX7_rate_135 rfl (by decide) rfl (nI_add 72 k) (by omega) (by decide) ?_
        refine wp_iadd (pc' := 137) dX7_rate_136 rfl ?_
        refine wp_ist5 (pc' := 139) dX7_rate_137 rfl (by decide) rfl ?_
        refine wp_iload (pc' := 141) dX7_rate_139 rfl rfl ?_
        refine wp_aload_n (pc' := 142) dX7_rate_141 rfl rfl ⟨_, rfl⟩ ?_
        refine wp_iload_n (pc' := 143) dX7_rate_142 rfl rfl ?_
        refine wp_cVI (μ' := mX7_laidBy) (pc' := 146) (o := 25) dX7_rate_143 rfl mlX7_144 cfX7_laidBy ⟨(Nat.le_of_ble_eq_true rfl), (Nat.le_of_ble_eq_true rfl)⟩ (sm_laidBy (M := upT (setO (th M) 34 f) 25 (M.2 25 + 10101)) (N := N) h.1 h.2.1) (by decide) rfl rfl rfl rfl rfl (Nat.le_of_ble_eq_true rfl) ?_
        refine wp_isub (pc' := 147) dX7_rate_146 rfl ?_
        refine wp_ist6 (pc' := 149) dX7_rate_147 rfl (by decide) rfl ?_
        refine wp_iload_n (pc' := 150) dX7_rate_149 rfl rfl ?_
        refine wp_if_ne (pc' := 153) 158 dX7_rate_150 rfl (by decide) (fun _ => ?_) (fun hh => absurd hh (by decide))
        refine wp_iload_n (pc' := 159) dX7_rate_158 rfl rfl ?_
        refine wp_iconst (pc' := 160) 1 dX7_rate_159 rfl (by decide) ?_
        refine wp_icmp_ne (pc' := 163) 168 dX7_rate_160 rfl (by decide) (fun _ => ?_) (fun hh => absurd hh (by decide))
        refine wp_iload_n (pc' := 169) dX7_rate_168 rfl rfl ?_
        refine wp_iconst (pc' := 170) 2 dX7_rate_169 rfl (by decide) ?_
        refine wp_icmp_ne (pc' := 173) 178 dX7_rate_170 rfl (by decide) (fun _ => ?_) (fun hh => absurd hh (by decide))
        refine wp_iload_n (pc' := 179) dX7_rate_178 rfl rfl ?_
        refine wp_iconst (pc' := 180) 3 dX7_rate_179 rfl (by decide) ?_
        refine wp_icmp_ne (pc' := 183) 190 dX7_rate_180 rfl (by decide) (fun _ => ?_) (fun hh => absurd hh (by decide))
        refine wp_iload_n (pc' := 191) dX7_rate_190 rfl rfl ?_
        refine wp_iconst (pc' := 192) 4 dX7_rate_191 rfl (by decide) ?_
        refine wp_icmp_ne (pc' := 195) 202 dX7_rate_192 rfl (by decide) (fun hh => absurd hh (by decide)) (fun _ => ?_)
        refine wp_iload (pc' := 197) dX7_rate_195 rfl rfl ?_
        refine wp_iload_n (pc' := 198) dX7_rate_197 rfl rfl ?_
        refine wp_iadd (pc' := 199) dX7_rate_198 rfl ?_
        refine wp_goto 227 dX7_rate_199 (by decide) ?_
        refine wp_ireti dX7_rate_227 rfl ?_
        exact ⟨_, rfl, (by rw [show mstp M N w a b = dvM M N w a b from if_neg q51]; try rfl), f, rfl⟩
      · refine wp_iconst (pc' := 55) 0 dX7_rate_54 rfl (by decide) ?_
        refine wp_goto 59 dX7_rate_55 (by decide) ?_
        refine wp_ist4 (pc' := 61) dX7_rate_59 rfl (by decide) rfl ?_
        refine wp_aload_n (pc' := 62) dX7_rate_61 rfl rfl ⟨_, rfl⟩ ?_
        refine wp_dup (pc' := 63) dX7_rate_62 rfl rfl ?_
        refine wp_get (pc' := 66) (o := 25) dX7_rate_63 rfl flX7_203 (by decide) rfl rfl ?_
        refine wp_iload_n (pc' := 67) dX7_rate_66 rfl rfl ?_
        refine wp_if_ne (pc' := 70) 74 dX7_rate_67 rfl (by decide) (fun _ => ?_) (fun hh => absurd hh (by decide))
        refine wp_iload_n (pc' := 75) dX7_rate_74 rfl rfl ?_
        refine wp_iconst (pc' := 76) 1 dX7_rate_75 rfl (by decide) ?_
        refine wp_icmp_ne (pc' := 79) 85 dX7_rate_76 rfl (by decide) (fun _ => ?_) (fun hh => absurd hh (by decide))
        refine wp_iload_n (pc' := 86) dX7_rate_85 rfl rfl ?_
        refine wp_iconst (pc' := 87) 2 dX7_rate_86 rfl (by decide) ?_
        refine wp_icmp_ne (pc' := 90) 96 dX7_rate_87 rfl (by decide) (fun _ => ?_) (fun hh => absurd hh (by decide))
        refine wp_iload_n (pc' := 97) dX7_rate_96 rfl rfl ?_
        refine wp_iconst (pc' := 98) 3 dX7_rate_97 rfl (by decide) ?_
        refine wp_icmp_ne (pc' := 101) 107 dX7_rate_98 rfl (by decide) (fun _ => ?_) (fun hh => absurd hh (by decide))
        refine wp_iload_n (pc' := 108) dX7_rate_107 rfl rfl ?_
        refine wp_iconst (pc' := 109) 4 dX7_rate_108 rfl (by decide) ?_
        refine wp_icmp_ne (pc' := 112) 118 dX7_rate_109 rfl (by decide) (fun hh => absurd hh (by decide)) (fun _ => ?_)
        refine wp_ldc2 (pc' := 115) (10101) dX7_rate_112 rfl (wR29 _ (List.mem_of_getElem? (i := 10) rfl)) ?_
        refine wp_goto 121 dX7_rate_115 (by decide) ?_
        refine wp_ladd (pc' := 122) dX7_rate_121 rfl ?_
        refine wp_putl (pc' := 125) (o := 25) dX7_rate_122 rfl fpX7_203 (by decide) rfl (Nat.le_of_ble_eq_true rfl) rfl ?_
        refine wp_iload (pc' := 127) dX7_rate_125 rfl rfl ?_
        refine wp_aload_n (pc' := 128) dX7_rate_127 rfl rfl ⟨_, rfl⟩ ?_
        refine wp_get (pc' := 131) (o := 25) dX7_rate_128 rfl flX7_25 (by decide) rfl rfl ?_
        refine wp_bipush (pc' := 133) 72 dX7_rate_131 rfl (by decide) ?_
        refine wp_iload_n (pc' := 134) dX7_rate_133 rfl rfl ?_
        refine wp_iadd (pc' := 135) dX7_rate_134 rfl ?_
        refine wp_ialdN (pc' := 136) (o := 31) (n := 76) (72 + k) dX7_rate_135 rfl (by decide) rfl (nI_add 72 k) (by omega) (by decide) ?_
        refine wp_iadd (pc' := 137) dX7_rate_136 rfl ?_
        refine wp_ist5 (pc' := 139) dX7_rate_137 rfl (by decide) rfl ?_
        refine wp_iload (pc' := 141) dX7_rate_139 rfl rfl ?_
        refine wp_aload_n (pc' := 142) dX7_rate_141 rfl rfl ⟨_, rfl⟩ ?_
        refine wp_iload_n (pc' := 143) dX7_rate_142 rfl rfl ?_
        refine wp_cVI (μ' := mX7_laidBy) (pc' := 146) (o := 25) dX7_rate_143 rfl mlX7_144 cfX7_laidBy ⟨(Nat.le_of_ble_eq_true rfl), (Nat.le_of_ble_eq_true rfl)⟩ (sm_laidBy (M := upT (setO (th M) 34 f) 25 (M.2 25 + 10101)) (N := N) h.1 h.2.1) (by decide) rfl rfl rfl rfl rfl (Nat.le_of_ble_eq_true rfl) ?_
        refine wp_isub (pc' := 147) dX7_rate_146 rfl ?_
        refine wp_ist6 (pc' := 149) dX7_rate_147 rfl (by decide) rfl ?_
        refine wp_iload_n (pc' := 150) dX7_rate_149 rfl rfl ?_
        refine wp_if_ne (pc' := 153) 158 dX7_rate_150 rfl (by decide) (fun _ => ?_) (fun hh => absurd hh (by decide))
        refine wp_iload_n (pc' := 159) dX7_rate_158 rfl rfl ?_
        refine wp_iconst (pc' := 160) 1 dX7_rate_159 rfl (by decide) ?_
        refine wp_icmp_ne (pc' := 163) 168 dX7_rate_160 rfl (by decide) (fun _ => ?_) (fun hh => absurd hh (by decide))
        refine wp_iload_n (pc' := 169) dX7_rate_168 rfl rfl ?_
        refine wp_iconst (pc' := 170) 2 dX7_rate_169 rfl (by decide) ?_
        refine wp_icmp_ne (pc' := 173) 178 dX7_rate_170 rfl (by decide) (fun _ => ?_) (fun hh => absurd hh (by decide))
        refine wp_iload_n (pc' := 179) dX7_rate_178 rfl rfl ?_
        refine wp_iconst (pc' := 180) 3 dX7_rate_179 rfl (by decide) ?_
        refine wp_icmp_ne (pc' := 183) 190 dX7_rate_180 rfl (by decide) (fun _ => ?_) (fun hh => absurd hh (by decide))
        refine wp_iload_n (pc' := 191) dX7_rate_190 rfl rfl ?_
        refine wp_iconst (pc' := 192) 4 dX7_rate_191 rfl (by decide) ?_
        refine wp_icmp_ne (pc' := 195) 202 dX7_rate_192 rfl (by decide) (fun hh => absurd hh (by decide)) (fun _ => ?_)
        refine wp_iload (pc' := 197) dX7_rate_195 rfl rfl ?_
        refine wp_iload_n (pc' := 198) dX7_rate_197 rfl rfl ?_
        refine wp_iadd (pc' := 199) dX7_rate_198 rfl ?_
        refine wp_goto 227 dX7_rate_199 (by decide) ?_
        refine wp_ireti dX7_rate_227 rfl ?_
        exact ⟨_, rfl, (by rw [show mstp M N w a b = 0 from if_pos q51]; try rfl), f, rfl⟩
    · exact absurd (Or.inr q19) hg
theorem sm_rate5 {g : GG} {M : Mem} {N w k a b : Nat} (h : MW M N w) (hE : EN M N k a b) (hg : ¬ (inF 5 0 5 = 0 ∨ mWalkF M (nI k) = 0)) {J : (Nat → Nat) → Prop} (hJ : ∀ F c d, c < N → d < N → adjB w c d = true → F d + owN (M.1 31) c < F c → J F → J (updN F c (F d + owN (M.1 31) c))) (hJ0 : J (F0c (M.1 31) b)) : SI g mX7_rate [ob g 25, .int 5, .int (nI k)] M (fun x m => ∃ f F, x = mstp M N w a b + nI (F a) ∧ m = upT (setO (th M) 34 f) 25 (M.2 25 + 100001) ∧ J F ∧ StableR (adjB w) (owN (M.1 31)) N F) := by
  have hk := hE.2.2.2.2
  refine spec_of_wp (ls := [some (ob g 25), some (.int 5), some (.int (nI k)), none, none, none, none]) rfl (Nat.le_of_ble_eq_true rfl) 4 rfl ?_
  refine wp_aload_n (pc' := 1) dX7_rate_0 rfl rfl ⟨_, rfl⟩ ?_
  refine wp_iconst (pc' := 2) 0 dX7_rate_1 rfl (by decide) ?_
  refine wp_put (pc' := 5) (o := 25) dX7_rate_2 rfl fpX7_47 (by decide) rfl (Nat.le_of_ble_eq_true rfl) rfl ?_
  refine wp_iload_n (pc' := 6) dX7_rate_5 rfl rfl ?_
  refine wp_iconst (pc' := 7) 0 dX7_rate_6 rfl (by decide) ?_
  refine wp_iconst (pc' := 8) 5 dX7_rate_7 rfl (by decide) ?_
  refine wp_cSI (μ' := mX7_in) (pc' := 11) dX7_rate_8 rfl mlX7_57 cfX7_in ⟨(Nat.le_of_ble_eq_true rfl), (Nat.le_of_ble_eq_true rfl)⟩ (sm_in) rfl rfl (Nat.le_of_ble_eq_true rfl) ?_
  refine wp_if_eq (pc' := 14) 22 dX7_rate_11 rfl (by decide) (fun q11 => ?_) (fun q11 => ?_)
  · exact absurd (Or.inl q11) hg
  · refine wp_aload_n (pc' := 15) dX7_rate_14 rfl rfl ⟨_, rfl⟩ ?_
    refine wp_iload_n (pc' := 16) dX7_rate_15 rfl rfl ?_
    refine wp_cVI (μ' := mX7_isWalker) (pc' := 19) (o := 25) dX7_rate_16 rfl mlX7_141 cfX7_isWalker ⟨(Nat.le_of_ble_eq_true rfl), (Nat.le_of_ble_eq_true rfl)⟩ (sm_isWalker) (by decide) rfl rfl rfl rfl rfl (Nat.le_of_ble_eq_true rfl) ?_
    refine wp_if_ne (pc' := 22) 25 dX7_rate_19 rfl (by decide) (fun q19 => ?_) (fun q19 => ?_)
    · refine wp_aload_n (pc' := 26) dX7_rate_25 rfl rfl ⟨_, rfl⟩ ?_
      refine wp_aload_n (pc' := 27) dX7_rate_26 rfl rfl ⟨_, rfl⟩ ?_
      refine wp_get (pc' := 30) (o := 25) dX7_rate_27 rfl flX7_19 (by decide) rfl rfl ?_
      refine wp_iconst (pc' := 31) 2 dX7_rate_30 rfl (by decide) ?_
      refine wp_iload_n (pc' := 32) dX7_rate_31 rfl rfl ?_
      refine wp_imul (pc' := 33) dX7_rate_32 rfl ?_
      refine wp_ialdN (pc' := 34) (o := 29) (n := 8) (2 * k) dX7_rate_33 rfl (by decide) rfl (by rw [show (2 : Int32) = nI 2 from rfl, pk_mul]) (by omega) (by decide) ?_
      refine wp_top (hE.1) ?_
      refine wp_aload_n (pc' := 35) dX7_rate_34 rfl rfl ⟨_, rfl⟩ ?_
      refine wp_get (pc' := 38) (o := 25) dX7_rate_35 rfl flX7_19 (by decide) rfl rfl ?_
      refine wp_iconst (pc' := 39) 2 dX7_rate_38 rfl (by decide) ?_
      refine wp_iload_n (pc' := 40) dX7_rate_39 rfl rfl ?_
      refine wp_imul (pc' := 41) dX7_rate_40 rfl ?_
      refine wp_iconst (pc' := 42) 1 dX7_rate_41 rfl (by decide) ?_
      refine wp_iadd (pc' := 43) dX7_rate_42 rfl ?_
      refine wp_ialdN (pc' := 44) (o := 29) (n := 8) (2 * k + 1) dX7_rate_43 rfl (by decide) rfl (by rw [show (2 : Int32) = nI 2 from rfl, pk_mul]; exact nI_1 (2 * k)) (by omega) (by decide) ?_
      refine wp_top (hE.2.1) ?_
      refine wp_sVI (μ' := mX7_stepsOf) (pc' := 47) (o := 25) dX7_rate_44 rfl mlX7_159 cfX7_stepsOf ⟨(Nat.le_of_ble_eq_true rfl), (Nat.le_of_ble_eq_true rfl)⟩ (sm_stepsOf (M := th M) (N := N) (w := w) h hE.2.2.1 hE.2.2.2.1) (by decide) rfl rfl rfl rfl rfl (Nat.le_of_ble_eq_true rfl) (fun x m hm => ?_)
      obtain ⟨hx, f, rfl, hR⟩ := hm
      change x = dvM M N w a b at hx
      subst hx
      refine wp_ist3 (pc' := 48) dX7_rate_47 rfl (by decide) rfl ?_
      refine wp_iload_n (pc' := 49) dX7_rate_48 rfl rfl ?_
      refine wp_bipush (pc' := 51) (-9) dX7_rate_49 rfl (by decide) ?_
      refine wp_icmp_ne (pc' := 54) 58 dX7_rate_51 rfl (by decide) (fun q51 => ?_) (fun q51 => ?_)
      · refine wp_iload_n (pc' := 59) dX7_rate_58 rfl rfl ?_
        refine wp_ist4 (pc' := 61) dX7_rate_59 rfl (by decide) rfl ?_
        refine wp_aload_n (pc' := 62) dX7_rate_61 rfl rfl ⟨_, rfl⟩ ?_
        refine wp_dup (pc' := 63) dX7_rate_62 rfl rfl ?_
        refine wp_get (pc' := 66) (o := 25) dX7_rate_63 rfl flX7_203 (by decide) rfl rfl ?_
        refine wp_iload_n (pc' := 67) dX7_rate_66 rfl rfl ?_
        refine wp_if_ne (pc' := 70) 74 dX7_rate_67 rfl (by decide) (fun _ => ?_) (fun hh => absurd hh (by decide))
        refine wp_iload_n (pc' := 75) dX7_rate_74 rfl rfl ?_
        refine wp_iconst (pc' := 76) 1 dX7_rate_75 rfl (by decide) ?_
        refine wp_icmp_ne (pc' := 79) 85 dX7_rate_76 rfl (by decide) (fun _ => ?_) (fun hh => absurd hh (by decide))
        refine wp_iload_n (pc' := 86) dX7_rate_85 rfl rfl ?_
        refine wp_iconst (pc' := 87) 2 dX7_rate_86 rfl (by decide) ?_
        refine wp_icmp_ne (pc' := 90) 96 dX7_rate_87 rfl (by decide) (fun _ => ?_) (fun hh => absurd hh (by decide))
        refine wp_iload_n (pc' := 97) dX7_rate_96 rfl rfl ?_
        refine wp_iconst (pc' := 98) 3 dX7_rate_97 rfl (by decide) ?_
        refine wp_icmp_ne (pc' := 101) 107 dX7_rate_98 rfl (by decide) (fun _ => ?_) (fun hh => absurd hh (by decide))
        refine wp_iload_n (pc' := 108) dX7_rate_107 rfl rfl ?_
        refine wp_iconst (pc' := 109) 4 dX7_rate_108 rfl (by decide) ?_
        refine wp_icmp_ne (pc' := 112) 118 dX7_rate_109 rfl (by decide) (fun _ => ?_) (fun hh => absurd hh (by decide))
        refine wp_ldc2 (pc' := 121) (100001) dX7_rate_118 rfl (wR29 _ (List.mem_of_getElem? (i := 11) rfl)) ?_
        refine wp_ladd (pc' := 122) dX7_rate_121 rfl ?_
        refine wp_putl (pc' := 125) (o := 25) dX7_rate_122 rfl fpX7_203 (by decide) rfl (Nat.le_of_ble_eq_true rfl) rfl ?_
        refine wp_iload (pc' := 127) dX7_rate_125 rfl rfl ?_
        refine wp_aload_n (pc' := 128) dX7_rate_127 rfl rfl ⟨_, rfl⟩ ?_
        refine wp_get (pc' := 131) (o := 25) dX7_rate_128 rfl flX7_25 (by decide) rfl rfl ?_
        refine wp_bipush (pc' := 133) 72 dX7_rate_131 rfl (by decide) ?_
        refine wp_iload_n (pc' := 134) dX7_rate_133 rfl rfl ?_
        refine wp_iadd (pc' := 135) dX7_rate_134 rfl ?_
        refine wp_ialdN (pc' := 136) (o := 31) (n := 76) (72 + k) dX7_rate_135 rfl (by decide) rfl (nI_add 72 k) (by omega) (by decide) ?_
        refine wp_iadd (pc' := 137) dX7_rate_136 rfl ?_
        refine wp_ist5 (pc' := 139) dX7_rate_137 rfl (by decide) rfl ?_
        refine wp_iload (pc' := 141) dX7_rate_139 rfl rfl ?_
        refine wp_aload_n (pc' := 142) dX7_rate_141 rfl rfl ⟨_, rfl⟩ ?_
        refine wp_iload_n (pc' := 143) dX7_rate_142 rfl rfl ?_
        refine wp_cVI (μ' := mX7_laidBy) (pc' := 146) (o := 25) dX7_rate_143 rfl mlX7_144 cfX7_laidBy ⟨(Nat.le_of_ble_eq_true rfl), (Nat.le_of_ble_eq_true rfl)⟩ (sm_laidBy (M := upT (setO (th M) 34 f) 25 (M.2 25 + 100001)) (N := N) h.1 h.2.1) (by decide) rfl rfl rfl rfl rfl (Nat.le_of_ble_eq_true rfl) ?_
        refine wp_isub (pc' := 147) dX7_rate_146 rfl ?_
        refine wp_ist6 (pc' := 149) dX7_rate_147 rfl (by decide) rfl ?_
        refine wp_iload_n (pc' := 150) dX7_rate_149 rfl rfl ?_
        refine wp_if_ne (pc' := 153) 158 dX7_rate_150 rfl (by decide) (fun _ => ?_) (fun hh => absurd hh (by decide))
        refine wp_iload_n (pc' := 159) dX7_rate_158 rfl rfl ?_
        refine wp_iconst (pc' := 160) 1 dX7_rate_159 rfl (by decide) ?_
        refine wp_icmp_ne (pc' := 163) 168 dX7_rate_160 rfl (by decide) (fun _ => ?_) (fun hh => absurd hh (by decide))
        refine wp_iload_n (pc' := 169) dX7_rate_168 rfl rfl ?_
        refine wp_iconst (pc' := 170) 2 dX7_rate_169 rfl (by decide) ?_
        refine wp_icmp_ne (pc' := 173) 178 dX7_rate_170 rfl (by decide) (fun _ => ?_) (fun hh => absurd hh (by decide))
        refine wp_iload_n (pc' := 179) dX7_rate_178 rfl rfl ?_
        refine wp_iconst (pc' := 180) 3 dX7_rate_179 rfl (by decide) ?_
        refine wp_icmp_ne (pc' := 183) 190 dX7_rate_180 rfl (by decide) (fun _ => ?_) (fun hh => absurd hh (by decide))
        refine wp_iload_n (pc' := 191) dX7_rate_190 rfl rfl ?_
        refine wp_iconst (pc' := 192) 4 dX7_rate_191 rfl (by decide) ?_
        refine wp_icmp_ne (pc' := 195) 202 dX7_rate_192 rfl (by decide) (fun _ => ?_) (fun hh => absurd hh (by decide))
        refine wp_iload (pc' := 204) dX7_rate_202 rfl rfl ?_
        refine wp_aload_n (pc' := 205) dX7_rate_204 rfl rfl ⟨_, rfl⟩ ?_
        refine wp_aload_n (pc' := 206) dX7_rate_205 rfl rfl ⟨_, rfl⟩ ?_
        refine wp_get (pc' := 209) (o := 25) dX7_rate_206 rfl flX7_19 (by decide) rfl rfl ?_
        refine wp_iconst (pc' := 210) 2 dX7_rate_209 rfl (by decide) ?_
        refine wp_iload_n (pc' := 211) dX7_rate_210 rfl rfl ?_
        refine wp_imul (pc' := 212) dX7_rate_211 rfl ?_
        refine wp_ialdN (pc' := 213) (o := 29) (n := 8) (2 * k) dX7_rate_212 rfl (by decide) rfl (by rw [show (2 : Int32) = nI 2 from rfl, pk_mul]) (by omega) (by decide) ?_
        refine wp_top (hE.1) ?_
        refine wp_aload_n (pc' := 214) dX7_rate_213 rfl rfl ⟨_, rfl⟩ ?_
        refine wp_get (pc' := 217) (o := 25) dX7_rate_214 rfl flX7_19 (by decide) rfl rfl ?_
        refine wp_iconst (pc' := 218) 2 dX7_rate_217 rfl (by decide) ?_
        refine wp_iload_n (pc' := 219) dX7_rate_218 rfl rfl ?_
        refine wp_imul (pc' := 220) dX7_rate_219 rfl ?_
        refine wp_iconst (pc' := 221) 1 dX7_rate_220 rfl (by decide) ?_
        refine wp_iadd (pc' := 222) dX7_rate_221 rfl ?_
        refine wp_ialdN (pc' := 223) (o := 29) (n := 8) (2 * k + 1) dX7_rate_222 rfl (by decide) rfl (by rw [show (2 : Int32) = nI 2 from rfl, pk_mul]; exact nI_1 (2 * k)) (by omega) (by decide) ?_
        refine wp_top (hE.2.1) ?_
        refine wp_sVI (μ' := mX7_costs) (pc' := 226) (o := 25) dX7_rate_223 rfl mlX7_178 cfX7_costs ⟨(Nat.le_of_ble_eq_true rfl), (Nat.le_of_ble_eq_true rfl)⟩ (sm_costs (M := upT (setO (th M) 34 f) 25 (M.2 25 + 100001)) (N := N) (w := w) h hE.2.2.1 hE.2.2.2.1 hJ hJ0) (by decide) rfl rfl rfl rfl rfl (Nat.le_of_ble_eq_true rfl) (fun y m hm2 => ?_)
        obtain ⟨f2, F, hm2, rfl, hR2, hF, hS⟩ := hm2
        subst hm2
        refine wp_iadd (pc' := 227) dX7_rate_226 rfl ?_
        refine wp_ireti dX7_rate_227 rfl ?_
        exact ⟨_, rfl, f2, F, (by rw [show mstp M N w a b = dvM M N w a b from if_neg q51]; try rfl), (upT_setO _ _ _ _ _ _), hF, hS⟩
      · refine wp_iconst (pc' := 55) 0 dX7_rate_54 rfl (by decide) ?_
        refine wp_goto 59 dX7_rate_55 (by decide) ?_
        refine wp_ist4 (pc' := 61) dX7_rate_59 rfl (by decide) rfl ?_
        refine wp_aload_n (pc' := 62) dX7_rate_61 rfl rfl ⟨_, rfl⟩ ?_
        refine wp_dup (pc' := 63) dX7_rate_62 rfl rfl ?_
        refine wp_get (pc' := 66) (o := 25) dX7_rate_63 rfl flX7_203 (by decide) rfl rfl ?_
        refine wp_iload_n (pc' := 67) dX7_rate_66 rfl rfl ?_
        refine wp_if_ne (pc' := 70) 74 dX7_rate_67 rfl (by decide) (fun _ => ?_) (fun hh => absurd hh (by decide))
        refine wp_iload_n (pc' := 75) dX7_rate_74 rfl rfl ?_
        refine wp_iconst (pc' := 76) 1 dX7_rate_75 rfl (by decide) ?_
        refine wp_icmp_ne (pc' := 79) 85 dX7_rate_76 rfl (by decide) (fun _ => ?_) (fun hh => absurd hh (by decide))
        refine wp_iload_n (pc' := 86) dX7_rate_85 rfl rfl ?_
        refine wp_iconst (pc' := 87) 2 dX7_rate_86 rfl (by decide) ?_
        refine wp_icmp_ne (pc' := 90) 96 dX7_rate_87 rfl (by decide) (fun _ => ?_) (fun hh => absurd hh (by decide))
        refine wp_iload_n (pc' := 97) dX7_rate_96 rfl rfl ?_
        refine wp_iconst (pc' := 98) 3 dX7_rate_97 rfl (by decide) ?_
        refine wp_icmp_ne (pc' := 101) 107 dX7_rate_98 rfl (by decide) (fun _ => ?_) (fun hh => absurd hh (by decide))
        refine wp_iload_n (pc' := 108) dX7_rate_107 rfl rfl ?_
        refine wp_iconst (pc' := 109) 4 dX7_rate_108 rfl (by decide) ?_
        refine wp_icmp_ne (pc' := 112) 118 dX7_rate_109 rfl (by decide) (fun _ => ?_) (fun hh => absurd hh (by decide))
        refine wp_ldc2 (pc' := 121) (100001) dX7_rate_118 rfl (wR29 _ (List.mem_of_getElem? (i := 11) rfl)) ?_
        refine wp_ladd (pc' := 122) dX7_rate_121 rfl ?_
        refine wp_putl (pc' := 125) (o := 25) dX7_rate_122 rfl fpX7_203 (by decide) rfl (Nat.le_of_ble_eq_true rfl) rfl ?_
        refine wp_iload (pc' := 127) dX7_rate_125 rfl rfl ?_
        refine wp_aload_n (pc' := 128) dX7_rate_127 rfl rfl ⟨_, rfl⟩ ?_
        refine wp_get (pc' := 131) (o := 25) dX7_rate_128 rfl flX7_25 (by decide) rfl rfl ?_
        refine wp_bipush (pc' := 133) 72 dX7_rate_131 rfl (by decide) ?_
        refine wp_iload_n (pc' := 134) dX7_rate_133 rfl rfl ?_
        refine wp_iadd (pc' := 135) dX7_rate_134 rfl ?_
        refine wp_ialdN (pc' := 136) (o := 31) (n := 76) (72 + k) dX7_rate_135 rfl (by decide) rfl (nI_add 72 k) (by omega) (by decide) ?_
        refine wp_iadd (pc' := 137) dX7_rate_136 rfl ?_
        refine wp_ist5 (pc' := 139) dX7_rate_137 rfl (by decide) rfl ?_
        refine wp_iload (pc' := 141) dX7_rate_139 rfl rfl ?_
        refine wp_aload_n (pc' := 142) dX7_rate_141 rfl rfl ⟨_, rfl⟩ ?_
        refine wp_iload_n (pc' := 143) dX7_rate_142 rfl rfl ?_
        refine wp_cVI (μ' := mX7_laidBy) (pc' := 146) (o := 25) dX7_rate_143 rfl mlX7_144 cfX7_laidBy ⟨(Nat.le_of_ble_eq_true rfl), (Nat.le_of_ble_eq_true rfl)⟩ (sm_laidBy (M := upT (setO (th M) 34 f) 25 (M.2 25 + 100001)) (N := N) h.1 h.2.1) (by decide) rfl rfl rfl rfl rfl (Nat.le_of_ble_eq_true rfl) ?_
        refine wp_isub (pc' := 147) dX7_rate_146 rfl ?_
        refine wp_ist6 (pc' := 149) dX7_rate_147 rfl (by decide) rfl ?_
        refine wp_iload_n (pc' := 150) dX7_rate_149 rfl rfl ?_
        refine wp_if_ne (pc' := 153) 158 dX7_rate_150 rfl (by decide) (fun _ => ?_) (fun hh => absurd hh (by decide))
        refine wp_iload_n (pc' := 159) dX7_rate_158 rfl rfl ?_
        refine wp_iconst (pc' := 160) 1 dX7_rate_159 rfl (by decide) ?_
        refine wp_icmp_ne (pc' := 163) 168 dX7_rate_160 rfl (by decide) (fun _ => ?_) (fun hh => absurd hh (by decide))
        refine wp_iload_n (pc' := 169) dX7_rate_168 rfl rfl ?_
        refine wp_iconst (pc' := 170) 2 dX7_rate_169 rfl (by decide) ?_
        refine wp_icmp_ne (pc' := 173) 178 dX7_rate_170 rfl (by decide) (fun _ => ?_) (fun hh => absurd hh (by decide))
        refine wp_iload_n (pc' := 179) dX7_rate_178 rfl rfl ?_
        refine wp_iconst (pc' := 180) 3 dX7_rate_179 rfl (by decide) ?_
        refine wp_icmp_ne (pc' := 183) 190 dX7_rate_180 rfl (by decide) (fun _ => ?_) (fun hh => absurd hh (by decide))
        refine wp_iload_n (pc' := 191) dX7_rate_190 rfl rfl ?_
        refine wp_iconst (pc' := 192) 4 dX7_rate_191 rfl (by decide) ?_
        refine wp_icmp_ne (pc' := 195) 202 dX7_rate_192 rfl (by decide) (fun _ => ?_) (fun hh => absurd hh (by decide))
        refine wp_iload (pc' := 204) dX7_rate_202 rfl rfl ?_
        refine wp_aload_n (pc' := 205) dX7_rate_204 rfl rfl ⟨_, rfl⟩ ?_
        refine wp_aload_n (pc' := 206) dX7_rate_205 rfl rfl ⟨_, rfl⟩ ?_
        refine wp_get (pc' := 209) (o := 25) dX7_rate_206 rfl flX7_19 (by decide) rfl rfl ?_
        refine wp_iconst (pc' := 210) 2 dX7_rate_209 rfl (by decide) ?_
        refine wp_iload_n (pc' := 211) dX7_rate_210 rfl rfl ?_
        refine wp_imul (pc' := 212) dX7_rate_211 rfl ?_
        refine wp_ialdN (pc' := 213) (o := 29) (n := 8) (2 * k) dX7_rate_212 rfl (by decide) rfl (by rw [show (2 : Int32) = nI 2 from rfl, pk_mul]) (by omega) (by decide) ?_
        refine wp_top (hE.1) ?_
        refine wp_aload_n (pc' := 214) dX7_rate_213 rfl rfl ⟨_, rfl⟩ ?_
        refine wp_get (pc' := 217) (o := 25) dX7_rate_214 rfl flX7_19 (by decide) rfl rfl ?_
        refine wp_iconst (pc' := 218) 2 dX7_rate_217 rfl (by decide) ?_
        refine wp_iload_n (pc' := 219) dX7_rate_218 rfl rfl ?_
        refine wp_imul (pc' := 220) dX7_rate_219 rfl ?_
        refine wp_iconst (pc' := 221) 1 dX7_rate_220 rfl (by decide) ?_
        refine wp_iadd (pc' := 222) dX7_rate_221 rfl ?_
        refine wp_ialdN (pc' := 223) (o := 29) (n := 8) (2 * k + 1) dX7_rate_222 rfl (by decide) rfl (by rw [show (2 : Int32) = nI 2 from rfl, pk_mul]; exact nI_1 (2 * k)) (by omega) (by decide) ?_
        refine wp_top (hE.2.1) ?_
        refine wp_sVI (μ' := mX7_costs) (pc' := 226) (o := 25) dX7_rate_223 rfl mlX7_178 cfX7_costs ⟨(Nat.le_of_ble_eq_true rfl), (Nat.le_of_ble_eq_true rfl)⟩ (sm_costs (M := upT (setO (th M) 34 f) 25 (M.2 25 + 100001)) (N := N) (w := w) h hE.2.2.1 hE.2.2.2.1 hJ hJ0) (by decide) rfl rfl rfl rfl rfl (Nat.le_of_ble_eq_true rfl) (fun y m hm2 => ?_)
        obtain ⟨f2, F, hm2, rfl, hR2, hF, hS⟩ := hm2
        subst hm2
        refine wp_iadd (pc' := 227) dX7_rate_226 rfl ?_
        refine wp_ireti dX7_rate_227 rfl ?_
        exact ⟨_, rfl, f2, F, (by rw [show mstp M N w a b = 0 from if_pos q51]; try rfl), (upT_setO _ _ _ _ _ _), hF, hS⟩
    · exact absurd (Or.inr q19) hg
theorem sm_stones {g : GG} {M : Mem} {N w a b : Nat} (h : MW M N w) (ha : a < N) (hb : b < N) (hg : ¬ (mCellF M (nI a) = 0 ∨ mCellF M (nI b) = 0)) {J : (Nat → Nat) → Prop} (hJ : ∀ F c d, c < N → d < N → adjB w c d = true → F d + owN (M.1 31) c < F c → J F → J (updN F c (F d + owN (M.1 31) c))) (hJ0 : J (F0c (M.1 31) b)) : SI g mX7_stones [ob g 25, .int (nI a), .int (nI b)] M (fun x m => ∃ f F, x = nI (F a) ∧ m = setO (th M) 34 f ∧ J F ∧ StableR (adjB w) (owN (M.1 31)) N F) := by
  refine spec_of_wp (ls := [some (ob g 25), some (.int (nI a)), some (.int (nI b))]) rfl (Nat.le_of_ble_eq_true rfl) 0 rfl ?_
  refine wp_aload_n (pc' := 1) dX7_stones_0 rfl rfl ⟨_, rfl⟩ ?_
  refine wp_iconst (pc' := 2) 0 dX7_stones_1 rfl (by decide) ?_
  refine wp_put (pc' := 5) (o := 25) dX7_stones_2 rfl fpX7_47 (by decide) rfl (Nat.le_of_ble_eq_true rfl) rfl ?_
  refine wp_aload_n (pc' := 6) dX7_stones_5 rfl rfl ⟨_, rfl⟩ ?_
  refine wp_iload_n (pc' := 7) dX7_stones_6 rfl rfl ?_
  refine wp_cVI (μ' := mX7_isCell) (pc' := 10) (o := 25) dX7_stones_7 rfl mlX7_137 cfX7_isCell ⟨(Nat.le_of_ble_eq_true rfl), (Nat.le_of_ble_eq_true rfl)⟩ (sm_isCell) (by decide) rfl rfl rfl rfl rfl (Nat.le_of_ble_eq_true rfl) ?_
  refine wp_if_eq (pc' := 13) 30 dX7_stones_10 rfl (by decide) (fun q10 => ?_) (fun q10 => ?_)
  · exact absurd (Or.inl q10) hg
  · refine wp_aload_n (pc' := 14) dX7_stones_13 rfl rfl ⟨_, rfl⟩ ?_
    refine wp_iload_n (pc' := 15) dX7_stones_14 rfl rfl ?_
    refine wp_cVI (μ' := mX7_isCell) (pc' := 18) (o := 25) dX7_stones_15 rfl mlX7_137 cfX7_isCell ⟨(Nat.le_of_ble_eq_true rfl), (Nat.le_of_ble_eq_true rfl)⟩ (sm_isCell) (by decide) rfl rfl rfl rfl rfl (Nat.le_of_ble_eq_true rfl) ?_
    refine wp_if_eq (pc' := 21) 30 dX7_stones_18 rfl (by decide) (fun q18 => ?_) (fun q18 => ?_)
    · exact absurd (Or.inr q18) hg
    · refine wp_aload_n (pc' := 22) dX7_stones_21 rfl rfl ⟨_, rfl⟩ ?_
      refine wp_iload_n (pc' := 23) dX7_stones_22 rfl rfl ?_
      refine wp_iload_n (pc' := 24) dX7_stones_23 rfl rfl ?_
      refine wp_sVI (μ' := mX7_costs) (pc' := 27) (o := 25) dX7_stones_24 rfl mlX7_178 cfX7_costs ⟨(Nat.le_of_ble_eq_true rfl), (Nat.le_of_ble_eq_true rfl)⟩ (sm_costs (M := th M) (N := N) (w := w) h ha hb hJ hJ0) (by decide) rfl rfl rfl rfl rfl (Nat.le_of_ble_eq_true rfl) (fun x m hm => ?_)
      refine wp_goto 31 dX7_stones_27 (by decide) ?_
      refine wp_ireti dX7_stones_31 rfl ?_
      obtain ⟨f, F, rfl, rfl, hR, hF, hS⟩ := hm
      exact ⟨_, rfl, f, F, rfl, rfl, hF, hS⟩
