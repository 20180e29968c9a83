
def beS (s : Nat → Int32) (c : Nat) : Bool := !(s c == 1)
def okS (s : Nat → Int32) (w c d : Nat) : Bool := beS s c && (beS s d && adjB w c d)
theorem beS_iff {s : Nat → Int32} {c : Nat} : beS s c = true ↔ ¬ s c = 1 := by simp [beS]
theorem okS_no0 {s : Nat → Int32} {w c d : Nat} (h : s c = 1) : okS s w c d = false := by simp [okS, beS, h]
theorem okS_no1 {s : Nat → Int32} {w c d : Nat} (h : s d = 1) : okS s w c d = false := by simp [okS, beS, h]
theorem stI_0 {w c d : Nat} (h : stI w c d = 0) : adjB w c d = false := by
  unfold stI at h
  split at h
  · exact absurd h (by decide)
  · rename_i k; simpa using k
theorem stI_1 {w c d : Nat} (h : ¬ stI w c d = 0) : adjB w c d = true := by
  unfold stI at h
  split at h
  · rename_i k; exact k
  · exact absurd rfl h
theorem okS_no2 {s : Nat → Int32} {w c d : Nat} (h : stI w c d = 0) : okS s w c d = false := by simp [okS, stI_0 h]
theorem okS_yes {s : Nat → Int32} {w c d : Nat} (h1 : ¬ s c = 1) (h2 : ¬ s d = 1) (h3 : ¬ stI w c d = 0) : okS s w c d = true := by simp [okS, beS, h1, h2, stI_1 h3]
theorem rx_no {ok : Nat → Nat → Bool} {ad : Nat → Nat} {c d : Nat} {s : RS} (h : ok c d = false) : rx ok ad c d s = s := if_neg (fun k => by rw [h] at k; exact absurd k.1 (by decide))
theorem rx_no2 {ok : Nat → Nat → Bool} {ad : Nat → Nat} {c d : Nat} {s : RS} (h : ¬ s.1 d + ad c < s.1 c) : rx ok ad c d s = s := if_neg (fun k => h k.2)
theorem ixS (ok : Nat → Nat → Bool) (ad : Nat → Nat) (c n d : Nat) (s : RS) : ix ok ad c (n + 1) d s = ix ok ad c n (d + 1) (rx ok ad c d s) := rfl
theorem mxS (ok : Nat → Nat → Bool) (ad : Nat → Nat) (N n c : Nat) (s : RS) : mx ok ad N (n + 1) c s = mx ok ad N n (c + 1) (ix ok ad c N 0 s) := rfl
theorem ix_no {ok : Nat → Nat → Bool} {ad : Nat → Nat} {c : Nat} (h : ∀ d, ok c d = false) : ∀ (n d : Nat) (s : RS), ix ok ad c n d s = s := by
  intro n
  induction n with
  | zero => intro d s; rfl
  | succ n ih => intro d s; rw [ixS, rx_no (h d), ih]
theorem RF_le {N : Nat} {f : Nat → Int32} {F : Nat → Nat} (h : RF N f F) {c d v : Nat} (hc : c < N) (hd : d < N) (hv : v ≤ 1) : f c ≤ f d + nI v ↔ F c ≤ F d + v := by
  rw [(h c hc).1, (h d hd).1, nI_add]
  have h1 := (h c hc).2
  have h2 := (h d hd).2
  exact nI_leI (by omega) (by omega)
def F0m (s : Nat → Int32) (gl : Nat) : Nat → Nat := fun c => if c = gl ∧ ¬ s c = 1 then 0 else 99

theorem lpm_meas0 {g : GG} {M : Mem} {N gl : Nat} (hN : N ≤ 24) (hgl : gl < N) {Q : Option Value → Mem → Prop} : ∀ (n j : Nat), j + n = N → ∀ (f : Nat → Int32) (x4 x5 x6 : Option Value), (∀ c, c < j → f c = nI (F0m (M.1 31) gl c)) → (∀ f' x4 x5 x6 : _, RF N f' (F0m (M.1 31) gl) → wp g mX7_measures 50 [some (ob g 25), some (.int (nI gl)), some (.int (nI N)), some (.int (nI N)), x4, x5, x6] [] (setO M 34 f') Q) → wp g mX7_measures 12 [some (ob g 25), some (.int (nI gl)), some (.int (nI N)), some (.int (nI j)), x4, x5, x6] [] (setO M 34 f) Q := by
  intro n
  induction n with
  | zero =>
    intro j hj f x4 x5 x6 hf K
    obtain rfl : j = N := by omega
    refine wp_iload_n (pc' := 13) dX7_measures_12 rfl rfl ?_
    refine wp_iload_n (pc' := 14) dX7_measures_13 rfl rfl ?_
    refine wp_icmp_ge (pc' := 17) 50 dX7_measures_14 rfl (by decide) (fun h14 => ?_) (fun h14 => ?_)
    · exact K f _ _ _ (fun c hc => ⟨hf c hc, by unfold F0m; split <;> omega⟩)
    · exact absurd (nI_le (Nat.le_refl j) (by omega)) h14
  | succ n ih =>
    intro j hj f x4 x5 x6 hf K
    refine wp_iload_n (pc' := 13) dX7_measures_12 rfl rfl ?_
    refine wp_iload_n (pc' := 14) dX7_measures_13 rfl rfl ?_
    refine wp_icmp_ge (pc' := 17) 50 dX7_measures_14 rfl (by decide) (fun h14 => ?_) (fun h14 => ?_)
    · exact absurd h14 (nI_ge (by omega) (by omega))
    · refine wp_aload_n (pc' := 18) dX7_measures_17 rfl rfl ⟨_, rfl⟩ ?_
      refine wp_get (pc' := 21) (o := 25) dX7_measures_18 rfl flX7_35 (by decide) rfl rfl ?_
      refine wp_iload_n (pc' := 22) dX7_measures_21 rfl rfl ?_
      refine wp_iload_n (pc' := 23) dX7_measures_22 rfl rfl ?_
      refine wp_iload_n (pc' := 24) dX7_measures_23 rfl rfl ?_
      refine wp_icmp_ne (pc' := 27) 41 dX7_measures_24 rfl (by decide) (fun h24 => ?_) (fun h24 => ?_)
      · refine wp_bipush (pc' := 43) 99 dX7_measures_41 rfl (by decide) ?_
        refine wp_iastN (pc' := 44) (o := 34) (n := 24) (j) dX7_measures_43 rfl (by decide) (fun _ _ => rfl) (rfl) (by omega) (by decide) ?_
        refine wp_inc3 (pc' := 47) (nI (j + 1)) dX7_measures_44 rfl (by decide) rfl (nI_1 j) ?_
        refine wp_goto 12 dX7_measures_47 (by decide) ?_
        rw [upI_setO]
        refine ih (j + 1) (by omega) _ _ _ _ (fun c hc => ?_) K
        by_cases e : c = j
        · subst e
          refine (if_pos rfl).trans ?_
          rw [F0m, if_neg (fun h => h24 (by rw [h.1]))]; rfl
        · exact (if_neg e).trans (hf c (by omega))
      · refine wp_aload_n (pc' := 28) dX7_measures_27 rfl rfl ⟨_, rfl⟩ ?_
        refine wp_get (pc' := 31) (o := 25) dX7_measures_28 rfl flX7_25 (by decide) rfl rfl ?_
        refine wp_iload_n (pc' := 32) dX7_measures_31 rfl rfl ?_
        refine wp_ialdN (pc' := 33) (o := 31) (n := 76) (j) dX7_measures_32 rfl (by decide) rfl (rfl) (by omega) (by decide) ?_
        refine wp_iconst (pc' := 34) 1 dX7_measures_33 rfl (by decide) ?_
        refine wp_icmp_eq (pc' := 37) 41 dX7_measures_34 rfl (by decide) (fun h34 => ?_) (fun h34 => ?_)
        · refine wp_bipush (pc' := 43) 99 dX7_measures_41 rfl (by decide) ?_
          refine wp_iastN (pc' := 44) (o := 34) (n := 24) (j) dX7_measures_43 rfl (by decide) (fun _ _ => rfl) (rfl) (by omega) (by decide) ?_
          refine wp_inc3 (pc' := 47) (nI (j + 1)) dX7_measures_44 rfl (by decide) rfl (nI_1 j) ?_
          refine wp_goto 12 dX7_measures_47 (by decide) ?_
          rw [upI_setO]
          refine ih (j + 1) (by omega) _ _ _ _ (fun c hc => ?_) K
          by_cases e : c = j
          · subst e
            refine (if_pos rfl).trans ?_
            rw [F0m, if_neg (fun h => h.2 h34)]; rfl
          · exact (if_neg e).trans (hf c (by omega))
        · refine wp_iconst (pc' := 38) 0 dX7_measures_37 rfl (by decide) ?_
          refine wp_goto 43 dX7_measures_38 (by decide) ?_
          refine wp_iastN (pc' := 44) (o := 34) (n := 24) (j) dX7_measures_43 rfl (by decide) (fun _ _ => rfl) (rfl) (by omega) (by decide) ?_
          refine wp_inc3 (pc' := 47) (nI (j + 1)) dX7_measures_44 rfl (by decide) rfl (nI_1 j) ?_
          refine wp_goto 12 dX7_measures_47 (by decide) ?_
          rw [upI_setO]
          refine ih (j + 1) (by omega) _ _ _ _ (fun c hc => ?_) K
          by_cases e : c = j
          · subst e
            refine (if_pos rfl).trans ?_
            rw [F0m, if_pos ⟨(nI_eq (by omega) (by omega)).mp h24, h34⟩]; rfl
          · exact (if_neg e).trans (hf c (by omega))
theorem lpm_ix {g : GG} {M : Mem} {N w c : Nat} {gl : Int32} (hN : N ≤ 24) (hw : M.1 25 8 = nI w) (h0 : 0 < w) (hw2 : w ≤ 24) (hc : c < N) (hbc : ¬ M.1 31 c = 1) {Q : Option Value → Mem → Prop} : ∀ (n d : Nat), d + n = N → ∀ (f : Nat → Int32) (F : Nat → Nat) (mo : Int32) (x6 : Option Value), RF N f F → (mo = 0 ∨ mo = 1) → (∀ f' x6, RF N f' (ix (okS (M.1 31) w) (fun _ => 1) c n d (F, mo)).1 → ((ix (okS (M.1 31) w) (fun _ => 1) c n d (F, mo)).2 = 0 ∨ (ix (okS (M.1 31) w) (fun _ => 1) c n d (F, mo)).2 = 1) → wp g mX7_measures 187 [some (ob g 25), some (.int gl), some (.int (nI N)), some (.int (ix (okS (M.1 31) w) (fun _ => 1) c n d (F, mo)).2), some (.int (nI c)), some (.int (nI N)), x6] [] (setO M 34 f') Q) → wp g mX7_measures 70 [some (ob g 25), some (.int gl), some (.int (nI N)), some (.int mo), some (.int (nI c)), some (.int (nI d)), x6] [] (setO M 34 f) Q := by
  intro n
  induction n with
  | zero =>
    intro d hd f F mo x6 hR hmo K
    obtain rfl : d = N := by omega
    refine wp_iload (pc' := 72) dX7_measures_70 rfl rfl ?_
    refine wp_iload_n (pc' := 73) dX7_measures_72 rfl rfl ?_
    refine wp_icmp_ge (pc' := 76) 187 dX7_measures_73 rfl (by decide) (fun h73 => ?_) (fun h73 => ?_)
    · exact K f _ hR hmo
    · exact absurd (nI_le (Nat.le_refl d) (by omega)) h73
  | succ n ih =>
    intro d hdn f F mo x6 hR hmo K
    have hd : d < N := by omega
    refine wp_iload (pc' := 72) dX7_measures_70 rfl rfl ?_
    refine wp_iload_n (pc' := 73) dX7_measures_72 rfl rfl ?_
    refine wp_icmp_ge (pc' := 76) 187 dX7_measures_73 rfl (by decide) (fun h73 => ?_) (fun h73 => ?_)
    · exact absurd h73 (nI_ge (by omega) (by omega))
    · refine wp_aload_n (pc' := 77) dX7_measures_76 rfl rfl ⟨_, rfl⟩ ?_
      refine wp_get (pc' := 80) (o := 25) dX7_measures_77 rfl flX7_25 (by decide) rfl rfl ?_
      refine wp_iload (pc' := 82) dX7_measures_80 rfl rfl ?_
      refine wp_ialdN (pc' := 83) (o := 31) (n := 76) (c) dX7_measures_82 rfl (by decide) rfl (rfl) (by omega) (by decide) ?_
      refine wp_iconst (pc' := 84) 1 dX7_measures_83 rfl (by decide) ?_
      refine wp_icmp_eq (pc' := 87) 187 dX7_measures_84 rfl (by decide) (fun h84 => ?_) (fun h84 => ?_)
      · exact absurd h84 hbc
      · refine wp_aload_n (pc' := 88) dX7_measures_87 rfl rfl ⟨_, rfl⟩ ?_
        refine wp_get (pc' := 91) (o := 25) dX7_measures_88 rfl flX7_25 (by decide) rfl rfl ?_
        refine wp_iload (pc' := 93) dX7_measures_91 rfl rfl ?_
        refine wp_ialdN (pc' := 94) (o := 31) (n := 76) (d) dX7_measures_93 rfl (by decide) rfl (rfl) (by omega) (by decide) ?_
        refine wp_iconst (pc' := 95) 1 dX7_measures_94 rfl (by decide) ?_
        refine wp_icmp_eq (pc' := 98) 132 dX7_measures_95 rfl (by decide) (fun h95 => ?_) (fun h95 => ?_)
        · refine wp_iconst (pc' := 133) 0 dX7_measures_132 rfl (by decide) ?_
          refine wp_ist6 (pc' := 135) dX7_measures_133 rfl (by decide) rfl ?_
          refine wp_aload_n (pc' := 136) dX7_measures_135 rfl rfl ⟨_, rfl⟩ ?_
          refine wp_get (pc' := 139) (o := 25) dX7_measures_136 rfl flX7_35 (by decide) rfl rfl ?_
          refine wp_iload (pc' := 141) dX7_measures_139 rfl rfl ?_
          refine wp_iload (pc' := 143) dX7_measures_141 rfl rfl ?_
          refine wp_if_eq (pc' := 146) 158 dX7_measures_143 rfl (by decide) (fun _ => ?_) (fun hh => absurd hh (by decide))
          refine wp_aload_n (pc' := 159) dX7_measures_158 rfl rfl ⟨_, rfl⟩ ?_
          refine wp_get (pc' := 162) (o := 25) dX7_measures_159 rfl flX7_35 (by decide) rfl rfl ?_
          refine wp_iload (pc' := 164) dX7_measures_162 rfl rfl ?_
          refine wp_ialdN (pc' := 165) (o := 34) (n := 24) (c) dX7_measures_164 rfl (by decide) rfl (rfl) (by omega) (by decide) ?_
          refine wp_iastN (pc' := 166) (o := 34) (n := 24) (c) dX7_measures_165 rfl (by decide) (fun _ _ => rfl) (rfl) (by omega) (by decide) ?_
          refine wp_iload_n (pc' := 167) dX7_measures_166 rfl rfl ?_
          refine wp_if_ne (pc' := 170) 175 dX7_measures_167 rfl (by decide) (fun h167 => ?_) (fun h167 => ?_)
          · refine wp_iconst (pc' := 176) 1 dX7_measures_175 rfl (by decide) ?_
            refine wp_goto 180 dX7_measures_176 (by decide) ?_
            refine wp_ist3 (pc' := 181) dX7_measures_180 rfl (by decide) rfl ?_
            refine wp_inc5 (pc' := 184) (nI (d + 1)) dX7_measures_181 rfl (by decide) rfl (nI_1 d) ?_
            refine wp_goto 70 dX7_measures_184 (by decide) ?_
            have e : rx (okS (M.1 31) w) (fun _ => 1) c d (F, mo) = (F, mo) := rx_no (okS_no1 h95)
            rw [ixS, e] at K
            rw [upI_setO, setO_eq, upd_self]
            obtain rfl := bit_or hmo h167
            exact ih (d + 1) (by omega) f F _ _ hR (by simp) K
          · refine wp_iload (pc' := 172) dX7_measures_170 rfl rfl ?_
            refine wp_if_eq (pc' := 175) 179 dX7_measures_172 rfl (by decide) (fun _ => ?_) (fun hh => absurd hh (by decide))
            refine wp_iconst (pc' := 180) 0 dX7_measures_179 rfl (by decide) ?_
            refine wp_ist3 (pc' := 181) dX7_measures_180 rfl (by decide) rfl ?_
            refine wp_inc5 (pc' := 184) (nI (d + 1)) dX7_measures_181 rfl (by decide) rfl (nI_1 d) ?_
            refine wp_goto 70 dX7_measures_184 (by decide) ?_
            have e : rx (okS (M.1 31) w) (fun _ => 1) c d (F, mo) = (F, mo) := rx_no (okS_no1 h95)
            rw [ixS, e] at K
            rw [upI_setO, setO_eq, upd_self]
            obtain rfl : mo = 0 := h167
            exact ih (d + 1) (by omega) f F _ _ hR (by simp) K
        · refine wp_aload_n (pc' := 99) dX7_measures_98 rfl rfl ⟨_, rfl⟩ ?_
          refine wp_iload (pc' := 101) dX7_measures_99 rfl rfl ?_
          refine wp_iload (pc' := 103) dX7_measures_101 rfl rfl ?_
          refine wp_cVI (μ' := mX7_isStep) (pc' := 106) (o := 25) dX7_measures_103 rfl mlX7_151 cfX7_isStep ⟨(Nat.le_of_ble_eq_true rfl), (Nat.le_of_ble_eq_true rfl)⟩ (sm_isStep (M := setO M 34 f) hw h0 hw2 (by omega) (by omega)) (by decide) rfl rfl rfl rfl rfl (Nat.le_of_ble_eq_true rfl) ?_
          refine wp_if_eq (pc' := 109) 132 dX7_measures_106 rfl (by decide) (fun h106 => ?_) (fun h106 => ?_)
          · refine wp_iconst (pc' := 133) 0 dX7_measures_132 rfl (by decide) ?_
            refine wp_ist6 (pc' := 135) dX7_measures_133 rfl (by decide) rfl ?_
            refine wp_aload_n (pc' := 136) dX7_measures_135 rfl rfl ⟨_, rfl⟩ ?_
            refine wp_get (pc' := 139) (o := 25) dX7_measures_136 rfl flX7_35 (by decide) rfl rfl ?_
            refine wp_iload (pc' := 141) dX7_measures_139 rfl rfl ?_
            refine wp_iload (pc' := 143) dX7_measures_141 rfl rfl ?_
            refine wp_if_eq (pc' := 146) 158 dX7_measures_143 rfl (by decide) (fun _ => ?_) (fun hh => absurd hh (by decide))
            refine wp_aload_n (pc' := 159) dX7_measures_158 rfl rfl ⟨_, rfl⟩ ?_
            refine wp_get (pc' := 162) (o := 25) dX7_measures_159 rfl flX7_35 (by decide) rfl rfl ?_
            refine wp_iload (pc' := 164) dX7_measures_162 rfl rfl ?_
            refine wp_ialdN (pc' := 165) (o := 34) (n := 24) (c) dX7_measures_164 rfl (by decide) rfl (rfl) (by omega) (by decide) ?_
            refine wp_iastN (pc' := 166) (o := 34) (n := 24) (c) dX7_measures_165 rfl (by decide) (fun _ _ => rfl) (rfl) (by omega) (by decide) ?_
            refine wp_iload_n (pc' := 167) dX7_measures_166 rfl rfl ?_
            refine wp_if_ne (pc' := 170) 175 dX7_measures_167 rfl (by decide) (fun h167 => ?_) (fun h167 => ?_)
            · refine wp_iconst (pc' := 176) 1 dX7_measures_175 rfl (by decide) ?_
              refine wp_goto 180 dX7_measures_176 (by decide) ?_
              refine wp_ist3 (pc' := 181) dX7_measures_180 rfl (by decide) rfl ?_
              refine wp_inc5 (pc' := 184) (nI (d + 1)) dX7_measures_181 rfl (by decide) rfl (nI_1 d) ?_
              refine wp_goto 70 dX7_measures_184 (by decide) ?_
              have e : rx (okS (M.1 31) w) (fun _ => 1) c d (F, mo) = (F, mo) := rx_no (okS_no2 h106)
              rw [ixS, e] at K
              rw [upI_setO, setO_eq, upd_self]
              obtain rfl := bit_or hmo h167
              exact ih (d + 1) (by omega) f F _ _ hR (by simp) K
            · refine wp_iload (pc' := 172) dX7_measures_170 rfl rfl ?_
              refine wp_if_eq (pc' := 175) 179 dX7_measures_172 rfl (by decide) (fun _ => ?_) (fun hh => absurd hh (by decide))
              refine wp_iconst (pc' := 180) 0 dX7_measures_179 rfl (by decide) ?_
              refine wp_ist3 (pc' := 181) dX7_measures_180 rfl (by decide) rfl ?_
              refine wp_inc5 (pc' := 184) (nI (d + 1)) dX7_measures_181 rfl (by decide) rfl (nI_1 d) ?_
              refine wp_goto 70 dX7_measures_184 (by decide) ?_
              have e : rx (okS (M.1 31) w) (fun _ => 1) c d (F, mo) = (F, mo) := rx_no (okS_no2 h106)
              rw [ixS, e] at K
              rw [upI_setO, setO_eq, upd_self]
              obtain rfl : mo = 0 := h167
              exact ih (d + 1) (by omega) f F _ _ hR (by simp) K
          · refine wp_aload_n (pc' := 110) dX7_measures_109 rfl rfl ⟨_, rfl⟩ ?_
            refine wp_get (pc' := 113) (o := 25) dX7_measures_110 rfl flX7_35 (by decide) rfl rfl ?_
            refine wp_iload (pc' := 115) dX7_measures_113 rfl rfl ?_
            refine wp_ialdN (pc' := 116) (o := 34) (n := 24) (d) dX7_measures_115 rfl (by decide) rfl (rfl) (by omega) (by decide) ?_
            refine wp_iconst (pc' := 117) 1 dX7_measures_116 rfl (by decide) ?_
            refine wp_iadd (pc' := 118) dX7_measures_117 rfl ?_
            refine wp_aload_n (pc' := 119) dX7_measures_118 rfl rfl ⟨_, rfl⟩ ?_
            refine wp_get (pc' := 122) (o := 25) dX7_measures_119 rfl flX7_35 (by decide) rfl rfl ?_
            refine wp_iload (pc' := 124) dX7_measures_122 rfl rfl ?_
            refine wp_ialdN (pc' := 125) (o := 34) (n := 24) (c) dX7_measures_124 rfl (by decide) rfl (rfl) (by omega) (by decide) ?_
            refine wp_icmp_ge (pc' := 128) 132 dX7_measures_125 rfl (by decide) (fun h125 => ?_) (fun h125 => ?_)
            · refine wp_iconst (pc' := 133) 0 dX7_measures_132 rfl (by decide) ?_
              refine wp_ist6 (pc' := 135) dX7_measures_133 rfl (by decide) rfl ?_
              refine wp_aload_n (pc' := 136) dX7_measures_135 rfl rfl ⟨_, rfl⟩ ?_
              refine wp_get (pc' := 139) (o := 25) dX7_measures_136 rfl flX7_35 (by decide) rfl rfl ?_
              refine wp_iload (pc' := 141) dX7_measures_139 rfl rfl ?_
              refine wp_iload (pc' := 143) dX7_measures_141 rfl rfl ?_
              refine wp_if_eq (pc' := 146) 158 dX7_measures_143 rfl (by decide) (fun _ => ?_) (fun hh => absurd hh (by decide))
              refine wp_aload_n (pc' := 159) dX7_measures_158 rfl rfl ⟨_, rfl⟩ ?_
              refine wp_get (pc' := 162) (o := 25) dX7_measures_159 rfl flX7_35 (by decide) rfl rfl ?_
              refine wp_iload (pc' := 164) dX7_measures_162 rfl rfl ?_
              refine wp_ialdN (pc' := 165) (o := 34) (n := 24) (c) dX7_measures_164 rfl (by decide) rfl (rfl) (by omega) (by decide) ?_
              refine wp_iastN (pc' := 166) (o := 34) (n := 24) (c) dX7_measures_165 rfl (by decide) (fun _ _ => rfl) (rfl) (by omega) (by decide) ?_
              refine wp_iload_n (pc' := 167) dX7_measures_166 rfl rfl ?_
              refine wp_if_ne (pc' := 170) 175 dX7_measures_167 rfl (by decide) (fun h167 => ?_) (fun h167 => ?_)
              · refine wp_iconst (pc' := 176) 1 dX7_measures_175 rfl (by decide) ?_
                refine wp_goto 180 dX7_measures_176 (by decide) ?_
                refine wp_ist3 (pc' := 181) dX7_measures_180 rfl (by decide) rfl ?_
                refine wp_inc5 (pc' := 184) (nI (d + 1)) dX7_measures_181 rfl (by decide) rfl (nI_1 d) ?_
                refine wp_goto 70 dX7_measures_184 (by decide) ?_
                have e : rx (okS (M.1 31) w) (fun _ => 1) c d (F, mo) = (F, mo) := rx_no2 (Nat.not_lt.mpr ((RF_le hR hc hd (Nat.le_refl 1)).mp h125))
                rw [ixS, e] at K
                rw [upI_setO, setO_eq, upd_self]
                obtain rfl := bit_or hmo h167
                exact ih (d + 1) (by omega) f F _ _ hR (by simp) K
              · refine wp_iload (pc' := 172) dX7_measures_170 rfl rfl ?_
                refine wp_if_eq (pc' := 175) 179 dX7_measures_172 rfl (by decide) (fun _ => ?_) (fun hh => absurd hh (by decide))
                refine wp_iconst (pc' := 180) 0 dX7_measures_179 rfl (by decide) ?_
                refine wp_ist3 (pc' := 181) dX7_measures_180 rfl (by decide) rfl ?_
                refine wp_inc5 (pc' := 184) (nI (d + 1)) dX7_measures_181 rfl (by decide) rfl (nI_1 d) ?_
                refine wp_goto 70 dX7_measures_184 (by decide) ?_
                have e : rx (okS (M.1 31) w) (fun _ => 1) c d (F, mo) = (F, mo) := rx_no2 (Nat.not_lt.mpr ((RF_le hR hc hd (Nat.le_refl 1)).mp h125))
                rw [ixS, e] at K
                rw [upI_setO, setO_eq, upd_self]
                obtain rfl : mo = 0 := h167
                exact ih (d + 1) (by omega) f F _ _ hR (by simp) K
            · refine wp_iconst (pc' := 129) 1 dX7_measures_128 rfl (by decide) ?_
              refine wp_goto 133 dX7_measures_129 (by decide) ?_
              refine wp_ist6 (pc' := 135) dX7_measures_133 rfl (by decide) rfl ?_
              refine wp_aload_n (pc' := 136) dX7_measures_135 rfl rfl ⟨_, rfl⟩ ?_
              refine wp_get (pc' := 139) (o := 25) dX7_measures_136 rfl flX7_35 (by decide) rfl rfl ?_
              refine wp_iload (pc' := 141) dX7_measures_139 rfl rfl ?_
              refine wp_iload (pc' := 143) dX7_measures_141 rfl rfl ?_
              refine wp_if_eq (pc' := 146) 158 dX7_measures_143 rfl (by decide) (fun hh => absurd hh (by decide)) (fun _ => ?_)
              refine wp_aload_n (pc' := 147) dX7_measures_146 rfl rfl ⟨_, rfl⟩ ?_
              refine wp_get (pc' := 150) (o := 25) dX7_measures_147 rfl flX7_35 (by decide) rfl rfl ?_
              refine wp_iload (pc' := 152) dX7_measures_150 rfl rfl ?_
              refine wp_ialdN (pc' := 153) (o := 34) (n := 24) (d) dX7_measures_152 rfl (by decide) rfl (rfl) (by omega) (by decide) ?_
              refine wp_iconst (pc' := 154) 1 dX7_measures_153 rfl (by decide) ?_
              refine wp_iadd (pc' := 155) dX7_measures_154 rfl ?_
              refine wp_goto 165 dX7_measures_155 (by decide) ?_
              refine wp_iastN (pc' := 166) (o := 34) (n := 24) (c) dX7_measures_165 rfl (by decide) (fun _ _ => rfl) (rfl) (by omega) (by decide) ?_
              refine wp_iload_n (pc' := 167) dX7_measures_166 rfl rfl ?_
              refine wp_if_ne (pc' := 170) 175 dX7_measures_167 rfl (by decide) (fun h167 => ?_) (fun h167 => ?_)
              · refine wp_iconst (pc' := 176) 1 dX7_measures_175 rfl (by decide) ?_
                refine wp_goto 180 dX7_measures_176 (by decide) ?_
                refine wp_ist3 (pc' := 181) dX7_measures_180 rfl (by decide) rfl ?_
                refine wp_inc5 (pc' := 184) (nI (d + 1)) dX7_measures_181 rfl (by decide) rfl (nI_1 d) ?_
                refine wp_goto 70 dX7_measures_184 (by decide) ?_
                have hlt : F d + 1 < F c := Nat.lt_of_not_le (fun h => h125 ((RF_le hR hc hd (Nat.le_refl 1)).mpr h))
                have e : rx (okS (M.1 31) w) (fun _ => 1) c d (F, mo) = (updN F c (F d + 1), 1) := if_pos ⟨okS_yes hbc h95 h106, hlt⟩
                rw [ixS, e] at K
                rw [upI_setO, setO_eq, (hR d hd).1, nI_1]
                exact ih (d + 1) (by omega) _ _ _ _ (RF_upd hR (by have := (hR c hc).2; omega)) (by simp) K
              · refine wp_iload (pc' := 172) dX7_measures_170 rfl rfl ?_
                refine wp_if_eq (pc' := 175) 179 dX7_measures_172 rfl (by decide) (fun hh => absurd hh (by decide)) (fun _ => ?_)
                refine wp_iconst (pc' := 176) 1 dX7_measures_175 rfl (by decide) ?_
                refine wp_goto 180 dX7_measures_176 (by decide) ?_
                refine wp_ist3 (pc' := 181) dX7_measures_180 rfl (by decide) rfl ?_
                refine wp_inc5 (pc' := 184) (nI (d + 1)) dX7_measures_181 rfl (by decide) rfl (nI_1 d) ?_
                refine wp_goto 70 dX7_measures_184 (by decide) ?_
                have hlt : F d + 1 < F c := Nat.lt_of_not_le (fun h => h125 ((RF_le hR hc hd (Nat.le_refl 1)).mpr h))
                have e : rx (okS (M.1 31) w) (fun _ => 1) c d (F, mo) = (updN F c (F d + 1), 1) := if_pos ⟨okS_yes hbc h95 h106, hlt⟩
                rw [ixS, e] at K
                rw [upI_setO, setO_eq, (hR d hd).1, nI_1]
                exact ih (d + 1) (by omega) _ _ _ _ (RF_upd hR (by have := (hR c hc).2; omega)) (by simp) K
theorem lpm_skip {g : GG} {M : Mem} {N w c : Nat} {gl mo : Int32} {x6 : Option Value} {f : Nat → Int32} (hN : N ≤ 24) (hc : c < N) (hbc : M.1 31 c = 1) {Q : Option Value → Mem → Prop} (K : wp g mX7_measures 187 [some (ob g 25), some (.int gl), some (.int (nI N)), some (.int mo), some (.int (nI c)), some (.int 0), x6] [] (setO M 34 f) Q) : wp g mX7_measures 70 [some (ob g 25), some (.int gl), some (.int (nI N)), some (.int mo), some (.int (nI c)), some (.int 0), x6] [] (setO M 34 f) Q := by
  refine wp_iload (pc' := 72) dX7_measures_70 rfl rfl ?_
  refine wp_iload_n (pc' := 73) dX7_measures_72 rfl rfl ?_
  refine wp_icmp_ge (pc' := 76) 187 dX7_measures_73 rfl (by decide) (fun h73 => ?_) (fun h73 => ?_)
  · exact absurd h73 (nI_ge (a := 0) (by omega) (by omega))
  · refine wp_aload_n (pc' := 77) dX7_measures_76 rfl rfl ⟨_, rfl⟩ ?_
    refine wp_get (pc' := 80) (o := 25) dX7_measures_77 rfl flX7_25 (by decide) rfl rfl ?_
    refine wp_iload (pc' := 82) dX7_measures_80 rfl rfl ?_
    refine wp_ialdN (pc' := 83) (o := 31) (n := 76) (c) dX7_measures_82 rfl (by decide) rfl (rfl) (by omega) (by decide) ?_
    refine wp_iconst (pc' := 84) 1 dX7_measures_83 rfl (by decide) ?_
    refine wp_icmp_eq (pc' := 87) 187 dX7_measures_84 rfl (by decide) (fun h84 => ?_) (fun h84 => ?_)
    · exact K
    · exact absurd hbc h84
theorem lpm_mx {g : GG} {M : Mem} {N w : Nat} {gl : Int32} (hN : N ≤ 24) (hw : M.1 25 8 = nI w) (h0 : 0 < w) (hw2 : w ≤ 24) {Q : Option Value → Mem → Prop} : ∀ (n c : Nat), c + n = N → ∀ (f : Nat → Int32) (F : Nat → Nat) (mo : Int32) (x5 x6 : Option Value), RF N f F → (mo = 0 ∨ mo = 1) → (∀ f' x5 x6, RF N f' (mx (okS (M.1 31) w) (fun _ => 1) N n c (F, mo)).1 → ((mx (okS (M.1 31) w) (fun _ => 1) N n c (F, mo)).2 = 0 ∨ (mx (okS (M.1 31) w) (fun _ => 1) N n c (F, mo)).2 = 1) → wp g mX7_measures 193 [some (ob g 25), some (.int gl), some (.int (nI N)), some (.int (mx (okS (M.1 31) w) (fun _ => 1) N n c (F, mo)).2), some (.int (nI N)), x5, x6] [] (setO M 34 f') Q) → wp g mX7_measures 61 [some (ob g 25), some (.int gl), some (.int (nI N)), some (.int mo), some (.int (nI c)), x5, x6] [] (setO M 34 f) Q := by
  intro n
  induction n with
  | zero =>
    intro c hc f F mo x5 x6 hR hmo K
    obtain rfl : c = N := by omega
    refine wp_iload (pc' := 63) dX7_measures_61 rfl rfl ?_
    refine wp_iload_n (pc' := 64) dX7_measures_63 rfl rfl ?_
    refine wp_icmp_ge (pc' := 67) 193 dX7_measures_64 rfl (by decide) (fun h64 => ?_) (fun h64 => ?_)
    · exact K f _ _ hR hmo
    · exact absurd (nI_le (Nat.le_refl c) (by omega)) h64
  | succ n ih =>
    intro c hcn f F mo x5 x6 hR hmo K
    have hc : c < N := by omega
    rw [mxS] at K
    refine wp_iload (pc' := 63) dX7_measures_61 rfl rfl ?_
    refine wp_iload_n (pc' := 64) dX7_measures_63 rfl rfl ?_
    refine wp_icmp_ge (pc' := 67) 193 dX7_measures_64 rfl (by decide) (fun h64 => ?_) (fun h64 => ?_)
    · exact absurd h64 (nI_ge (by omega) (by omega))
    · refine wp_iconst (pc' := 68) 0 dX7_measures_67 rfl (by decide) ?_
      refine wp_ist5 (pc' := 70) dX7_measures_68 rfl (by decide) rfl ?_
      by_cases hbc : M.1 31 c = 1
      · rw [ix_no (fun d => okS_no0 hbc)] at K
        refine lpm_skip (w := w) hN hc hbc ?_
        refine wp_inc4 (pc' := 190) (nI (c + 1)) dX7_measures_187 rfl (by decide) rfl (nI_1 c) ?_
        refine wp_goto 61 dX7_measures_190 (by decide) ?_
        exact ih (c + 1) (by omega) _ _ _ _ _ hR hmo K
      · refine lpm_ix hN hw h0 hw2 hc hbc N 0 (Nat.zero_add N) f F mo _ hR hmo (fun f1 y6 hR1 hmo1 => ?_)
        refine wp_inc4 (pc' := 190) (nI (c + 1)) dX7_measures_187 rfl (by decide) rfl (nI_1 c) ?_
        refine wp_goto 61 dX7_measures_190 (by decide) ?_
        exact ih (c + 1) (by omega) f1 _ _ _ _ hR1 hmo1 K
def StableR (ok : Nat → Nat → Bool) (ad : Nat → Nat) (N : Nat) (F : Nat → Nat) : Prop := ∀ b, b < N → ∀ e, e < N → ok b e = true → F b ≤ F e + ad b
theorem lpm_wh {g : GG} {M : Mem} {N w : Nat} {gl : Int32} (hN : N ≤ 24) (hw : M.1 25 8 = nI w) (h0 : 0 < w) (hw2 : w ≤ 24) {J : (Nat → Nat) → Prop} (hJ : ∀ F c d, c < N → d < N → okS (M.1 31) w c d = true → F d + 1 < F c → J F → J (updN F c (F d + 1))) {Q : Option Value → Mem → Prop} (K : ∀ f F, RF N f F → J F → StableR (okS (M.1 31) w) (fun _ => 1) N F → Q none (setO M 34 f)) : ∀ (T : Nat) (F : Nat → Nat) (f : Nat → Int32) (x4 x5 x6 : Option Value), sumF F N ≤ T → RF N f F → J F → wp g mX7_measures 52 [some (ob g 25), some (.int gl), some (.int (nI N)), some (.int 1), x4, x5, x6] [] (setO M 34 f) Q := by
  intro T
  induction T with
  | zero =>
    intro F f x4 x5 x6 hT hR hF
    refine wp_iload_n (pc' := 53) dX7_measures_52 rfl rfl ?_
    refine wp_if_eq (pc' := 56) 196 dX7_measures_53 rfl (by decide) (fun hh => absurd hh (by decide)) (fun _ => ?_)
    refine wp_iconst (pc' := 57) 0 dX7_measures_56 rfl (by decide) ?_
    refine wp_ist3 (pc' := 58) dX7_measures_57 rfl (by decide) rfl ?_
    refine wp_iconst (pc' := 59) 0 dX7_measures_58 rfl (by decide) ?_
    refine wp_ist4 (pc' := 61) dX7_measures_59 rfl (by decide) rfl ?_
    refine lpm_mx hN hw h0 hw2 N 0 (Nat.zero_add N) f F 0 _ _ hR (Or.inl rfl) (fun f1 y5 y6 hR1 hmo1 => ?_)
    have hch := mx_ch (ok := okS (M.1 31) w) (ad := fun _ => 1) (N := N) N 0 (by omega) (F, 0)
    have hfx := mx_fix (ok := okS (M.1 31) w) (ad := fun _ => 1) (N := N) N 0 (by omega) (F, 0) rfl
    have hj1 := mx_J (ok := okS (M.1 31) w) (ad := fun _ => 1) (N := N) (J := J) hJ N 0 (by omega) (F, 0) hF
    generalize mx (okS (M.1 31) w) (fun _ => 1) N N 0 (F, 0) = r at hR1 hmo1 hch hfx hj1 ⊢
    obtain ⟨F1, mo1⟩ := r
    dsimp only at hR1 hmo1 hch hfx hj1 ⊢
    rcases hmo1 with rfl | rfl
    · obtain ⟨e1, e2⟩ := hfx rfl
      obtain rfl : F1 = F := (Prod.mk.inj e1).1
      refine wp_goto 52 dX7_measures_193 (by decide) ?_
      refine wp_iload_n (pc' := 53) dX7_measures_52 rfl rfl ?_
      refine wp_if_eq (pc' := 56) 196 dX7_measures_53 rfl (by decide) (fun _ => ?_) (fun hh => absurd hh (by decide))
      refine wp_vret dX7_measures_196 rfl ?_
      exact K f1 F1 hR1 hj1 (fun b hb e he hok => Nat.not_lt.mp (e2 b (Nat.zero_le b) (by omega) e he hok))
    · rcases hch with hch | ⟨_, hlt⟩
      · exact absurd (congrArg Prod.snd hch) (show ¬ (1 : Int32) = 0 by decide)
      · exact absurd hlt (by dsimp only; omega)
  | succ T ih =>
    intro F f x4 x5 x6 hT hR hF
    refine wp_iload_n (pc' := 53) dX7_measures_52 rfl rfl ?_
    refine wp_if_eq (pc' := 56) 196 dX7_measures_53 rfl (by decide) (fun hh => absurd hh (by decide)) (fun _ => ?_)
    refine wp_iconst (pc' := 57) 0 dX7_measures_56 rfl (by decide) ?_
    refine wp_ist3 (pc' := 58) dX7_measures_57 rfl (by decide) rfl ?_
    refine wp_iconst (pc' := 59) 0 dX7_measures_58 rfl (by decide) ?_
    refine wp_ist4 (pc' := 61) dX7_measures_59 rfl (by decide) rfl ?_
    refine lpm_mx hN hw h0 hw2 N 0 (Nat.zero_add N) f F 0 _ _ hR (Or.inl rfl) (fun f1 y5 y6 hR1 hmo1 => ?_)
    have hch := mx_ch (ok := okS (M.1 31) w) (ad := fun _ => 1) (N := N) N 0 (by omega) (F, 0)
    have hfx := mx_fix (ok := okS (M.1 31) w) (ad := fun _ => 1) (N := N) N 0 (by omega) (F, 0) rfl
    have hj1 := mx_J (ok := okS (M.1 31) w) (ad := fun _ => 1) (N := N) (J := J) hJ N 0 (by omega) (F, 0) hF
    generalize mx (okS (M.1 31) w) (fun _ => 1) N N 0 (F, 0) = r at hR1 hmo1 hch hfx hj1 ⊢
    obtain ⟨F1, mo1⟩ := r
    dsimp only at hR1 hmo1 hch hfx hj1 ⊢
    rcases hmo1 with rfl | rfl
    · obtain ⟨e1, e2⟩ := hfx rfl
      obtain rfl : F1 = F := (Prod.mk.inj e1).1
      refine wp_goto 52 dX7_measures_193 (by decide) ?_
      refine wp_iload_n (pc' := 53) dX7_measures_52 rfl rfl ?_
      refine wp_if_eq (pc' := 56) 196 dX7_measures_53 rfl (by decide) (fun _ => ?_) (fun hh => absurd hh (by decide))
      refine wp_vret dX7_measures_196 rfl ?_
      exact K f1 F1 hR1 hj1 (fun b hb e he hok => Nat.not_lt.mp (e2 b (Nat.zero_le b) (by omega) e he hok))
    · rcases hch with hch | ⟨_, hlt⟩
      · exact absurd (congrArg Prod.snd hch) (show ¬ (1 : Int32) = 0 by decide)
      · refine wp_goto 52 dX7_measures_193 (by decide) ?_
        exact ih F1 f1 _ _ _ (by dsimp only at hlt; omega) hR1 hj1
theorem sm_measures {g : GG} {M : Mem} {N w gl : Nat} (hN : N ≤ 24) (hwh : M.1 25 8 * M.1 25 9 = nI N) (hw : M.1 25 8 = nI w) (h0 : 0 < w) (hw2 : w ≤ 24) (hgl : gl < N) {J : (Nat → Nat) → Prop} (hJ : ∀ F c d, c < N → d < N → okS (M.1 31) w c d = true → F d + 1 < F c → J F → J (updN F c (F d + 1))) (hJ0 : J (F0m (M.1 31) gl)) : SV g mX7_measures [ob g 25, .int (nI gl)] M (fun m => ∃ f F, m = setO M 34 f ∧ RF N f F ∧ J F ∧ StableR (okS (M.1 31) w) (fun _ => 1) N F) := by
  refine spec_of_wp (ls := [some (ob g 25), some (.int (nI gl)), none, none, none, none, none]) rfl (Nat.le_of_ble_eq_true rfl) 5 rfl ?_
  refine wp_aload_n (pc' := 1) dX7_measures_0 rfl rfl ⟨_, rfl⟩ ?_
  refine wp_get (pc' := 4) (o := 25) dX7_measures_1 rfl flX7_51 (by decide) rfl rfl ?_
  refine wp_aload_n (pc' := 5) dX7_measures_4 rfl rfl ⟨_, rfl⟩ ?_
  refine wp_get (pc' := 8) (o := 25) dX7_measures_5 rfl flX7_54 (by decide) rfl rfl ?_
  refine wp_imul (pc' := 9) dX7_measures_8 rfl ?_
  refine wp_top (hwh) ?_
  refine wp_ist2 (pc' := 10) dX7_measures_9 rfl (by decide) rfl ?_
  refine wp_iconst (pc' := 11) 0 dX7_measures_10 rfl (by decide) ?_
  refine wp_ist3 (pc' := 12) dX7_measures_11 rfl (by decide) rfl ?_
  refine wp_mem (setO_self M 34).symm ?_
  refine lpm_meas0 hN hgl N 0 (Nat.zero_add N) _ _ _ _ (fun c hc => absurd hc (Nat.not_lt_zero c)) (fun f1 y4 y5 y6 hR1 => ?_)
  refine wp_iconst (pc' := 51) 1 dX7_measures_50 rfl (by decide) ?_
  refine wp_ist3 (pc' := 52) dX7_measures_51 rfl (by decide) rfl ?_
  exact lpm_wh hN hw h0 hw2 hJ (fun f F hR hF hS => ⟨rfl, f, F, rfl, hR, hF, hS⟩) _ _ _ _ _ _ (Nat.le_refl _) hR1 hJ0
