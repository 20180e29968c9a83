
/-! ===== the reference passes and lays ===== -/
def EN (M : Mem) (N k a b : Nat) : Prop := M.1 29 (2 * k) = nI a ∧ M.1 29 (2 * k + 1) = nI b ∧ a < N ∧ b < N ∧ k < 4
def pwS (N : Nat) (be : Nat → Bool) (ad : Nat → Nat → Bool) (F : Nat → Nat) (sink : Int32) : Nat → Nat → (Nat → Int32) → (Nat → Int32)
  | 0, _, s => s
  | n + 1, p, s => pwS N be ad F sink n (nxN N be ad F p) (upd s (24 + nxN N be ad F p) (s (24 + nxN N be ad F p) - if s (nxN N be ad F p) = 2 ∧ ¬ sink ≤ 0 then 1 else 0))
def skS (sink : Int32) : Nat → Nat → (Nat → Int32) → (Nat → Int32)
  | 0, _, s => s
  | n + 1, d, s => skS sink n (d + 1) (if s d = 2 ∧ ¬ sink ≤ 0 ∧ s (24 + d) = 0 then upd (upd s d 1) (48 + d) (-9) else s)
def laS (sink : Int32) (k c : Nat) (s : Nat → Int32) : Nat → Int32 :=
  let s1 := upd (upd (upd s c 2) (24 + c) sink) (48 + c) (nI k)
  upd s1 (72 + k) (s1 (72 + k) + 1)
def palS (N : Nat) (be : Nat → Bool) (ad : Nat → Nat → Bool) (sink : Int32) (a b k c : Nat) (s : Nat → Int32) : Nat → Int32 := laS sink k c (skS sink N 0 (pwS N be ad (dF N be ad b) sink (dF N be ad b a) a s))
theorem owF_congr {be be' : Nat → Bool} {ad : Nat → Nat → Bool} {F : Nat → Nat} {c : Nat} : ∀ (n : Nat), (∀ d, d < n → be d = be' d) → ∀ fd, owF be ad F c n fd = owF be' ad F c n fd := by
  intro n
  induction n with
  | zero => intro _ fd; rfl
  | succ n ih =>
    intro h fd
    rw [owF, owF, ih (fun d hd => h d (by omega))]
    have : nxP be ad F c n = nxP be' ad F c n := by unfold nxP; rw [h n (by omega)]
    rw [this]
theorem setO_setO (M : Mem) (o : Nat) (f h : Nat → Int32) : setO (setO M o f) o h = setO M o h := by
  refine Prod.ext (funext fun a => ?_) rfl
  show (if a = o then h else (if a = o then f else M.1 a)) = (if a = o then h else M.1 a)
  by_cases e : a = o <;> simp [e]
theorem setO_swap (M : Mem) {o p : Nat} (f h : Nat → Int32) (hne : o ≠ p) : setO (setO M o f) p h = setO (setO M p h) o f := by
  refine Prod.ext (funext fun a => ?_) rfl
  show (if a = p then h else (if a = o then f else M.1 a)) = (if a = o then f else (if a = p then h else M.1 a))
  by_cases e : a = o
  · subst e; simp [hne]
  · simp [e]

theorem lpm_pal2 {g : GG} {M : Mem} {N k c : Nat} {n3 : Option Value} {x4 : Int32} (hN : N ≤ 24) (hwh : M.1 25 8 * M.1 25 9 = nI N) {Q : Option Value → Mem → Prop} : ∀ (n d : Nat), d + n = N → ∀ (s : Nat → Int32), wp g mX7_passesAndLays 166 [some (ob g 25), some (.int (nI k)), some (.int (nI c)), n3, some (.int x4), some (.int (nI N))] [] (setO M 31 (skS (M.1 25 11) n d s)) Q → wp g mX7_passesAndLays 95 [some (ob g 25), some (.int (nI k)), some (.int (nI c)), n3, some (.int x4), some (.int (nI d))] [] (setO M 31 s) Q := by
  intro n
  induction n with
  | zero =>
    intro d hd s K
    obtain rfl : d = N := by omega
    refine wp_iload (pc' := 97) dX7_passesAndLays_95 rfl rfl ?_
    refine wp_aload_n (pc' := 98) dX7_passesAndLays_97 rfl rfl ⟨_, rfl⟩ ?_
    refine wp_get (pc' := 101) (o := 25) dX7_passesAndLays_98 rfl flX7_51 (by decide) rfl rfl ?_
    refine wp_aload_n (pc' := 102) dX7_passesAndLays_101 rfl rfl ⟨_, rfl⟩ ?_
    refine wp_get (pc' := 105) (o := 25) dX7_passesAndLays_102 rfl flX7_54 (by decide) rfl rfl ?_
    refine wp_imul (pc' := 106) dX7_passesAndLays_105 rfl ?_
    refine wp_top (hwh) ?_
    refine wp_icmp_ge (pc' := 109) 166 dX7_passesAndLays_106 rfl (by decide) (fun h106 => ?_) (fun h106 => ?_)
    · exact K
    · exact absurd (nI_le (Nat.le_refl d) (by omega)) h106
  | succ n ih =>
    intro d hd s K
    refine wp_iload (pc' := 97) dX7_passesAndLays_95 rfl rfl ?_
    refine wp_aload_n (pc' := 98) dX7_passesAndLays_97 rfl rfl ⟨_, rfl⟩ ?_
    refine wp_get (pc' := 101) (o := 25) dX7_passesAndLays_98 rfl flX7_51 (by decide) rfl rfl ?_
    refine wp_aload_n (pc' := 102) dX7_passesAndLays_101 rfl rfl ⟨_, rfl⟩ ?_
    refine wp_get (pc' := 105) (o := 25) dX7_passesAndLays_102 rfl flX7_54 (by decide) rfl rfl ?_
    refine wp_imul (pc' := 106) dX7_passesAndLays_105 rfl ?_
    refine wp_top (hwh) ?_
    refine wp_icmp_ge (pc' := 109) 166 dX7_passesAndLays_106 rfl (by decide) (fun h106 => ?_) (fun h106 => ?_)
    · exact absurd h106 (nI_ge (by omega) (by omega))
    · refine wp_aload_n (pc' := 110) dX7_passesAndLays_109 rfl rfl ⟨_, rfl⟩ ?_
      refine wp_get (pc' := 113) (o := 25) dX7_passesAndLays_110 rfl flX7_25 (by decide) rfl rfl ?_
      refine wp_iload (pc' := 115) dX7_passesAndLays_113 rfl rfl ?_
      refine wp_ialdN (pc' := 116) (o := 31) (n := 76) (d) dX7_passesAndLays_115 rfl (by decide) rfl (rfl) (by omega) (by decide) ?_
      refine wp_iconst (pc' := 117) 2 dX7_passesAndLays_116 rfl (by decide) ?_
      refine wp_icmp_ne (pc' := 120) 160 dX7_passesAndLays_117 rfl (by decide) (fun h117 => ?_) (fun h117 => ?_)
      · refine wp_inc5 (pc' := 163) (nI (d + 1)) dX7_passesAndLays_160 rfl (by decide) rfl (nI_1 d) ?_
        refine wp_goto 95 dX7_passesAndLays_163 (by decide) ?_
        rw [skS, if_neg (fun hh => h117 hh.1)] at K
        exact ih (d + 1) (by omega) _ K
      · refine wp_aload_n (pc' := 121) dX7_passesAndLays_120 rfl rfl ⟨_, rfl⟩ ?_
        refine wp_get (pc' := 124) (o := 25) dX7_passesAndLays_121 rfl flX7_128 (by decide) rfl rfl ?_
        refine wp_if_le (pc' := 127) 160 dX7_passesAndLays_124 rfl (by decide) (fun h124 => ?_) (fun h124 => ?_)
        · refine wp_inc5 (pc' := 163) (nI (d + 1)) dX7_passesAndLays_160 rfl (by decide) rfl (nI_1 d) ?_
          refine wp_goto 95 dX7_passesAndLays_163 (by decide) ?_
          rw [skS, if_neg (fun hh => hh.2.1 h124)] at K
          exact ih (d + 1) (by omega) _ K
        · refine wp_aload_n (pc' := 128) dX7_passesAndLays_127 rfl rfl ⟨_, rfl⟩ ?_
          refine wp_get (pc' := 131) (o := 25) dX7_passesAndLays_128 rfl flX7_25 (by decide) rfl rfl ?_
          refine wp_bipush (pc' := 133) 24 dX7_passesAndLays_131 rfl (by decide) ?_
          refine wp_iload (pc' := 135) dX7_passesAndLays_133 rfl rfl ?_
          refine wp_iadd (pc' := 136) dX7_passesAndLays_135 rfl ?_
          refine wp_ialdN (pc' := 137) (o := 31) (n := 76) (24 + d) dX7_passesAndLays_136 rfl (by decide) rfl (nI_add 24 d) (by omega) (by decide) ?_
          refine wp_if_ne (pc' := 140) 160 dX7_passesAndLays_137 rfl (by decide) (fun h137 => ?_) (fun h137 => ?_)
          · refine wp_inc5 (pc' := 163) (nI (d + 1)) dX7_passesAndLays_160 rfl (by decide) rfl (nI_1 d) ?_
            refine wp_goto 95 dX7_passesAndLays_163 (by decide) ?_
            rw [skS, if_neg (fun hh => h137 hh.2.2)] at K
            exact ih (d + 1) (by omega) _ K
          · refine wp_aload_n (pc' := 141) dX7_passesAndLays_140 rfl rfl ⟨_, rfl⟩ ?_
            refine wp_get (pc' := 144) (o := 25) dX7_passesAndLays_141 rfl flX7_25 (by decide) rfl rfl ?_
            refine wp_iload (pc' := 146) dX7_passesAndLays_144 rfl rfl ?_
            refine wp_iconst (pc' := 147) 1 dX7_passesAndLays_146 rfl (by decide) ?_
            refine wp_iastN (pc' := 148) (o := 31) (n := 76) (d) dX7_passesAndLays_147 rfl (by decide) (fun _ _ => rfl) (rfl) (by omega) (by decide) ?_
            refine wp_aload_n (pc' := 149) dX7_passesAndLays_148 rfl rfl ⟨_, rfl⟩ ?_
            refine wp_get (pc' := 152) (o := 25) dX7_passesAndLays_149 rfl flX7_25 (by decide) rfl rfl ?_
            refine wp_bipush (pc' := 154) 48 dX7_passesAndLays_152 rfl (by decide) ?_
            refine wp_iload (pc' := 156) dX7_passesAndLays_154 rfl rfl ?_
            refine wp_iadd (pc' := 157) dX7_passesAndLays_156 rfl ?_
            refine wp_bipush (pc' := 159) (-9) dX7_passesAndLays_157 rfl (by decide) ?_
            refine wp_iastN (pc' := 160) (o := 31) (n := 76) (48 + d) dX7_passesAndLays_159 rfl (by decide) (fun _ _ => rfl) (nI_add 48 d) (by omega) (by decide) ?_
            refine wp_inc5 (pc' := 163) (nI (d + 1)) dX7_passesAndLays_160 rfl (by decide) rfl (nI_1 d) ?_
            refine wp_goto 95 dX7_passesAndLays_163 (by decide) ?_
            rw [skS, if_pos ⟨h117, h124, h137⟩] at K
            rw [upI_setO, upI_setO]
            exact ih (d + 1) (by omega) _ K
theorem lpm_pal1 {g : GG} {M : Mem} {N w k c L b : Nat} (h : MW M N w) (hb : b < N) (hL : L < 99) {f : Nat → Int32} (hR : RF N f (dM M N w b)) {Q : Option Value → Mem → Prop} : ∀ (n j : Nat), j + n = L → ∀ (p : Nat) (s : Nat → Int32), p < N → beS (M.1 31) p = true → dM M N w b p = n → (∀ d, d < N → s d = M.1 31 d) → (∀ x4 : Int32, wp g mX7_passesAndLays 92 [some (ob g 25), some (.int (nI k)), some (.int (nI c)), some (.int (nI L)), some (.int x4), some (.int (nI L))] [] (setO (setO M 34 f) 31 (pwS N (beS (M.1 31)) (adjB w) (dM M N w b) (M.1 25 11) n p s)) Q) → wp g mX7_passesAndLays 36 [some (ob g 25), some (.int (nI k)), some (.int (nI c)), some (.int (nI L)), some (.int (nI p)), some (.int (nI j))] [] (setO (setO M 34 f) 31 s) Q := by
  intro n
  induction n with
  | zero =>
    intro j hj p s hp hpb hd hs K
    obtain rfl : j = L := by omega
    refine wp_iload (pc' := 38) dX7_passesAndLays_36 rfl rfl ?_
    refine wp_iload_n (pc' := 39) dX7_passesAndLays_38 rfl rfl ?_
    refine wp_icmp_ge (pc' := 42) 92 dX7_passesAndLays_39 rfl (by decide) (fun h39 => ?_) (fun h39 => ?_)
    · exact K _
    · exact absurd (nI_le (Nat.le_refl j) (by omega)) h39
  | succ n ih =>
    intro j hj p s hp hpb hd hs K
    have hN24 := h.1
    have hnx : (nxN N (beS (M.1 31)) (adjB w) (dM M N w b) p) < N ∧ beS (M.1 31) (nxN N (beS (M.1 31)) (adjB w) (dM M N w b) p) = true ∧ adjB w p (nxN N (beS (M.1 31)) (adjB w) (dM M N w b) p) = true ∧ dM M N w b (nxN N (beS (M.1 31)) (adjB w) (dM M N w b) p) + 1 = dM M N w b p := nxN_ok (ad := adjB w) h.1 hb (adjB_comm w) hp hpb (show 0 < dM M N w b p by omega) (show dM M N w b p < 99 by omega)
    obtain ⟨q1, q2, q3, q4⟩ := hnx
    have eb : ∀ d, d < N → beS s d = beS (M.1 31) d := fun d hd => by unfold beS; rw [hs d hd]
    have eo : owF (beS s) (adjB w) (dM M N w b) p N (-9) = nI (nxN N (beS (M.1 31)) (adjB w) (dM M N w b) p) := by
      rw [owF_congr N eb, owF_ls]
      exact if_pos q1
    obtain ⟨q, hq⟩ : ∃ q, q = nxN N (beS (M.1 31)) (adjB w) (dM M N w b) p := ⟨_, rfl⟩
    have q4' : dM M N w b q + 1 = dM M N w b p := by rw [hq]; exact q4
    rw [← hq] at eo q1 q2 q3
    rw [show pwS N (beS (M.1 31)) (adjB w) (dM M N w b) (M.1 25 11) (n + 1) p s = pwS N (beS (M.1 31)) (adjB w) (dM M N w b) (M.1 25 11) n q (upd s (24 + q) (s (24 + q) - if s q = 2 ∧ ¬ M.1 25 11 ≤ 0 then 1 else 0)) from by rw [pwS, ← hq]] at K
    refine wp_iload (pc' := 38) dX7_passesAndLays_36 rfl rfl ?_
    refine wp_iload_n (pc' := 39) dX7_passesAndLays_38 rfl rfl ?_
    refine wp_icmp_ge (pc' := 42) 92 dX7_passesAndLays_39 rfl (by decide) (fun h39 => ?_) (fun h39 => ?_)
    · exact absurd h39 (nI_ge (by omega) (by omega))
    · refine wp_aload_n (pc' := 43) dX7_passesAndLays_42 rfl rfl ⟨_, rfl⟩ ?_
      refine wp_iload (pc' := 45) dX7_passesAndLays_43 rfl rfl ?_
      refine wp_cVI (μ' := mX7_onward) (pc' := 48) (o := 25) dX7_passesAndLays_45 rfl mlX7_162 cfX7_onward ⟨(Nat.le_of_ble_eq_true rfl), (Nat.le_of_ble_eq_true rfl)⟩ (sm_onward (M := setO (setO M 34 f) 31 s) h hp hR) (by decide) rfl rfl rfl rfl rfl (Nat.le_of_ble_eq_true rfl) ?_
      refine wp_top (eo) ?_
      refine wp_ist4 (pc' := 50) dX7_passesAndLays_48 rfl (by decide) rfl ?_
      refine wp_aload_n (pc' := 51) dX7_passesAndLays_50 rfl rfl ⟨_, rfl⟩ ?_
      refine wp_get (pc' := 54) (o := 25) dX7_passesAndLays_51 rfl flX7_25 (by decide) rfl rfl ?_
      refine wp_bipush (pc' := 56) 24 dX7_passesAndLays_54 rfl (by decide) ?_
      refine wp_iload (pc' := 58) dX7_passesAndLays_56 rfl rfl ?_
      refine wp_iadd (pc' := 59) dX7_passesAndLays_58 rfl ?_
      refine wp_dup2 (pc' := 60) dX7_passesAndLays_59 rfl rfl rfl ?_
      refine wp_ialdN (pc' := 61) (o := 31) (n := 76) (24 + q) dX7_passesAndLays_60 rfl (by decide) rfl (nI_add 24 q) (by omega) (by decide) ?_
      refine wp_aload_n (pc' := 62) dX7_passesAndLays_61 rfl rfl ⟨_, rfl⟩ ?_
      refine wp_get (pc' := 65) (o := 25) dX7_passesAndLays_62 rfl flX7_25 (by decide) rfl rfl ?_
      refine wp_iload (pc' := 67) dX7_passesAndLays_65 rfl rfl ?_
      refine wp_ialdN (pc' := 68) (o := 31) (n := 76) (q) dX7_passesAndLays_67 rfl (by decide) rfl (rfl) (by omega) (by decide) ?_
      refine wp_iconst (pc' := 69) 2 dX7_passesAndLays_68 rfl (by decide) ?_
      refine wp_icmp_ne (pc' := 72) 83 dX7_passesAndLays_69 rfl (by decide) (fun h69 => ?_) (fun h69 => ?_)
      · refine wp_iconst (pc' := 84) 0 dX7_passesAndLays_83 rfl (by decide) ?_
        refine wp_isub (pc' := 85) dX7_passesAndLays_84 rfl ?_
        refine wp_iastN (pc' := 86) (o := 31) (n := 76) (24 + q) dX7_passesAndLays_85 rfl (by decide) (fun _ _ => rfl) (nI_add 24 q) (by omega) (by decide) ?_
        refine wp_inc5 (pc' := 89) (nI (j + 1)) dX7_passesAndLays_86 rfl (by decide) rfl (nI_1 j) ?_
        refine wp_goto 36 dX7_passesAndLays_89 (by decide) ?_
        have hsx : s (24 + q) - (if s q = 2 ∧ ¬ M.1 25 11 ≤ 0 then 1 else 0) = s (24 + q) - _ := congrArg (fun z => s (24 + q) - z) (if_neg (fun hh => h69 hh.1))
        rw [hsx] at K
        rw [upI_setO]
        refine ih (j + 1) (by omega) q _ q1 q2 (by omega) (fun e he => ?_) K
        exact (if_neg (by omega)).trans (hs e he)
      · refine wp_aload_n (pc' := 73) dX7_passesAndLays_72 rfl rfl ⟨_, rfl⟩ ?_
        refine wp_get (pc' := 76) (o := 25) dX7_passesAndLays_73 rfl flX7_128 (by decide) rfl rfl ?_
        refine wp_if_le (pc' := 79) 83 dX7_passesAndLays_76 rfl (by decide) (fun h76 => ?_) (fun h76 => ?_)
        · refine wp_iconst (pc' := 84) 0 dX7_passesAndLays_83 rfl (by decide) ?_
          refine wp_isub (pc' := 85) dX7_passesAndLays_84 rfl ?_
          refine wp_iastN (pc' := 86) (o := 31) (n := 76) (24 + q) dX7_passesAndLays_85 rfl (by decide) (fun _ _ => rfl) (nI_add 24 q) (by omega) (by decide) ?_
          refine wp_inc5 (pc' := 89) (nI (j + 1)) dX7_passesAndLays_86 rfl (by decide) rfl (nI_1 j) ?_
          refine wp_goto 36 dX7_passesAndLays_89 (by decide) ?_
          have hsx : s (24 + q) - (if s q = 2 ∧ ¬ M.1 25 11 ≤ 0 then 1 else 0) = s (24 + q) - _ := congrArg (fun z => s (24 + q) - z) (if_neg (fun hh => hh.2 h76))
          rw [hsx] at K
          rw [upI_setO]
          refine ih (j + 1) (by omega) q _ q1 q2 (by omega) (fun e he => ?_) K
          exact (if_neg (by omega)).trans (hs e he)
        · refine wp_iconst (pc' := 80) 1 dX7_passesAndLays_79 rfl (by decide) ?_
          refine wp_goto 84 dX7_passesAndLays_80 (by decide) ?_
          refine wp_isub (pc' := 85) dX7_passesAndLays_84 rfl ?_
          refine wp_iastN (pc' := 86) (o := 31) (n := 76) (24 + q) dX7_passesAndLays_85 rfl (by decide) (fun _ _ => rfl) (nI_add 24 q) (by omega) (by decide) ?_
          refine wp_inc5 (pc' := 89) (nI (j + 1)) dX7_passesAndLays_86 rfl (by decide) rfl (nI_1 j) ?_
          refine wp_goto 36 dX7_passesAndLays_89 (by decide) ?_
          have hsx : s (24 + q) - (if s q = 2 ∧ ¬ M.1 25 11 ≤ 0 then 1 else 0) = s (24 + q) - _ := congrArg (fun z => s (24 + q) - z) (if_pos ⟨h69, h76⟩)
          rw [hsx] at K
          rw [upI_setO]
          refine ih (j + 1) (by omega) q _ q1 q2 (by omega) (fun e he => ?_) K
          exact (if_neg (by omega)).trans (hs e he)
theorem sm_passesAndLays {g : GG} {M : Mem} {N w k c a b : Nat} (h : MW M N w) (hE : EN M N k a b) (hc : c < N) (hab : ¬ dvM M N w a b = -9) : SV g mX7_passesAndLays [ob g 25, .int (nI k), .int (nI c)] M (fun m => ∃ f, m = setO (setO M 34 f) 31 (palS N (beS (M.1 31)) (adjB w) (M.1 25 11) a b k c (M.1 31))) := by
  obtain ⟨hE1, hE2, ha, hb, hk⟩ := hE
  refine spec_of_wp (ls := [some (ob g 25), some (.int (nI k)), some (.int (nI c)), none, none, none]) rfl (Nat.le_of_ble_eq_true rfl) 3 rfl ?_
  refine wp_aload_n (pc' := 1) dX7_passesAndLays_0 rfl rfl ⟨_, rfl⟩ ?_
  refine wp_aload_n (pc' := 2) dX7_passesAndLays_1 rfl rfl ⟨_, rfl⟩ ?_
  refine wp_get (pc' := 5) (o := 25) dX7_passesAndLays_2 rfl flX7_19 (by decide) rfl rfl ?_
  refine wp_iconst (pc' := 6) 2 dX7_passesAndLays_5 rfl (by decide) ?_
  refine wp_iload_n (pc' := 7) dX7_passesAndLays_6 rfl rfl ?_
  refine wp_imul (pc' := 8) dX7_passesAndLays_7 rfl ?_
  refine wp_ialdN (pc' := 9) (o := 29) (n := 8) (2 * k) dX7_passesAndLays_8 rfl (by decide) rfl (by rw [show (2 : Int32) = nI 2 from rfl, pk_mul]) (by omega) (by decide) ?_
  refine wp_top (hE1) ?_
  refine wp_aload_n (pc' := 10) dX7_passesAndLays_9 rfl rfl ⟨_, rfl⟩ ?_
  refine wp_get (pc' := 13) (o := 25) dX7_passesAndLays_10 rfl flX7_19 (by decide) rfl rfl ?_
  refine wp_iconst (pc' := 14) 2 dX7_passesAndLays_13 rfl (by decide) ?_
  refine wp_iload_n (pc' := 15) dX7_passesAndLays_14 rfl rfl ?_
  refine wp_imul (pc' := 16) dX7_passesAndLays_15 rfl ?_
  refine wp_iconst (pc' := 17) 1 dX7_passesAndLays_16 rfl (by decide) ?_
  refine wp_iadd (pc' := 18) dX7_passesAndLays_17 rfl ?_
  refine wp_ialdN (pc' := 19) (o := 29) (n := 8) (2 * k + 1) dX7_passesAndLays_18 rfl (by decide) rfl (by rw [show (2 : Int32) = nI 2 from rfl, pk_mul]; exact nI_1 (2 * k)) (by omega) (by decide) ?_
  refine wp_top (hE2) ?_
  refine wp_sVI (μ' := mX7_stepsOf) (pc' := 22) (o := 25) dX7_passesAndLays_19 rfl mlX7_159 cfX7_stepsOf ⟨(Nat.le_of_ble_eq_true rfl), (Nat.le_of_ble_eq_true rfl)⟩ (sm_stepsOf h ha hb) (by decide) rfl rfl rfl rfl rfl (Nat.le_of_ble_eq_true rfl) (fun x m hm => ?_)
  obtain ⟨rfl, f, rfl, hR⟩ := hm
  obtain ⟨L, hL, hLe⟩ : ∃ L, L < 99 ∧ dF N (beS (M.1 31)) (adjB w) b a = L := by
    refine ⟨_, ?_, rfl⟩
    have h1 := (dF_ok (be := beS (M.1 31)) (ad := adjB w) h.1 hb).2 a
    have h2 : ¬ dF N (beS (M.1 31)) (adjB w) b a = 99 := fun hh => hab (if_pos (Or.inr hh))
    omega
  have hba : beS (M.1 31) a = true := by
    cases hh : beS (M.1 31) a
    · exact absurd (if_pos (Or.inl hh)) hab
    · rfl
  have hdv : dvM M N w a b = nI L := by
    refine (if_neg (fun hh => hh.elim (fun q => ?_) (fun q => ?_))).trans (congrArg nI hLe)
    · rw [hba] at q; cases q
    · omega
  refine wp_top hdv ?_
  refine wp_ist3 (pc' := 23) dX7_passesAndLays_22 rfl (by decide) rfl ?_
  refine wp_aload_n (pc' := 24) dX7_passesAndLays_23 rfl rfl ⟨_, rfl⟩ ?_
  refine wp_get (pc' := 27) (o := 25) dX7_passesAndLays_24 rfl flX7_19 (by decide) rfl rfl ?_
  refine wp_iconst (pc' := 28) 2 dX7_passesAndLays_27 rfl (by decide) ?_
  refine wp_iload_n (pc' := 29) dX7_passesAndLays_28 rfl rfl ?_
  refine wp_imul (pc' := 30) dX7_passesAndLays_29 rfl ?_
  refine wp_ialdN (pc' := 31) (o := 29) (n := 8) (2 * k) dX7_passesAndLays_30 rfl (by decide) rfl (by rw [show (2 : Int32) = nI 2 from rfl, pk_mul]) (by omega) (by decide) ?_
  refine wp_top (hE1) ?_
  refine wp_ist4 (pc' := 33) dX7_passesAndLays_31 rfl (by decide) rfl ?_
  refine wp_iconst (pc' := 34) 0 dX7_passesAndLays_33 rfl (by decide) ?_
  refine wp_ist5 (pc' := 36) dX7_passesAndLays_34 rfl (by decide) rfl ?_
  refine wp_mem (setO_self (setO M 34 f) 31).symm ?_
  refine lpm_pal1 h hb hL hR L 0 (Nat.zero_add L) a (M.1 31) ha hba hLe (fun _ _ => rfl) (fun x4 => ?_)
  refine wp_iconst (pc' := 93) 0 dX7_passesAndLays_92 rfl (by decide) ?_
  refine wp_ist5 (pc' := 95) dX7_passesAndLays_93 rfl (by decide) rfl ?_
  refine lpm_pal2 (M := setO M 34 f) h.1 h.2.1 N 0 (Nat.zero_add N) _ ?_
  refine wp_aload_n (pc' := 167) dX7_passesAndLays_166 rfl rfl ⟨_, rfl⟩ ?_
  refine wp_get (pc' := 170) (o := 25) dX7_passesAndLays_167 rfl flX7_25 (by decide) rfl rfl ?_
  refine wp_iload_n (pc' := 171) dX7_passesAndLays_170 rfl rfl ?_
  refine wp_iconst (pc' := 172) 2 dX7_passesAndLays_171 rfl (by decide) ?_
  refine wp_iastN (pc' := 173) (o := 31) (n := 76) (c) dX7_passesAndLays_172 rfl (by decide) (fun _ _ => rfl) (rfl) (by have := h.1; omega) (by decide) ?_
  refine wp_aload_n (pc' := 174) dX7_passesAndLays_173 rfl rfl ⟨_, rfl⟩ ?_
  refine wp_get (pc' := 177) (o := 25) dX7_passesAndLays_174 rfl flX7_25 (by decide) rfl rfl ?_
  refine wp_bipush (pc' := 179) 24 dX7_passesAndLays_177 rfl (by decide) ?_
  refine wp_iload_n (pc' := 180) dX7_passesAndLays_179 rfl rfl ?_
  refine wp_iadd (pc' := 181) dX7_passesAndLays_180 rfl ?_
  refine wp_aload_n (pc' := 182) dX7_passesAndLays_181 rfl rfl ⟨_, rfl⟩ ?_
  refine wp_get (pc' := 185) (o := 25) dX7_passesAndLays_182 rfl flX7_128 (by decide) rfl rfl ?_
  refine wp_iastN (pc' := 186) (o := 31) (n := 76) (24 + c) dX7_passesAndLays_185 rfl (by decide) (fun _ _ => rfl) (nI_add 24 c) (by have := h.1; omega) (by decide) ?_
  refine wp_aload_n (pc' := 187) dX7_passesAndLays_186 rfl rfl ⟨_, rfl⟩ ?_
  refine wp_get (pc' := 190) (o := 25) dX7_passesAndLays_187 rfl flX7_25 (by decide) rfl rfl ?_
  refine wp_bipush (pc' := 192) 48 dX7_passesAndLays_190 rfl (by decide) ?_
  refine wp_iload_n (pc' := 193) dX7_passesAndLays_192 rfl rfl ?_
  refine wp_iadd (pc' := 194) dX7_passesAndLays_193 rfl ?_
  refine wp_iload_n (pc' := 195) dX7_passesAndLays_194 rfl rfl ?_
  refine wp_iastN (pc' := 196) (o := 31) (n := 76) (48 + c) dX7_passesAndLays_195 rfl (by decide) (fun _ _ => rfl) (nI_add 48 c) (by have := h.1; omega) (by decide) ?_
  refine wp_aload_n (pc' := 197) dX7_passesAndLays_196 rfl rfl ⟨_, rfl⟩ ?_
  refine wp_get (pc' := 200) (o := 25) dX7_passesAndLays_197 rfl flX7_25 (by decide) rfl rfl ?_
  refine wp_bipush (pc' := 202) 72 dX7_passesAndLays_200 rfl (by decide) ?_
  refine wp_iload_n (pc' := 203) dX7_passesAndLays_202 rfl rfl ?_
  refine wp_iadd (pc' := 204) dX7_passesAndLays_203 rfl ?_
  refine wp_dup2 (pc' := 205) dX7_passesAndLays_204 rfl rfl rfl ?_
  refine wp_ialdN (pc' := 206) (o := 31) (n := 76) (72 + k) dX7_passesAndLays_205 rfl (by decide) rfl (nI_add 72 k) (by omega) (by decide) ?_
  refine wp_iconst (pc' := 207) 1 dX7_passesAndLays_206 rfl (by decide) ?_
  refine wp_iadd (pc' := 208) dX7_passesAndLays_207 rfl ?_
  refine wp_iastN (pc' := 209) (o := 31) (n := 76) (72 + k) dX7_passesAndLays_208 rfl (by decide) (fun _ _ => rfl) (nI_add 72 k) (by omega) (by decide) ?_
  refine wp_vret dX7_passesAndLays_209 rfl ?_
  rw [upI_setO, upI_setO, upI_setO, upI_setO]
  refine ⟨rfl, f, ?_⟩
  unfold palS
  rw [hLe]
  rfl
