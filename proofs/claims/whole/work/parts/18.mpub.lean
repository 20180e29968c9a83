/-! the reference: passes, likes, days, way, rate, keep, back .. -/
theorem sm_passes_bad {g : GG} {M : Mem} {k c : Int32} (h : mWalkF M k = 0 ∨ mCellF M c = 0) : RI g mX7_passes [ob g 25, .int k, .int c] M (-1) (th M) := by
  refine spec_of_wp (ls := [some (ob g 25), some (.int k), some (.int c), none]) rfl (Nat.le_of_ble_eq_true rfl) 1 rfl ?_
  refine wp_aload_n (pc' := 1) dX7_passes_0 rfl rfl ⟨_, rfl⟩ ?_
  refine wp_iconst (pc' := 2) 0 dX7_passes_1 rfl (by decide) ?_
  refine wp_put (pc' := 5) (o := 25) dX7_passes_2 rfl fpX7_47 (by decide) rfl (Nat.le_of_ble_eq_true rfl) rfl ?_
  refine wp_aload_n (pc' := 6) dX7_passes_5 rfl rfl ⟨_, rfl⟩ ?_
  refine wp_iload_n (pc' := 7) dX7_passes_6 rfl rfl ?_
  refine wp_cVI (μ' := mX7_isWalker) (pc' := 10) (o := 25) dX7_passes_7 rfl mlX7_141 cfX7_isWalker ⟨(Nat.le_of_ble_eq_true rfl), (Nat.le_of_ble_eq_true rfl)⟩ (sm_isWalker) (by decide) rfl rfl rfl rfl rfl (Nat.le_of_ble_eq_true rfl) ?_
  refine wp_if_eq (pc' := 13) 21 dX7_passes_10 rfl (by decide) (fun q10 => ?_) (fun q10 => ?_)
  · refine wp_iconst (pc' := 22) (-1) dX7_passes_21 rfl (by decide) ?_
    refine wp_ireti dX7_passes_22 rfl ?_
    exact ri_ok rfl rfl
  · refine wp_aload_n (pc' := 14) dX7_passes_13 rfl rfl ⟨_, rfl⟩ ?_
    refine wp_iload_n (pc' := 15) dX7_passes_14 rfl rfl ?_
    refine wp_cVI (μ' := mX7_isCell) (pc' := 18) (o := 25) dX7_passes_15 rfl mlX7_137 cfX7_isCell ⟨(Nat.le_of_ble_eq_true rfl), (Nat.le_of_ble_eq_true rfl)⟩ (sm_isCell) (by decide) rfl rfl rfl rfl rfl (Nat.le_of_ble_eq_true rfl) ?_
    refine wp_if_ne (pc' := 21) 23 dX7_passes_18 rfl (by decide) (fun q18 => ?_) (fun q18 => ?_)
    · exact (h.elim q10 q18).elim
    · refine wp_iconst (pc' := 22) (-1) dX7_passes_21 rfl (by decide) ?_
      refine wp_ireti dX7_passes_22 rfl ?_
      exact ri_ok rfl rfl
theorem sm_passes_state {g : GG} {M : Mem} {N w k c a b : Nat} (h : MW M N w) (hE : EN M N k a b) (hc : c < N) (hg : ¬ (mWalkF M (nI k) = 0 ∨ mCellF M (nI c) = 0)) (hs : dvM M N w a b = -9 ∨ ¬ M.1 31 c = 1) : SI g mX7_passes [ob g 25, .int (nI k), .int (nI c)] M (fun x m => x = -2 ∧ ∃ f, m = setO (th M) 34 f) := by
  have hk := hE.2.2.2.2
  refine spec_of_wp (ls := [some (ob g 25), some (.int (nI k)), some (.int (nI c)), none]) rfl (Nat.le_of_ble_eq_true rfl) 1 rfl ?_
  refine wp_aload_n (pc' := 1) dX7_passes_0 rfl rfl ⟨_, rfl⟩ ?_
  refine wp_iconst (pc' := 2) 0 dX7_passes_1 rfl (by decide) ?_
  refine wp_put (pc' := 5) (o := 25) dX7_passes_2 rfl fpX7_47 (by decide) rfl (Nat.le_of_ble_eq_true rfl) rfl ?_
  refine wp_aload_n (pc' := 6) dX7_passes_5 rfl rfl ⟨_, rfl⟩ ?_
  refine wp_iload_n (pc' := 7) dX7_passes_6 rfl rfl ?_
  refine wp_cVI (μ' := mX7_isWalker) (pc' := 10) (o := 25) dX7_passes_7 rfl mlX7_141 cfX7_isWalker ⟨(Nat.le_of_ble_eq_true rfl), (Nat.le_of_ble_eq_true rfl)⟩ (sm_isWalker) (by decide) rfl rfl rfl rfl rfl (Nat.le_of_ble_eq_true rfl) ?_
  refine wp_if_eq (pc' := 13) 21 dX7_passes_10 rfl (by decide) (fun q10 => ?_) (fun q10 => ?_)
  · exact absurd (Or.inl q10) hg
  · refine wp_aload_n (pc' := 14) dX7_passes_13 rfl rfl ⟨_, rfl⟩ ?_
    refine wp_iload_n (pc' := 15) dX7_passes_14 rfl rfl ?_
    refine wp_cVI (μ' := mX7_isCell) (pc' := 18) (o := 25) dX7_passes_15 rfl mlX7_137 cfX7_isCell ⟨(Nat.le_of_ble_eq_true rfl), (Nat.le_of_ble_eq_true rfl)⟩ (sm_isCell) (by decide) rfl rfl rfl rfl rfl (Nat.le_of_ble_eq_true rfl) ?_
    refine wp_if_ne (pc' := 21) 23 dX7_passes_18 rfl (by decide) (fun q18 => ?_) (fun q18 => ?_)
    · refine wp_aload_n (pc' := 24) dX7_passes_23 rfl rfl ⟨_, rfl⟩ ?_
      refine wp_aload_n (pc' := 25) dX7_passes_24 rfl rfl ⟨_, rfl⟩ ?_
      refine wp_get (pc' := 28) (o := 25) dX7_passes_25 rfl flX7_19 (by decide) rfl rfl ?_
      refine wp_iconst (pc' := 29) 2 dX7_passes_28 rfl (by decide) ?_
      refine wp_iload_n (pc' := 30) dX7_passes_29 rfl rfl ?_
      refine wp_imul (pc' := 31) dX7_passes_30 rfl ?_
      refine wp_ialdN (pc' := 32) (o := 29) (n := 8) (2 * k) dX7_passes_31 rfl (by decide) rfl (by rw [show (2 : Int32) = nI 2 from rfl, pk_mul]) (by omega) (by decide) ?_
      refine wp_top (hE.1) ?_
      refine wp_aload_n (pc' := 33) dX7_passes_32 rfl rfl ⟨_, rfl⟩ ?_
      refine wp_get (pc' := 36) (o := 25) dX7_passes_33 rfl flX7_19 (by decide) rfl rfl ?_
      refine wp_iconst (pc' := 37) 2 dX7_passes_36 rfl (by decide) ?_
      refine wp_iload_n (pc' := 38) dX7_passes_37 rfl rfl ?_
      refine wp_imul (pc' := 39) dX7_passes_38 rfl ?_
      refine wp_iconst (pc' := 40) 1 dX7_passes_39 rfl (by decide) ?_
      refine wp_iadd (pc' := 41) dX7_passes_40 rfl ?_
      refine wp_ialdN (pc' := 42) (o := 29) (n := 8) (2 * k + 1) dX7_passes_41 rfl (by decide) rfl (by rw [show (2 : Int32) = nI 2 from rfl, pk_mul]; exact nI_1 (2 * k)) (by omega) (by decide) ?_
      refine wp_top (hE.2.1) ?_
      refine wp_sVI (μ' := mX7_stepsOf) (pc' := 45) (o := 25) dX7_passes_42 rfl mlX7_159 cfX7_stepsOf ⟨(Nat.le_of_ble_eq_true rfl), (Nat.le_of_ble_eq_true rfl)⟩ (sm_stepsOf (M := th M) h hE.2.2.1 hE.2.2.2.1) (by decide) rfl rfl rfl rfl rfl (Nat.le_of_ble_eq_true rfl) (fun x m hm => ?_)
      obtain ⟨rfl, f, rfl, hR⟩ := hm
      refine wp_ist3 (pc' := 46) dX7_passes_45 rfl (by decide) rfl ?_
      refine wp_iload_n (pc' := 47) dX7_passes_46 rfl rfl ?_
      refine wp_bipush (pc' := 49) (-9) dX7_passes_47 rfl (by decide) ?_
      refine wp_icmp_eq (pc' := 52) 62 dX7_passes_49 rfl (by decide) (fun q49 => ?_) (fun q49 => ?_)
      · refine wp_bipush (pc' := 64) (-2) dX7_passes_62 rfl (by decide) ?_
        refine wp_ireti dX7_passes_64 rfl ?_
        exact ⟨_, rfl, rfl, f, rfl⟩
      · refine wp_aload_n (pc' := 53) dX7_passes_52 rfl rfl ⟨_, rfl⟩ ?_
        refine wp_get (pc' := 56) (o := 25) dX7_passes_53 rfl flX7_25 (by decide) rfl rfl ?_
        refine wp_iload_n (pc' := 57) dX7_passes_56 rfl rfl ?_
        refine wp_ialdN (pc' := 58) (o := 31) (n := 76) (c) dX7_passes_57 rfl (by decide) rfl (rfl) (by have := h.1; omega) (by decide) ?_
        refine wp_iconst (pc' := 59) 1 dX7_passes_58 rfl (by decide) ?_
        refine wp_icmp_eq (pc' := 62) 65 dX7_passes_59 rfl (by decide) (fun q59 => ?_) (fun q59 => ?_)
        · exact (hs.elim q49 (fun hh => hh q59)).elim
        · refine wp_bipush (pc' := 64) (-2) dX7_passes_62 rfl (by decide) ?_
          refine wp_ireti dX7_passes_64 rfl ?_
          exact ⟨_, rfl, rfl, f, rfl⟩
    · exact absurd (Or.inr q18) hg
def palM (M : Mem) (N w a b k c : Nat) : Nat → Int32 := palS N (beS (M.1 31)) (adjB w) (M.1 25 11) a b k c (M.1 31)
theorem sm_passes {g : GG} {M : Mem} {N w k c a b : Nat} (h : MW M N w) (hE : EN M N k a b) (hc : c < N) (hg : ¬ (mWalkF M (nI k) = 0 ∨ mCellF M (nI c) = 0)) (hs : ¬ (dvM M N w a b = -9 ∨ ¬ M.1 31 c = 1)) : SI g mX7_passes [ob g 25, .int (nI k), .int (nI c)] M (fun x m => x = dvM M N w a b ∧ ∃ f, m = setO (setO (th M) 34 f) 31 (palM M N w a b k c)) := by
  have hk := hE.2.2.2.2
  refine spec_of_wp (ls := [some (ob g 25), some (.int (nI k)), some (.int (nI c)), none]) rfl (Nat.le_of_ble_eq_true rfl) 1 rfl ?_
  refine wp_aload_n (pc' := 1) dX7_passes_0 rfl rfl ⟨_, rfl⟩ ?_
  refine wp_iconst (pc' := 2) 0 dX7_passes_1 rfl (by decide) ?_
  refine wp_put (pc' := 5) (o := 25) dX7_passes_2 rfl fpX7_47 (by decide) rfl (Nat.le_of_ble_eq_true rfl) rfl ?_
  refine wp_aload_n (pc' := 6) dX7_passes_5 rfl rfl ⟨_, rfl⟩ ?_
  refine wp_iload_n (pc' := 7) dX7_passes_6 rfl rfl ?_
  refine wp_cVI (μ' := mX7_isWalker) (pc' := 10) (o := 25) dX7_passes_7 rfl mlX7_141 cfX7_isWalker ⟨(Nat.le_of_ble_eq_true rfl), (Nat.le_of_ble_eq_true rfl)⟩ (sm_isWalker) (by decide) rfl rfl rfl rfl rfl (Nat.le_of_ble_eq_true rfl) ?_
  refine wp_if_eq (pc' := 13) 21 dX7_passes_10 rfl (by decide) (fun q10 => ?_) (fun q10 => ?_)
  · exact absurd (Or.inl q10) hg
  · refine wp_aload_n (pc' := 14) dX7_passes_13 rfl rfl ⟨_, rfl⟩ ?_
    refine wp_iload_n (pc' := 15) dX7_passes_14 rfl rfl ?_
    refine wp_cVI (μ' := mX7_isCell) (pc' := 18) (o := 25) dX7_passes_15 rfl mlX7_137 cfX7_isCell ⟨(Nat.le_of_ble_eq_true rfl), (Nat.le_of_ble_eq_true rfl)⟩ (sm_isCell) (by decide) rfl rfl rfl rfl rfl (Nat.le_of_ble_eq_true rfl) ?_
    refine wp_if_ne (pc' := 21) 23 dX7_passes_18 rfl (by decide) (fun q18 => ?_) (fun q18 => ?_)
    · refine wp_aload_n (pc' := 24) dX7_passes_23 rfl rfl ⟨_, rfl⟩ ?_
      refine wp_aload_n (pc' := 25) dX7_passes_24 rfl rfl ⟨_, rfl⟩ ?_
      refine wp_get (pc' := 28) (o := 25) dX7_passes_25 rfl flX7_19 (by decide) rfl rfl ?_
      refine wp_iconst (pc' := 29) 2 dX7_passes_28 rfl (by decide) ?_
      refine wp_iload_n (pc' := 30) dX7_passes_29 rfl rfl ?_
      refine wp_imul (pc' := 31) dX7_passes_30 rfl ?_
      refine wp_ialdN (pc' := 32) (o := 29) (n := 8) (2 * k) dX7_passes_31 rfl (by decide) rfl (by rw [show (2 : Int32) = nI 2 from rfl, pk_mul]) (by omega) (by decide) ?_
      refine wp_top (hE.1) ?_
      refine wp_aload_n (pc' := 33) dX7_passes_32 rfl rfl ⟨_, rfl⟩ ?_
      refine wp_get (pc' := 36) (o := 25) dX7_passes_33 rfl flX7_19 (by decide) rfl rfl ?_
      refine wp_iconst (pc' := 37) 2 dX7_passes_36 rfl (by decide) ?_
      refine wp_iload_n (pc' := 38) dX7_passes_37 rfl rfl ?_
      refine wp_imul (pc' := 39) dX7_passes_38 rfl ?_
      refine wp_iconst (pc' := 40) 1 dX7_passes_39 rfl (by decide) ?_
      refine wp_iadd (pc' := 41) dX7_passes_40 rfl ?_
      refine wp_ialdN (pc' := 42) (o := 29) (n := 8) (2 * k + 1) dX7_passes_41 rfl (by decide) rfl (by rw [show (2 : Int32) = nI 2 from rfl, pk_mul]; exact nI_1 (2 * k)) (by omega) (by decide) ?_
      refine wp_top (hE.2.1) ?_
      refine wp_sVI (μ' := mX7_stepsOf) (pc' := 45) (o := 25) dX7_passes_42 rfl mlX7_159 cfX7_stepsOf ⟨(Nat.le_of_ble_eq_true rfl), (Nat.le_of_ble_eq_true rfl)⟩ (sm_stepsOf (M := th M) h hE.2.2.1 hE.2.2.2.1) (by decide) rfl rfl rfl rfl rfl (Nat.le_of_ble_eq_true rfl) (fun x m hm => ?_)
      obtain ⟨rfl, f, rfl, hR⟩ := hm
      refine wp_ist3 (pc' := 46) dX7_passes_45 rfl (by decide) rfl ?_
      refine wp_iload_n (pc' := 47) dX7_passes_46 rfl rfl ?_
      refine wp_bipush (pc' := 49) (-9) dX7_passes_47 rfl (by decide) ?_
      refine wp_icmp_eq (pc' := 52) 62 dX7_passes_49 rfl (by decide) (fun q49 => ?_) (fun q49 => ?_)
      · exact absurd (Or.inl q49) hs
      · refine wp_aload_n (pc' := 53) dX7_passes_52 rfl rfl ⟨_, rfl⟩ ?_
        refine wp_get (pc' := 56) (o := 25) dX7_passes_53 rfl flX7_25 (by decide) rfl rfl ?_
        refine wp_iload_n (pc' := 57) dX7_passes_56 rfl rfl ?_
        refine wp_ialdN (pc' := 58) (o := 31) (n := 76) (c) dX7_passes_57 rfl (by decide) rfl (rfl) (by have := h.1; omega) (by decide) ?_
        refine wp_iconst (pc' := 59) 1 dX7_passes_58 rfl (by decide) ?_
        refine wp_icmp_eq (pc' := 62) 65 dX7_passes_59 rfl (by decide) (fun q59 => ?_) (fun q59 => ?_)
        · refine wp_aload_n (pc' := 66) dX7_passes_65 rfl rfl ⟨_, rfl⟩ ?_
          refine wp_iload_n (pc' := 67) dX7_passes_66 rfl rfl ?_
          refine wp_iload_n (pc' := 68) dX7_passes_67 rfl rfl ?_
          refine wp_sVV (μ' := mX7_passesAndLays) (pc' := 71) (o := 25) dX7_passes_68 rfl mlX7_165 cfX7_passesAndLays ⟨(Nat.le_of_ble_eq_true rfl), (Nat.le_of_ble_eq_true rfl)⟩ (sm_passesAndLays (M := setO (th M) 34 f) (N := N) (w := w) (a := a) (b := b) h hE hc (fun hh => hs (Or.inl hh))) (by decide) rfl rfl rfl rfl rfl (Nat.le_of_ble_eq_true rfl) (fun m hm => ?_)
          obtain ⟨f2, rfl⟩ := hm
          refine wp_iload_n (pc' := 72) dX7_passes_71 rfl rfl ?_
          refine wp_ireti dX7_passes_72 rfl ?_
          exact ⟨_, rfl, rfl, f2, by rw [setO_setO]; rfl⟩
        · exact absurd (Or.inr q59) hs
    · exact absurd (Or.inr q18) hg

def lkF (N : Nat) (ad : Nat → Nat → Bool) (a b : Nat) (s : Nat → Int32) : Nat → Nat → Int32 → Int32 → Int32
  | 0, _, fd, _ => fd
  | n + 1, c, fd, le =>
    if s c = 1 then
      (if (if dv N (beS (upd s c 2)) ad a b = -9 then 99 else dv N (beS (upd s c 2)) ad a b) < le then lkF N ad a b s n (c + 1) (nI c) (if dv N (beS (upd s c 2)) ad a b = -9 then 99 else dv N (beS (upd s c 2)) ad a b) else lkF N ad a b s n (c + 1) fd le)
    else lkF N ad a b s n (c + 1) fd le
def lkM (M : Mem) (N w a b : Nat) : Int32 := lkF N (adjB w) a b (M.1 31) N 0 (-9) 100
theorem lk_mem (M : Mem) (f f2 : Nat → Int32) {c : Nat} (h : M.1 31 c = 1) : upI (setO (upI (setO M 34 f) 31 c 2) 34 f2) 31 c 1 = setO M 34 f2 := by
  refine Prod.ext (funext fun a => ?_) rfl
  show (if a = 31 then upd ((setO (upI (setO M 34 f) 31 c 2) 34 f2).1 31) c 1 else (if a = 34 then f2 else (if a = 31 then upd ((setO M 34 f).1 31) c 2 else (if a = 34 then f else M.1 a)))) = (if a = 34 then f2 else M.1 a)
  by_cases e : a = 31
  · subst e
    rw [if_pos rfl, if_neg (by decide)]
    funext x
    show (if x = c then 1 else (if x = c then 2 else M.1 31 x)) = M.1 31 x
    by_cases e2 : x = c
    · subst e2; rw [if_pos rfl, h]
    · rw [if_neg e2, if_neg e2]
  · rw [if_neg e]
    by_cases e3 : a = 34
    · rw [if_pos e3, if_pos e3]
    · rw [if_neg e3, if_neg e3, if_neg e, if_neg e3]

theorem lpm_likesOf {g : GG} {M : Mem} {N w k a b : Nat} (h : MW M N w) (hE : EN M N k a b) : ∀ (n c : Nat), c + n = N → ∀ (f : Nat → Int32) (fd le : Int32) (x5 : Option Value), wp g mX7_likesOf 9 [some (ob g 25), some (.int (nI k)), some (.int fd), some (.int le), some (.int (nI c)), x5] [] (setO M 34 f) (fun q m => ∃ x : Int32, q = some (.int x) ∧ x = lkF N (adjB w) a b (M.1 31) n c fd le ∧ ∃ f, m = setO M 34 f) := by
  have hN := h.1
  have hk := hE.2.2.2.2
  intro n
  induction n with
  | zero =>
    intro c hc f fd le x5
    obtain rfl : c = N := by omega
    refine wp_iload (pc' := 11) dX7_likesOf_9 rfl rfl ?_
    refine wp_aload_n (pc' := 12) dX7_likesOf_11 rfl rfl ⟨_, rfl⟩ ?_
    refine wp_get (pc' := 15) (o := 25) dX7_likesOf_12 rfl flX7_51 (by decide) rfl rfl ?_
    refine wp_aload_n (pc' := 16) dX7_likesOf_15 rfl rfl ⟨_, rfl⟩ ?_
    refine wp_get (pc' := 19) (o := 25) dX7_likesOf_16 rfl flX7_54 (by decide) rfl rfl ?_
    refine wp_imul (pc' := 20) dX7_likesOf_19 rfl ?_
    refine wp_top (h.2.1) ?_
    refine wp_icmp_ge (pc' := 23) 122 dX7_likesOf_20 rfl (by decide) (fun h20 => ?_) (fun h20 => ?_)
    · refine wp_iload_n (pc' := 123) dX7_likesOf_122 rfl rfl ?_
      refine wp_ireti dX7_likesOf_123 rfl ?_
      exact ⟨_, rfl, rfl, f, rfl⟩
    · exact absurd (nI_le (Nat.le_refl c) (by omega)) h20
  | succ n ih =>
    intro c hc f fd le x5
    refine wp_iload (pc' := 11) dX7_likesOf_9 rfl rfl ?_
    refine wp_aload_n (pc' := 12) dX7_likesOf_11 rfl rfl ⟨_, rfl⟩ ?_
    refine wp_get (pc' := 15) (o := 25) dX7_likesOf_12 rfl flX7_51 (by decide) rfl rfl ?_
    refine wp_aload_n (pc' := 16) dX7_likesOf_15 rfl rfl ⟨_, rfl⟩ ?_
    refine wp_get (pc' := 19) (o := 25) dX7_likesOf_16 rfl flX7_54 (by decide) rfl rfl ?_
    refine wp_imul (pc' := 20) dX7_likesOf_19 rfl ?_
    refine wp_top (h.2.1) ?_
    refine wp_icmp_ge (pc' := 23) 122 dX7_likesOf_20 rfl (by decide) (fun h20 => ?_) (fun h20 => ?_)
    · refine wp_iload_n (pc' := 123) dX7_likesOf_122 rfl rfl ?_
      refine wp_ireti dX7_likesOf_123 rfl ?_
      exact absurd h20 (nI_ge (by omega) (by omega))
    · refine wp_aload_n (pc' := 24) dX7_likesOf_23 rfl rfl ⟨_, rfl⟩ ?_
      refine wp_get (pc' := 27) (o := 25) dX7_likesOf_24 rfl flX7_25 (by decide) rfl rfl ?_
      refine wp_iload (pc' := 29) dX7_likesOf_27 rfl rfl ?_
      refine wp_ialdN (pc' := 30) (o := 31) (n := 76) (c) dX7_likesOf_29 rfl (by decide) rfl (rfl) (by omega) (by decide) ?_
      refine wp_iconst (pc' := 31) 1 dX7_likesOf_30 rfl (by decide) ?_
      refine wp_icmp_ne (pc' := 34) 116 dX7_likesOf_31 rfl (by decide) (fun h31 => ?_) (fun h31 => ?_)
      · refine wp_inc4 (pc' := 119) (nI (c + 1)) dX7_likesOf_116 rfl (by decide) rfl (nI_1 c) ?_
        refine wp_goto 9 dX7_likesOf_119 (by decide) ?_
        rw [lkF, if_neg (show ¬ M.1 31 c = 1 from h31)]
        exact ih (c + 1) (by omega) _ _ _ _
      · refine wp_aload_n (pc' := 35) dX7_likesOf_34 rfl rfl ⟨_, rfl⟩ ?_
        refine wp_get (pc' := 38) (o := 25) dX7_likesOf_35 rfl flX7_25 (by decide) rfl rfl ?_
        refine wp_iload (pc' := 40) dX7_likesOf_38 rfl rfl ?_
        refine wp_iconst (pc' := 41) 2 dX7_likesOf_40 rfl (by decide) ?_
        refine wp_iastN (pc' := 42) (o := 31) (n := 76) (c) dX7_likesOf_41 rfl (by decide) (fun _ _ => rfl) (rfl) (by omega) (by decide) ?_
        refine wp_aload_n (pc' := 43) dX7_likesOf_42 rfl rfl ⟨_, rfl⟩ ?_
        refine wp_aload_n (pc' := 44) dX7_likesOf_43 rfl rfl ⟨_, rfl⟩ ?_
        refine wp_get (pc' := 47) (o := 25) dX7_likesOf_44 rfl flX7_19 (by decide) rfl rfl ?_
        refine wp_iconst (pc' := 48) 2 dX7_likesOf_47 rfl (by decide) ?_
        refine wp_iload_n (pc' := 49) dX7_likesOf_48 rfl rfl ?_
        refine wp_imul (pc' := 50) dX7_likesOf_49 rfl ?_
        refine wp_ialdN (pc' := 51) (o := 29) (n := 8) (2 * k) dX7_likesOf_50 rfl (by decide) rfl (by rw [show (2 : Int32) = nI 2 from rfl, pk_mul]) (by omega) (by decide) ?_
        refine wp_top (hE.1) ?_
        refine wp_aload_n (pc' := 52) dX7_likesOf_51 rfl rfl ⟨_, rfl⟩ ?_
        refine wp_get (pc' := 55) (o := 25) dX7_likesOf_52 rfl flX7_19 (by decide) rfl rfl ?_
        refine wp_iconst (pc' := 56) 2 dX7_likesOf_55 rfl (by decide) ?_
        refine wp_iload_n (pc' := 57) dX7_likesOf_56 rfl rfl ?_
        refine wp_imul (pc' := 58) dX7_likesOf_57 rfl ?_
        refine wp_iconst (pc' := 59) 1 dX7_likesOf_58 rfl (by decide) ?_
        refine wp_iadd (pc' := 60) dX7_likesOf_59 rfl ?_
        refine wp_ialdN (pc' := 61) (o := 29) (n := 8) (2 * k + 1) dX7_likesOf_60 rfl (by decide) rfl (by rw [show (2 : Int32) = nI 2 from rfl, pk_mul]; exact nI_1 (2 * k)) (by omega) (by decide) ?_
        refine wp_top (hE.2.1) ?_
        refine wp_sVI (μ' := mX7_stepsOf) (pc' := 64) (o := 25) dX7_likesOf_61 rfl mlX7_159 cfX7_stepsOf ⟨(Nat.le_of_ble_eq_true rfl), (Nat.le_of_ble_eq_true rfl)⟩ (sm_stepsOf (M := upI (setO M 34 f) 31 c 2) (N := N) (w := w) h hE.2.2.1 hE.2.2.2.1) (by decide) rfl rfl rfl rfl rfl (Nat.le_of_ble_eq_true rfl) (fun x m hm => ?_)
        obtain ⟨hx, f2, rfl, hR⟩ := hm
        change x = dv N (beS (upd (M.1 31) c 2)) (adjB w) a b at hx
        subst hx
        refine wp_ist5 (pc' := 66) dX7_likesOf_64 rfl (by decide) rfl ?_
        refine wp_aload_n (pc' := 67) dX7_likesOf_66 rfl rfl ⟨_, rfl⟩ ?_
        refine wp_get (pc' := 70) (o := 25) dX7_likesOf_67 rfl flX7_25 (by decide) rfl rfl ?_
        refine wp_iload (pc' := 72) dX7_likesOf_70 rfl rfl ?_
        refine wp_iconst (pc' := 73) 1 dX7_likesOf_72 rfl (by decide) ?_
        refine wp_iastN (pc' := 74) (o := 31) (n := 76) (c) dX7_likesOf_73 rfl (by decide) (fun _ _ => rfl) (rfl) (by omega) (by decide) ?_
        refine wp_iload (pc' := 76) dX7_likesOf_74 rfl rfl ?_
        refine wp_bipush (pc' := 78) (-9) dX7_likesOf_76 rfl (by decide) ?_
        refine wp_icmp_ne (pc' := 81) 86 dX7_likesOf_78 rfl (by decide) (fun h78 => ?_) (fun h78 => ?_)
        · refine wp_iload (pc' := 88) dX7_likesOf_86 rfl rfl ?_
          refine wp_ist5 (pc' := 90) dX7_likesOf_88 rfl (by decide) rfl ?_
          refine wp_iload (pc' := 92) dX7_likesOf_90 rfl rfl ?_
          refine wp_iload_n (pc' := 93) dX7_likesOf_92 rfl rfl ?_
          refine wp_icmp_ge (pc' := 96) 101 dX7_likesOf_93 rfl (by decide) (fun h93 => ?_) (fun h93 => ?_)
          · refine wp_iload_n (pc' := 102) dX7_likesOf_101 rfl rfl ?_
            refine wp_ist2 (pc' := 103) dX7_likesOf_102 rfl (by decide) rfl ?_
            refine wp_iload (pc' := 105) dX7_likesOf_103 rfl rfl ?_
            refine wp_iload_n (pc' := 106) dX7_likesOf_105 rfl rfl ?_
            refine wp_icmp_ge (pc' := 109) 114 dX7_likesOf_106 rfl (by decide) (fun h106 => ?_) (fun h106 => ?_)
            · refine wp_iload_n (pc' := 115) dX7_likesOf_114 rfl rfl ?_
              refine wp_ist3 (pc' := 116) dX7_likesOf_115 rfl (by decide) rfl ?_
              refine wp_inc4 (pc' := 119) (nI (c + 1)) dX7_likesOf_116 rfl (by decide) rfl (nI_1 c) ?_
              refine wp_goto 9 dX7_likesOf_119 (by decide) ?_
              have hy : (if dv N (beS (upd (M.1 31) c 2)) (adjB w) a b = -9 then (99 : Int32) else dv N (beS (upd (M.1 31) c 2)) (adjB w) a b) = _ := if_neg h78
              rw [lkF, if_pos (show M.1 31 c = 1 from h31), hy, if_neg (Int32.not_lt.mpr h93)]
              rw [lk_mem M f f2 h31]
              exact ih (c + 1) (by omega) _ _ _ _
            · refine wp_iload (pc' := 111) dX7_likesOf_109 rfl rfl ?_
              refine wp_goto 115 dX7_likesOf_111 (by decide) ?_
              refine wp_ist3 (pc' := 116) dX7_likesOf_115 rfl (by decide) rfl ?_
              refine wp_inc4 (pc' := 119) (nI (c + 1)) dX7_likesOf_116 rfl (by decide) rfl (nI_1 c) ?_
              refine wp_goto 9 dX7_likesOf_119 (by decide) ?_
              exact absurd h93 h106
          · refine wp_iload (pc' := 98) dX7_likesOf_96 rfl rfl ?_
            refine wp_goto 102 dX7_likesOf_98 (by decide) ?_
            refine wp_ist2 (pc' := 103) dX7_likesOf_102 rfl (by decide) rfl ?_
            refine wp_iload (pc' := 105) dX7_likesOf_103 rfl rfl ?_
            refine wp_iload_n (pc' := 106) dX7_likesOf_105 rfl rfl ?_
            refine wp_icmp_ge (pc' := 109) 114 dX7_likesOf_106 rfl (by decide) (fun h106 => ?_) (fun h106 => ?_)
            · refine wp_iload_n (pc' := 115) dX7_likesOf_114 rfl rfl ?_
              refine wp_ist3 (pc' := 116) dX7_likesOf_115 rfl (by decide) rfl ?_
              refine wp_inc4 (pc' := 119) (nI (c + 1)) dX7_likesOf_116 rfl (by decide) rfl (nI_1 c) ?_
              refine wp_goto 9 dX7_likesOf_119 (by decide) ?_
              exact absurd h106 h93
            · refine wp_iload (pc' := 111) dX7_likesOf_109 rfl rfl ?_
              refine wp_goto 115 dX7_likesOf_111 (by decide) ?_
              refine wp_ist3 (pc' := 116) dX7_likesOf_115 rfl (by decide) rfl ?_
              refine wp_inc4 (pc' := 119) (nI (c + 1)) dX7_likesOf_116 rfl (by decide) rfl (nI_1 c) ?_
              refine wp_goto 9 dX7_likesOf_119 (by decide) ?_
              have hy : (if dv N (beS (upd (M.1 31) c 2)) (adjB w) a b = -9 then (99 : Int32) else dv N (beS (upd (M.1 31) c 2)) (adjB w) a b) = _ := if_neg h78
              rw [lkF, if_pos (show M.1 31 c = 1 from h31), hy, if_pos (Int32.not_le.mp h93)]
              rw [lk_mem M f f2 h31]
              exact ih (c + 1) (by omega) _ _ _ _
        · refine wp_bipush (pc' := 83) 99 dX7_likesOf_81 rfl (by decide) ?_
          refine wp_goto 88 dX7_likesOf_83 (by decide) ?_
          refine wp_ist5 (pc' := 90) dX7_likesOf_88 rfl (by decide) rfl ?_
          refine wp_iload (pc' := 92) dX7_likesOf_90 rfl rfl ?_
          refine wp_iload_n (pc' := 93) dX7_likesOf_92 rfl rfl ?_
          refine wp_icmp_ge (pc' := 96) 101 dX7_likesOf_93 rfl (by decide) (fun h93 => ?_) (fun h93 => ?_)
          · refine wp_iload_n (pc' := 102) dX7_likesOf_101 rfl rfl ?_
            refine wp_ist2 (pc' := 103) dX7_likesOf_102 rfl (by decide) rfl ?_
            refine wp_iload (pc' := 105) dX7_likesOf_103 rfl rfl ?_
            refine wp_iload_n (pc' := 106) dX7_likesOf_105 rfl rfl ?_
            refine wp_icmp_ge (pc' := 109) 114 dX7_likesOf_106 rfl (by decide) (fun h106 => ?_) (fun h106 => ?_)
            · refine wp_iload_n (pc' := 115) dX7_likesOf_114 rfl rfl ?_
              refine wp_ist3 (pc' := 116) dX7_likesOf_115 rfl (by decide) rfl ?_
              refine wp_inc4 (pc' := 119) (nI (c + 1)) dX7_likesOf_116 rfl (by decide) rfl (nI_1 c) ?_
              refine wp_goto 9 dX7_likesOf_119 (by decide) ?_
              have hy : (if dv N (beS (upd (M.1 31) c 2)) (adjB w) a b = -9 then (99 : Int32) else dv N (beS (upd (M.1 31) c 2)) (adjB w) a b) = _ := if_pos h78
              rw [lkF, if_pos (show M.1 31 c = 1 from h31), hy, if_neg (Int32.not_lt.mpr h93)]
              rw [lk_mem M f f2 h31]
              exact ih (c + 1) (by omega) _ _ _ _
            · refine wp_iload (pc' := 111) dX7_likesOf_109 rfl rfl ?_
              refine wp_goto 115 dX7_likesOf_111 (by decide) ?_
              refine wp_ist3 (pc' := 116) dX7_likesOf_115 rfl (by decide) rfl ?_
              refine wp_inc4 (pc' := 119) (nI (c + 1)) dX7_likesOf_116 rfl (by decide) rfl (nI_1 c) ?_
              refine wp_goto 9 dX7_likesOf_119 (by decide) ?_
              exact absurd h93 h106
          · refine wp_iload (pc' := 98) dX7_likesOf_96 rfl rfl ?_
            refine wp_goto 102 dX7_likesOf_98 (by decide) ?_
            refine wp_ist2 (pc' := 103) dX7_likesOf_102 rfl (by decide) rfl ?_
            refine wp_iload (pc' := 105) dX7_likesOf_103 rfl rfl ?_
            refine wp_iload_n (pc' := 106) dX7_likesOf_105 rfl rfl ?_
            refine wp_icmp_ge (pc' := 109) 114 dX7_likesOf_106 rfl (by decide) (fun h106 => ?_) (fun h106 => ?_)
            · refine wp_iload_n (pc' := 115) dX7_likesOf_114 rfl rfl ?_
              refine wp_ist3 (pc' := 116) dX7_likesOf_115 rfl (by decide) rfl ?_
              refine wp_inc4 (pc' := 119) (nI (c + 1)) dX7_likesOf_116 rfl (by decide) rfl (nI_1 c) ?_
              refine wp_goto 9 dX7_likesOf_119 (by decide) ?_
              exact absurd h106 h93
            · refine wp_iload (pc' := 111) dX7_likesOf_109 rfl rfl ?_
              refine wp_goto 115 dX7_likesOf_111 (by decide) ?_
              refine wp_ist3 (pc' := 116) dX7_likesOf_115 rfl (by decide) rfl ?_
              refine wp_inc4 (pc' := 119) (nI (c + 1)) dX7_likesOf_116 rfl (by decide) rfl (nI_1 c) ?_
              refine wp_goto 9 dX7_likesOf_119 (by decide) ?_
              have hy : (if dv N (beS (upd (M.1 31) c 2)) (adjB w) a b = -9 then (99 : Int32) else dv N (beS (upd (M.1 31) c 2)) (adjB w) a b) = _ := if_pos h78
              rw [lkF, if_pos (show M.1 31 c = 1 from h31), hy, if_pos (Int32.not_le.mp h93)]
              rw [lk_mem M f f2 h31]
              exact ih (c + 1) (by omega) _ _ _ _
theorem sm_likesOf {g : GG} {M : Mem} {N w k a b : Nat} (h : MW M N w) (hE : EN M N k a b) : SI g mX7_likesOf [ob g 25, .int (nI k)] M (fun x m => x = lkM M N w a b ∧ ∃ f, m = setO M 34 f) := by
  refine spec_of_wp (ls := [some (ob g 25), some (.int (nI k)), none, none, none, none]) rfl (Nat.le_of_ble_eq_true rfl) 4 rfl ?_
  refine wp_bipush (pc' := 2) (-9) dX7_likesOf_0 rfl (by decide) ?_
  refine wp_ist2 (pc' := 3) dX7_likesOf_2 rfl (by decide) rfl ?_
  refine wp_bipush (pc' := 5) 100 dX7_likesOf_3 rfl (by decide) ?_
  refine wp_ist3 (pc' := 6) dX7_likesOf_5 rfl (by decide) rfl ?_
  refine wp_iconst (pc' := 7) 0 dX7_likesOf_6 rfl (by decide) ?_
  refine wp_ist4 (pc' := 9) dX7_likesOf_7 rfl (by decide) rfl ?_
  refine wp_mem (setO_self M 34).symm ?_
  exact lpm_likesOf h hE N 0 (Nat.zero_add N) _ _ _ _
theorem sm_likes_bad {g : GG} {M : Mem} {k : Int32} (h : mWalkF M k = 0) : RI g mX7_likes [ob g 25, .int k] M (-1) (th M) := by
  refine spec_of_wp (ls := [some (ob g 25), some (.int k)]) rfl (Nat.le_of_ble_eq_true rfl) 0 rfl ?_
  refine wp_aload_n (pc' := 1) dX7_likes_0 rfl rfl ⟨_, rfl⟩ ?_
  refine wp_iconst (pc' := 2) 0 dX7_likes_1 rfl (by decide) ?_
  refine wp_put (pc' := 5) (o := 25) dX7_likes_2 rfl fpX7_47 (by decide) rfl (Nat.le_of_ble_eq_true rfl) rfl ?_
  refine wp_aload_n (pc' := 6) dX7_likes_5 rfl rfl ⟨_, rfl⟩ ?_
  refine wp_iload_n (pc' := 7) dX7_likes_6 rfl rfl ?_
  refine wp_cVI (μ' := mX7_isWalker) (pc' := 10) (o := 25) dX7_likes_7 rfl mlX7_141 cfX7_isWalker ⟨(Nat.le_of_ble_eq_true rfl), (Nat.le_of_ble_eq_true rfl)⟩ (sm_isWalker) (by decide) rfl rfl rfl rfl rfl (Nat.le_of_ble_eq_true rfl) ?_
  refine wp_if_eq (pc' := 13) 21 dX7_likes_10 rfl (by decide) (fun q10 => ?_) (fun q10 => ?_)
  · refine wp_iconst (pc' := 22) (-1) dX7_likes_21 rfl (by decide) ?_
    refine wp_ireti dX7_likes_22 rfl ?_
    exact ri_ok rfl rfl
  · exact absurd h q10
theorem sm_likes {g : GG} {M : Mem} {N w k a b : Nat} (h : MW M N w) (hE : EN M N k a b) (hg : ¬ mWalkF M (nI k) = 0) : SI g mX7_likes [ob g 25, .int (nI k)] M (fun x m => x = lkM M N w a b ∧ ∃ f, m = setO (th M) 34 f) := by
  refine spec_of_wp (ls := [some (ob g 25), some (.int (nI k))]) rfl (Nat.le_of_ble_eq_true rfl) 0 rfl ?_
  refine wp_aload_n (pc' := 1) dX7_likes_0 rfl rfl ⟨_, rfl⟩ ?_
  refine wp_iconst (pc' := 2) 0 dX7_likes_1 rfl (by decide) ?_
  refine wp_put (pc' := 5) (o := 25) dX7_likes_2 rfl fpX7_47 (by decide) rfl (Nat.le_of_ble_eq_true rfl) rfl ?_
  refine wp_aload_n (pc' := 6) dX7_likes_5 rfl rfl ⟨_, rfl⟩ ?_
  refine wp_iload_n (pc' := 7) dX7_likes_6 rfl rfl ?_
  refine wp_cVI (μ' := mX7_isWalker) (pc' := 10) (o := 25) dX7_likes_7 rfl mlX7_141 cfX7_isWalker ⟨(Nat.le_of_ble_eq_true rfl), (Nat.le_of_ble_eq_true rfl)⟩ (sm_isWalker) (by decide) rfl rfl rfl rfl rfl (Nat.le_of_ble_eq_true rfl) ?_
  refine wp_if_eq (pc' := 13) 21 dX7_likes_10 rfl (by decide) (fun q10 => ?_) (fun q10 => ?_)
  · refine wp_iconst (pc' := 22) (-1) dX7_likes_21 rfl (by decide) ?_
    refine wp_ireti dX7_likes_22 rfl ?_
    exact absurd q10 hg
  · refine wp_aload_n (pc' := 14) dX7_likes_13 rfl rfl ⟨_, rfl⟩ ?_
    refine wp_iload_n (pc' := 15) dX7_likes_14 rfl rfl ?_
    refine wp_sVI (μ' := mX7_likesOf) (pc' := 18) (o := 25) dX7_likes_15 rfl mlX7_169 cfX7_likesOf ⟨(Nat.le_of_ble_eq_true rfl), (Nat.le_of_ble_eq_true rfl)⟩ (sm_likesOf (M := th M) h hE) (by decide) rfl rfl rfl rfl rfl (Nat.le_of_ble_eq_true rfl) (fun x m hm => ?_)
    refine wp_goto 22 dX7_likes_18 (by decide) ?_
    refine wp_ireti dX7_likes_22 rfl ?_
    obtain ⟨rfl, f, rfl⟩ := hm
    exact ⟨_, rfl, rfl, f, rfl⟩
theorem sm_steps_bad {g : GG} {M : Mem} {a b : Int32} (h : mCellF M a = 0 ∨ mCellF M b = 0) : RI g mX7_steps [ob g 25, .int a, .int b] M (-1) (th M) := by
  refine spec_of_wp (ls := [some (ob g 25), some (.int a), some (.int b)]) rfl (Nat.le_of_ble_eq_true rfl) 0 rfl ?_
  refine wp_aload_n (pc' := 1) dX7_steps_0 rfl rfl ⟨_, rfl⟩ ?_
  refine wp_iconst (pc' := 2) 0 dX7_steps_1 rfl (by decide) ?_
  refine wp_put (pc' := 5) (o := 25) dX7_steps_2 rfl fpX7_47 (by decide) rfl (Nat.le_of_ble_eq_true rfl) rfl ?_
  refine wp_aload_n (pc' := 6) dX7_steps_5 rfl rfl ⟨_, rfl⟩ ?_
  refine wp_iload_n (pc' := 7) dX7_steps_6 rfl rfl ?_
  refine wp_cVI (μ' := mX7_isCell) (pc' := 10) (o := 25) dX7_steps_7 rfl mlX7_137 cfX7_isCell ⟨(Nat.le_of_ble_eq_true rfl), (Nat.le_of_ble_eq_true rfl)⟩ (sm_isCell) (by decide) rfl rfl rfl rfl rfl (Nat.le_of_ble_eq_true rfl) ?_
  refine wp_if_eq (pc' := 13) 30 dX7_steps_10 rfl (by decide) (fun q10 => ?_) (fun q10 => ?_)
  · refine wp_iconst (pc' := 31) (-1) dX7_steps_30 rfl (by decide) ?_
    refine wp_ireti dX7_steps_31 rfl ?_
    exact ri_ok rfl rfl
  · refine wp_aload_n (pc' := 14) dX7_steps_13 rfl rfl ⟨_, rfl⟩ ?_
    refine wp_iload_n (pc' := 15) dX7_steps_14 rfl rfl ?_
    refine wp_cVI (μ' := mX7_isCell) (pc' := 18) (o := 25) dX7_steps_15 rfl mlX7_137 cfX7_isCell ⟨(Nat.le_of_ble_eq_true rfl), (Nat.le_of_ble_eq_true rfl)⟩ (sm_isCell) (by decide) rfl rfl rfl rfl rfl (Nat.le_of_ble_eq_true rfl) ?_
    refine wp_if_eq (pc' := 21) 30 dX7_steps_18 rfl (by decide) (fun q18 => ?_) (fun q18 => ?_)
    · refine wp_iconst (pc' := 31) (-1) dX7_steps_30 rfl (by decide) ?_
      refine wp_ireti dX7_steps_31 rfl ?_
      exact ri_ok rfl rfl
    · exact (h.elim q10 q18).elim
theorem sm_stones_bad {g : GG} {M : Mem} {a b : Int32} (h : mCellF M a = 0 ∨ mCellF M b = 0) : RI g mX7_stones [ob g 25, .int a, .int b] M (-1) (th M) := by
  refine spec_of_wp (ls := [some (ob g 25), some (.int a), some (.int b)]) rfl (Nat.le_of_ble_eq_true rfl) 0 rfl ?_
  refine wp_aload_n (pc' := 1) dX7_stones_0 rfl rfl ⟨_, rfl⟩ ?_
  refine wp_iconst (pc' := 2) 0 dX7_stones_1 rfl (by decide) ?_
  refine wp_put (pc' := 5) (o := 25) dX7_stones_2 rfl fpX7_47 (by decide) rfl (Nat.le_of_ble_eq_true rfl) rfl ?_
  refine wp_aload_n (pc' := 6) dX7_stones_5 rfl rfl ⟨_, rfl⟩ ?_
  refine wp_iload_n (pc' := 7) dX7_stones_6 rfl rfl ?_
  refine wp_cVI (μ' := mX7_isCell) (pc' := 10) (o := 25) dX7_stones_7 rfl mlX7_137 cfX7_isCell ⟨(Nat.le_of_ble_eq_true rfl), (Nat.le_of_ble_eq_true rfl)⟩ (sm_isCell) (by decide) rfl rfl rfl rfl rfl (Nat.le_of_ble_eq_true rfl) ?_
  refine wp_if_eq (pc' := 13) 30 dX7_stones_10 rfl (by decide) (fun q10 => ?_) (fun q10 => ?_)
  · refine wp_iconst (pc' := 31) (-1) dX7_stones_30 rfl (by decide) ?_
    refine wp_ireti dX7_stones_31 rfl ?_
    exact ri_ok rfl rfl
  · refine wp_aload_n (pc' := 14) dX7_stones_13 rfl rfl ⟨_, rfl⟩ ?_
    refine wp_iload_n (pc' := 15) dX7_stones_14 rfl rfl ?_
    refine wp_cVI (μ' := mX7_isCell) (pc' := 18) (o := 25) dX7_stones_15 rfl mlX7_137 cfX7_isCell ⟨(Nat.le_of_ble_eq_true rfl), (Nat.le_of_ble_eq_true rfl)⟩ (sm_isCell) (by decide) rfl rfl rfl rfl rfl (Nat.le_of_ble_eq_true rfl) ?_
    refine wp_if_eq (pc' := 21) 30 dX7_stones_18 rfl (by decide) (fun q18 => ?_) (fun q18 => ?_)
    · refine wp_iconst (pc' := 31) (-1) dX7_stones_30 rfl (by decide) ?_
      refine wp_ireti dX7_stones_31 rfl ?_
      exact ri_ok rfl rfl
    · exact (h.elim q10 q18).elim
theorem sm_steps {g : GG} {M : Mem} {N w a b : Nat} (h : MW M N w) (ha : a < N) (hb : b < N) (hg : ¬ (mCellF M (nI a) = 0 ∨ mCellF M (nI b) = 0)) : SI g mX7_steps [ob g 25, .int (nI a), .int (nI b)] M (fun x m => x = dvM M N w a b ∧ ∃ f, m = setO (th M) 34 f) := by
  refine spec_of_wp (ls := [some (ob g 25), some (.int (nI a)), some (.int (nI b))]) rfl (Nat.le_of_ble_eq_true rfl) 0 rfl ?_
  refine wp_aload_n (pc' := 1) dX7_steps_0 rfl rfl ⟨_, rfl⟩ ?_
  refine wp_iconst (pc' := 2) 0 dX7_steps_1 rfl (by decide) ?_
  refine wp_put (pc' := 5) (o := 25) dX7_steps_2 rfl fpX7_47 (by decide) rfl (Nat.le_of_ble_eq_true rfl) rfl ?_
  refine wp_aload_n (pc' := 6) dX7_steps_5 rfl rfl ⟨_, rfl⟩ ?_
  refine wp_iload_n (pc' := 7) dX7_steps_6 rfl rfl ?_
  refine wp_cVI (μ' := mX7_isCell) (pc' := 10) (o := 25) dX7_steps_7 rfl mlX7_137 cfX7_isCell ⟨(Nat.le_of_ble_eq_true rfl), (Nat.le_of_ble_eq_true rfl)⟩ (sm_isCell) (by decide) rfl rfl rfl rfl rfl (Nat.le_of_ble_eq_true rfl) ?_
  refine wp_if_eq (pc' := 13) 30 dX7_steps_10 rfl (by decide) (fun q10 => ?_) (fun q10 => ?_)
  · exact absurd (Or.inl q10) hg
  · refine wp_aload_n (pc' := 14) dX7_steps_13 rfl rfl ⟨_, rfl⟩ ?_
    refine wp_iload_n (pc' := 15) dX7_steps_14 rfl rfl ?_
    refine wp_cVI (μ' := mX7_isCell) (pc' := 18) (o := 25) dX7_steps_15 rfl mlX7_137 cfX7_isCell ⟨(Nat.le_of_ble_eq_true rfl), (Nat.le_of_ble_eq_true rfl)⟩ (sm_isCell) (by decide) rfl rfl rfl rfl rfl (Nat.le_of_ble_eq_true rfl) ?_
    refine wp_if_eq (pc' := 21) 30 dX7_steps_18 rfl (by decide) (fun q18 => ?_) (fun q18 => ?_)
    · exact absurd (Or.inr q18) hg
    · refine wp_aload_n (pc' := 22) dX7_steps_21 rfl rfl ⟨_, rfl⟩ ?_
      refine wp_iload_n (pc' := 23) dX7_steps_22 rfl rfl ?_
      refine wp_iload_n (pc' := 24) dX7_steps_23 rfl rfl ?_
      refine wp_sVI (μ' := mX7_stepsOf) (pc' := 27) (o := 25) dX7_steps_24 rfl mlX7_159 cfX7_stepsOf ⟨(Nat.le_of_ble_eq_true rfl), (Nat.le_of_ble_eq_true rfl)⟩ (sm_stepsOf (M := th M) h ha hb) (by decide) rfl rfl rfl rfl rfl (Nat.le_of_ble_eq_true rfl) (fun x m hm => ?_)
      refine wp_goto 31 dX7_steps_27 (by decide) ?_
      refine wp_ireti dX7_steps_31 rfl ?_
      obtain ⟨rfl, f, rfl, hR⟩ := hm
      exact ⟨_, rfl, rfl, f, rfl⟩
def wyN (N : Nat) (be : Nat → Bool) (ad : Nat → Nat → Bool) (F : Nat → Nat) : Nat → Nat → Nat
  | 0, p => p
  | n + 1, p => wyN N be ad F n (nxN N be ad F p)
theorem lpm_way {g : GG} {M : Mem} {N w b i : Nat} {a0 b0 L : Int32} (h : MW M N w) (hb : b < N) (hi : i < 2 ^ 31) {f : Nat → Int32} (hR : RF N f (dM M N w b)) : ∀ (n j : Nat), j + n = i → ∀ (p : Nat), p < N → beS (M.1 31) p = true → n ≤ dM M N w b p → dM M N w b p < 99 → wp g mX7_way 69 [some (ob g 25), some (.int a0), some (.int b0), some (.int (nI i)), some (.int L), some (.int (nI p)), some (.int (nI j))] [] (setO M 34 f) (fun q m => ∃ x : Int32, q = some (.int x) ∧ x = nI (wyN N (beS (M.1 31)) (adjB w) (dM M N w b) n p) ∧ ∃ f, m = setO M 34 f) := by
  intro n
  induction n with
  | zero =>
    intro j hj p hp hpb h1 h2
    obtain rfl : j = i := by omega
    refine wp_iload (pc' := 71) dX7_way_69 rfl rfl ?_
    refine wp_iload_n (pc' := 72) dX7_way_71 rfl rfl ?_
    refine wp_icmp_ge (pc' := 75) 89 dX7_way_72 rfl (by decide) (fun h72 => ?_) (fun h72 => ?_)
    · refine wp_iload (pc' := 91) dX7_way_89 rfl rfl ?_
      refine wp_ireti dX7_way_91 rfl ?_
      exact ⟨_, rfl, rfl, f, rfl⟩
    · exact absurd (nI_le (Nat.le_refl j) (by omega)) h72
  | succ n ih =>
    intro j hj p hp hpb h1 h2
    have hnx : nxN N (beS (M.1 31)) (adjB w) (dM M N w b) p < N ∧ beS (M.1 31) (nxN N (beS (M.1 31)) (adjB w) (dM M N w b) p) = true ∧ adjB w p (nxN N (beS (M.1 31)) (adjB w) (dM M N w b) p) = true ∧ dM M N w b (nxN N (beS (M.1 31)) (adjB w) (dM M N w b) p) + 1 = dM M N w b p := nxN_ok (ad := adjB w) h.1 hb (adjB_comm w) hp hpb (show 0 < dM M N w b p by omega) h2
    obtain ⟨q1, q2, q3, q4⟩ := hnx
    have eo : owF (beS (M.1 31)) (adjB w) (dM M N w b) p N (-9) = nI (nxN N (beS (M.1 31)) (adjB w) (dM M N w b) p) := by
      rw [owF_ls]
      exact if_pos q1
    refine wp_iload (pc' := 71) dX7_way_69 rfl rfl ?_
    refine wp_iload_n (pc' := 72) dX7_way_71 rfl rfl ?_
    refine wp_icmp_ge (pc' := 75) 89 dX7_way_72 rfl (by decide) (fun h72 => ?_) (fun h72 => ?_)
    · exact absurd h72 (nI_ge (by omega) (by omega))
    · refine wp_aload_n (pc' := 76) dX7_way_75 rfl rfl ⟨_, rfl⟩ ?_
      refine wp_iload (pc' := 78) dX7_way_76 rfl rfl ?_
      refine wp_cVI (μ' := mX7_onward) (pc' := 81) (o := 25) dX7_way_78 rfl mlX7_162 cfX7_onward ⟨(Nat.le_of_ble_eq_true rfl), (Nat.le_of_ble_eq_true rfl)⟩ (sm_onward (M := setO M 34 f) (N := N) (w := w) h hp hR) (by decide) rfl rfl rfl rfl rfl (Nat.le_of_ble_eq_true rfl) ?_
      refine wp_top (eo) ?_
      refine wp_ist5 (pc' := 83) dX7_way_81 rfl (by decide) rfl ?_
      refine wp_inc6 (pc' := 86) (nI (j + 1)) dX7_way_83 rfl (by decide) rfl (nI_1 j) ?_
      refine wp_goto 69 dX7_way_86 (by decide) ?_
      exact ih (j + 1) (by omega) _ q1 q2 (by omega) (by omega)
theorem sm_way_bad {g : GG} {M : Mem} {a b i : Int32} (h : mCellF M a = 0 ∨ mCellF M b = 0 ∨ i < 0) : RI g mX7_way [ob g 25, .int a, .int b, .int i] M (-1) (th M) := by
  refine spec_of_wp (ls := [some (ob g 25), some (.int a), some (.int b), some (.int i), none, none, none]) rfl (Nat.le_of_ble_eq_true rfl) 3 rfl ?_
  refine wp_aload_n (pc' := 1) dX7_way_0 rfl rfl ⟨_, rfl⟩ ?_
  refine wp_iconst (pc' := 2) 0 dX7_way_1 rfl (by decide) ?_
  refine wp_put (pc' := 5) (o := 25) dX7_way_2 rfl fpX7_47 (by decide) rfl (Nat.le_of_ble_eq_true rfl) rfl ?_
  refine wp_aload_n (pc' := 6) dX7_way_5 rfl rfl ⟨_, rfl⟩ ?_
  refine wp_iload_n (pc' := 7) dX7_way_6 rfl rfl ?_
  refine wp_cVI (μ' := mX7_isCell) (pc' := 10) (o := 25) dX7_way_7 rfl mlX7_137 cfX7_isCell ⟨(Nat.le_of_ble_eq_true rfl), (Nat.le_of_ble_eq_true rfl)⟩ (sm_isCell) (by decide) rfl rfl rfl rfl rfl (Nat.le_of_ble_eq_true rfl) ?_
  refine wp_if_eq (pc' := 13) 25 dX7_way_10 rfl (by decide) (fun q10 => ?_) (fun q10 => ?_)
  · refine wp_iconst (pc' := 26) (-1) dX7_way_25 rfl (by decide) ?_
    refine wp_ireti dX7_way_26 rfl ?_
    exact ri_ok rfl rfl
  · refine wp_aload_n (pc' := 14) dX7_way_13 rfl rfl ⟨_, rfl⟩ ?_
    refine wp_iload_n (pc' := 15) dX7_way_14 rfl rfl ?_
    refine wp_cVI (μ' := mX7_isCell) (pc' := 18) (o := 25) dX7_way_15 rfl mlX7_137 cfX7_isCell ⟨(Nat.le_of_ble_eq_true rfl), (Nat.le_of_ble_eq_true rfl)⟩ (sm_isCell) (by decide) rfl rfl rfl rfl rfl (Nat.le_of_ble_eq_true rfl) ?_
    refine wp_if_eq (pc' := 21) 25 dX7_way_18 rfl (by decide) (fun q18 => ?_) (fun q18 => ?_)
    · refine wp_iconst (pc' := 26) (-1) dX7_way_25 rfl (by decide) ?_
      refine wp_ireti dX7_way_26 rfl ?_
      exact ri_ok rfl rfl
    · refine wp_iload_n (pc' := 22) dX7_way_21 rfl rfl ?_
      refine wp_if_ge (pc' := 25) 27 dX7_way_22 rfl (by decide) (fun q22 => ?_) (fun q22 => ?_)
      · exact (h.elim q10 (fun hh => hh.elim q18 (fun hh => Int32.not_lt.mpr q22 hh))).elim
      · refine wp_iconst (pc' := 26) (-1) dX7_way_25 rfl (by decide) ?_
        refine wp_ireti dX7_way_26 rfl ?_
        exact ri_ok rfl rfl
def wayM (M : Mem) (N w a b i : Nat) : Int32 := if dvM M N w a b = -9 then -9 else if dvM M N w a b < nI i then -5 else nI (wyN N (beS (M.1 31)) (adjB w) (dM M N w b) i a)
theorem sm_way {g : GG} {M : Mem} {N w a b i : Nat} (h : MW M N w) (ha : a < N) (hb : b < N) (hi : i < 2 ^ 31) (hg : ¬ (mCellF M (nI a) = 0 ∨ mCellF M (nI b) = 0)) : SI g mX7_way [ob g 25, .int (nI a), .int (nI b), .int (nI i)] M (fun x m => x = wayM M N w a b i ∧ ∃ f, m = setO (th M) 34 f) := by
  refine spec_of_wp (ls := [some (ob g 25), some (.int (nI a)), some (.int (nI b)), some (.int (nI i)), none, none, none]) rfl (Nat.le_of_ble_eq_true rfl) 3 rfl ?_
  refine wp_aload_n (pc' := 1) dX7_way_0 rfl rfl ⟨_, rfl⟩ ?_
  refine wp_iconst (pc' := 2) 0 dX7_way_1 rfl (by decide) ?_
  refine wp_put (pc' := 5) (o := 25) dX7_way_2 rfl fpX7_47 (by decide) rfl (Nat.le_of_ble_eq_true rfl) rfl ?_
  refine wp_aload_n (pc' := 6) dX7_way_5 rfl rfl ⟨_, rfl⟩ ?_
  refine wp_iload_n (pc' := 7) dX7_way_6 rfl rfl ?_
  refine wp_cVI (μ' := mX7_isCell) (pc' := 10) (o := 25) dX7_way_7 rfl mlX7_137 cfX7_isCell ⟨(Nat.le_of_ble_eq_true rfl), (Nat.le_of_ble_eq_true rfl)⟩ (sm_isCell) (by decide) rfl rfl rfl rfl rfl (Nat.le_of_ble_eq_true rfl) ?_
  refine wp_if_eq (pc' := 13) 25 dX7_way_10 rfl (by decide) (fun q10 => ?_) (fun q10 => ?_)
  · exact absurd (Or.inl q10) hg
  · refine wp_aload_n (pc' := 14) dX7_way_13 rfl rfl ⟨_, rfl⟩ ?_
    refine wp_iload_n (pc' := 15) dX7_way_14 rfl rfl ?_
    refine wp_cVI (μ' := mX7_isCell) (pc' := 18) (o := 25) dX7_way_15 rfl mlX7_137 cfX7_isCell ⟨(Nat.le_of_ble_eq_true rfl), (Nat.le_of_ble_eq_true rfl)⟩ (sm_isCell) (by decide) rfl rfl rfl rfl rfl (Nat.le_of_ble_eq_true rfl) ?_
    refine wp_if_eq (pc' := 21) 25 dX7_way_18 rfl (by decide) (fun q18 => ?_) (fun q18 => ?_)
    · exact absurd (Or.inr q18) hg
    · refine wp_iload_n (pc' := 22) dX7_way_21 rfl rfl ?_
      refine wp_if_ge (pc' := 25) 27 dX7_way_22 rfl (by decide) (fun q22 => ?_) (fun q22 => ?_)
      · refine wp_aload_n (pc' := 28) dX7_way_27 rfl rfl ⟨_, rfl⟩ ?_
        refine wp_iload_n (pc' := 29) dX7_way_28 rfl rfl ?_
        refine wp_iload_n (pc' := 30) dX7_way_29 rfl rfl ?_
        refine wp_sVI (μ' := mX7_stepsOf) (pc' := 33) (o := 25) dX7_way_30 rfl mlX7_159 cfX7_stepsOf ⟨(Nat.le_of_ble_eq_true rfl), (Nat.le_of_ble_eq_true rfl)⟩ (sm_stepsOf (M := th M) (N := N) (w := w) h ha hb) (by decide) rfl rfl rfl rfl rfl (Nat.le_of_ble_eq_true rfl) (fun x m hm => ?_)
        obtain ⟨hx, f, rfl, hR⟩ := hm
        change x = dvM M N w a b at hx
        subst hx
        refine wp_ist4 (pc' := 35) dX7_way_33 rfl (by decide) rfl ?_
        refine wp_iload (pc' := 37) dX7_way_35 rfl rfl ?_
        refine wp_bipush (pc' := 39) (-9) dX7_way_37 rfl (by decide) ?_
        refine wp_icmp_eq (pc' := 42) 48 dX7_way_39 rfl (by decide) (fun q39 => ?_) (fun q39 => ?_)
        · refine wp_iload (pc' := 50) dX7_way_48 rfl rfl ?_
          refine wp_bipush (pc' := 52) (-9) dX7_way_50 rfl (by decide) ?_
          refine wp_icmp_ne (pc' := 55) 60 dX7_way_52 rfl (by decide) (fun q52 => ?_) (fun q52 => ?_)
          · refine wp_bipush (pc' := 62) (-5) dX7_way_60 rfl (by decide) ?_
            refine wp_ireti dX7_way_62 rfl ?_
            exact absurd q39 q52
          · refine wp_bipush (pc' := 57) (-9) dX7_way_55 rfl (by decide) ?_
            refine wp_goto 62 dX7_way_57 (by decide) ?_
            refine wp_ireti dX7_way_62 rfl ?_
            exact ⟨_, rfl, (by rw [wayM, if_pos (show dvM M N w a b = -9 from q39)]), f, rfl⟩
        · refine wp_iload_n (pc' := 43) dX7_way_42 rfl rfl ?_
          refine wp_iload (pc' := 45) dX7_way_43 rfl rfl ?_
          refine wp_icmp_le (pc' := 48) 63 dX7_way_45 rfl (by decide) (fun q45 => ?_) (fun q45 => ?_)
          · refine wp_iload_n (pc' := 64) dX7_way_63 rfl rfl ?_
            refine wp_ist5 (pc' := 66) dX7_way_64 rfl (by decide) rfl ?_
            refine wp_iconst (pc' := 67) 0 dX7_way_66 rfl (by decide) ?_
            refine wp_ist6 (pc' := 69) dX7_way_67 rfl (by decide) rfl ?_
            have hba : beS (M.1 31) a = true := by
              cases hh : beS (M.1 31) a
              · exact absurd (if_pos (Or.inl hh)) q39
              · rfl
            have hd9 : ¬ dM M N w b a = 99 := fun hh => q39 (if_pos (Or.inr hh))
            have h99 : dM M N w b a ≤ 99 := (dF_ok h.1 hb).2 a
            have hdv : dvM M N w a b = nI (dM M N w b a) := if_neg (fun hh => hh.elim (fun z => by rw [hba] at z; cases z) hd9)
            have hle : i ≤ dM M N w b a := by
              have := q45
              rw [hdv] at this
              exact (nI_leI hi (by omega)).mp this
            have ew : wayM M N w a b i = nI (wyN N (beS (M.1 31)) (adjB w) (dM M N w b) i a) := by
              rw [wayM, if_neg q39, if_neg (Int32.not_lt.mpr q45)]
            rw [ew]
            exact lpm_way (M := th M) h hb hi hR i 0 (Nat.zero_add i) a ha hba hle (show dM M N w b a < 99 by omega)
          · refine wp_iload (pc' := 50) dX7_way_48 rfl rfl ?_
            refine wp_bipush (pc' := 52) (-9) dX7_way_50 rfl (by decide) ?_
            refine wp_icmp_ne (pc' := 55) 60 dX7_way_52 rfl (by decide) (fun q52 => ?_) (fun q52 => ?_)
            · refine wp_bipush (pc' := 62) (-5) dX7_way_60 rfl (by decide) ?_
              refine wp_ireti dX7_way_62 rfl ?_
              exact ⟨_, rfl, (by rw [wayM, if_neg (show ¬ dvM M N w a b = -9 from q39), if_pos (show dvM M N w a b < nI i from Int32.not_le.mp q45)]), f, rfl⟩
            · refine wp_bipush (pc' := 57) (-9) dX7_way_55 rfl (by decide) ?_
              refine wp_goto 62 dX7_way_57 (by decide) ?_
              refine wp_ireti dX7_way_62 rfl ?_
              exact absurd q52 q39
      · exact absurd (nI_pos' hi) q22
def cpS (o : Nat) (s : Nat → Int32) : Nat → Nat → (Nat → Int32) → (Nat → Int32)
  | 0, _, f => f
  | n + 1, j, f => cpS o s n (j + 1) (upd f (o + j) (s j))
def bkS (o : Nat) (im : Nat → Int32) : Nat → Nat → (Nat → Int32) → (Nat → Int32)
  | 0, _, f => f
  | n + 1, j, f => bkS o im n (j + 1) (upd f j (im (o + j)))
theorem zz_z : vp_nar .boolean 1 = 1 := rfl
theorem lpm_keep {g : GG} {M : Mem} {i : Nat} (hi : i < 2) {Q : Option Value → Mem → Prop} : ∀ (n j : Nat), j + n = 76 → ∀ (f : Nat → Int32), wp g mX7_keep 47 [some (ob g 25), some (.int (nI i)), some (.int (nI 76))] [] (setO M 32 (cpS (76 * i) (M.1 31) n j f)) Q → wp g mX7_keep 18 [some (ob g 25), some (.int (nI i)), some (.int (nI j))] [] (setO M 32 f) Q := by
  intro n
  induction n with
  | zero =>
    intro j hj f K
    obtain rfl : j = 76 := by omega
    refine wp_iload_n (pc' := 19) dX7_keep_18 rfl rfl ?_
    refine wp_bipush (pc' := 21) 76 dX7_keep_19 rfl (by decide) ?_
    refine wp_icmp_ge (pc' := 24) 47 dX7_keep_21 rfl (by decide) (fun _ => ?_) (fun hh => absurd hh (by decide))
    exact K
  | succ n ih =>
    intro j hj f K
    refine wp_iload_n (pc' := 19) dX7_keep_18 rfl rfl ?_
    refine wp_bipush (pc' := 21) 76 dX7_keep_19 rfl (by decide) ?_
    refine wp_icmp_ge (pc' := 24) 47 dX7_keep_21 rfl (by decide) (fun h21 => ?_) (fun h21 => ?_)
    · exact absurd h21 (nI_ge (a := j) (b := 76) (by omega) (by decide))
    · refine wp_aload_n (pc' := 25) dX7_keep_24 rfl rfl ⟨_, rfl⟩ ?_
      refine wp_get (pc' := 28) (o := 25) dX7_keep_25 rfl flX7_28 (by decide) rfl rfl ?_
      refine wp_bipush (pc' := 30) 76 dX7_keep_28 rfl (by decide) ?_
      refine wp_iload_n (pc' := 31) dX7_keep_30 rfl rfl ?_
      refine wp_imul (pc' := 32) dX7_keep_31 rfl ?_
      refine wp_iload_n (pc' := 33) dX7_keep_32 rfl rfl ?_
      refine wp_iadd (pc' := 34) dX7_keep_33 rfl ?_
      refine wp_aload_n (pc' := 35) dX7_keep_34 rfl rfl ⟨_, rfl⟩ ?_
      refine wp_get (pc' := 38) (o := 25) dX7_keep_35 rfl flX7_25 (by decide) rfl rfl ?_
      refine wp_iload_n (pc' := 39) dX7_keep_38 rfl rfl ?_
      refine wp_ialdN (pc' := 40) (o := 31) (n := 76) (j) dX7_keep_39 rfl (by decide) rfl (rfl) (by omega) (by decide) ?_
      refine wp_iastN (pc' := 41) (o := 32) (n := 152) (76 * i + j) dX7_keep_40 rfl (by decide) (fun _ _ => rfl) (by rw [show (76 : Int32) = nI 76 from rfl, pk_mul, nI_add]) (by omega) (by decide) ?_
      refine wp_inc2 (pc' := 44) (nI (j + 1)) dX7_keep_41 rfl (by decide) rfl (nI_1 j) ?_
      refine wp_goto 18 dX7_keep_44 (by decide) ?_
      rw [upI_setO]
      exact ih (j + 1) (by omega) _ K
theorem sm_keep_bad {g : GG} {M : Mem} {i : Int32} (h : inF i 0 1 = 0) : RI g mX7_keep [ob g 25, .int i] M (-1) (th M) := by
  refine spec_of_wp (ls := [some (ob g 25), some (.int i), none]) rfl (Nat.le_of_ble_eq_true rfl) 1 rfl ?_
  refine wp_aload_n (pc' := 1) dX7_keep_0 rfl rfl ⟨_, rfl⟩ ?_
  refine wp_iconst (pc' := 2) 0 dX7_keep_1 rfl (by decide) ?_
  refine wp_put (pc' := 5) (o := 25) dX7_keep_2 rfl fpX7_47 (by decide) rfl (Nat.le_of_ble_eq_true rfl) rfl ?_
  refine wp_iload_n (pc' := 6) dX7_keep_5 rfl rfl ?_
  refine wp_iconst (pc' := 7) 0 dX7_keep_6 rfl (by decide) ?_
  refine wp_iconst (pc' := 8) 1 dX7_keep_7 rfl (by decide) ?_
  refine wp_cSI (μ' := mX7_in) (pc' := 11) dX7_keep_8 rfl mlX7_57 cfX7_in ⟨(Nat.le_of_ble_eq_true rfl), (Nat.le_of_ble_eq_true rfl)⟩ (sm_in) rfl rfl (Nat.le_of_ble_eq_true rfl) ?_
  refine wp_if_ne (pc' := 14) 16 dX7_keep_11 rfl (by decide) (fun q11 => ?_) (fun q11 => ?_)
  · exact absurd h q11
  · refine wp_iconst (pc' := 15) (-1) dX7_keep_14 rfl (by decide) ?_
    refine wp_ireti dX7_keep_15 rfl ?_
    exact ri_ok rfl rfl
theorem sm_keep {g : GG} {M : Mem} {i N : Nat} (hN : N ≤ 24) (hwh : M.1 25 8 * M.1 25 9 = nI N) (hi : i < 2) (hg : ¬ inF (nI i) 0 1 = 0) : RI g mX7_keep [ob g 25, .int (nI i)] M (mmaF (M.1 31) 2 N 0 0) (upI (setO (th M) 32 (cpS (76 * i) (M.1 31) 76 0 (M.1 32))) 33 i 1) := by
  refine spec_of_wp (ls := [some (ob g 25), some (.int (nI i)), none]) rfl (Nat.le_of_ble_eq_true rfl) 1 rfl ?_
  refine wp_aload_n (pc' := 1) dX7_keep_0 rfl rfl ⟨_, rfl⟩ ?_
  refine wp_iconst (pc' := 2) 0 dX7_keep_1 rfl (by decide) ?_
  refine wp_put (pc' := 5) (o := 25) dX7_keep_2 rfl fpX7_47 (by decide) rfl (Nat.le_of_ble_eq_true rfl) rfl ?_
  refine wp_iload_n (pc' := 6) dX7_keep_5 rfl rfl ?_
  refine wp_iconst (pc' := 7) 0 dX7_keep_6 rfl (by decide) ?_
  refine wp_iconst (pc' := 8) 1 dX7_keep_7 rfl (by decide) ?_
  refine wp_cSI (μ' := mX7_in) (pc' := 11) dX7_keep_8 rfl mlX7_57 cfX7_in ⟨(Nat.le_of_ble_eq_true rfl), (Nat.le_of_ble_eq_true rfl)⟩ (sm_in) rfl rfl (Nat.le_of_ble_eq_true rfl) ?_
  refine wp_if_ne (pc' := 14) 16 dX7_keep_11 rfl (by decide) (fun q11 => ?_) (fun q11 => ?_)
  · refine wp_iconst (pc' := 17) 0 dX7_keep_16 rfl (by decide) ?_
    refine wp_ist2 (pc' := 18) dX7_keep_17 rfl (by decide) rfl ?_
    refine wp_mem (setO_self (th M) 32).symm ?_
    refine lpm_keep hi 76 0 rfl _ ?_
    refine wp_aload_n (pc' := 48) dX7_keep_47 rfl rfl ⟨_, rfl⟩ ?_
    refine wp_get (pc' := 51) (o := 25) dX7_keep_48 rfl flX7_31 (by decide) rfl rfl ?_
    refine wp_iload_n (pc' := 52) dX7_keep_51 rfl rfl ?_
    refine wp_iconst (pc' := 53) 1 dX7_keep_52 rfl (by decide) ?_
    refine wp_zast (pc' := 54) (o := 33) (n := 2) dX7_keep_53 rfl (by decide) (fun _ _ => rfl) (vp_in_nI (n := i) hi (by decide)) zz_z ?_
    refine wp_aload_n (pc' := 55) dX7_keep_54 rfl rfl ⟨_, rfl⟩ ?_
    refine wp_iconst (pc' := 56) 2 dX7_keep_55 rfl (by decide) ?_
    refine wp_cVI (μ' := mX7_many) (pc' := 59) (o := 25) dX7_keep_56 rfl mlX7_172 cfX7_many ⟨(Nat.le_of_ble_eq_true rfl), (Nat.le_of_ble_eq_true rfl)⟩ (sm_many hN hwh) (by decide) rfl rfl rfl rfl rfl (Nat.le_of_ble_eq_true rfl) ?_
    refine wp_ireti dX7_keep_59 rfl ?_
    exact ri_ok rfl (by rw [nI_clamp (by omega)]; rfl)
  · exact absurd q11 hg
theorem lpm_back {g : GG} {M : Mem} {i : Nat} (hi : i < 2) {Q : Option Value → Mem → Prop} : ∀ (n j : Nat), j + n = 76 → ∀ (f : Nat → Int32), wp g mX7_back 59 [some (ob g 25), some (.int (nI i)), some (.int (nI 76))] [] (setO M 31 (bkS (76 * i) (M.1 32) n j f)) Q → wp g mX7_back 30 [some (ob g 25), some (.int (nI i)), some (.int (nI j))] [] (setO M 31 f) Q := by
  intro n
  induction n with
  | zero =>
    intro j hj f K
    obtain rfl : j = 76 := by omega
    refine wp_iload_n (pc' := 31) dX7_back_30 rfl rfl ?_
    refine wp_bipush (pc' := 33) 76 dX7_back_31 rfl (by decide) ?_
    refine wp_icmp_ge (pc' := 36) 59 dX7_back_33 rfl (by decide) (fun _ => ?_) (fun hh => absurd hh (by decide))
    exact K
  | succ n ih =>
    intro j hj f K
    refine wp_iload_n (pc' := 31) dX7_back_30 rfl rfl ?_
    refine wp_bipush (pc' := 33) 76 dX7_back_31 rfl (by decide) ?_
    refine wp_icmp_ge (pc' := 36) 59 dX7_back_33 rfl (by decide) (fun h33 => ?_) (fun h33 => ?_)
    · exact absurd h33 (nI_ge (a := j) (b := 76) (by omega) (by decide))
    · refine wp_aload_n (pc' := 37) dX7_back_36 rfl rfl ⟨_, rfl⟩ ?_
      refine wp_get (pc' := 40) (o := 25) dX7_back_37 rfl flX7_25 (by decide) rfl rfl ?_
      refine wp_iload_n (pc' := 41) dX7_back_40 rfl rfl ?_
      refine wp_aload_n (pc' := 42) dX7_back_41 rfl rfl ⟨_, rfl⟩ ?_
      refine wp_get (pc' := 45) (o := 25) dX7_back_42 rfl flX7_28 (by decide) rfl rfl ?_
      refine wp_bipush (pc' := 47) 76 dX7_back_45 rfl (by decide) ?_
      refine wp_iload_n (pc' := 48) dX7_back_47 rfl rfl ?_
      refine wp_imul (pc' := 49) dX7_back_48 rfl ?_
      refine wp_iload_n (pc' := 50) dX7_back_49 rfl rfl ?_
      refine wp_iadd (pc' := 51) dX7_back_50 rfl ?_
      refine wp_ialdN (pc' := 52) (o := 32) (n := 152) (76 * i + j) dX7_back_51 rfl (by decide) rfl (by rw [show (76 : Int32) = nI 76 from rfl, pk_mul, nI_add]) (by omega) (by decide) ?_
      refine wp_iastN (pc' := 53) (o := 31) (n := 76) (j) dX7_back_52 rfl (by decide) (fun _ _ => rfl) (rfl) (by omega) (by decide) ?_
      refine wp_inc2 (pc' := 56) (nI (j + 1)) dX7_back_53 rfl (by decide) rfl (nI_1 j) ?_
      refine wp_goto 30 dX7_back_56 (by decide) ?_
      rw [upI_setO]
      exact ih (j + 1) (by omega) _ K
theorem sm_back_bad {g : GG} {M : Mem} {i : Int32} (h : inF i 0 1 = 0) : RI g mX7_back [ob g 25, .int i] M (-1) (th M) := by
  refine spec_of_wp (ls := [some (ob g 25), some (.int i), none]) rfl (Nat.le_of_ble_eq_true rfl) 1 rfl ?_
  refine wp_aload_n (pc' := 1) dX7_back_0 rfl rfl ⟨_, rfl⟩ ?_
  refine wp_iconst (pc' := 2) 0 dX7_back_1 rfl (by decide) ?_
  refine wp_put (pc' := 5) (o := 25) dX7_back_2 rfl fpX7_47 (by decide) rfl (Nat.le_of_ble_eq_true rfl) rfl ?_
  refine wp_iload_n (pc' := 6) dX7_back_5 rfl rfl ?_
  refine wp_iconst (pc' := 7) 0 dX7_back_6 rfl (by decide) ?_
  refine wp_iconst (pc' := 8) 1 dX7_back_7 rfl (by decide) ?_
  refine wp_cSI (μ' := mX7_in) (pc' := 11) dX7_back_8 rfl mlX7_57 cfX7_in ⟨(Nat.le_of_ble_eq_true rfl), (Nat.le_of_ble_eq_true rfl)⟩ (sm_in) rfl rfl (Nat.le_of_ble_eq_true rfl) ?_
  refine wp_if_ne (pc' := 14) 16 dX7_back_11 rfl (by decide) (fun q11 => ?_) (fun q11 => ?_)
  · exact absurd h q11
  · refine wp_iconst (pc' := 15) (-1) dX7_back_14 rfl (by decide) ?_
    refine wp_ireti dX7_back_15 rfl ?_
    exact ri_ok rfl rfl
theorem sm_back_none {g : GG} {M : Mem} {i : Nat} (hi : i < 2) (hg : ¬ inF (nI i) 0 1 = 0) (hk : M.1 33 i = 0) : RI g mX7_back [ob g 25, .int (nI i)] M (-2) (th M) := by
  refine spec_of_wp (ls := [some (ob g 25), some (.int (nI i)), none]) rfl (Nat.le_of_ble_eq_true rfl) 1 rfl ?_
  refine wp_aload_n (pc' := 1) dX7_back_0 rfl rfl ⟨_, rfl⟩ ?_
  refine wp_iconst (pc' := 2) 0 dX7_back_1 rfl (by decide) ?_
  refine wp_put (pc' := 5) (o := 25) dX7_back_2 rfl fpX7_47 (by decide) rfl (Nat.le_of_ble_eq_true rfl) rfl ?_
  refine wp_iload_n (pc' := 6) dX7_back_5 rfl rfl ?_
  refine wp_iconst (pc' := 7) 0 dX7_back_6 rfl (by decide) ?_
  refine wp_iconst (pc' := 8) 1 dX7_back_7 rfl (by decide) ?_
  refine wp_cSI (μ' := mX7_in) (pc' := 11) dX7_back_8 rfl mlX7_57 cfX7_in ⟨(Nat.le_of_ble_eq_true rfl), (Nat.le_of_ble_eq_true rfl)⟩ (sm_in) rfl rfl (Nat.le_of_ble_eq_true rfl) ?_
  refine wp_if_ne (pc' := 14) 16 dX7_back_11 rfl (by decide) (fun q11 => ?_) (fun q11 => ?_)
  · refine wp_aload_n (pc' := 17) dX7_back_16 rfl rfl ⟨_, rfl⟩ ?_
    refine wp_get (pc' := 20) (o := 25) dX7_back_17 rfl flX7_31 (by decide) rfl rfl ?_
    refine wp_iload_n (pc' := 21) dX7_back_20 rfl rfl ?_
    refine wp_zald (pc' := 22) (o := 33) (n := 2) dX7_back_21 rfl (by decide) rfl (vp_in_nI (n := i) hi (by decide)) ?_
    refine wp_if_ne (pc' := 25) 28 dX7_back_22 rfl (by decide) (fun q22 => ?_) (fun q22 => ?_)
    · exact absurd (by rw [nI_clamp (by omega)]; exact hk) q22
    · refine wp_bipush (pc' := 27) (-2) dX7_back_25 rfl (by decide) ?_
      refine wp_ireti dX7_back_27 rfl ?_
      exact ri_ok rfl rfl
  · exact absurd q11 hg
theorem sm_back {g : GG} {M : Mem} {i N : Nat} (hN : N ≤ 24) (hwh : M.1 25 8 * M.1 25 9 = nI N) (hi : i < 2) (hg : ¬ inF (nI i) 0 1 = 0) (hk : ¬ M.1 33 i = 0) : RI g mX7_back [ob g 25, .int (nI i)] M (mmaF (bkS (76 * i) (M.1 32) 76 0 (M.1 31)) 2 N 0 0) (setO (th M) 31 (bkS (76 * i) (M.1 32) 76 0 (M.1 31))) := by
  refine spec_of_wp (ls := [some (ob g 25), some (.int (nI i)), none]) rfl (Nat.le_of_ble_eq_true rfl) 1 rfl ?_
  refine wp_aload_n (pc' := 1) dX7_back_0 rfl rfl ⟨_, rfl⟩ ?_
  refine wp_iconst (pc' := 2) 0 dX7_back_1 rfl (by decide) ?_
  refine wp_put (pc' := 5) (o := 25) dX7_back_2 rfl fpX7_47 (by decide) rfl (Nat.le_of_ble_eq_true rfl) rfl ?_
  refine wp_iload_n (pc' := 6) dX7_back_5 rfl rfl ?_
  refine wp_iconst (pc' := 7) 0 dX7_back_6 rfl (by decide) ?_
  refine wp_iconst (pc' := 8) 1 dX7_back_7 rfl (by decide) ?_
  refine wp_cSI (μ' := mX7_in) (pc' := 11) dX7_back_8 rfl mlX7_57 cfX7_in ⟨(Nat.le_of_ble_eq_true rfl), (Nat.le_of_ble_eq_true rfl)⟩ (sm_in) rfl rfl (Nat.le_of_ble_eq_true rfl) ?_
  refine wp_if_ne (pc' := 14) 16 dX7_back_11 rfl (by decide) (fun q11 => ?_) (fun q11 => ?_)
  · refine wp_aload_n (pc' := 17) dX7_back_16 rfl rfl ⟨_, rfl⟩ ?_
    refine wp_get (pc' := 20) (o := 25) dX7_back_17 rfl flX7_31 (by decide) rfl rfl ?_
    refine wp_iload_n (pc' := 21) dX7_back_20 rfl rfl ?_
    refine wp_zald (pc' := 22) (o := 33) (n := 2) dX7_back_21 rfl (by decide) rfl (vp_in_nI (n := i) hi (by decide)) ?_
    refine wp_if_ne (pc' := 25) 28 dX7_back_22 rfl (by decide) (fun q22 => ?_) (fun q22 => ?_)
    · refine wp_iconst (pc' := 29) 0 dX7_back_28 rfl (by decide) ?_
      refine wp_ist2 (pc' := 30) dX7_back_29 rfl (by decide) rfl ?_
      refine wp_mem (setO_self (th M) 31).symm ?_
      refine lpm_back hi 76 0 rfl _ ?_
      refine wp_aload_n (pc' := 60) dX7_back_59 rfl rfl ⟨_, rfl⟩ ?_
      refine wp_iconst (pc' := 61) 2 dX7_back_60 rfl (by decide) ?_
      refine wp_cVI (μ' := mX7_many) (pc' := 64) (o := 25) dX7_back_61 rfl mlX7_172 cfX7_many ⟨(Nat.le_of_ble_eq_true rfl), (Nat.le_of_ble_eq_true rfl)⟩ (sm_many hN hwh) (by decide) rfl rfl rfl rfl rfl (Nat.le_of_ble_eq_true rfl) ?_
      refine wp_ireti dX7_back_64 rfl ?_
      exact ri_ok rfl rfl
    · exact absurd q22 (by rw [nI_clamp (by omega)]; exact hk)
  · exact absurd q11 hg
def mnowV (M : Mem) (N : Nat) (what : Int32) : Int32 := if inF what 0 3 = 0 then -1 else if what < 3 then mmaF (M.1 31) what N 0 0 else mpaF (M.1 31)
theorem sm_now {g : GG} {M : Mem} {N : Nat} {what : Int32} (hN : N ≤ 24) (hwh : M.1 25 8 * M.1 25 9 = nI N) : RI g mX7_now [ob g 25, .int what] M (mnowV M N what) (th M) := by
  refine spec_of_wp (ls := [some (ob g 25), some (.int what)]) rfl (Nat.le_of_ble_eq_true rfl) 0 rfl ?_
  refine wp_aload_n (pc' := 1) dX7_now_0 rfl rfl ⟨_, rfl⟩ ?_
  refine wp_iconst (pc' := 2) 0 dX7_now_1 rfl (by decide) ?_
  refine wp_put (pc' := 5) (o := 25) dX7_now_2 rfl fpX7_47 (by decide) rfl (Nat.le_of_ble_eq_true rfl) rfl ?_
  refine wp_iload_n (pc' := 6) dX7_now_5 rfl rfl ?_
  refine wp_iconst (pc' := 7) 0 dX7_now_6 rfl (by decide) ?_
  refine wp_iconst (pc' := 8) 3 dX7_now_7 rfl (by decide) ?_
  refine wp_cSI (μ' := mX7_in) (pc' := 11) dX7_now_8 rfl mlX7_57 cfX7_in ⟨(Nat.le_of_ble_eq_true rfl), (Nat.le_of_ble_eq_true rfl)⟩ (sm_in) rfl rfl (Nat.le_of_ble_eq_true rfl) ?_
  refine wp_if_ne (pc' := 14) 18 dX7_now_11 rfl (by decide) (fun h11 => ?_) (fun h11 => ?_)
  · refine wp_iload_n (pc' := 19) dX7_now_18 rfl rfl ?_
    refine wp_iconst (pc' := 20) 3 dX7_now_19 rfl (by decide) ?_
    refine wp_icmp_ge (pc' := 23) 31 dX7_now_20 rfl (by decide) (fun h20 => ?_) (fun h20 => ?_)
    · refine wp_aload_n (pc' := 32) dX7_now_31 rfl rfl ⟨_, rfl⟩ ?_
      refine wp_cVI (μ' := mX7_passedInAll) (pc' := 35) (o := 25) dX7_now_32 rfl mlX7_175 cfX7_passedInAll ⟨(Nat.le_of_ble_eq_true rfl), (Nat.le_of_ble_eq_true rfl)⟩ (sm_passedInAll) (by decide) rfl rfl rfl rfl rfl (Nat.le_of_ble_eq_true rfl) ?_
      refine wp_ireti dX7_now_35 rfl ?_
      exact ri_ok (by rw [mnowV, if_neg h11, if_neg (Int32.not_lt.mpr h20)]; try rfl) rfl
    · refine wp_aload_n (pc' := 24) dX7_now_23 rfl rfl ⟨_, rfl⟩ ?_
      refine wp_iload_n (pc' := 25) dX7_now_24 rfl rfl ?_
      refine wp_cVI (μ' := mX7_many) (pc' := 28) (o := 25) dX7_now_25 rfl mlX7_172 cfX7_many ⟨(Nat.le_of_ble_eq_true rfl), (Nat.le_of_ble_eq_true rfl)⟩ (sm_many hN hwh) (by decide) rfl rfl rfl rfl rfl (Nat.le_of_ble_eq_true rfl) ?_
      refine wp_goto 35 dX7_now_28 (by decide) ?_
      refine wp_ireti dX7_now_35 rfl ?_
      exact ri_ok (by rw [mnowV, if_neg h11, if_pos (Int32.not_le.mp h20)]; try rfl) rfl
  · refine wp_iconst (pc' := 15) (-1) dX7_now_14 rfl (by decide) ?_
    refine wp_goto 35 dX7_now_15 (by decide) ?_
    refine wp_ireti dX7_now_35 rfl ?_
    exact ri_ok (by rw [mnowV, if_pos h11]; try rfl) rfl
