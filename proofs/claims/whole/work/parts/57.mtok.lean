/-! ===== the reference reads a token, a word, a number ===== -/
def TXM (M : Mem) (t : Nat) (tb : Nat → Int32) : Prop := t ≤ 300 ∧ M.1 25 3 = nI t ∧ ∀ i, i < t → M.1 26 i = tb i
section WLST
variable {g : GG} {μ : MD} {pc pc' : Nat} {ls : List (Option Value)} {st : List Value} {M : Mem} {Q : Option Value → Mem → Prop}
theorem lh_long {ls' : Array Slot} {n : Nat} {a0 a1 a2 : Option Value} {x : Int64} (h : lv_has ls' n ((1, Value.long x) :: ((a0 :: a1 :: a2 :: ls).zipIdx.filterMap (fun q => q.1.map (fun w => (q.2, w)))).filter (fun q => !(q.1 == 1) && (!(q.1 == 1 + 1) && !(q.1 + 1 == 1 && q.2.category == 2))))) (ho : okst (a0 :: a1 :: a2 :: ls) 1 = true) : lh ls' n (a0 :: some (.long x) :: none :: ls) := by
  refine ⟨h.1, h.2.1, fun j w hj => ?_⟩
  match j, hj with
  | 0, hj =>
    have hj0 : a0 = some w := by simpa using hj
    subst hj0
    refine h.2.2 (0, w) (List.mem_cons_of_mem _ (List.mem_filter.mpr ⟨List.mem_filterMap.mpr ⟨(some w, 0), List.mem_zipIdx_iff_getElem?.mpr rfl, rfl⟩, ?_⟩))
    have h6 : w.category ≠ 2 := fun h => by simp [okst, h] at ho
    simp [h6]
  | 1, hj =>
    have hj0 : some (Value.long x) = some w := by simpa using hj
    cases hj0
    exact h.2.2 _ List.mem_cons_self
  | 2, hj => exact absurd hj (by simp)
  | j + 3, hj =>
    have hj0 : (a0 :: a1 :: a2 :: ls)[j + 3]? = some (some w) := by simpa using hj
    refine h.2.2 (j + 3, w) (List.mem_cons_of_mem _ (List.mem_filter.mpr ⟨List.mem_filterMap.mpr ⟨(some w, j + 3), List.mem_zipIdx_iff_getElem?.mpr hj0, rfl⟩, ?_⟩))
    simp
theorem wp_lst1 {a0 a1 a2 : Option Value} {x : Int64} (d : decode μ.2.1 pc = .ok (.lstore_n 1, 1)) (hpc : pc' = pc + 1) (hi : 2 < μ.2.2.1) (ho : okst (a0 :: a1 :: a2 :: ls) 1 = true) (k : wp g μ pc' (a0 :: some (.long x) :: none :: ls) st M Q) : wp g μ pc (a0 :: a1 :: a2 :: ls) (.long x :: st) M Q := by
  subst hpc
  intro p e s m args below meth c H locs lsA C D P S L
  exact lv_lstore_n C.1 C.2.1 d rfl (lh_list L) hi rfl (fun ls' h => k p e s m args below meth c H locs ls' C D P S (lh_long h ho))
theorem wp_ltop {x v : Int64} (h : x = v) (k : wp g μ pc ls (.long v :: st) M Q) : wp g μ pc ls (.long x :: st) M Q := by
  subst h; exact k
end WLST
theorem in_rg {v lo hi : Int32} : inF v lo hi = 0 ↔ ¬ decide (lo ≤ v ∧ v ≤ hi) = true := by
  rw [rg_of, Classical.not_not]
  unfold inF
  by_cases h : v < lo ∨ hi < v
  · rw [if_pos h]; exact ⟨fun _ => h, fun _ => rfl⟩
  · rw [if_neg h]; exact ⟨fun z => absurd z (by decide), fun z => absurd z h⟩
section MT
variable {g : GG} {M : Mem} {t p : Nat} {tb : Nat → Int32}

theorem sm_byteAt (hT : TXM M t tb) {j : Nat} (hj : j < 2 ^ 31) : RI g mX7_byteAt [ob g 25, .int (nI j)] M (byN t tb j) M := by
  have h3 := hT.1
  refine spec_of_wp (ls := [some (ob g 25), some (.int (nI j))]) rfl (Nat.le_of_ble_eq_true rfl) 0 rfl ?_
  refine wp_iload_n (pc' := 1) dX7_byteAt_0 rfl rfl ?_
  refine wp_aload_n (pc' := 2) dX7_byteAt_1 rfl rfl ⟨_, rfl⟩ ?_
  refine wp_get (pc' := 5) (o := 25) dX7_byteAt_2 rfl flX7_64 (by decide) rfl rfl ?_
  refine wp_top (hT.2.1) ?_
  refine wp_icmp_ge (pc' := 8) 17 dX7_byteAt_5 rfl (by decide) (fun h5 => ?_) (fun h5 => ?_)
  · refine wp_iconst (pc' := 18) (-1) dX7_byteAt_17 rfl (by decide) ?_
    refine wp_ireti dX7_byteAt_18 rfl ?_
    exact ri_ok (if_neg (fun z => absurd h5 (nI_ge z (by omega)))).symm rfl
  · have hlt : j < t := Nat.lt_of_not_le fun z => h5 (nI_le z hj)
    refine wp_aload_n (pc' := 9) dX7_byteAt_8 rfl rfl ⟨_, rfl⟩ ?_
    refine wp_get (pc' := 12) (o := 25) dX7_byteAt_9 rfl flX7_7 (by decide) rfl rfl ?_
    refine wp_iload_n (pc' := 13) dX7_byteAt_12 rfl rfl ?_
    refine wp_ialdN (pc' := 14) (o := 26) (n := 300) (j) dX7_byteAt_13 rfl (by decide) rfl (rfl) (by omega) (by decide) ?_
    refine wp_goto 18 dX7_byteAt_14 (by decide) ?_
    refine wp_ireti dX7_byteAt_18 rfl ?_
    exact ri_ok ((hT.2.2 j hlt).trans (if_pos hlt).symm) rfl
theorem sm_sortOf {v : Int32} : RI g mX7_sortOf [.int v] M (soF v) M := by
  refine spec_of_wp (ls := [some (.int v)]) rfl (Nat.le_of_ble_eq_true rfl) 0 rfl ?_
  refine wp_iload_n (pc' := 1) dX7_sortOf_0 rfl rfl ?_
  refine wp_if_ge (pc' := 4) 8 dX7_sortOf_1 rfl (by decide) (fun h1 => ?_) (fun h1 => ?_)
  · refine wp_iload_n (pc' := 9) dX7_sortOf_8 rfl rfl ?_
    refine wp_bipush (pc' := 11) 97 dX7_sortOf_9 rfl (by decide) ?_
    refine wp_bipush (pc' := 13) 122 dX7_sortOf_11 rfl (by decide) ?_
    refine wp_cSI (μ' := mX7_in) (pc' := 16) dX7_sortOf_13 rfl mlX7_57 cfX7_in ⟨(Nat.le_of_ble_eq_true rfl), (Nat.le_of_ble_eq_true rfl)⟩ (sm_in) rfl rfl (Nat.le_of_ble_eq_true rfl) ?_
    refine wp_if_eq (pc' := 19) 23 dX7_sortOf_16 rfl (by decide) (fun h16 => ?_) (fun h16 => ?_)
    · refine wp_iload_n (pc' := 24) dX7_sortOf_23 rfl rfl ?_
      refine wp_bipush (pc' := 26) 48 dX7_sortOf_24 rfl (by decide) ?_
      refine wp_bipush (pc' := 28) 57 dX7_sortOf_26 rfl (by decide) ?_
      refine wp_cSI (μ' := mX7_in) (pc' := 31) dX7_sortOf_28 rfl mlX7_57 cfX7_in ⟨(Nat.le_of_ble_eq_true rfl), (Nat.le_of_ble_eq_true rfl)⟩ (sm_in) rfl rfl (Nat.le_of_ble_eq_true rfl) ?_
      refine wp_if_eq (pc' := 34) 38 dX7_sortOf_31 rfl (by decide) (fun h31 => ?_) (fun h31 => ?_)
      · refine wp_iload_n (pc' := 39) dX7_sortOf_38 rfl rfl ?_
        refine wp_bipush (pc' := 41) 59 dX7_sortOf_39 rfl (by decide) ?_
        refine wp_icmp_ne (pc' := 44) 48 dX7_sortOf_41 rfl (by decide) (fun h41 => ?_) (fun h41 => ?_)
        · refine wp_iconst (pc' := 49) 4 dX7_sortOf_48 rfl (by decide) ?_
          refine wp_ireti dX7_sortOf_49 rfl ?_
          exact ri_ok (by rw [soF, if_neg (Int32.not_lt.mpr h1), if_neg (show ¬ isLt v = true from in_rg.mp h16), if_neg (show ¬ isDg v = true from in_rg.mp h31), if_neg h41]) rfl
        · refine wp_iconst (pc' := 45) 3 dX7_sortOf_44 rfl (by decide) ?_
          refine wp_goto 49 dX7_sortOf_45 (by decide) ?_
          refine wp_ireti dX7_sortOf_49 rfl ?_
          exact ri_ok (by rw [soF, if_neg (Int32.not_lt.mpr h1), if_neg (show ¬ isLt v = true from in_rg.mp h16), if_neg (show ¬ isDg v = true from in_rg.mp h31), if_pos h41]) rfl
      · refine wp_iconst (pc' := 35) 2 dX7_sortOf_34 rfl (by decide) ?_
        refine wp_goto 49 dX7_sortOf_35 (by decide) ?_
        refine wp_ireti dX7_sortOf_49 rfl ?_
        exact ri_ok (by rw [soF, if_neg (Int32.not_lt.mpr h1), if_neg (show ¬ isLt v = true from in_rg.mp h16), if_pos (show isDg v = true from Classical.not_not.mp (mt in_rg.mpr h31))]) rfl
    · refine wp_iconst (pc' := 20) 1 dX7_sortOf_19 rfl (by decide) ?_
      refine wp_goto 49 dX7_sortOf_20 (by decide) ?_
      refine wp_ireti dX7_sortOf_49 rfl ?_
      exact ri_ok (by rw [soF, if_neg (Int32.not_lt.mpr h1), if_pos (show isLt v = true from Classical.not_not.mp (mt in_rg.mpr h16))]) rfl
  · refine wp_iconst (pc' := 5) 0 dX7_sortOf_4 rfl (by decide) ?_
    refine wp_goto 49 dX7_sortOf_5 (by decide) ?_
    refine wp_ireti dX7_sortOf_49 rfl ?_
    exact ri_ok (by rw [soF, if_pos (Int32.not_le.mp h1)]) rfl
theorem txm_f {f : Nat → Int32} (hT : TXM M t tb) (h : f 3 = M.1 25 3) : TXM (setO M 25 f) t tb := ⟨hT.1, h.trans hT.2.1, hT.2.2⟩

theorem lpm_tok1 (hT : TXM M t tb) {e : Nat} {Q : Option Value → Mem → Prop} (K : ∀ f : Nat → Int32, (∀ k, ¬ k = 19 → f k = M.1 25 k) → f 19 = nI e → wp g mX7_token 26 [some (ob g 25)] [] (setO M 25 f) Q) : ∀ (n i : Nat), i + n = t → rnG isSp tb n i = e → ∀ (f : Nat → Int32), (∀ k, ¬ k = 19 → f k = M.1 25 k) → f 19 = nI i → wp g mX7_token 0 [some (ob g 25)] [] (setO M 25 f) Q := by
  have h3 := hT.1
  intro n
  induction n with
  | zero =>
    intro i hi he f hf h19
    refine wp_aload_n (pc' := 1) dX7_token_0 rfl rfl ⟨_, rfl⟩ ?_
    refine wp_aload_n (pc' := 2) dX7_token_1 rfl rfl ⟨_, rfl⟩ ?_
    refine wp_get (pc' := 5) (o := 25) dX7_token_2 rfl flX7_69 (by decide) rfl rfl ?_
    refine wp_top ((show f 19 = nI i from h19)) ?_
    refine wp_cVI (μ' := mX7_byteAt) (pc' := 8) (o := 25) dX7_token_5 rfl mlX7_72 cfX7_byteAt ⟨(Nat.le_of_ble_eq_true rfl), (Nat.le_of_ble_eq_true rfl)⟩ (sm_byteAt (M := setO M 25 f) (txm_f hT (hf 3 (by decide))) (j := i) (by omega)) (by decide) rfl rfl rfl rfl rfl (Nat.le_of_ble_eq_true rfl) ?_
    refine wp_bipush (pc' := 10) 32 dX7_token_8 rfl (by decide) ?_
    refine wp_icmp_ne (pc' := 13) 26 dX7_token_10 rfl (by decide) (fun h10 => ?_) (fun h10 => ?_)
    · exact K f hf (by rw [h19, ← he]; rfl)
    · exact absurd h10 (by rw [byN, if_neg (by omega)]; decide)
  | succ n ih =>
    intro i hi he f hf h19
    have eb : byN t tb i = tb i := if_pos (by omega)
    refine wp_aload_n (pc' := 1) dX7_token_0 rfl rfl ⟨_, rfl⟩ ?_
    refine wp_aload_n (pc' := 2) dX7_token_1 rfl rfl ⟨_, rfl⟩ ?_
    refine wp_get (pc' := 5) (o := 25) dX7_token_2 rfl flX7_69 (by decide) rfl rfl ?_
    refine wp_top ((show f 19 = nI i from h19)) ?_
    refine wp_cVI (μ' := mX7_byteAt) (pc' := 8) (o := 25) dX7_token_5 rfl mlX7_72 cfX7_byteAt ⟨(Nat.le_of_ble_eq_true rfl), (Nat.le_of_ble_eq_true rfl)⟩ (sm_byteAt (M := setO M 25 f) (txm_f hT (hf 3 (by decide))) (j := i) (by omega)) (by decide) rfl rfl rfl rfl rfl (Nat.le_of_ble_eq_true rfl) ?_
    refine wp_bipush (pc' := 10) 32 dX7_token_8 rfl (by decide) ?_
    refine wp_icmp_ne (pc' := 13) 26 dX7_token_10 rfl (by decide) (fun h10 => ?_) (fun h10 => ?_)
    · rw [rnG, if_neg (fun z => h10 (eb.trans (sp_eq.mp z)))] at he
      exact K f hf (by rw [h19, he])
    · refine wp_aload_n (pc' := 14) dX7_token_13 rfl rfl ⟨_, rfl⟩ ?_
      refine wp_dup (pc' := 15) dX7_token_14 rfl rfl ?_
      refine wp_get (pc' := 18) (o := 25) dX7_token_15 rfl flX7_69 (by decide) rfl rfl ?_
      refine wp_top ((show f 19 = nI i from h19)) ?_
      refine wp_iconst (pc' := 19) 1 dX7_token_18 rfl (by decide) ?_
      refine wp_iadd (pc' := 20) dX7_token_19 rfl ?_
      refine wp_top ((nI_1 i)) ?_
      refine wp_put (pc' := 23) (o := 25) dX7_token_20 rfl fpX7_69 (by decide) rfl (Nat.le_of_ble_eq_true rfl) rfl ?_
      refine wp_goto 0 dX7_token_23 (by decide) ?_
      rw [rnG, if_pos (sp_eq.mpr (eb.symm.trans h10))] at he
      rw [upI_setO]
      exact ih (i + 1) (by omega) he _ (fun k hk => (upd_off _ _ hk).trans (hf k hk)) (upd_at _ _ _)
theorem lpm_tok2 (hT : TXM M t tb) {S e : Nat} {f0 : Nat → Int32} {Q : Option Value → Mem → Prop} (K : ∀ f : Nat → Int32, (∀ k, ¬ k = 19 → ¬ k = 22 → f k = f0 k) → f 19 = nI e → f 22 = nI (e - S) → wp g mX7_token 125 [some (ob g 25)] [] (setO M 25 f) Q) {o : Int32} (h03 : f0 3 = M.1 25 3) (h20 : f0 20 = o) (ho : o = 1 ∨ o = 2) {P : Int32 → Bool} (hP : ∀ x, soF x = o ↔ P x = true) : ∀ (n j : Nat), j + n = t → S < j → rnG P tb n j = e → ∀ (f : Nat → Int32), (∀ k, ¬ k = 19 → ¬ k = 22 → f k = f0 k) → f 19 = nI j → f 22 = nI (j - S) → wp g mX7_token 54 [some (ob g 25)] [] (setO M 25 f) Q := by
  have h3 := hT.1
  intro n
  induction n with
  | zero =>
    intro j hj hSj he f hf h19 h22
    refine wp_aload_n (pc' := 55) dX7_token_54 rfl rfl ⟨_, rfl⟩ ?_
    refine wp_get (pc' := 58) (o := 25) dX7_token_55 rfl flX7_85 (by decide) rfl rfl ?_
    refine wp_top ((show f 22 = nI (j - S) from h22)) ?_
    refine wp_if_ne (pc' := 61) 68 dX7_token_58 rfl (by decide) (fun h58 => ?_) (fun h58 => ?_)
    · refine wp_aload_n (pc' := 69) dX7_token_68 rfl rfl ⟨_, rfl⟩ ?_
      refine wp_get (pc' := 72) (o := 25) dX7_token_69 rfl flX7_82 (by decide) rfl rfl ?_
      refine wp_top ((show f 20 = o from (hf 20 (by decide) (by decide)).trans h20)) ?_
      refine wp_iconst (pc' := 73) 1 dX7_token_72 rfl (by decide) ?_
      refine wp_icmp_eq (pc' := 76) 84 dX7_token_73 rfl (by decide) (fun h73 => ?_) (fun h73 => ?_)
      · refine wp_aload_n (pc' := 85) dX7_token_84 rfl rfl ⟨_, rfl⟩ ?_
        refine wp_aload_n (pc' := 86) dX7_token_85 rfl rfl ⟨_, rfl⟩ ?_
        refine wp_get (pc' := 89) (o := 25) dX7_token_86 rfl flX7_69 (by decide) rfl rfl ?_
        refine wp_top ((show f 19 = nI j from h19)) ?_
        refine wp_cVI (μ' := mX7_byteAt) (pc' := 92) (o := 25) dX7_token_89 rfl mlX7_72 cfX7_byteAt ⟨(Nat.le_of_ble_eq_true rfl), (Nat.le_of_ble_eq_true rfl)⟩ (sm_byteAt (M := setO M 25 f) (txm_f hT ((hf 3 (by decide) (by decide)).trans h03)) (j := j) (by omega)) (by decide) rfl rfl rfl rfl rfl (Nat.le_of_ble_eq_true rfl) ?_
        refine wp_cSI (μ' := mX7_sortOf) (pc' := 95) dX7_token_92 rfl mlX7_79 cfX7_sortOf ⟨(Nat.le_of_ble_eq_true rfl), (Nat.le_of_ble_eq_true rfl)⟩ (sm_sortOf) rfl rfl (Nat.le_of_ble_eq_true rfl) ?_
        refine wp_aload_n (pc' := 96) dX7_token_95 rfl rfl ⟨_, rfl⟩ ?_
        refine wp_get (pc' := 99) (o := 25) dX7_token_96 rfl flX7_82 (by decide) rfl rfl ?_
        refine wp_top ((show f 20 = o from (hf 20 (by decide) (by decide)).trans h20)) ?_
        refine wp_icmp_ne (pc' := 102) 125 dX7_token_99 rfl (by decide) (fun h99 => ?_) (fun h99 => ?_)
        · exact K f hf (by rw [h19, ← he]; rfl) (by rw [h22, ← he]; rfl)
        · exact absurd h99 (by rw [byN, if_neg (by omega)]; rcases ho with z | z <;> rw [z] <;> decide)
      · refine wp_aload_n (pc' := 77) dX7_token_76 rfl rfl ⟨_, rfl⟩ ?_
        refine wp_get (pc' := 80) (o := 25) dX7_token_77 rfl flX7_82 (by decide) rfl rfl ?_
        refine wp_top ((show f 20 = o from (hf 20 (by decide) (by decide)).trans h20)) ?_
        refine wp_iconst (pc' := 81) 2 dX7_token_80 rfl (by decide) ?_
        refine wp_icmp_ne (pc' := 84) 125 dX7_token_81 rfl (by decide) (fun h81 => ?_) (fun h81 => ?_)
        · exact (ho.elim h73 h81).elim
        · refine wp_aload_n (pc' := 85) dX7_token_84 rfl rfl ⟨_, rfl⟩ ?_
          refine wp_aload_n (pc' := 86) dX7_token_85 rfl rfl ⟨_, rfl⟩ ?_
          refine wp_get (pc' := 89) (o := 25) dX7_token_86 rfl flX7_69 (by decide) rfl rfl ?_
          refine wp_top ((show f 19 = nI j from h19)) ?_
          refine wp_cVI (μ' := mX7_byteAt) (pc' := 92) (o := 25) dX7_token_89 rfl mlX7_72 cfX7_byteAt ⟨(Nat.le_of_ble_eq_true rfl), (Nat.le_of_ble_eq_true rfl)⟩ (sm_byteAt (M := setO M 25 f) (txm_f hT ((hf 3 (by decide) (by decide)).trans h03)) (j := j) (by omega)) (by decide) rfl rfl rfl rfl rfl (Nat.le_of_ble_eq_true rfl) ?_
          refine wp_cSI (μ' := mX7_sortOf) (pc' := 95) dX7_token_92 rfl mlX7_79 cfX7_sortOf ⟨(Nat.le_of_ble_eq_true rfl), (Nat.le_of_ble_eq_true rfl)⟩ (sm_sortOf) rfl rfl (Nat.le_of_ble_eq_true rfl) ?_
          refine wp_aload_n (pc' := 96) dX7_token_95 rfl rfl ⟨_, rfl⟩ ?_
          refine wp_get (pc' := 99) (o := 25) dX7_token_96 rfl flX7_82 (by decide) rfl rfl ?_
          refine wp_top ((show f 20 = o from (hf 20 (by decide) (by decide)).trans h20)) ?_
          refine wp_icmp_ne (pc' := 102) 125 dX7_token_99 rfl (by decide) (fun h99 => ?_) (fun h99 => ?_)
          · exact K f hf (by rw [h19, ← he]; rfl) (by rw [h22, ← he]; rfl)
          · exact absurd h99 (by rw [byN, if_neg (by omega)]; rcases ho with z | z <;> rw [z] <;> decide)
    · exact absurd h58 (nI_ne0 (by omega) (by omega))
  | succ n ih =>
    intro j hj hSj he f hf h19 h22
    have eb : byN t tb j = tb j := if_pos (by omega)
    refine wp_aload_n (pc' := 55) dX7_token_54 rfl rfl ⟨_, rfl⟩ ?_
    refine wp_get (pc' := 58) (o := 25) dX7_token_55 rfl flX7_85 (by decide) rfl rfl ?_
    refine wp_top ((show f 22 = nI (j - S) from h22)) ?_
    refine wp_if_ne (pc' := 61) 68 dX7_token_58 rfl (by decide) (fun h58 => ?_) (fun h58 => ?_)
    · refine wp_aload_n (pc' := 69) dX7_token_68 rfl rfl ⟨_, rfl⟩ ?_
      refine wp_get (pc' := 72) (o := 25) dX7_token_69 rfl flX7_82 (by decide) rfl rfl ?_
      refine wp_top ((show f 20 = o from (hf 20 (by decide) (by decide)).trans h20)) ?_
      refine wp_iconst (pc' := 73) 1 dX7_token_72 rfl (by decide) ?_
      refine wp_icmp_eq (pc' := 76) 84 dX7_token_73 rfl (by decide) (fun h73 => ?_) (fun h73 => ?_)
      · refine wp_aload_n (pc' := 85) dX7_token_84 rfl rfl ⟨_, rfl⟩ ?_
        refine wp_aload_n (pc' := 86) dX7_token_85 rfl rfl ⟨_, rfl⟩ ?_
        refine wp_get (pc' := 89) (o := 25) dX7_token_86 rfl flX7_69 (by decide) rfl rfl ?_
        refine wp_top ((show f 19 = nI j from h19)) ?_
        refine wp_cVI (μ' := mX7_byteAt) (pc' := 92) (o := 25) dX7_token_89 rfl mlX7_72 cfX7_byteAt ⟨(Nat.le_of_ble_eq_true rfl), (Nat.le_of_ble_eq_true rfl)⟩ (sm_byteAt (M := setO M 25 f) (txm_f hT ((hf 3 (by decide) (by decide)).trans h03)) (j := j) (by omega)) (by decide) rfl rfl rfl rfl rfl (Nat.le_of_ble_eq_true rfl) ?_
        refine wp_cSI (μ' := mX7_sortOf) (pc' := 95) dX7_token_92 rfl mlX7_79 cfX7_sortOf ⟨(Nat.le_of_ble_eq_true rfl), (Nat.le_of_ble_eq_true rfl)⟩ (sm_sortOf) rfl rfl (Nat.le_of_ble_eq_true rfl) ?_
        refine wp_aload_n (pc' := 96) dX7_token_95 rfl rfl ⟨_, rfl⟩ ?_
        refine wp_get (pc' := 99) (o := 25) dX7_token_96 rfl flX7_82 (by decide) rfl rfl ?_
        refine wp_top ((show f 20 = o from (hf 20 (by decide) (by decide)).trans h20)) ?_
        refine wp_icmp_ne (pc' := 102) 125 dX7_token_99 rfl (by decide) (fun h99 => ?_) (fun h99 => ?_)
        · rw [rnG, if_neg (fun z => h99 (by rw [eb]; exact (hP _).mpr z))] at he
          exact K f hf (by rw [h19, he]) (by rw [h22, he])
        · refine wp_aload_n (pc' := 103) dX7_token_102 rfl rfl ⟨_, rfl⟩ ?_
          refine wp_dup (pc' := 104) dX7_token_103 rfl rfl ?_
          refine wp_get (pc' := 107) (o := 25) dX7_token_104 rfl flX7_69 (by decide) rfl rfl ?_
          refine wp_top ((show f 19 = nI j from h19)) ?_
          refine wp_iconst (pc' := 108) 1 dX7_token_107 rfl (by decide) ?_
          refine wp_iadd (pc' := 109) dX7_token_108 rfl ?_
          refine wp_top ((nI_1 j)) ?_
          refine wp_put (pc' := 112) (o := 25) dX7_token_109 rfl fpX7_69 (by decide) rfl (Nat.le_of_ble_eq_true rfl) rfl ?_
          refine wp_aload_n (pc' := 113) dX7_token_112 rfl rfl ⟨_, rfl⟩ ?_
          refine wp_dup (pc' := 114) dX7_token_113 rfl rfl ?_
          refine wp_get (pc' := 117) (o := 25) dX7_token_114 rfl flX7_85 (by decide) rfl rfl ?_
          refine wp_top ((show f 22 = nI (j - S) from h22)) ?_
          refine wp_iconst (pc' := 118) 1 dX7_token_117 rfl (by decide) ?_
          refine wp_iadd (pc' := 119) dX7_token_118 rfl ?_
          refine wp_top ((nI_1 (j - S))) ?_
          refine wp_put (pc' := 122) (o := 25) dX7_token_119 rfl fpX7_85 (by decide) rfl (Nat.le_of_ble_eq_true rfl) rfl ?_
          refine wp_goto 54 dX7_token_122 (by decide) ?_
          rw [rnG, if_pos ((hP _).mp (by rw [← eb]; exact h99))] at he
          rw [upI_setO, upI_setO]
          refine ih (j + 1) (by omega) (by omega) he _ (fun k hk1 hk2 => ?_) ?_ ?_
          · rw [upd_off _ _ hk2, upd_off _ _ hk1]; exact hf k hk1 hk2
          · rw [upd_off _ _ (by decide), upd_at]
          · rw [upd_at, show j + 1 - S = j - S + 1 by omega]
      · refine wp_aload_n (pc' := 77) dX7_token_76 rfl rfl ⟨_, rfl⟩ ?_
        refine wp_get (pc' := 80) (o := 25) dX7_token_77 rfl flX7_82 (by decide) rfl rfl ?_
        refine wp_top ((show f 20 = o from (hf 20 (by decide) (by decide)).trans h20)) ?_
        refine wp_iconst (pc' := 81) 2 dX7_token_80 rfl (by decide) ?_
        refine wp_icmp_ne (pc' := 84) 125 dX7_token_81 rfl (by decide) (fun h81 => ?_) (fun h81 => ?_)
        · exact (ho.elim h73 h81).elim
        · refine wp_aload_n (pc' := 85) dX7_token_84 rfl rfl ⟨_, rfl⟩ ?_
          refine wp_aload_n (pc' := 86) dX7_token_85 rfl rfl ⟨_, rfl⟩ ?_
          refine wp_get (pc' := 89) (o := 25) dX7_token_86 rfl flX7_69 (by decide) rfl rfl ?_
          refine wp_top ((show f 19 = nI j from h19)) ?_
          refine wp_cVI (μ' := mX7_byteAt) (pc' := 92) (o := 25) dX7_token_89 rfl mlX7_72 cfX7_byteAt ⟨(Nat.le_of_ble_eq_true rfl), (Nat.le_of_ble_eq_true rfl)⟩ (sm_byteAt (M := setO M 25 f) (txm_f hT ((hf 3 (by decide) (by decide)).trans h03)) (j := j) (by omega)) (by decide) rfl rfl rfl rfl rfl (Nat.le_of_ble_eq_true rfl) ?_
          refine wp_cSI (μ' := mX7_sortOf) (pc' := 95) dX7_token_92 rfl mlX7_79 cfX7_sortOf ⟨(Nat.le_of_ble_eq_true rfl), (Nat.le_of_ble_eq_true rfl)⟩ (sm_sortOf) rfl rfl (Nat.le_of_ble_eq_true rfl) ?_
          refine wp_aload_n (pc' := 96) dX7_token_95 rfl rfl ⟨_, rfl⟩ ?_
          refine wp_get (pc' := 99) (o := 25) dX7_token_96 rfl flX7_82 (by decide) rfl rfl ?_
          refine wp_top ((show f 20 = o from (hf 20 (by decide) (by decide)).trans h20)) ?_
          refine wp_icmp_ne (pc' := 102) 125 dX7_token_99 rfl (by decide) (fun h99 => ?_) (fun h99 => ?_)
          · rw [rnG, if_neg (fun z => h99 (by rw [eb]; exact (hP _).mpr z))] at he
            exact K f hf (by rw [h19, he]) (by rw [h22, he])
          · refine wp_aload_n (pc' := 103) dX7_token_102 rfl rfl ⟨_, rfl⟩ ?_
            refine wp_dup (pc' := 104) dX7_token_103 rfl rfl ?_
            refine wp_get (pc' := 107) (o := 25) dX7_token_104 rfl flX7_69 (by decide) rfl rfl ?_
            refine wp_top ((show f 19 = nI j from h19)) ?_
            refine wp_iconst (pc' := 108) 1 dX7_token_107 rfl (by decide) ?_
            refine wp_iadd (pc' := 109) dX7_token_108 rfl ?_
            refine wp_top ((nI_1 j)) ?_
            refine wp_put (pc' := 112) (o := 25) dX7_token_109 rfl fpX7_69 (by decide) rfl (Nat.le_of_ble_eq_true rfl) rfl ?_
            refine wp_aload_n (pc' := 113) dX7_token_112 rfl rfl ⟨_, rfl⟩ ?_
            refine wp_dup (pc' := 114) dX7_token_113 rfl rfl ?_
            refine wp_get (pc' := 117) (o := 25) dX7_token_114 rfl flX7_85 (by decide) rfl rfl ?_
            refine wp_top ((show f 22 = nI (j - S) from h22)) ?_
            refine wp_iconst (pc' := 118) 1 dX7_token_117 rfl (by decide) ?_
            refine wp_iadd (pc' := 119) dX7_token_118 rfl ?_
            refine wp_top ((nI_1 (j - S))) ?_
            refine wp_put (pc' := 122) (o := 25) dX7_token_119 rfl fpX7_85 (by decide) rfl (Nat.le_of_ble_eq_true rfl) rfl ?_
            refine wp_goto 54 dX7_token_122 (by decide) ?_
            rw [rnG, if_pos ((hP _).mp (by rw [← eb]; exact h99))] at he
            rw [upI_setO, upI_setO]
            refine ih (j + 1) (by omega) (by omega) he _ (fun k hk1 hk2 => ?_) ?_ ?_
            · rw [upd_off _ _ hk2, upd_off _ _ hk1]; exact hf k hk1 hk2
            · rw [upd_off _ _ (by decide), upd_at]
            · rw [upd_at, show j + 1 - S = j - S + 1 by omega]
    · exact absurd h58 (nI_ne0 (by omega) (by omega))
theorem lpm_tok4 {f : Nat → Int32} {z : Nat} {Q : Option Value → Mem → Prop} (hz : f 22 = nI (z + 1)) (hz2 : z < 300) (h1 : ¬ f 20 = 1) (h2 : ¬ f 20 = 2) (K : wp g mX7_token 125 [some (ob g 25)] [] (setO M 25 f) Q) : wp g mX7_token 54 [some (ob g 25)] [] (setO M 25 f) Q := by
  refine wp_aload_n (pc' := 55) dX7_token_54 rfl rfl ⟨_, rfl⟩ ?_
  refine wp_get (pc' := 58) (o := 25) dX7_token_55 rfl flX7_85 (by decide) rfl rfl ?_
  refine wp_top ((show f 22 = nI (z + 1) from hz)) ?_
  refine wp_if_ne (pc' := 61) 68 dX7_token_58 rfl (by decide) (fun h58 => ?_) (fun h58 => ?_)
  · refine wp_aload_n (pc' := 69) dX7_token_68 rfl rfl ⟨_, rfl⟩ ?_
    refine wp_get (pc' := 72) (o := 25) dX7_token_69 rfl flX7_82 (by decide) rfl rfl ?_
    refine wp_iconst (pc' := 73) 1 dX7_token_72 rfl (by decide) ?_
    refine wp_icmp_eq (pc' := 76) 84 dX7_token_73 rfl (by decide) (fun h73 => ?_) (fun h73 => ?_)
    · exact absurd h73 h1
    · refine wp_aload_n (pc' := 77) dX7_token_76 rfl rfl ⟨_, rfl⟩ ?_
      refine wp_get (pc' := 80) (o := 25) dX7_token_77 rfl flX7_82 (by decide) rfl rfl ?_
      refine wp_iconst (pc' := 81) 2 dX7_token_80 rfl (by decide) ?_
      refine wp_icmp_ne (pc' := 84) 125 dX7_token_81 rfl (by decide) (fun h81 => ?_) (fun h81 => ?_)
      · exact K
      · exact absurd h81 h2
  · exact absurd h58 (nI_ne0 (by omega) (by omega))
theorem lpm_tok0 {f : Nat → Int32} {Q : Option Value → Mem → Prop} (h0 : f 20 = 0) (K : wp g mX7_token 125 [some (ob g 25)] [] (setO M 25 f) Q) : wp g mX7_token 68 [some (ob g 25)] [] (setO M 25 f) Q := by
  refine wp_aload_n (pc' := 69) dX7_token_68 rfl rfl ⟨_, rfl⟩ ?_
  refine wp_get (pc' := 72) (o := 25) dX7_token_69 rfl flX7_82 (by decide) rfl rfl ?_
  refine wp_top ((show f 20 = 0 from h0)) ?_
  refine wp_iconst (pc' := 73) 1 dX7_token_72 rfl (by decide) ?_
  refine wp_icmp_eq (pc' := 76) 84 dX7_token_73 rfl (by decide) (fun h73 => ?_) (fun h73 => ?_)
  · exact absurd h73 (by decide)
  · refine wp_aload_n (pc' := 77) dX7_token_76 rfl rfl ⟨_, rfl⟩ ?_
    refine wp_get (pc' := 80) (o := 25) dX7_token_77 rfl flX7_82 (by decide) rfl rfl ?_
    refine wp_top ((show f 20 = 0 from h0)) ?_
    refine wp_iconst (pc' := 81) 2 dX7_token_80 rfl (by decide) ?_
    refine wp_icmp_ne (pc' := 84) 125 dX7_token_81 rfl (by decide) (fun h81 => ?_) (fun h81 => ?_)
    · exact K
    · exact absurd h81 (by decide)
theorem lpm_tok3 (hT : TXM M t tb) (hp : p ≤ t) {f : Nat → Int32} {Q : Option Value → Mem → Prop} (h03 : f 3 = M.1 25 3) (h22 : f 22 = nI 0) (h20 : f 20 = tkO t tb p) (h19 : f 19 = nI (tkS t tb p)) (K : ∀ f2 : Nat → Int32, (∀ k, ¬ k = 19 → ¬ k = 22 → f2 k = f k) → f2 19 = nI (tkE t tb p) → f2 22 = nI (tkE t tb p - tkS t tb p) → wp g mX7_token 125 [some (ob g 25)] [] (setO M 25 f2) Q) : wp g mX7_token 54 [some (ob g 25)] [] (setO M 25 f) Q := by
  have h3 := hT.1
  obtain ⟨k1, k2⟩ := tk_S (tb := tb) hp
  obtain ⟨k3, k4, k5⟩ := tk_E (tb := tb) hp
  by_cases h0 : tkO t tb p = 0
  · have e9 : tkE t tb p = tkS t tb p := tk_0 h0
    have K2 := K f (fun _ _ _ => rfl) (by rw [h19, e9]) (by rw [h22, e9, Nat.sub_self])
    refine wp_aload_n (pc' := 55) dX7_token_54 rfl rfl ⟨_, rfl⟩ ?_
    refine wp_get (pc' := 58) (o := 25) dX7_token_55 rfl flX7_85 (by decide) rfl rfl ?_
    refine wp_top ((show f 22 = nI 0 from h22)) ?_
    refine wp_if_ne (pc' := 61) 68 dX7_token_58 rfl (by decide) (fun h58 => ?_) (fun h58 => ?_)
    · exact absurd rfl h58
    · refine wp_aload_n (pc' := 62) dX7_token_61 rfl rfl ⟨_, rfl⟩ ?_
      refine wp_get (pc' := 65) (o := 25) dX7_token_62 rfl flX7_82 (by decide) rfl rfl ?_
      refine wp_top ((show f 20 = tkO t tb p from h20)) ?_
      refine wp_if_ne (pc' := 68) 102 dX7_token_65 rfl (by decide) (fun h65 => ?_) (fun h65 => ?_)
      · exact absurd h0 h65
      · exact lpm_tok0 (h20.trans h0) K2
  · have hlt := (tk_lt hp h0).1
    have k6 := k5 h0
    refine wp_aload_n (pc' := 55) dX7_token_54 rfl rfl ⟨_, rfl⟩ ?_
    refine wp_get (pc' := 58) (o := 25) dX7_token_55 rfl flX7_85 (by decide) rfl rfl ?_
    refine wp_top ((show f 22 = nI 0 from h22)) ?_
    refine wp_if_ne (pc' := 61) 68 dX7_token_58 rfl (by decide) (fun h58 => ?_) (fun h58 => ?_)
    · exact absurd rfl h58
    · refine wp_aload_n (pc' := 62) dX7_token_61 rfl rfl ⟨_, rfl⟩ ?_
      refine wp_get (pc' := 65) (o := 25) dX7_token_62 rfl flX7_82 (by decide) rfl rfl ?_
      refine wp_top ((show f 20 = tkO t tb p from h20)) ?_
      refine wp_if_ne (pc' := 68) 102 dX7_token_65 rfl (by decide) (fun h65 => ?_) (fun h65 => ?_)
      · refine wp_aload_n (pc' := 103) dX7_token_102 rfl rfl ⟨_, rfl⟩ ?_
        refine wp_dup (pc' := 104) dX7_token_103 rfl rfl ?_
        refine wp_get (pc' := 107) (o := 25) dX7_token_104 rfl flX7_69 (by decide) rfl rfl ?_
        refine wp_top ((show f 19 = nI (tkS t tb p) from h19)) ?_
        refine wp_iconst (pc' := 108) 1 dX7_token_107 rfl (by decide) ?_
        refine wp_iadd (pc' := 109) dX7_token_108 rfl ?_
        refine wp_top ((nI_1 (tkS t tb p))) ?_
        refine wp_put (pc' := 112) (o := 25) dX7_token_109 rfl fpX7_69 (by decide) rfl (Nat.le_of_ble_eq_true rfl) rfl ?_
        refine wp_aload_n (pc' := 113) dX7_token_112 rfl rfl ⟨_, rfl⟩ ?_
        refine wp_dup (pc' := 114) dX7_token_113 rfl rfl ?_
        refine wp_get (pc' := 117) (o := 25) dX7_token_114 rfl flX7_85 (by decide) rfl rfl ?_
        refine wp_top ((show f 22 = nI 0 from h22)) ?_
        refine wp_iconst (pc' := 118) 1 dX7_token_117 rfl (by decide) ?_
        refine wp_iadd (pc' := 119) dX7_token_118 rfl ?_
        refine wp_top ((nI_1 0)) ?_
        refine wp_put (pc' := 122) (o := 25) dX7_token_119 rfl fpX7_85 (by decide) rfl (Nat.le_of_ble_eq_true rfl) rfl ?_
        refine wp_goto 54 dX7_token_122 (by decide) ?_
        rw [upI_setO, upI_setO]
        have g20 : (upd (upd f 19 (nI (tkS t tb p + 1))) 22 (nI (0 + 1))) 20 = tkO t tb p := by rw [upd_off _ _ (by decide), upd_off _ _ (by decide)]; exact h20
        have g19 : (upd (upd f 19 (nI (tkS t tb p + 1))) 22 (nI (0 + 1))) 19 = nI (tkS t tb p + 1) := by rw [upd_off _ _ (by decide), upd_at]
        have g22 : (upd (upd f 19 (nI (tkS t tb p + 1))) 22 (nI (0 + 1))) 22 = nI (0 + 1) := upd_at _ _ _
        have gf : ∀ k, ¬ k = 19 → ¬ k = 22 → (upd (upd f 19 (nI (tkS t tb p + 1))) 22 (nI (0 + 1))) k = f k := fun k a b => by rw [upd_off _ _ b, upd_off _ _ a]
        have eb := (tk_lt hp h0).2
        by_cases h1 : tkO t tb p = 1
        · have hl : isLt (tb (tkS t tb p)) = true := (tk_1 hp h1).2 _ (Nat.le_refl _) k6
          have e9 := (tk_1 hp h1).1
          refine lpm_tok2 hT (S := tkS t tb p) (e := tkE t tb p) (f0 := f) K h03 (o := 1) (h20.trans h1) (Or.inl rfl) (P := isLt) (fun _ => so_1) (t - (tkS t tb p + 1)) (tkS t tb p + 1) (by omega) (by omega) ?_ _ gf g19 (by rw [g22, show tkS t tb p + 1 - tkS t tb p = 0 + 1 by omega])
          rw [e9, rnF, show t - tkS t tb p = t - (tkS t tb p + 1) + 1 by omega, rnG, if_pos hl]
        · by_cases h2 : tkO t tb p = 2
          · have hl : isDg (tb (tkS t tb p)) = true := (tk_2 hp h2).2 _ (Nat.le_refl _) k6
            have e9 := (tk_2 hp h2).1
            refine lpm_tok2 hT (S := tkS t tb p) (e := tkE t tb p) (f0 := f) K h03 (o := 2) (h20.trans h2) (Or.inr rfl) (P := isDg) (fun _ => so_2) (t - (tkS t tb p + 1)) (tkS t tb p + 1) (by omega) (by omega) ?_ _ gf g19 (by rw [g22, show tkS t tb p + 1 - tkS t tb p = 0 + 1 by omega])
            rw [e9, rnF, show t - tkS t tb p = t - (tkS t tb p + 1) + 1 by omega, rnG, if_pos hl]
          · have e9 := tk_9 h0 h1 h2
            exact lpm_tok4 (z := 0) g22 (by decide) (fun z => h1 (g20.symm.trans z)) (fun z => h2 (g20.symm.trans z)) (K _ gf (by rw [g19, e9]) (by rw [g22, e9, show tkS t tb p + 1 - tkS t tb p = 0 + 1 by omega]))
      · exact absurd h65 h0
theorem sm_token (hT : TXM M t tb) (hp : p ≤ t) (hb : M.1 25 19 = nI p) : SV g mX7_token [ob g 25] M (fun m => ∃ f, m = setO M 25 f ∧ (∀ k, ¬ k = 19 → ¬ k = 20 → ¬ k = 21 → ¬ k = 22 → f k = M.1 25 k) ∧ f 21 = nI (tkS t tb p) ∧ f 19 = nI (tkE t tb p) ∧ f 20 = tkO t tb p ∧ f 22 = nI (tkE t tb p - tkS t tb p)) := by
  have h3 := hT.1
  have h4 := (tk_S (tb := tb) hp).2
  refine spec_of_wp (ls := [some (ob g 25)]) rfl (Nat.le_of_ble_eq_true rfl) 0 rfl ?_
  refine wp_mem (setO_self M 25).symm ?_
  refine lpm_tok1 (M := M) (e := tkS t tb p) hT (fun f hf h19 => ?_) (t - p) p (by omega) rfl (M.1 25) (fun _ _ => rfl) hb
  refine wp_aload_n (pc' := 27) dX7_token_26 rfl rfl ⟨_, rfl⟩ ?_
  refine wp_aload_n (pc' := 28) dX7_token_27 rfl rfl ⟨_, rfl⟩ ?_
  refine wp_get (pc' := 31) (o := 25) dX7_token_28 rfl flX7_69 (by decide) rfl rfl ?_
  refine wp_top ((show f 19 = nI (tkS t tb p) from h19)) ?_
  refine wp_put (pc' := 34) (o := 25) dX7_token_31 rfl fpX7_76 (by decide) rfl (Nat.le_of_ble_eq_true rfl) rfl ?_
  refine wp_aload_n (pc' := 35) dX7_token_34 rfl rfl ⟨_, rfl⟩ ?_
  refine wp_aload_n (pc' := 36) dX7_token_35 rfl rfl ⟨_, rfl⟩ ?_
  refine wp_aload_n (pc' := 37) dX7_token_36 rfl rfl ⟨_, rfl⟩ ?_
  refine wp_get (pc' := 40) (o := 25) dX7_token_37 rfl flX7_69 (by decide) rfl rfl ?_
  refine wp_top ((show (upI (setO M 25 f) 25 21 (nI (tkS t tb p))).1 25 19 = nI (tkS t tb p) from h19)) ?_
  refine wp_cVI (μ' := mX7_byteAt) (pc' := 43) (o := 25) dX7_token_40 rfl mlX7_72 cfX7_byteAt ⟨(Nat.le_of_ble_eq_true rfl), (Nat.le_of_ble_eq_true rfl)⟩ (sm_byteAt (show TXM (upI (setO M 25 f) 25 21 (nI (tkS t tb p))) t tb from ⟨hT.1, (hf 3 (by decide)).trans hT.2.1, hT.2.2⟩) (j := tkS t tb p) (by omega)) (by decide) rfl rfl rfl rfl rfl (Nat.le_of_ble_eq_true rfl) ?_
  refine wp_cSI (μ' := mX7_sortOf) (pc' := 46) dX7_token_43 rfl mlX7_79 cfX7_sortOf ⟨(Nat.le_of_ble_eq_true rfl), (Nat.le_of_ble_eq_true rfl)⟩ (sm_sortOf) rfl rfl (Nat.le_of_ble_eq_true rfl) ?_
  refine wp_put (pc' := 49) (o := 25) dX7_token_46 rfl fpX7_82 (by decide) rfl (Nat.le_of_ble_eq_true rfl) rfl ?_
  refine wp_aload_n (pc' := 50) dX7_token_49 rfl rfl ⟨_, rfl⟩ ?_
  refine wp_iconst (pc' := 51) 0 dX7_token_50 rfl (by decide) ?_
  refine wp_put (pc' := 54) (o := 25) dX7_token_51 rfl fpX7_85 (by decide) rfl (Nat.le_of_ble_eq_true rfl) rfl ?_
  rw [upI_setO, upI_setO, upI_setO]
  refine lpm_tok3 hT hp ?_ (upd_at _ _ _) ?_ ?_ (fun f2 hf2 g19 g22 => ?_)
  · rw [upd_off _ _ (by decide), upd_off _ _ (by decide), upd_off _ _ (by decide)]; exact hf 3 (by decide)
  · rw [upd_off _ _ (by decide), upd_at]; rfl
  · rw [upd_off _ _ (by decide), upd_off _ _ (by decide), upd_off _ _ (by decide)]; exact h19
  · refine wp_vret dX7_token_125 rfl ?_
    refine ⟨rfl, f2, rfl, fun k a b c d => ?_, ?_, g19, ?_, g22⟩
    · rw [hf2 k a d, upd_off _ _ d, upd_off _ _ b, upd_off _ _ c]; exact hf k a
    · rw [hf2 21 (by decide) (by decide), upd_off _ _ (by decide), upd_off _ _ (by decide), upd_at]
    · rw [hf2 20 (by decide) (by decide), upd_off _ _ (by decide), upd_at]; rfl
end MT
