/-! ===== the reference reads items ===== -/
def FrM (M m : Mem) : Prop := m.2 = M.2 ∧ (∀ a, ¬ a = 25 → ¬ a = 28 → ¬ a = 30 → m.1 a = M.1 a) ∧ ∀ k, k < 12 ∨ (15 < k ∧ k < 19) ∨ 22 < k → m.1 25 k = M.1 25 k
theorem FrM.refl (M : Mem) : FrM M M := ⟨rfl, fun _ _ _ _ => rfl, fun _ _ => rfl⟩
theorem FrM.trans {M m n : Mem} (h : FrM M m) (k : FrM m n) : FrM M n := ⟨k.1.trans h.1, fun a h1 h2 h3 => (k.2.1 a h1 h2 h3).trans (h.2.1 a h1 h2 h3), fun a ha => (k.2.2 a ha).trans (h.2.2 a ha)⟩
theorem FrM.set {M m : Mem} {f : Nat → Int32} (h : FrM M m) (hf : ∀ k, ¬ k = 19 → ¬ k = 20 → ¬ k = 21 → ¬ k = 22 → f k = m.1 25 k) : FrM M (setO m 25 f) := h.trans ⟨rfl, fun _ h1 _ _ => if_neg h1, fun k hk => hf k (by omega) (by omega) (by omega) (by omega)⟩
theorem frM_T {M m : Mem} {t : Nat} {tb : Nat → Int32} (h : FrM M m) (hT : TXM M t tb) : TXM m t tb := by
  obtain ⟨h1, h2, h3⟩ := hT
  refine ⟨h1, (h.2.2 3 (by decide)).trans h2, fun i hi => ?_⟩
  rw [h.2.1 26 (by decide) (by decide) (by decide)]
  exact h3 i hi
def DM (M : Mem) (D : TolD) : Prop := M.1 25 12 = nI (q_w D) ∧ M.1 25 13 = nI (q_h D) ∧ M.1 25 14 = nI (q_k D) ∧ M.1 25 15 = (if q_t D = true then nI (q_s D) else -9) ∧ (∀ c, c < q_w D * q_h D → M.1 28 c = q_g D c) ∧ ∀ j, j < q_k D → M.1 30 (2 * j) = nI (q_a D j) ∧ M.1 30 (2 * j + 1) = nI (q_b D j)
theorem dm_set {M : Mem} {D : TolD} {f : Nat → Int32} (h : DM M D) (hf : ∀ k, ¬ k = 19 → ¬ k = 20 → ¬ k = 21 → ¬ k = 22 → f k = M.1 25 k) : DM (setO M 25 f) D := ⟨(hf 12 (by decide) (by decide) (by decide) (by decide)).trans h.1, (hf 13 (by decide) (by decide) (by decide) (by decide)).trans h.2.1, (hf 14 (by decide) (by decide) (by decide) (by decide)).trans h.2.2.1, (hf 15 (by decide) (by decide) (by decide) (by decide)).trans h.2.2.2.1, h.2.2.2.2⟩
theorem txm_s {M : Mem} {t : Nat} {tb : Nat → Int32} {f : Nat → Int32} (hT : TXM M t tb) (hf : ∀ k, ¬ k = 19 → ¬ k = 20 → ¬ k = 21 → ¬ k = 22 → f k = M.1 25 k) : TXM (setO M 25 f) t tb := txm_f hT (hf 3 (by decide) (by decide) (by decide) (by decide))
def OuM (m : Mem) (x : Int32) : RzS → Prop
  | .inl f => x = 0 ∧ m.1 25 21 = nI f
  | .inr q => x = 1 ∧ DM m q.1 ∧ m.1 25 19 = nI q.2
theorem om_01 {m : Mem} {x : Int32} {r : RzS} (h : OuM m x r) : x = 0 ∨ x = 1 := by
  match r, h with
  | .inl f, h => exact Or.inl h.1
  | .inr q, h => exact Or.inr h.1
theorem mul2 (k : Nat) : 2 * nI k = nI (2 * k) := by
  show nI 2 * nI k = _
  unfold nI
  rw [← Int32.ofNat_mul]
theorem nI_mul (a b : Nat) : nI a * nI b = nI (a * b) := by
  unfold nI
  rw [← Int32.ofNat_mul]
theorem up_ss (M : Mem) (F G : Nat → Int32) (k : Nat) (v : Int32) : upI (setO (setO M 25 F) 28 G) 25 k v = setO (setO M 25 (upd F k v)) 28 G := by
  refine Prod.ext (funext fun a => ?_) rfl
  show (if a = 25 then upd F k v else (if a = 28 then G else (if a = 25 then F else M.1 a))) = (if a = 28 then G else (if a = 25 then upd F k v else M.1 a))
  by_cases h : a = 25
  · subst h; rfl
  · rw [if_neg h]
    by_cases h2 : a = 28
    · rw [if_pos h2, if_pos h2]
    · rw [if_neg h2, if_neg h2, if_neg h, if_neg h]
section WLESS
variable {g : GG} {μ : MD} {pc : Nat} {st : List Value} {M : Mem} {Q : Option Value → Mem → Prop}
/-- what is known of locals may be left out -/
theorem wp_less {ls ls' : List (Option Value)} (h : ∀ (i : Nat) (v : Value), ls'[i]? = some (some v) → ls[i]? = some (some v)) (k : wp g μ pc ls' st M Q) : wp g μ pc ls st M Q := by
  intro p e s m args below meth c H locs lsA C D P S L
  exact k p e s m args below meth c H locs lsA C D P S ⟨L.1, L.2.1, fun i v hi => L.2.2 i v (h i v hi)⟩
theorem wp_less4 {a0 a1 a2 a3 : Option Value} (k : wp g μ pc [a0, a1, none, none] st M Q) : wp g μ pc [a0, a1, a2, a3] st M Q := by
  refine wp_less (fun i v hi => ?_) k
  match i, hi with
  | 0, hi => exact hi
  | 1, hi => exact hi
  | 2, hi => exact absurd hi (by simp)
  | 3, hi => exact absurd hi (by simp)
  | i + 4, hi => exact absurd hi (by simp)
theorem wp_less3 {a0 a1 a2 a3 : Option Value} (k : wp g μ pc [a0, a1, a2, none] st M Q) : wp g μ pc [a0, a1, a2, a3] st M Q := by
  refine wp_less (fun i v hi => ?_) k
  match i, hi with
  | 0, hi => exact hi
  | 1, hi => exact hi
  | 2, hi => exact hi
  | 3, hi => exact absurd hi (by simp)
  | i + 4, hi => exact absurd hi (by simp)
end WLESS
section MR
variable {g : GG} {M : Mem} {t p : Nat} {tb : Nat → Int32} {D : TolD} {s0 e0 : Nat}
theorem row_b {l : Nat} (hl : rowL D l) : l * q_h D = q_w D * q_h D := by
  rcases hl with ⟨h1, -⟩ | ⟨-, h2⟩
  · rw [h1, Nat.mul_zero, Nat.mul_zero]
  · rw [h2]
abbrev rAll (tb : Nat → Int32) (s j : Nat) : Prop := ∀ i, i < j → lok (tb (s + i)) = true
theorem rAll_s {s j : Nat} : rAll tb s (j + 1) ↔ rAll tb s j ∧ lok (tb (s + j)) = true := by
  constructor
  · intro h; exact ⟨fun i hi => h i (by omega), h j (by omega)⟩
  · rintro ⟨h1, h2⟩ i hi
    by_cases h9 : i = j
    · rw [h9]; exact h2
    · exact h1 i (by omega)

theorem lpm_rows (hT : TXM M t tb) {s l h : Nat} {F : Nat → Int32} (h03 : F 3 = M.1 25 3) (h12 : F 12 = nI l) (h13 : F 13 = nI h) (h21 : F 21 = nI s) (h22 : F 22 = nI l) (hsl : s + l ≤ t) (hlh : l * h + l ≤ 24) : ∀ (n j : Nat), j + n = l → ∀ (G : Nat → Int32) (right : Int32), right = (if rAll tb s j then 1 else 0) → (∀ c, c < l * h → G c = M.1 28 c) → (∀ i, i < j → G (l * h + i) = lcd (tb (s + i))) → wp g mX7_readsRow 70 [some (ob g 25), some (.int right), some (.int (nI j)), none] [] (setO (setO M 25 F) 28 G) (fun q m => ∃ x : Int32, q = some (.int x) ∧ ∃ (F2 G2 : Nat → Int32), m = setO (setO M 25 F2) 28 G2 ∧ (∀ k, ¬ k = 13 → F2 k = F k) ∧ ((x = 0 ∧ ¬ rAll tb s l) ∨ (x = 1 ∧ rAll tb s l ∧ F2 13 = nI (h + 1) ∧ (∀ c, c < l * h → G2 c = M.1 28 c) ∧ ∀ i, i < l → G2 (l * h + i) = lcd (tb (s + i))))) := by
  have h3 := hT.1
  intro n
  induction n with
  | zero =>
    intro j hj G right hr hG1 hG2
    have hjl : j = l := by omega
    subst hjl
    by_cases hA : rAll tb s j
    · rw [if_pos hA] at hr
      subst hr
      refine wp_iload_n (pc' := 71) dX7_readsRow_70 rfl rfl ?_
      refine wp_aload_n (pc' := 72) dX7_readsRow_71 rfl rfl ⟨_, rfl⟩ ?_
      refine wp_get (pc' := 75) (o := 25) dX7_readsRow_72 rfl flX7_85 (by decide) rfl rfl ?_
      refine wp_top ((show F 22 = nI j from h22)) ?_
      refine wp_icmp_ge (pc' := 78) 160 dX7_readsRow_75 rfl (by decide) (fun h75 => ?_) (fun h75 => ?_)
      · refine wp_aload_n (pc' := 161) dX7_readsRow_160 rfl rfl ⟨_, rfl⟩ ?_
        refine wp_dup (pc' := 162) dX7_readsRow_161 rfl rfl ?_
        refine wp_get (pc' := 165) (o := 25) dX7_readsRow_162 rfl flX7_99 (by decide) rfl rfl ?_
        refine wp_top ((show F 13 = nI h from h13)) ?_
        refine wp_iload_n (pc' := 166) dX7_readsRow_165 rfl rfl ?_
        refine wp_if_eq (pc' := 169) 173 dX7_readsRow_166 rfl (by decide) (fun hh => absurd hh (by decide)) (fun _ => ?_)
        refine wp_iconst (pc' := 170) 1 dX7_readsRow_169 rfl (by decide) ?_
        refine wp_goto 174 dX7_readsRow_170 (by decide) ?_
        refine wp_iadd (pc' := 175) dX7_readsRow_174 rfl ?_
        refine wp_put (pc' := 178) (o := 25) dX7_readsRow_175 rfl fpX7_99 (by decide) rfl (Nat.le_of_ble_eq_true rfl) rfl ?_
        refine wp_iload_n (pc' := 179) dX7_readsRow_178 rfl rfl ?_
        refine wp_iretz dX7_readsRow_179 rfl rfl ?_
        exact ⟨_, rfl, _, G, up_ss _ _ _ _ _, fun k hk => upd_off _ _ hk, Or.inr ⟨rfl, hA, (upd_at _ _ _).trans (nI_1 h), hG1, hG2⟩⟩
      · exact absurd (nI_le (Nat.le_refl j) (by omega)) h75
    · rw [if_neg hA] at hr
      subst hr
      refine wp_iload_n (pc' := 71) dX7_readsRow_70 rfl rfl ?_
      refine wp_aload_n (pc' := 72) dX7_readsRow_71 rfl rfl ⟨_, rfl⟩ ?_
      refine wp_get (pc' := 75) (o := 25) dX7_readsRow_72 rfl flX7_85 (by decide) rfl rfl ?_
      refine wp_top ((show F 22 = nI j from h22)) ?_
      refine wp_icmp_ge (pc' := 78) 160 dX7_readsRow_75 rfl (by decide) (fun h75 => ?_) (fun h75 => ?_)
      · refine wp_aload_n (pc' := 161) dX7_readsRow_160 rfl rfl ⟨_, rfl⟩ ?_
        refine wp_dup (pc' := 162) dX7_readsRow_161 rfl rfl ?_
        refine wp_get (pc' := 165) (o := 25) dX7_readsRow_162 rfl flX7_99 (by decide) rfl rfl ?_
        refine wp_top ((show F 13 = nI h from h13)) ?_
        refine wp_iload_n (pc' := 166) dX7_readsRow_165 rfl rfl ?_
        refine wp_if_eq (pc' := 169) 173 dX7_readsRow_166 rfl (by decide) (fun _ => ?_) (fun hh => absurd hh (by decide))
        refine wp_iconst (pc' := 174) 0 dX7_readsRow_173 rfl (by decide) ?_
        refine wp_iadd (pc' := 175) dX7_readsRow_174 rfl ?_
        refine wp_put (pc' := 178) (o := 25) dX7_readsRow_175 rfl fpX7_99 (by decide) rfl (Nat.le_of_ble_eq_true rfl) rfl ?_
        refine wp_iload_n (pc' := 179) dX7_readsRow_178 rfl rfl ?_
        refine wp_iretz dX7_readsRow_179 rfl rfl ?_
        exact ⟨_, rfl, _, G, up_ss _ _ _ _ _, fun k hk => upd_off _ _ hk, Or.inl ⟨rfl, hA⟩⟩
      · exact absurd (nI_le (Nat.le_refl j) (by omega)) h75
  | succ n ih =>
    intro j hj G right hr hG1 hG2
    refine wp_iload_n (pc' := 71) dX7_readsRow_70 rfl rfl ?_
    refine wp_aload_n (pc' := 72) dX7_readsRow_71 rfl rfl ⟨_, rfl⟩ ?_
    refine wp_get (pc' := 75) (o := 25) dX7_readsRow_72 rfl flX7_85 (by decide) rfl rfl ?_
    refine wp_top ((show F 22 = nI l from h22)) ?_
    refine wp_icmp_ge (pc' := 78) 160 dX7_readsRow_75 rfl (by decide) (fun h75 => ?_) (fun h75 => ?_)
    · exact absurd h75 (nI_ge (by omega) (by omega))
    · refine wp_aload_n (pc' := 79) dX7_readsRow_78 rfl rfl ⟨_, rfl⟩ ?_
      refine wp_aload_n (pc' := 80) dX7_readsRow_79 rfl rfl ⟨_, rfl⟩ ?_
      refine wp_get (pc' := 83) (o := 25) dX7_readsRow_80 rfl flX7_76 (by decide) rfl rfl ?_
      refine wp_top ((show F 21 = nI s from h21)) ?_
      refine wp_iload_n (pc' := 84) dX7_readsRow_83 rfl rfl ?_
      refine wp_iadd (pc' := 85) dX7_readsRow_84 rfl ?_
      refine wp_top ((nI_add s j)) ?_
      refine wp_cVI (μ' := mX7_byteAt) (pc' := 88) (o := 25) dX7_readsRow_85 rfl mlX7_72 cfX7_byteAt ⟨(Nat.le_of_ble_eq_true rfl), (Nat.le_of_ble_eq_true rfl)⟩ (sm_byteAt (show TXM (setO (setO M 25 F) 28 G) t tb from ⟨hT.1, h03.trans hT.2.1, hT.2.2⟩) (j := s + j) (by omega)) (by decide) rfl rfl rfl rfl rfl (Nat.le_of_ble_eq_true rfl) ?_
      refine wp_top ((show byN t tb (s + j) = tb (s + j) from if_pos (by omega))) ?_
      refine wp_ist3 (pc' := 89) dX7_readsRow_88 rfl (by decide) rfl ?_
      refine wp_iload_n (pc' := 90) dX7_readsRow_89 rfl rfl ?_
      refine wp_if_eq (pc' := 93) 115 dX7_readsRow_90 rfl (by decide) (fun h90 => ?_) (fun h90 => ?_)
      · refine wp_iconst (pc' := 116) 0 dX7_readsRow_115 rfl (by decide) ?_
        refine wp_ist1 (pc' := 117) dX7_readsRow_116 rfl (by decide) rfl ?_
        refine wp_aload_n (pc' := 118) dX7_readsRow_117 rfl rfl ⟨_, rfl⟩ ?_
        refine wp_get (pc' := 121) (o := 25) dX7_readsRow_118 rfl flX7_16 (by decide) rfl rfl ?_
        refine wp_aload_n (pc' := 122) dX7_readsRow_121 rfl rfl ⟨_, rfl⟩ ?_
        refine wp_get (pc' := 125) (o := 25) dX7_readsRow_122 rfl flX7_105 (by decide) rfl rfl ?_
        refine wp_top ((show F 12 = nI l from h12)) ?_
        refine wp_aload_n (pc' := 126) dX7_readsRow_125 rfl rfl ⟨_, rfl⟩ ?_
        refine wp_get (pc' := 129) (o := 25) dX7_readsRow_126 rfl flX7_99 (by decide) rfl rfl ?_
        refine wp_top ((show F 13 = nI h from h13)) ?_
        refine wp_imul (pc' := 130) dX7_readsRow_129 rfl ?_
        refine wp_top ((nI_mul l h)) ?_
        refine wp_iload_n (pc' := 131) dX7_readsRow_130 rfl rfl ?_
        refine wp_iadd (pc' := 132) dX7_readsRow_131 rfl ?_
        refine wp_top ((nI_add (l * h) j)) ?_
        refine wp_iload_n (pc' := 133) dX7_readsRow_132 rfl rfl ?_
        refine wp_bipush (pc' := 135) 104 dX7_readsRow_133 rfl (by decide) ?_
        refine wp_icmp_ne (pc' := 138) 142 dX7_readsRow_135 rfl (by decide) (fun h135 => ?_) (fun h135 => ?_)
        · refine wp_iload_n (pc' := 143) dX7_readsRow_142 rfl rfl ?_
          refine wp_bipush (pc' := 145) 98 dX7_readsRow_143 rfl (by decide) ?_
          refine wp_icmp_ne (pc' := 148) 152 dX7_readsRow_145 rfl (by decide) (fun h145 => ?_) (fun h145 => ?_)
          · refine wp_iconst (pc' := 153) 2 dX7_readsRow_152 rfl (by decide) ?_
            refine wp_iastN (pc' := 154) (o := 28) (n := 24) (l * h + j) dX7_readsRow_153 rfl (by decide) (fun _ _ => rfl) (rfl) (by omega) (by decide) ?_
            refine wp_inc2 (pc' := 157) (nI (j + 1)) dX7_readsRow_154 rfl (by decide) rfl (nI_1 j) ?_
            refine wp_goto 70 dX7_readsRow_157 (by decide) ?_
            rw [upI_setO]
            refine wp_less3 ?_
            refine ih (j + 1) (by omega) _ _ ?_ (fun c hc => ?_) (fun i hi => ?_)
            · rw [if_neg (fun z => ite01.mp (hr.symm.trans h90) (rAll_s.mp z).1)]
            · rw [upd_off _ _ (show ¬ c = l * h + j by omega)]; exact hG1 c hc
            by_cases h9 : i = j
            · rw [h9, upd_at, lcd, if_neg h135, if_neg h145]
            · rw [upd_off _ _ (show ¬ l * h + i = l * h + j by omega)]; exact hG2 i (by omega)
          · refine wp_iconst (pc' := 149) 1 dX7_readsRow_148 rfl (by decide) ?_
            refine wp_goto 153 dX7_readsRow_149 (by decide) ?_
            refine wp_iastN (pc' := 154) (o := 28) (n := 24) (l * h + j) dX7_readsRow_153 rfl (by decide) (fun _ _ => rfl) (rfl) (by omega) (by decide) ?_
            refine wp_inc2 (pc' := 157) (nI (j + 1)) dX7_readsRow_154 rfl (by decide) rfl (nI_1 j) ?_
            refine wp_goto 70 dX7_readsRow_157 (by decide) ?_
            rw [upI_setO]
            refine wp_less3 ?_
            refine ih (j + 1) (by omega) _ _ ?_ (fun c hc => ?_) (fun i hi => ?_)
            · rw [if_neg (fun z => ite01.mp (hr.symm.trans h90) (rAll_s.mp z).1)]
            · rw [upd_off _ _ (show ¬ c = l * h + j by omega)]; exact hG1 c hc
            by_cases h9 : i = j
            · rw [h9, upd_at, lcd, if_neg h135, if_pos h145]
            · rw [upd_off _ _ (show ¬ l * h + i = l * h + j by omega)]; exact hG2 i (by omega)
        · refine wp_iconst (pc' := 139) 0 dX7_readsRow_138 rfl (by decide) ?_
          refine wp_goto 153 dX7_readsRow_139 (by decide) ?_
          refine wp_iastN (pc' := 154) (o := 28) (n := 24) (l * h + j) dX7_readsRow_153 rfl (by decide) (fun _ _ => rfl) (rfl) (by omega) (by decide) ?_
          refine wp_inc2 (pc' := 157) (nI (j + 1)) dX7_readsRow_154 rfl (by decide) rfl (nI_1 j) ?_
          refine wp_goto 70 dX7_readsRow_157 (by decide) ?_
          rw [upI_setO]
          refine wp_less3 ?_
          refine ih (j + 1) (by omega) _ _ ?_ (fun c hc => ?_) (fun i hi => ?_)
          · rw [if_neg (fun z => ite01.mp (hr.symm.trans h90) (rAll_s.mp z).1)]
          · rw [upd_off _ _ (show ¬ c = l * h + j by omega)]; exact hG1 c hc
          by_cases h9 : i = j
          · rw [h9, upd_at, lcd, if_pos h135]
          · rw [upd_off _ _ (show ¬ l * h + i = l * h + j by omega)]; exact hG2 i (by omega)
      · refine wp_iload_n (pc' := 94) dX7_readsRow_93 rfl rfl ?_
        refine wp_bipush (pc' := 96) 104 dX7_readsRow_94 rfl (by decide) ?_
        refine wp_icmp_eq (pc' := 99) 111 dX7_readsRow_96 rfl (by decide) (fun h96 => ?_) (fun h96 => ?_)
        · refine wp_iconst (pc' := 112) 1 dX7_readsRow_111 rfl (by decide) ?_
          refine wp_goto 116 dX7_readsRow_112 (by decide) ?_
          refine wp_ist1 (pc' := 117) dX7_readsRow_116 rfl (by decide) rfl ?_
          refine wp_aload_n (pc' := 118) dX7_readsRow_117 rfl rfl ⟨_, rfl⟩ ?_
          refine wp_get (pc' := 121) (o := 25) dX7_readsRow_118 rfl flX7_16 (by decide) rfl rfl ?_
          refine wp_aload_n (pc' := 122) dX7_readsRow_121 rfl rfl ⟨_, rfl⟩ ?_
          refine wp_get (pc' := 125) (o := 25) dX7_readsRow_122 rfl flX7_105 (by decide) rfl rfl ?_
          refine wp_top ((show F 12 = nI l from h12)) ?_
          refine wp_aload_n (pc' := 126) dX7_readsRow_125 rfl rfl ⟨_, rfl⟩ ?_
          refine wp_get (pc' := 129) (o := 25) dX7_readsRow_126 rfl flX7_99 (by decide) rfl rfl ?_
          refine wp_top ((show F 13 = nI h from h13)) ?_
          refine wp_imul (pc' := 130) dX7_readsRow_129 rfl ?_
          refine wp_top ((nI_mul l h)) ?_
          refine wp_iload_n (pc' := 131) dX7_readsRow_130 rfl rfl ?_
          refine wp_iadd (pc' := 132) dX7_readsRow_131 rfl ?_
          refine wp_top ((nI_add (l * h) j)) ?_
          refine wp_iload_n (pc' := 133) dX7_readsRow_132 rfl rfl ?_
          refine wp_bipush (pc' := 135) 104 dX7_readsRow_133 rfl (by decide) ?_
          refine wp_icmp_ne (pc' := 138) 142 dX7_readsRow_135 rfl (by decide) (fun h135 => ?_) (fun h135 => ?_)
          · refine wp_iload_n (pc' := 143) dX7_readsRow_142 rfl rfl ?_
            refine wp_bipush (pc' := 145) 98 dX7_readsRow_143 rfl (by decide) ?_
            refine wp_icmp_ne (pc' := 148) 152 dX7_readsRow_145 rfl (by decide) (fun h145 => ?_) (fun h145 => ?_)
            · refine wp_iconst (pc' := 153) 2 dX7_readsRow_152 rfl (by decide) ?_
              refine wp_iastN (pc' := 154) (o := 28) (n := 24) (l * h + j) dX7_readsRow_153 rfl (by decide) (fun _ _ => rfl) (rfl) (by omega) (by decide) ?_
              refine wp_inc2 (pc' := 157) (nI (j + 1)) dX7_readsRow_154 rfl (by decide) rfl (nI_1 j) ?_
              refine wp_goto 70 dX7_readsRow_157 (by decide) ?_
              rw [upI_setO]
              refine wp_less3 ?_
              refine ih (j + 1) (by omega) _ _ ?_ (fun c hc => ?_) (fun i hi => ?_)
              · rw [if_pos (rAll_s.mpr ⟨Classical.not_not.mp (mt ite01.mpr (fun z => h90 (hr.trans z))), decide_eq_true (Or.inl h96)⟩)]
              · rw [upd_off _ _ (show ¬ c = l * h + j by omega)]; exact hG1 c hc
              by_cases h9 : i = j
              · rw [h9, upd_at, lcd, if_neg h135, if_neg h145]
              · rw [upd_off _ _ (show ¬ l * h + i = l * h + j by omega)]; exact hG2 i (by omega)
            · refine wp_iconst (pc' := 149) 1 dX7_readsRow_148 rfl (by decide) ?_
              refine wp_goto 153 dX7_readsRow_149 (by decide) ?_
              refine wp_iastN (pc' := 154) (o := 28) (n := 24) (l * h + j) dX7_readsRow_153 rfl (by decide) (fun _ _ => rfl) (rfl) (by omega) (by decide) ?_
              refine wp_inc2 (pc' := 157) (nI (j + 1)) dX7_readsRow_154 rfl (by decide) rfl (nI_1 j) ?_
              refine wp_goto 70 dX7_readsRow_157 (by decide) ?_
              rw [upI_setO]
              refine wp_less3 ?_
              refine ih (j + 1) (by omega) _ _ ?_ (fun c hc => ?_) (fun i hi => ?_)
              · rw [if_pos (rAll_s.mpr ⟨Classical.not_not.mp (mt ite01.mpr (fun z => h90 (hr.trans z))), decide_eq_true (Or.inl h96)⟩)]
              · rw [upd_off _ _ (show ¬ c = l * h + j by omega)]; exact hG1 c hc
              by_cases h9 : i = j
              · rw [h9, upd_at, lcd, if_neg h135, if_pos h145]
              · rw [upd_off _ _ (show ¬ l * h + i = l * h + j by omega)]; exact hG2 i (by omega)
          · refine wp_iconst (pc' := 139) 0 dX7_readsRow_138 rfl (by decide) ?_
            refine wp_goto 153 dX7_readsRow_139 (by decide) ?_
            refine wp_iastN (pc' := 154) (o := 28) (n := 24) (l * h + j) dX7_readsRow_153 rfl (by decide) (fun _ _ => rfl) (rfl) (by omega) (by decide) ?_
            refine wp_inc2 (pc' := 157) (nI (j + 1)) dX7_readsRow_154 rfl (by decide) rfl (nI_1 j) ?_
            refine wp_goto 70 dX7_readsRow_157 (by decide) ?_
            rw [upI_setO]
            refine wp_less3 ?_
            refine ih (j + 1) (by omega) _ _ ?_ (fun c hc => ?_) (fun i hi => ?_)
            · rw [if_pos (rAll_s.mpr ⟨Classical.not_not.mp (mt ite01.mpr (fun z => h90 (hr.trans z))), decide_eq_true (Or.inl h96)⟩)]
            · rw [upd_off _ _ (show ¬ c = l * h + j by omega)]; exact hG1 c hc
            by_cases h9 : i = j
            · rw [h9, upd_at, lcd, if_pos h135]
            · rw [upd_off _ _ (show ¬ l * h + i = l * h + j by omega)]; exact hG2 i (by omega)
        · refine wp_iload_n (pc' := 100) dX7_readsRow_99 rfl rfl ?_
          refine wp_bipush (pc' := 102) 98 dX7_readsRow_100 rfl (by decide) ?_
          refine wp_icmp_eq (pc' := 105) 111 dX7_readsRow_102 rfl (by decide) (fun h102 => ?_) (fun h102 => ?_)
          · refine wp_iconst (pc' := 112) 1 dX7_readsRow_111 rfl (by decide) ?_
            refine wp_goto 116 dX7_readsRow_112 (by decide) ?_
            refine wp_ist1 (pc' := 117) dX7_readsRow_116 rfl (by decide) rfl ?_
            refine wp_aload_n (pc' := 118) dX7_readsRow_117 rfl rfl ⟨_, rfl⟩ ?_
            refine wp_get (pc' := 121) (o := 25) dX7_readsRow_118 rfl flX7_16 (by decide) rfl rfl ?_
            refine wp_aload_n (pc' := 122) dX7_readsRow_121 rfl rfl ⟨_, rfl⟩ ?_
            refine wp_get (pc' := 125) (o := 25) dX7_readsRow_122 rfl flX7_105 (by decide) rfl rfl ?_
            refine wp_top ((show F 12 = nI l from h12)) ?_
            refine wp_aload_n (pc' := 126) dX7_readsRow_125 rfl rfl ⟨_, rfl⟩ ?_
            refine wp_get (pc' := 129) (o := 25) dX7_readsRow_126 rfl flX7_99 (by decide) rfl rfl ?_
            refine wp_top ((show F 13 = nI h from h13)) ?_
            refine wp_imul (pc' := 130) dX7_readsRow_129 rfl ?_
            refine wp_top ((nI_mul l h)) ?_
            refine wp_iload_n (pc' := 131) dX7_readsRow_130 rfl rfl ?_
            refine wp_iadd (pc' := 132) dX7_readsRow_131 rfl ?_
            refine wp_top ((nI_add (l * h) j)) ?_
            refine wp_iload_n (pc' := 133) dX7_readsRow_132 rfl rfl ?_
            refine wp_bipush (pc' := 135) 104 dX7_readsRow_133 rfl (by decide) ?_
            refine wp_icmp_ne (pc' := 138) 142 dX7_readsRow_135 rfl (by decide) (fun h135 => ?_) (fun h135 => ?_)
            · refine wp_iload_n (pc' := 143) dX7_readsRow_142 rfl rfl ?_
              refine wp_bipush (pc' := 145) 98 dX7_readsRow_143 rfl (by decide) ?_
              refine wp_icmp_ne (pc' := 148) 152 dX7_readsRow_145 rfl (by decide) (fun h145 => ?_) (fun h145 => ?_)
              · refine wp_iconst (pc' := 153) 2 dX7_readsRow_152 rfl (by decide) ?_
                refine wp_iastN (pc' := 154) (o := 28) (n := 24) (l * h + j) dX7_readsRow_153 rfl (by decide) (fun _ _ => rfl) (rfl) (by omega) (by decide) ?_
                refine wp_inc2 (pc' := 157) (nI (j + 1)) dX7_readsRow_154 rfl (by decide) rfl (nI_1 j) ?_
                refine wp_goto 70 dX7_readsRow_157 (by decide) ?_
                rw [upI_setO]
                refine wp_less3 ?_
                refine ih (j + 1) (by omega) _ _ ?_ (fun c hc => ?_) (fun i hi => ?_)
                · rw [if_pos (rAll_s.mpr ⟨Classical.not_not.mp (mt ite01.mpr (fun z => h90 (hr.trans z))), decide_eq_true (Or.inr (Or.inl h102))⟩)]
                · rw [upd_off _ _ (show ¬ c = l * h + j by omega)]; exact hG1 c hc
                by_cases h9 : i = j
                · rw [h9, upd_at, lcd, if_neg h135, if_neg h145]
                · rw [upd_off _ _ (show ¬ l * h + i = l * h + j by omega)]; exact hG2 i (by omega)
              · refine wp_iconst (pc' := 149) 1 dX7_readsRow_148 rfl (by decide) ?_
                refine wp_goto 153 dX7_readsRow_149 (by decide) ?_
                refine wp_iastN (pc' := 154) (o := 28) (n := 24) (l * h + j) dX7_readsRow_153 rfl (by decide) (fun _ _ => rfl) (rfl) (by omega) (by decide) ?_
                refine wp_inc2 (pc' := 157) (nI (j + 1)) dX7_readsRow_154 rfl (by decide) rfl (nI_1 j) ?_
                refine wp_goto 70 dX7_readsRow_157 (by decide) ?_
                rw [upI_setO]
                refine wp_less3 ?_
                refine ih (j + 1) (by omega) _ _ ?_ (fun c hc => ?_) (fun i hi => ?_)
                · rw [if_pos (rAll_s.mpr ⟨Classical.not_not.mp (mt ite01.mpr (fun z => h90 (hr.trans z))), decide_eq_true (Or.inr (Or.inl h102))⟩)]
                · rw [upd_off _ _ (show ¬ c = l * h + j by omega)]; exact hG1 c hc
                by_cases h9 : i = j
                · rw [h9, upd_at, lcd, if_neg h135, if_pos h145]
                · rw [upd_off _ _ (show ¬ l * h + i = l * h + j by omega)]; exact hG2 i (by omega)
            · refine wp_iconst (pc' := 139) 0 dX7_readsRow_138 rfl (by decide) ?_
              refine wp_goto 153 dX7_readsRow_139 (by decide) ?_
              refine wp_iastN (pc' := 154) (o := 28) (n := 24) (l * h + j) dX7_readsRow_153 rfl (by decide) (fun _ _ => rfl) (rfl) (by omega) (by decide) ?_
              refine wp_inc2 (pc' := 157) (nI (j + 1)) dX7_readsRow_154 rfl (by decide) rfl (nI_1 j) ?_
              refine wp_goto 70 dX7_readsRow_157 (by decide) ?_
              rw [upI_setO]
              refine wp_less3 ?_
              refine ih (j + 1) (by omega) _ _ ?_ (fun c hc => ?_) (fun i hi => ?_)
              · rw [if_pos (rAll_s.mpr ⟨Classical.not_not.mp (mt ite01.mpr (fun z => h90 (hr.trans z))), decide_eq_true (Or.inr (Or.inl h102))⟩)]
              · rw [upd_off _ _ (show ¬ c = l * h + j by omega)]; exact hG1 c hc
              by_cases h9 : i = j
              · rw [h9, upd_at, lcd, if_pos h135]
              · rw [upd_off _ _ (show ¬ l * h + i = l * h + j by omega)]; exact hG2 i (by omega)
          · refine wp_iload_n (pc' := 106) dX7_readsRow_105 rfl rfl ?_
            refine wp_bipush (pc' := 108) 115 dX7_readsRow_106 rfl (by decide) ?_
            refine wp_icmp_ne (pc' := 111) 115 dX7_readsRow_108 rfl (by decide) (fun h108 => ?_) (fun h108 => ?_)
            · refine wp_iconst (pc' := 116) 0 dX7_readsRow_115 rfl (by decide) ?_
              refine wp_ist1 (pc' := 117) dX7_readsRow_116 rfl (by decide) rfl ?_
              refine wp_aload_n (pc' := 118) dX7_readsRow_117 rfl rfl ⟨_, rfl⟩ ?_
              refine wp_get (pc' := 121) (o := 25) dX7_readsRow_118 rfl flX7_16 (by decide) rfl rfl ?_
              refine wp_aload_n (pc' := 122) dX7_readsRow_121 rfl rfl ⟨_, rfl⟩ ?_
              refine wp_get (pc' := 125) (o := 25) dX7_readsRow_122 rfl flX7_105 (by decide) rfl rfl ?_
              refine wp_top ((show F 12 = nI l from h12)) ?_
              refine wp_aload_n (pc' := 126) dX7_readsRow_125 rfl rfl ⟨_, rfl⟩ ?_
              refine wp_get (pc' := 129) (o := 25) dX7_readsRow_126 rfl flX7_99 (by decide) rfl rfl ?_
              refine wp_top ((show F 13 = nI h from h13)) ?_
              refine wp_imul (pc' := 130) dX7_readsRow_129 rfl ?_
              refine wp_top ((nI_mul l h)) ?_
              refine wp_iload_n (pc' := 131) dX7_readsRow_130 rfl rfl ?_
              refine wp_iadd (pc' := 132) dX7_readsRow_131 rfl ?_
              refine wp_top ((nI_add (l * h) j)) ?_
              refine wp_iload_n (pc' := 133) dX7_readsRow_132 rfl rfl ?_
              refine wp_bipush (pc' := 135) 104 dX7_readsRow_133 rfl (by decide) ?_
              refine wp_icmp_ne (pc' := 138) 142 dX7_readsRow_135 rfl (by decide) (fun h135 => ?_) (fun h135 => ?_)
              · refine wp_iload_n (pc' := 143) dX7_readsRow_142 rfl rfl ?_
                refine wp_bipush (pc' := 145) 98 dX7_readsRow_143 rfl (by decide) ?_
                refine wp_icmp_ne (pc' := 148) 152 dX7_readsRow_145 rfl (by decide) (fun h145 => ?_) (fun h145 => ?_)
                · refine wp_iconst (pc' := 153) 2 dX7_readsRow_152 rfl (by decide) ?_
                  refine wp_iastN (pc' := 154) (o := 28) (n := 24) (l * h + j) dX7_readsRow_153 rfl (by decide) (fun _ _ => rfl) (rfl) (by omega) (by decide) ?_
                  refine wp_inc2 (pc' := 157) (nI (j + 1)) dX7_readsRow_154 rfl (by decide) rfl (nI_1 j) ?_
                  refine wp_goto 70 dX7_readsRow_157 (by decide) ?_
                  rw [upI_setO]
                  refine wp_less3 ?_
                  refine ih (j + 1) (by omega) _ _ ?_ (fun c hc => ?_) (fun i hi => ?_)
                  · rw [if_neg (fun z => (of_decide_eq_true (rAll_s.mp z).2).elim h96 (fun y => y.elim h102 h108))]
                  · rw [upd_off _ _ (show ¬ c = l * h + j by omega)]; exact hG1 c hc
                  by_cases h9 : i = j
                  · rw [h9, upd_at, lcd, if_neg h135, if_neg h145]
                  · rw [upd_off _ _ (show ¬ l * h + i = l * h + j by omega)]; exact hG2 i (by omega)
                · refine wp_iconst (pc' := 149) 1 dX7_readsRow_148 rfl (by decide) ?_
                  refine wp_goto 153 dX7_readsRow_149 (by decide) ?_
                  refine wp_iastN (pc' := 154) (o := 28) (n := 24) (l * h + j) dX7_readsRow_153 rfl (by decide) (fun _ _ => rfl) (rfl) (by omega) (by decide) ?_
                  refine wp_inc2 (pc' := 157) (nI (j + 1)) dX7_readsRow_154 rfl (by decide) rfl (nI_1 j) ?_
                  refine wp_goto 70 dX7_readsRow_157 (by decide) ?_
                  rw [upI_setO]
                  refine wp_less3 ?_
                  refine ih (j + 1) (by omega) _ _ ?_ (fun c hc => ?_) (fun i hi => ?_)
                  · rw [if_neg (fun z => (of_decide_eq_true (rAll_s.mp z).2).elim h96 (fun y => y.elim h102 h108))]
                  · rw [upd_off _ _ (show ¬ c = l * h + j by omega)]; exact hG1 c hc
                  by_cases h9 : i = j
                  · rw [h9, upd_at, lcd, if_neg h135, if_pos h145]
                  · rw [upd_off _ _ (show ¬ l * h + i = l * h + j by omega)]; exact hG2 i (by omega)
              · refine wp_iconst (pc' := 139) 0 dX7_readsRow_138 rfl (by decide) ?_
                refine wp_goto 153 dX7_readsRow_139 (by decide) ?_
                refine wp_iastN (pc' := 154) (o := 28) (n := 24) (l * h + j) dX7_readsRow_153 rfl (by decide) (fun _ _ => rfl) (rfl) (by omega) (by decide) ?_
                refine wp_inc2 (pc' := 157) (nI (j + 1)) dX7_readsRow_154 rfl (by decide) rfl (nI_1 j) ?_
                refine wp_goto 70 dX7_readsRow_157 (by decide) ?_
                rw [upI_setO]
                refine wp_less3 ?_
                refine ih (j + 1) (by omega) _ _ ?_ (fun c hc => ?_) (fun i hi => ?_)
                · rw [if_neg (fun z => (of_decide_eq_true (rAll_s.mp z).2).elim h96 (fun y => y.elim h102 h108))]
                · rw [upd_off _ _ (show ¬ c = l * h + j by omega)]; exact hG1 c hc
                by_cases h9 : i = j
                · rw [h9, upd_at, lcd, if_pos h135]
                · rw [upd_off _ _ (show ¬ l * h + i = l * h + j by omega)]; exact hG2 i (by omega)
            · refine wp_iconst (pc' := 112) 1 dX7_readsRow_111 rfl (by decide) ?_
              refine wp_goto 116 dX7_readsRow_112 (by decide) ?_
              refine wp_ist1 (pc' := 117) dX7_readsRow_116 rfl (by decide) rfl ?_
              refine wp_aload_n (pc' := 118) dX7_readsRow_117 rfl rfl ⟨_, rfl⟩ ?_
              refine wp_get (pc' := 121) (o := 25) dX7_readsRow_118 rfl flX7_16 (by decide) rfl rfl ?_
              refine wp_aload_n (pc' := 122) dX7_readsRow_121 rfl rfl ⟨_, rfl⟩ ?_
              refine wp_get (pc' := 125) (o := 25) dX7_readsRow_122 rfl flX7_105 (by decide) rfl rfl ?_
              refine wp_top ((show F 12 = nI l from h12)) ?_
              refine wp_aload_n (pc' := 126) dX7_readsRow_125 rfl rfl ⟨_, rfl⟩ ?_
              refine wp_get (pc' := 129) (o := 25) dX7_readsRow_126 rfl flX7_99 (by decide) rfl rfl ?_
              refine wp_top ((show F 13 = nI h from h13)) ?_
              refine wp_imul (pc' := 130) dX7_readsRow_129 rfl ?_
              refine wp_top ((nI_mul l h)) ?_
              refine wp_iload_n (pc' := 131) dX7_readsRow_130 rfl rfl ?_
              refine wp_iadd (pc' := 132) dX7_readsRow_131 rfl ?_
              refine wp_top ((nI_add (l * h) j)) ?_
              refine wp_iload_n (pc' := 133) dX7_readsRow_132 rfl rfl ?_
              refine wp_bipush (pc' := 135) 104 dX7_readsRow_133 rfl (by decide) ?_
              refine wp_icmp_ne (pc' := 138) 142 dX7_readsRow_135 rfl (by decide) (fun h135 => ?_) (fun h135 => ?_)
              · refine wp_iload_n (pc' := 143) dX7_readsRow_142 rfl rfl ?_
                refine wp_bipush (pc' := 145) 98 dX7_readsRow_143 rfl (by decide) ?_
                refine wp_icmp_ne (pc' := 148) 152 dX7_readsRow_145 rfl (by decide) (fun h145 => ?_) (fun h145 => ?_)
                · refine wp_iconst (pc' := 153) 2 dX7_readsRow_152 rfl (by decide) ?_
                  refine wp_iastN (pc' := 154) (o := 28) (n := 24) (l * h + j) dX7_readsRow_153 rfl (by decide) (fun _ _ => rfl) (rfl) (by omega) (by decide) ?_
                  refine wp_inc2 (pc' := 157) (nI (j + 1)) dX7_readsRow_154 rfl (by decide) rfl (nI_1 j) ?_
                  refine wp_goto 70 dX7_readsRow_157 (by decide) ?_
                  rw [upI_setO]
                  refine wp_less3 ?_
                  refine ih (j + 1) (by omega) _ _ ?_ (fun c hc => ?_) (fun i hi => ?_)
                  · rw [if_pos (rAll_s.mpr ⟨Classical.not_not.mp (mt ite01.mpr (fun z => h90 (hr.trans z))), decide_eq_true (Or.inr (Or.inr h108))⟩)]
                  · rw [upd_off _ _ (show ¬ c = l * h + j by omega)]; exact hG1 c hc
                  by_cases h9 : i = j
                  · rw [h9, upd_at, lcd, if_neg h135, if_neg h145]
                  · rw [upd_off _ _ (show ¬ l * h + i = l * h + j by omega)]; exact hG2 i (by omega)
                · refine wp_iconst (pc' := 149) 1 dX7_readsRow_148 rfl (by decide) ?_
                  refine wp_goto 153 dX7_readsRow_149 (by decide) ?_
                  refine wp_iastN (pc' := 154) (o := 28) (n := 24) (l * h + j) dX7_readsRow_153 rfl (by decide) (fun _ _ => rfl) (rfl) (by omega) (by decide) ?_
                  refine wp_inc2 (pc' := 157) (nI (j + 1)) dX7_readsRow_154 rfl (by decide) rfl (nI_1 j) ?_
                  refine wp_goto 70 dX7_readsRow_157 (by decide) ?_
                  rw [upI_setO]
                  refine wp_less3 ?_
                  refine ih (j + 1) (by omega) _ _ ?_ (fun c hc => ?_) (fun i hi => ?_)
                  · rw [if_pos (rAll_s.mpr ⟨Classical.not_not.mp (mt ite01.mpr (fun z => h90 (hr.trans z))), decide_eq_true (Or.inr (Or.inr h108))⟩)]
                  · rw [upd_off _ _ (show ¬ c = l * h + j by omega)]; exact hG1 c hc
                  by_cases h9 : i = j
                  · rw [h9, upd_at, lcd, if_neg h135, if_pos h145]
                  · rw [upd_off _ _ (show ¬ l * h + i = l * h + j by omega)]; exact hG2 i (by omega)
              · refine wp_iconst (pc' := 139) 0 dX7_readsRow_138 rfl (by decide) ?_
                refine wp_goto 153 dX7_readsRow_139 (by decide) ?_
                refine wp_iastN (pc' := 154) (o := 28) (n := 24) (l * h + j) dX7_readsRow_153 rfl (by decide) (fun _ _ => rfl) (rfl) (by omega) (by decide) ?_
                refine wp_inc2 (pc' := 157) (nI (j + 1)) dX7_readsRow_154 rfl (by decide) rfl (nI_1 j) ?_
                refine wp_goto 70 dX7_readsRow_157 (by decide) ?_
                rw [upI_setO]
                refine wp_less3 ?_
                refine ih (j + 1) (by omega) _ _ ?_ (fun c hc => ?_) (fun i hi => ?_)
                · rw [if_pos (rAll_s.mpr ⟨Classical.not_not.mp (mt ite01.mpr (fun z => h90 (hr.trans z))), decide_eq_true (Or.inr (Or.inr h108))⟩)]
                · rw [upd_off _ _ (show ¬ c = l * h + j by omega)]; exact hG1 c hc
                by_cases h9 : i = j
                · rw [h9, upd_at, lcd, if_pos h135]
                · rw [upd_off _ _ (show ¬ l * h + i = l * h + j by omega)]; exact hG2 i (by omega)
theorem sm_readsRow (hT : TXM M t tb) (hD : DOK D) (hC : DM M D) (h1 : M.1 25 21 = nI s0) (h2 : M.1 25 19 = nI e0) (he : e0 ≤ t) : SI g mX7_readsRow [ob g 25] M (fun x m => FrM M m ∧ OuM m x (rowF t tb D s0 e0)) := by
  have h3 := hT.1
  obtain ⟨d1, d2, d3, d4⟩ := dok_h hD
  obtain ⟨k1, k2⟩ := tk_S (tb := tb) he
  obtain ⟨k3, k4, k5⟩ := tk_E (tb := tb) he
  refine spec_of_wp (ls := [some (ob g 25), none, none, none]) rfl (Nat.le_of_ble_eq_true rfl) 3 rfl ?_
  refine wp_aload_n (pc' := 1) dX7_readsRow_0 rfl rfl ⟨_, rfl⟩ ?_
  refine wp_get (pc' := 4) (o := 25) dX7_readsRow_1 rfl flX7_99 (by decide) rfl rfl ?_
  refine wp_top ((show M.1 25 13 = nI (q_h D) from hC.2.1)) ?_
  refine wp_iconst (pc' := 5) 4 dX7_readsRow_4 rfl (by decide) ?_
  refine wp_icmp_eq (pc' := 8) 15 dX7_readsRow_5 rfl (by decide) (fun h5 => ?_) (fun h5 => ?_)
  · refine wp_iconst (pc' := 16) 0 dX7_readsRow_15 rfl (by decide) ?_
    refine wp_iretz dX7_readsRow_16 rfl rfl ?_
    exact ⟨_, rfl, FrM.refl _, (by rw [rowF, if_pos (fun z => absurd (nN_inj (b := 4) (by omega) (by decide) h5) (by omega))]; exact ⟨rfl, h1⟩)⟩
  · refine wp_aload_n (pc' := 9) dX7_readsRow_8 rfl rfl ⟨_, rfl⟩ ?_
    refine wp_get (pc' := 12) (o := 25) dX7_readsRow_9 rfl flX7_102 (by decide) rfl rfl ?_
    refine wp_top ((show M.1 25 14 = nI (q_k D) from hC.2.2.1)) ?_
    refine wp_if_le (pc' := 15) 17 dX7_readsRow_12 rfl (by decide) (fun h12 => ?_) (fun h12 => ?_)
    · have hh : q_h D < 4 ∧ q_k D = 0 := ⟨Nat.lt_of_le_of_ne d1 (fun z => h5 (by rw [z]; rfl)), Nat.eq_zero_of_not_pos fun z => nI_nle z (by omega) h12⟩
      refine wp_aload_n (pc' := 18) dX7_readsRow_17 rfl rfl ⟨_, rfl⟩ ?_
      refine wp_sVV (μ' := mX7_token) (pc' := 21) (o := 25) dX7_readsRow_18 rfl mlX7_96 cfX7_token ⟨(Nat.le_of_ble_eq_true rfl), (Nat.le_of_ble_eq_true rfl)⟩ (sm_token hT he h2) (by decide) rfl rfl rfl rfl rfl (Nat.le_of_ble_eq_true rfl) (fun m hm => ?_)
      obtain ⟨f, rfl, hf, f21, f19, f20, f22⟩ := hm
      refine wp_aload_n (pc' := 22) dX7_readsRow_21 rfl rfl ⟨_, rfl⟩ ?_
      refine wp_get (pc' := 25) (o := 25) dX7_readsRow_22 rfl flX7_82 (by decide) rfl rfl ?_
      refine wp_top ((show f 20 = tkO t tb e0 from f20)) ?_
      refine wp_iconst (pc' := 26) 1 dX7_readsRow_25 rfl (by decide) ?_
      refine wp_icmp_ne (pc' := 29) 56 dX7_readsRow_26 rfl (by decide) (fun h26 => ?_) (fun h26 => ?_)
      · refine wp_iconst (pc' := 57) 0 dX7_readsRow_56 rfl (by decide) ?_
        refine wp_iretz dX7_readsRow_57 rfl rfl ?_
        exact ⟨_, rfl, (FrM.refl M).set hf, (by rw [rowF, if_neg (fun z => z hh), if_neg (fun z => h26 z.1)]; exact ⟨rfl, f21⟩)⟩
      · refine wp_aload_n (pc' := 30) dX7_readsRow_29 rfl rfl ⟨_, rfl⟩ ?_
        refine wp_get (pc' := 33) (o := 25) dX7_readsRow_30 rfl flX7_85 (by decide) rfl rfl ?_
        refine wp_top ((show f 22 = nI (tkE t tb e0 - tkS t tb e0) from f22)) ?_
        refine wp_bipush (pc' := 35) 6 dX7_readsRow_33 rfl (by decide) ?_
        refine wp_icmp_gt (pc' := 38) 56 dX7_readsRow_35 rfl (by decide) (fun h35 => ?_) (fun h35 => ?_)
        · refine wp_iconst (pc' := 57) 0 dX7_readsRow_56 rfl (by decide) ?_
          refine wp_iretz dX7_readsRow_57 rfl rfl ?_
          exact ⟨_, rfl, (FrM.refl M).set hf, (by rw [rowF, if_neg (fun z => z hh), if_neg (fun z => absurd ((nI_ltI (a := 6) (b := tkE t tb e0 - tkS t tb e0) (by decide) (by omega)).mp h35) (by have hh2 := z.2.1; have := z.1; rcases hh2 with ⟨-, y⟩ | ⟨-, y⟩ <;> omega))]; exact ⟨rfl, f21⟩)⟩
        · refine wp_aload_n (pc' := 39) dX7_readsRow_38 rfl rfl ⟨_, rfl⟩ ?_
          refine wp_get (pc' := 42) (o := 25) dX7_readsRow_39 rfl flX7_99 (by decide) rfl rfl ?_
          refine wp_top ((show f 13 = nI (q_h D) from ((hf 13 (by decide) (by decide) (by decide) (by decide)).trans hC.2.1))) ?_
          refine wp_if_le (pc' := 45) 58 dX7_readsRow_42 rfl (by decide) (fun h42 => ?_) (fun h42 => ?_)
          · have hl : rowL D (tkE t tb e0 - tkS t tb e0) := Or.inl ⟨Nat.eq_zero_of_not_pos fun z => nI_nle z (by omega) h42, Nat.le_of_not_lt fun z => h35 (nI_lt (a := 6) z (by omega))⟩
            refine wp_aload_n (pc' := 59) dX7_readsRow_58 rfl rfl ⟨_, rfl⟩ ?_
            refine wp_aload_n (pc' := 60) dX7_readsRow_59 rfl rfl ⟨_, rfl⟩ ?_
            refine wp_get (pc' := 63) (o := 25) dX7_readsRow_60 rfl flX7_85 (by decide) rfl rfl ?_
            refine wp_top ((show f 22 = nI (tkE t tb e0 - tkS t tb e0) from f22)) ?_
            refine wp_put (pc' := 66) (o := 25) dX7_readsRow_63 rfl fpX7_105 (by decide) rfl (Nat.le_of_ble_eq_true rfl) rfl ?_
            refine wp_iconst (pc' := 67) 1 dX7_readsRow_66 rfl (by decide) ?_
            refine wp_ist1 (pc' := 68) dX7_readsRow_67 rfl (by decide) rfl ?_
            refine wp_iconst (pc' := 69) 0 dX7_readsRow_68 rfl (by decide) ?_
            refine wp_ist2 (pc' := 70) dX7_readsRow_69 rfl (by decide) rfl ?_
            have hlt := k5 (fun z => absurd (h26.symm.trans z) (by decide))
            have hN := row_N hD hl
            have hb := row_b hl
            have hsh := (row_shp hD hh.1 (show 0 < tkE t tb e0 - tkS t tb e0 by omega) hl).le
            have g13 : f 13 = nI (q_h D) := ((hf 13 (by decide) (by decide) (by decide) (by decide)).trans hC.2.1)
            rw [upI_setO]
            refine wp_mem (setO_self _ 28).symm ?_
            refine wp_mono (lpm_rows hT (s := tkS t tb e0) (l := tkE t tb e0 - tkS t tb e0) (h := q_h D) (F := upd f 12 (nI (tkE t tb e0 - tkS t tb e0))) ((upd_off _ _ (by decide)).trans (hf 3 (by decide) (by decide) (by decide) (by decide))) (upd_at _ _ _) ((upd_off _ _ (by decide)).trans g13) ((upd_off _ _ (by decide)).trans f21) ((upd_off _ _ (by decide)).trans f22) (by omega) (by omega) (tkE t tb e0 - tkS t tb e0) 0 (Nat.zero_add _) _ 1 (if_pos (fun i hi => absurd hi (Nat.not_lt_zero i))).symm (fun _ _ => rfl) (fun i hi => absurd hi (Nat.not_lt_zero i))) (fun r m hx => ?_)
            obtain ⟨x, rfl, F2, G2, rfl, hF2, hx⟩ := hx
            have hFr : FrM M (setO (setO M 25 F2) 28 G2) := ⟨rfl, fun a h25 h28 _ => (if_neg h28).trans (if_neg h25), fun k hk => (show F2 k = M.1 25 k by rw [hF2 k (by omega), upd_off _ _ (by omega)]; exact hf k (by omega) (by omega) (by omega) (by omega))⟩
            refine ⟨x, rfl, hFr, ?_⟩
            rw [rowF, if_neg (fun z => z hh)]
            rcases hx with ⟨rfl, y1⟩ | ⟨rfl, y1, y2, y3, y4⟩
            · rw [if_neg (fun z => y1 z.2.2)]
              exact ⟨rfl, (show F2 21 = _ by rw [hF2 21 (by decide), upd_off _ _ (by decide)]; exact f21)⟩
            · rw [if_pos ⟨h26, hl, y1⟩]
              refine ⟨rfl, ⟨(show F2 12 = _ by rw [hF2 12 (by decide), upd_at]; rfl), y2, (show F2 14 = _ by rw [hF2 14 (by decide), upd_off _ _ (by decide)]; exact ((hf 14 (by decide) (by decide) (by decide) (by decide)).trans hC.2.2.1)), (show F2 15 = _ by rw [hF2 15 (by decide), upd_off _ _ (by decide)]; exact ((hf 15 (by decide) (by decide) (by decide) (by decide)).trans hC.2.2.2.1)), fun c hc => ?_, hC.2.2.2.2.2⟩, (show F2 19 = _ by rw [hF2 19 (by decide), upd_off _ _ (by decide)]; exact f19)⟩
              have hc2 : c < (tkE t tb e0 - tkS t tb e0) * (q_h D + 1) := hc
              show G2 c = (if q_w D * q_h D ≤ c then lcd (tb (tkS t tb e0 + (c - q_w D * q_h D))) else q_g D c)
              by_cases h9 : q_w D * q_h D ≤ c
              · rw [if_pos h9, ← y4 (c - q_w D * q_h D) (by omega), hb, show q_w D * q_h D + (c - q_w D * q_h D) = c by omega]
              · rw [if_neg h9, y3 c (by omega)]
                exact hC.2.2.2.2.1 c (by omega)
          · refine wp_aload_n (pc' := 46) dX7_readsRow_45 rfl rfl ⟨_, rfl⟩ ?_
            refine wp_get (pc' := 49) (o := 25) dX7_readsRow_46 rfl flX7_85 (by decide) rfl rfl ?_
            refine wp_top ((show f 22 = nI (tkE t tb e0 - tkS t tb e0) from f22)) ?_
            refine wp_aload_n (pc' := 50) dX7_readsRow_49 rfl rfl ⟨_, rfl⟩ ?_
            refine wp_get (pc' := 53) (o := 25) dX7_readsRow_50 rfl flX7_105 (by decide) rfl rfl ?_
            refine wp_top ((show f 12 = nI (q_w D) from ((hf 12 (by decide) (by decide) (by decide) (by decide)).trans hC.1))) ?_
            refine wp_icmp_eq (pc' := 56) 58 dX7_readsRow_53 rfl (by decide) (fun h53 => ?_) (fun h53 => ?_)
            · have hl : rowL D (tkE t tb e0 - tkS t tb e0) := Or.inr ⟨fun z => h42 (by rw [z]; decide), nN_inj (by omega) (by omega) h53⟩
              refine wp_aload_n (pc' := 59) dX7_readsRow_58 rfl rfl ⟨_, rfl⟩ ?_
              refine wp_aload_n (pc' := 60) dX7_readsRow_59 rfl rfl ⟨_, rfl⟩ ?_
              refine wp_get (pc' := 63) (o := 25) dX7_readsRow_60 rfl flX7_85 (by decide) rfl rfl ?_
              refine wp_top ((show f 22 = nI (tkE t tb e0 - tkS t tb e0) from f22)) ?_
              refine wp_put (pc' := 66) (o := 25) dX7_readsRow_63 rfl fpX7_105 (by decide) rfl (Nat.le_of_ble_eq_true rfl) rfl ?_
              refine wp_iconst (pc' := 67) 1 dX7_readsRow_66 rfl (by decide) ?_
              refine wp_ist1 (pc' := 68) dX7_readsRow_67 rfl (by decide) rfl ?_
              refine wp_iconst (pc' := 69) 0 dX7_readsRow_68 rfl (by decide) ?_
              refine wp_ist2 (pc' := 70) dX7_readsRow_69 rfl (by decide) rfl ?_
              have hlt := k5 (fun z => absurd (h26.symm.trans z) (by decide))
              have hN := row_N hD hl
              have hb := row_b hl
              have hsh := (row_shp hD hh.1 (show 0 < tkE t tb e0 - tkS t tb e0 by omega) hl).le
              have g13 : f 13 = nI (q_h D) := ((hf 13 (by decide) (by decide) (by decide) (by decide)).trans hC.2.1)
              rw [upI_setO]
              refine wp_mem (setO_self _ 28).symm ?_
              refine wp_mono (lpm_rows hT (s := tkS t tb e0) (l := tkE t tb e0 - tkS t tb e0) (h := q_h D) (F := upd f 12 (nI (tkE t tb e0 - tkS t tb e0))) ((upd_off _ _ (by decide)).trans (hf 3 (by decide) (by decide) (by decide) (by decide))) (upd_at _ _ _) ((upd_off _ _ (by decide)).trans g13) ((upd_off _ _ (by decide)).trans f21) ((upd_off _ _ (by decide)).trans f22) (by omega) (by omega) (tkE t tb e0 - tkS t tb e0) 0 (Nat.zero_add _) _ 1 (if_pos (fun i hi => absurd hi (Nat.not_lt_zero i))).symm (fun _ _ => rfl) (fun i hi => absurd hi (Nat.not_lt_zero i))) (fun r m hx => ?_)
              obtain ⟨x, rfl, F2, G2, rfl, hF2, hx⟩ := hx
              have hFr : FrM M (setO (setO M 25 F2) 28 G2) := ⟨rfl, fun a h25 h28 _ => (if_neg h28).trans (if_neg h25), fun k hk => (show F2 k = M.1 25 k by rw [hF2 k (by omega), upd_off _ _ (by omega)]; exact hf k (by omega) (by omega) (by omega) (by omega))⟩
              refine ⟨x, rfl, hFr, ?_⟩
              rw [rowF, if_neg (fun z => z hh)]
              rcases hx with ⟨rfl, y1⟩ | ⟨rfl, y1, y2, y3, y4⟩
              · rw [if_neg (fun z => y1 z.2.2)]
                exact ⟨rfl, (show F2 21 = _ by rw [hF2 21 (by decide), upd_off _ _ (by decide)]; exact f21)⟩
              · rw [if_pos ⟨h26, hl, y1⟩]
                refine ⟨rfl, ⟨(show F2 12 = _ by rw [hF2 12 (by decide), upd_at]; rfl), y2, (show F2 14 = _ by rw [hF2 14 (by decide), upd_off _ _ (by decide)]; exact ((hf 14 (by decide) (by decide) (by decide) (by decide)).trans hC.2.2.1)), (show F2 15 = _ by rw [hF2 15 (by decide), upd_off _ _ (by decide)]; exact ((hf 15 (by decide) (by decide) (by decide) (by decide)).trans hC.2.2.2.1)), fun c hc => ?_, hC.2.2.2.2.2⟩, (show F2 19 = _ by rw [hF2 19 (by decide), upd_off _ _ (by decide)]; exact f19)⟩
                have hc2 : c < (tkE t tb e0 - tkS t tb e0) * (q_h D + 1) := hc
                show G2 c = (if q_w D * q_h D ≤ c then lcd (tb (tkS t tb e0 + (c - q_w D * q_h D))) else q_g D c)
                by_cases h9 : q_w D * q_h D ≤ c
                · rw [if_pos h9, ← y4 (c - q_w D * q_h D) (by omega), hb, show q_w D * q_h D + (c - q_w D * q_h D) = c by omega]
                · rw [if_neg h9, y3 c (by omega)]
                  exact hC.2.2.2.2.1 c (by omega)
            · refine wp_iconst (pc' := 57) 0 dX7_readsRow_56 rfl (by decide) ?_
              refine wp_iretz dX7_readsRow_57 rfl rfl ?_
              exact ⟨_, rfl, (FrM.refl M).set hf, (by rw [rowF, if_neg (fun z => z hh), if_neg (fun z => z.2.1.elim (fun y => h42 (by rw [y.1]; decide)) (fun y => h53 (by rw [y.2])))]; exact ⟨rfl, f21⟩)⟩
    · refine wp_iconst (pc' := 16) 0 dX7_readsRow_15 rfl (by decide) ?_
      refine wp_iretz dX7_readsRow_16 rfl rfl ?_
      exact ⟨_, rfl, FrM.refl _, (by rw [rowF, if_pos (fun z => h12 (by rw [z.2]; decide))]; exact ⟨rfl, h1⟩)⟩
theorem mw_ok (hC : DM M D) (hk : q_k D < 4) (x y : Nat) : DM (upI (upI (upI M 30 (2 * q_k D) (nI x)) 30 (2 * q_k D + 1) (nI y)) 25 14 (nI (q_k D + 1))) (walD D x y) := by
  obtain ⟨c1, c2, c3, c4, c5, c6⟩ := hC
  refine ⟨c1, c2, rfl, c4, c5, fun j hj => ?_⟩
  have hj2 : j < q_k D + 1 := hj
  show (if 2 * j = 2 * q_k D + 1 then nI y else (if 2 * j = 2 * q_k D then nI x else M.1 30 (2 * j))) = nI (if j = q_k D then x else q_a D j) ∧ (if 2 * j + 1 = 2 * q_k D + 1 then nI y else (if 2 * j + 1 = 2 * q_k D then nI x else M.1 30 (2 * j + 1))) = nI (if j = q_k D then y else q_b D j)
  by_cases h9 : j = q_k D
  · rw [if_neg (by omega), if_pos (by omega), if_pos h9, if_pos (by omega), if_pos h9]; exact ⟨rfl, rfl⟩
  · rw [if_neg (by omega), if_neg (by omega), if_neg h9, if_neg (by omega), if_neg (by omega), if_neg h9]; exact c6 j (by omega)
theorem sm_readsWalker (hT : TXM M t tb) (hD : DOK D) (hC : DM M D) (h1 : M.1 25 21 = nI s0) (h2 : M.1 25 19 = nI e0) (he : e0 ≤ t) : SI g mX7_readsWalker [ob g 25] M (fun x m => FrM M m ∧ OuM m x (walF t tb D s0 e0)) := by
  have h3 := hT.1
  obtain ⟨d1, d2, d3, d4⟩ := dok_h hD
  obtain ⟨k1, k2⟩ := tk_S (tb := tb) he
  obtain ⟨k3, k4, k5⟩ := tk_E (tb := tb) he
  refine spec_of_wp (ls := [some (ob g 25), none, none, none]) rfl (Nat.le_of_ble_eq_true rfl) 3 rfl ?_
  refine wp_aload_n (pc' := 1) dX7_readsWalker_0 rfl rfl ⟨_, rfl⟩ ?_
  refine wp_get (pc' := 4) (o := 25) dX7_readsWalker_1 rfl flX7_102 (by decide) rfl rfl ?_
  refine wp_top ((show M.1 25 14 = nI (q_k D) from hC.2.2.1)) ?_
  refine wp_iconst (pc' := 5) 4 dX7_readsWalker_4 rfl (by decide) ?_
  refine wp_icmp_ne (pc' := 8) 10 dX7_readsWalker_5 rfl (by decide) (fun h5 => ?_) (fun h5 => ?_)
  · have hk4 : q_k D < 4 := Nat.lt_of_le_of_ne d4 (fun z => h5 (by rw [z]; rfl))
    refine wp_aload_n (pc' := 11) dX7_readsWalker_10 rfl rfl ⟨_, rfl⟩ ?_
    refine wp_get (pc' := 14) (o := 25) dX7_readsWalker_11 rfl flX7_105 (by decide) rfl rfl ?_
    refine wp_top ((show M.1 25 12 = nI (q_w D) from hC.1)) ?_
    refine wp_aload_n (pc' := 15) dX7_readsWalker_14 rfl rfl ⟨_, rfl⟩ ?_
    refine wp_get (pc' := 18) (o := 25) dX7_readsWalker_15 rfl flX7_99 (by decide) rfl rfl ?_
    refine wp_top ((show M.1 25 13 = nI (q_h D) from hC.2.1)) ?_
    refine wp_imul (pc' := 19) dX7_readsWalker_18 rfl ?_
    refine wp_top ((nI_mul (q_w D) (q_h D))) ?_
    refine wp_iconst (pc' := 20) 1 dX7_readsWalker_19 rfl (by decide) ?_
    refine wp_isub (pc' := 21) dX7_readsWalker_20 rfl ?_
    refine wp_ist1 (pc' := 22) dX7_readsWalker_21 rfl (by decide) rfl ?_
    refine wp_aload_n (pc' := 23) dX7_readsWalker_22 rfl rfl ⟨_, rfl⟩ ?_
    refine wp_iload_n (pc' := 24) dX7_readsWalker_23 rfl rfl ?_
    refine wp_sVI (μ' := mX7_number) (pc' := 27) (o := 25) dX7_readsWalker_24 rfl mlX7_108 cfX7_number ⟨(Nat.le_of_ble_eq_true rfl), (Nat.le_of_ble_eq_true rfl)⟩ (sm_number hT he h2 (b := q_w D * q_h D) d3) (by decide) rfl rfl rfl rfl rfl (Nat.le_of_ble_eq_true rfl) (fun x m hm => ?_)
    obtain ⟨⟨f, rfl, hf, f21, f19⟩, hx⟩ := hm
    refine wp_ist2 (pc' := 28) dX7_readsWalker_27 rfl (by decide) rfl ?_
    refine wp_iload_n (pc' := 29) dX7_readsWalker_28 rfl rfl ?_
    refine wp_bipush (pc' := 31) (-9) dX7_readsWalker_29 rfl (by decide) ?_
    refine wp_icmp_ne (pc' := 34) 36 dX7_readsWalker_31 rfl (by decide) (fun h31 => ?_) (fun h31 => ?_)
    · have hb1 : nuB t tb (q_w D * q_h D) e0 := Classical.byContradiction fun z => h31 (hx.trans (if_neg z))
      rw [if_pos hb1] at hx
      have hn1 := nu_le he hb1.1
      refine wp_aload_n (pc' := 37) dX7_readsWalker_36 rfl rfl ⟨_, rfl⟩ ?_
      refine wp_iload_n (pc' := 38) dX7_readsWalker_37 rfl rfl ?_
      refine wp_sVI (μ' := mX7_number) (pc' := 41) (o := 25) dX7_readsWalker_38 rfl mlX7_108 cfX7_number ⟨(Nat.le_of_ble_eq_true rfl), (Nat.le_of_ble_eq_true rfl)⟩ (sm_number (M := setO M 25 f) (txm_s hT hf) k4 f19 (b := q_w D * q_h D) d3) (by decide) rfl rfl rfl rfl rfl (Nat.le_of_ble_eq_true rfl) (fun y m2 hm2 => ?_)
      obtain ⟨⟨f2_, rfl, hg, g21, g19⟩, hy⟩ := hm2
      refine wp_ist3 (pc' := 42) dX7_readsWalker_41 rfl (by decide) rfl ?_
      refine wp_iload_n (pc' := 43) dX7_readsWalker_42 rfl rfl ?_
      refine wp_bipush (pc' := 45) (-9) dX7_readsWalker_43 rfl (by decide) ?_
      refine wp_icmp_eq (pc' := 48) 53 dX7_readsWalker_45 rfl (by decide) (fun h45 => ?_) (fun h45 => ?_)
      · refine wp_iconst (pc' := 54) 0 dX7_readsWalker_53 rfl (by decide) ?_
        refine wp_iretz dX7_readsWalker_54 rfl rfl ?_
        exact ⟨_, rfl, ((FrM.refl M).set hf).set hg, (by rw [walF, if_neg (fun z => z hk4), if_neg (fun z => z hb1), if_pos (Or.inl (fun z => by rw [if_pos z] at hy; exact nI_ne9 (by have := nu_le k4 z.1; omega) (hy.symm.trans h45)))]; exact ⟨rfl, g21⟩)⟩
      · have hb2 : nuB t tb (q_w D * q_h D) (tkE t tb e0) := Classical.byContradiction fun z => h45 (hy.trans (if_neg z))
        rw [if_pos hb2] at hy
        have hn2 := nu_le k4 hb2.1
        refine wp_iload_n (pc' := 49) dX7_readsWalker_48 rfl rfl ?_
        refine wp_iload_n (pc' := 50) dX7_readsWalker_49 rfl rfl ?_
        refine wp_icmp_ne (pc' := 53) 55 dX7_readsWalker_50 rfl (by decide) (fun h50 => ?_) (fun h50 => ?_)
        · refine wp_aload_n (pc' := 56) dX7_readsWalker_55 rfl rfl ⟨_, rfl⟩ ?_
          refine wp_get (pc' := 59) (o := 25) dX7_readsWalker_56 rfl flX7_22 (by decide) rfl rfl ?_
          refine wp_iconst (pc' := 60) 2 dX7_readsWalker_59 rfl (by decide) ?_
          refine wp_aload_n (pc' := 61) dX7_readsWalker_60 rfl rfl ⟨_, rfl⟩ ?_
          refine wp_get (pc' := 64) (o := 25) dX7_readsWalker_61 rfl flX7_102 (by decide) rfl rfl ?_
          refine wp_top ((show (setO (setO M 25 f) 25 f2_).1 25 14 = nI (q_k D) from (dm_set (dm_set hC hf) hg).2.2.1)) ?_
          refine wp_imul (pc' := 65) dX7_readsWalker_64 rfl ?_
          refine wp_top ((mul2 (q_k D))) ?_
          refine wp_iload_n (pc' := 66) dX7_readsWalker_65 rfl rfl ?_
          refine wp_iastN (pc' := 67) (o := 30) (n := 8) (2 * q_k D) dX7_readsWalker_66 rfl (by decide) (fun _ _ => rfl) (rfl) (by omega) (by decide) ?_
          refine wp_aload_n (pc' := 68) dX7_readsWalker_67 rfl rfl ⟨_, rfl⟩ ?_
          refine wp_get (pc' := 71) (o := 25) dX7_readsWalker_68 rfl flX7_22 (by decide) rfl rfl ?_
          refine wp_iconst (pc' := 72) 2 dX7_readsWalker_71 rfl (by decide) ?_
          refine wp_aload_n (pc' := 73) dX7_readsWalker_72 rfl rfl ⟨_, rfl⟩ ?_
          refine wp_get (pc' := 76) (o := 25) dX7_readsWalker_73 rfl flX7_102 (by decide) rfl rfl ?_
          refine wp_top ((show (setO (setO M 25 f) 25 f2_).1 25 14 = nI (q_k D) from (dm_set (dm_set hC hf) hg).2.2.1)) ?_
          refine wp_imul (pc' := 77) dX7_readsWalker_76 rfl ?_
          refine wp_top ((mul2 (q_k D))) ?_
          refine wp_iconst (pc' := 78) 1 dX7_readsWalker_77 rfl (by decide) ?_
          refine wp_iadd (pc' := 79) dX7_readsWalker_78 rfl ?_
          refine wp_top ((nI_1 (2 * q_k D))) ?_
          refine wp_iload_n (pc' := 80) dX7_readsWalker_79 rfl rfl ?_
          refine wp_iastN (pc' := 81) (o := 30) (n := 8) (2 * q_k D + 1) dX7_readsWalker_80 rfl (by decide) (fun _ _ => rfl) (rfl) (by omega) (by decide) ?_
          refine wp_aload_n (pc' := 82) dX7_readsWalker_81 rfl rfl ⟨_, rfl⟩ ?_
          refine wp_dup (pc' := 83) dX7_readsWalker_82 rfl rfl ?_
          refine wp_get (pc' := 86) (o := 25) dX7_readsWalker_83 rfl flX7_102 (by decide) rfl rfl ?_
          refine wp_top ((show (setO (setO M 25 f) 25 f2_).1 25 14 = nI (q_k D) from (dm_set (dm_set hC hf) hg).2.2.1)) ?_
          refine wp_iconst (pc' := 87) 1 dX7_readsWalker_86 rfl (by decide) ?_
          refine wp_iadd (pc' := 88) dX7_readsWalker_87 rfl ?_
          refine wp_top ((nI_1 (q_k D))) ?_
          refine wp_put (pc' := 91) (o := 25) dX7_readsWalker_88 rfl fpX7_102 (by decide) rfl (Nat.le_of_ble_eq_true rfl) rfl ?_
          refine wp_iconst (pc' := 92) 1 dX7_readsWalker_91 rfl (by decide) ?_
          refine wp_iretz dX7_readsWalker_92 rfl rfl ?_
          subst hx
          subst hy
          refine ⟨_, rfl, (((FrM.refl M).set hf).set hg).trans ⟨rfl, fun a h25 _ h30 => ((if_neg h25).trans (if_neg h30)).trans (if_neg h30), fun k hk => if_neg (by omega)⟩, ?_⟩
          rw [walF, if_neg (fun z => z hk4), if_neg (fun z => z hb1), if_neg (not_or.mpr ⟨fun z => z hb2, fun z => h50 (by rw [z])⟩)]
          exact ⟨rfl, mw_ok (M := setO (setO M 25 f) 25 f2_) (dm_set (dm_set hC hf) hg) hk4 _ _, g19⟩
        · refine wp_iconst (pc' := 54) 0 dX7_readsWalker_53 rfl (by decide) ?_
          refine wp_iretz dX7_readsWalker_54 rfl rfl ?_
          exact ⟨_, rfl, ((FrM.refl M).set hf).set hg, (by rw [walF, if_neg (fun z => z hk4), if_neg (fun z => z hb1), if_pos (Or.inr (nN_inj (by omega) (by omega) (hx.symm.trans (h50.trans hy))))]; exact ⟨rfl, g21⟩)⟩
    · refine wp_iconst (pc' := 35) 0 dX7_readsWalker_34 rfl (by decide) ?_
      refine wp_iretz dX7_readsWalker_35 rfl rfl ?_
      exact ⟨_, rfl, (FrM.refl M).set hf, (by rw [walF, if_neg (fun z => z hk4), if_pos (fun z => by rw [if_pos z] at hx; exact nI_ne9 (by have := nu_le he z.1; omega) (hx.symm.trans h31))]; exact ⟨rfl, f21⟩)⟩
  · refine wp_iconst (pc' := 9) 0 dX7_readsWalker_8 rfl (by decide) ?_
    refine wp_iretz dX7_readsWalker_9 rfl rfl ?_
    exact ⟨_, rfl, FrM.refl _, (by rw [walF, if_pos (fun z => absurd (nN_inj (b := 4) (by omega) (by decide) h5) (by omega))]; exact ⟨rfl, h1⟩)⟩
theorem sm_readsSink (hT : TXM M t tb) (hD : DOK D) (hC : DM M D) (h1 : M.1 25 21 = nI s0) (h2 : M.1 25 19 = nI e0) (he : e0 ≤ t) : SI g mX7_readsSink [ob g 25] M (fun x m => FrM M m ∧ OuM m x (snkF t tb D s0 e0)) := by
  have h3 := hT.1
  obtain ⟨d1, d2, d3, d4⟩ := dok_h hD
  obtain ⟨k1, k2⟩ := tk_S (tb := tb) he
  obtain ⟨k3, k4, k5⟩ := tk_E (tb := tb) he
  refine spec_of_wp (ls := [some (ob g 25), none]) rfl (Nat.le_of_ble_eq_true rfl) 1 rfl ?_
  refine wp_aload_n (pc' := 1) dX7_readsSink_0 rfl rfl ⟨_, rfl⟩ ?_
  refine wp_get (pc' := 4) (o := 25) dX7_readsSink_1 rfl flX7_111 (by decide) rfl rfl ?_
  refine wp_top ((show M.1 25 15 = (if q_t D = true then nI (q_s D) else -9) from hC.2.2.2.1)) ?_
  refine wp_bipush (pc' := 6) (-9) dX7_readsSink_4 rfl (by decide) ?_
  refine wp_icmp_eq (pc' := 9) 11 dX7_readsSink_6 rfl (by decide) (fun h6 => ?_) (fun h6 => ?_)
  · have ht : ¬ q_t D = true := fun z => by rw [if_pos z] at h6; exact nI_ne9 (by have := hD.2.2.1; omega) h6
    refine wp_aload_n (pc' := 12) dX7_readsSink_11 rfl rfl ⟨_, rfl⟩ ?_
    refine wp_bipush (pc' := 14) 9 dX7_readsSink_12 rfl (by decide) ?_
    refine wp_top ((show (9 : Int32) = nI 10 - 1 by decide)) ?_
    refine wp_sVI (μ' := mX7_number) (pc' := 17) (o := 25) dX7_readsSink_14 rfl mlX7_108 cfX7_number ⟨(Nat.le_of_ble_eq_true rfl), (Nat.le_of_ble_eq_true rfl)⟩ (sm_number hT he h2 (b := 10) (by decide)) (by decide) rfl rfl rfl rfl rfl (Nat.le_of_ble_eq_true rfl) (fun x m hm => ?_)
    obtain ⟨⟨f, rfl, hf, f21, f19⟩, hx⟩ := hm
    refine wp_ist1 (pc' := 18) dX7_readsSink_17 rfl (by decide) rfl ?_
    refine wp_aload_n (pc' := 19) dX7_readsSink_18 rfl rfl ⟨_, rfl⟩ ?_
    refine wp_iload_n (pc' := 20) dX7_readsSink_19 rfl rfl ?_
    refine wp_put (pc' := 23) (o := 25) dX7_readsSink_20 rfl fpX7_111 (by decide) rfl (Nat.le_of_ble_eq_true rfl) rfl ?_
    refine wp_iload_n (pc' := 24) dX7_readsSink_23 rfl rfl ?_
    refine wp_bipush (pc' := 26) (-9) dX7_readsSink_24 rfl (by decide) ?_
    refine wp_icmp_eq (pc' := 29) 33 dX7_readsSink_26 rfl (by decide) (fun h26 => ?_) (fun h26 => ?_)
    · refine wp_iconst (pc' := 34) 0 dX7_readsSink_33 rfl (by decide) ?_
      refine wp_iretz dX7_readsSink_34 rfl rfl ?_
      exact ⟨_, rfl, ((FrM.refl M).set hf).trans ⟨rfl, fun a h25 _ _ => if_neg h25, fun k hk => if_neg (by omega)⟩, (by rw [snkF, if_neg ht, if_pos (fun z => by rw [if_pos z] at hx; exact nI_ne9 (by have := nu_le he z.1; omega) (hx.symm.trans h26))]; exact ⟨rfl, f21⟩)⟩
    · refine wp_iconst (pc' := 30) 1 dX7_readsSink_29 rfl (by decide) ?_
      refine wp_goto 34 dX7_readsSink_30 (by decide) ?_
      refine wp_iretz dX7_readsSink_34 rfl rfl ?_
      have hb1 : nuB t tb 10 e0 := Classical.byContradiction fun z => h26 (hx.trans (if_neg z))
      rw [if_pos hb1] at hx
      subst hx
      refine ⟨_, rfl, ((FrM.refl M).set hf).trans ⟨rfl, fun a h25 _ _ => if_neg h25, fun k hk => if_neg (by omega)⟩, ?_⟩
      rw [snkF, if_neg ht, if_neg (fun z => z hb1)]
      obtain ⟨c1, c2, c3, c4, c5, c6⟩ := dm_set hC hf
      exact ⟨rfl, ⟨c1, c2, c3, rfl, c5, c6⟩, f19⟩
  · refine wp_iconst (pc' := 10) 0 dX7_readsSink_9 rfl (by decide) ?_
    refine wp_iretz dX7_readsSink_10 rfl rfl ?_
    exact ⟨_, rfl, FrM.refl _, (by rw [snkF, if_pos (Classical.byContradiction fun z => h6 (if_neg z))]; exact ⟨rfl, h1⟩)⟩
theorem vb_cases (S E : Nat) (o : Int32) : (vbV tb S E o = 0 ∧ wdF tb S E o 0 = true) ∨ (vbV tb S E o = 1 ∧ ¬ wdF tb S E o 0 = true ∧ wdF tb S E o 1 = true) ∨ (vbV tb S E o = 2 ∧ ¬ wdF tb S E o 0 = true ∧ ¬ wdF tb S E o 1 = true ∧ wdF tb S E o 2 = true) ∨ (vbV tb S E o = -9 ∧ ¬ wdF tb S E o 0 = true ∧ ¬ wdF tb S E o 1 = true ∧ ¬ wdF tb S E o 2 = true) := by
  unfold vbV
  by_cases h0 : wdF tb S E o 0 = true
  · rw [if_pos h0]; exact Or.inl ⟨rfl, h0⟩
  · rw [if_neg h0]
    by_cases h1 : wdF tb S E o 1 = true
    · rw [if_pos h1]; exact Or.inr (Or.inl ⟨rfl, h0, h1⟩)
    · rw [if_neg h1]
      by_cases h2 : wdF tb S E o 2 = true
      · rw [if_pos h2]; exact Or.inr (Or.inr (Or.inl ⟨rfl, h0, h1, h2⟩))
      · rw [if_neg h2]; exact Or.inr (Or.inr (Or.inr ⟨rfl, h0, h1, h2⟩))
def InM (t : Nat) (m : Mem) (x : Int32) : RzS → Prop
  | .inl f => f ≤ t ∧ x = -9 ∧ m.1 25 21 = nI f
  | .inr q => q.2 ≤ t ∧ x = nI q.2 ∧ DM m q.1 ∧ DOK q.1
/-- the token at p has been read -/
def TkM (M : Mem) (t : Nat) (tb : Nat → Int32) (p : Nat) : Prop := M.1 25 21 = nI (tkS t tb p) ∧ M.1 25 19 = nI (tkE t tb p) ∧ M.1 25 20 = tkO t tb p ∧ M.1 25 22 = nI (tkE t tb p - tkS t tb p)
theorem lpm_reads84 {M0 : Mem} {items e : Nat} {r : RzS} {x : Int32} {a2 a3 : Option Value} {Q : Option Value → Mem → Prop} (hF : FrM M0 M) (hT : TXM M t tb) (hr : RokF t e r) (hO : OuM M x r)
    (Kl : ∀ f m, aftF t tb r = .inl f → FrM M0 m → m.1 25 21 = nI f → Q (some (.int (-9))) m)
    (Kr : ∀ q m, aftF t tb r = .inr q → FrM M0 m → TXM m t tb → DM m q.1 → TkM m t tb q.2 → wp g mX7_reads 32 [some (ob g 25), some (.int (nI (items + 1))), none, none] [] m Q) : wp g mX7_reads 84 [some (ob g 25), some (.int (nI items)), a2, a3] [.int x] M Q := by
  refine wp_less4 ?_
  match r, hr, hO with
  | .inl f, hr, hO =>
    obtain ⟨rfl, hs⟩ := hO
    refine wp_ist3 (pc' := 85) dX7_reads_84 rfl (by decide) rfl ?_
    refine wp_iload_n (pc' := 86) dX7_reads_85 rfl rfl ?_
    refine wp_if_ne (pc' := 89) 92 dX7_reads_86 rfl (by decide) (fun hh => absurd hh (by decide)) (fun _ => ?_)
    refine wp_bipush (pc' := 91) (-9) dX7_reads_89 rfl (by decide) ?_
    refine wp_ireti dX7_reads_91 rfl ?_
    exact Kl f _ rfl hF hs
  | .inr q, hr, hO =>
    obtain ⟨rfl, hC, hb⟩ := hO
    obtain ⟨r1, r2, r3⟩ := hr
    obtain ⟨l1, l2⟩ := tk_S (tb := tb) r3
    obtain ⟨l3, l4, l5⟩ := tk_E (tb := tb) r3
    refine wp_ist3 (pc' := 85) dX7_reads_84 rfl (by decide) rfl ?_
    refine wp_iload_n (pc' := 86) dX7_reads_85 rfl rfl ?_
    refine wp_if_ne (pc' := 89) 92 dX7_reads_86 rfl (by decide) (fun _ => ?_) (fun hh => absurd hh (by decide))
    refine wp_aload_n (pc' := 93) dX7_reads_92 rfl rfl ⟨_, rfl⟩ ?_
    refine wp_sVV (μ' := mX7_token) (pc' := 96) (o := 25) dX7_reads_93 rfl mlX7_96 cfX7_token ⟨(Nat.le_of_ble_eq_true rfl), (Nat.le_of_ble_eq_true rfl)⟩ (sm_token hT r3 hb) (by decide) rfl rfl rfl rfl rfl (Nat.le_of_ble_eq_true rfl) (fun m hm => ?_)
    obtain ⟨f, rfl, hf, f21, f19, f20, f22⟩ := hm
    refine wp_aload_n (pc' := 97) dX7_reads_96 rfl rfl ⟨_, rfl⟩ ?_
    refine wp_get (pc' := 100) (o := 25) dX7_reads_97 rfl flX7_82 (by decide) rfl rfl ?_
    refine wp_top ((show f 20 = tkO t tb q.2 from f20)) ?_
    refine wp_iconst (pc' := 101) 3 dX7_reads_100 rfl (by decide) ?_
    refine wp_icmp_eq (pc' := 104) 107 dX7_reads_101 rfl (by decide) (fun h101 => ?_) (fun h101 => ?_)
    · refine wp_inc1 (pc' := 110) (nI (items + 1)) dX7_reads_107 rfl (by decide) rfl (nI_1 items) ?_
      refine wp_aload_n (pc' := 111) dX7_reads_110 rfl rfl ⟨_, rfl⟩ ?_
      refine wp_sVV (μ' := mX7_token) (pc' := 114) (o := 25) dX7_reads_111 rfl mlX7_96 cfX7_token ⟨(Nat.le_of_ble_eq_true rfl), (Nat.le_of_ble_eq_true rfl)⟩ (sm_token (M := setO M 25 f) (txm_s hT hf) l4 f19) (by decide) rfl rfl rfl rfl rfl (Nat.le_of_ble_eq_true rfl) (fun m2 hm2 => ?_)
      obtain ⟨f2_, rfl, hg, g21, g19, g20, g22⟩ := hm2
      refine wp_goto 32 dX7_reads_114 (by decide) ?_
      exact wp_less4 (Kr (q.1, tkE t tb q.2) _ (if_pos h101) ((hF.set hf).set hg) (txm_s (txm_s hT hf) hg) (dm_set (dm_set hC hf) hg) ⟨g21, g19, g20, g22⟩)
    · refine wp_bipush (pc' := 106) (-9) dX7_reads_104 rfl (by decide) ?_
      refine wp_ireti dX7_reads_106 rfl ?_
      exact Kl (tkS t tb q.2) _ (if_neg h101) (hF.set hf) f21
theorem lpm_reads {M0 : Mem} : ∀ (n : Nat) (D : TolD) (p items : Nat) (M : Mem), t < p + n → items ≤ p → p ≤ t → FrM M0 M → TXM M t tb → DOK D → DM M D → TkM M t tb p → wp g mX7_reads 32 [some (ob g 25), some (.int (nI items)), none, none] [] M (fun q m => ∃ x : Int32, q = some (.int x) ∧ FrM M0 m ∧ InM t m x (rdsF t tb n D p items)) := by
  intro n
  induction n with
  | zero => intro D p items M h1 h2 h3; omega
  | succ n ih =>
    intro D p items M hpn hip hp hF hT hD hC hk3
    have h3 := hT.1
    obtain ⟨k1, k2⟩ := tk_S (tb := tb) hp
    obtain ⟨k3, k4, k5⟩ := tk_E (tb := tb) hp
    refine wp_aload_n (pc' := 33) dX7_reads_32 rfl rfl ⟨_, rfl⟩ ?_
    refine wp_get (pc' := 36) (o := 25) dX7_reads_33 rfl flX7_82 (by decide) rfl rfl ?_
    refine wp_top ((show M.1 25 20 = tkO t tb p from hk3.2.2.1)) ?_
    refine wp_if_eq (pc' := 39) 117 dX7_reads_36 rfl (by decide) (fun h36 => ?_) (fun h36 => ?_)
    · refine wp_iload_n (pc' := 118) dX7_reads_117 rfl rfl ?_
      refine wp_ireti dX7_reads_118 rfl ?_
      refine ⟨_, rfl, hF, ?_⟩
      rw [rds_0 h36]
      exact ⟨by show items ≤ t; omega, rfl, hC, hD⟩
    · have hk := knd_ok hD hp h36
      have hi := itm_ok hD hp h36
      have KL : ∀ f m, itmF t tb D p = .inl f → FrM M0 m → m.1 25 21 = nI f → (fun (q : Option Value) (m : Mem) => ∃ x : Int32, q = some (.int x) ∧ FrM M0 m ∧ InM t m x (rdsF t tb (n + 1) D p items)) (some (Value.int (-9))) m := fun f m z1 z2 z3 => by
        refine ⟨_, rfl, z2, ?_⟩
        rw [rds_l h36 z1]
        rw [z1] at hi
        exact ⟨hi, rfl, z3⟩
      have KR : ∀ q m, itmF t tb D p = .inr q → FrM M0 m → TXM m t tb → DM m q.1 → TkM m t tb q.2 → wp g mX7_reads 32 [some (ob g 25), some (.int (nI (items + 1))), none, none] [] m (fun q m => ∃ x : Int32, q = some (.int x) ∧ FrM M0 m ∧ InM t m x (rdsF t tb (n + 1) D p items)) := fun q m z1 z2 z3 z4 z5 => by
        rw [rds_r h36 z1]
        rw [z1] at hi
        obtain ⟨i1, i2, i3⟩ := hi
        exact ih q.1 q.2 (items + 1) m (by omega) (by omega) i3 z2 z3 i1 z4 z5
      rcases vb_cases (tb := tb) (tkS t tb p) (tkE t tb p) (tkO t tb p) with ⟨hv, w0⟩ | ⟨hv, w0, w1⟩ | ⟨hv, w0, w1, w2⟩ | ⟨hv, w0, w1, w2⟩
      · refine wp_aload_n (pc' := 40) dX7_reads_39 rfl rfl ⟨_, rfl⟩ ?_
        refine wp_cVI (μ' := mX7_verb) (pc' := 43) (o := 25) dX7_reads_40 rfl mlX7_114 cfX7_verb ⟨(Nat.le_of_ble_eq_true rfl), (Nat.le_of_ble_eq_true rfl)⟩ (sm_verb hT hp hk3.2.2.1 hk3.1 hk3.2.2.2) (by decide) rfl rfl rfl rfl rfl (Nat.le_of_ble_eq_true rfl) ?_
        refine wp_top (hv) ?_
        refine wp_ist2 (pc' := 44) dX7_reads_43 rfl (by decide) rfl ?_
        refine wp_iload_n (pc' := 45) dX7_reads_44 rfl rfl ?_
        refine wp_if_ne (pc' := 48) 55 dX7_reads_45 rfl (by decide) (fun hh => absurd hh (by decide)) (fun _ => ?_)
        refine wp_aload_n (pc' := 49) dX7_reads_48 rfl rfl ⟨_, rfl⟩ ?_
        refine wp_sVI (μ' := mX7_readsRow) (pc' := 52) (o := 25) dX7_reads_49 rfl mlX7_118 cfX7_readsRow ⟨(Nat.le_of_ble_eq_true rfl), (Nat.le_of_ble_eq_true rfl)⟩ (sm_readsRow hT hD hC hk3.1 hk3.2.1 k4) (by decide) rfl rfl rfl rfl rfl (Nat.le_of_ble_eq_true rfl) (fun x m hm => ?_)
        refine wp_goto 84 dX7_reads_52 (by decide) ?_
        have e9 : kndF t tb D p = rowF t tb D (tkS t tb p) (tkE t tb p) := by rw [kndF, if_pos w0]
        rw [e9] at hk
        have e8 : itmF t tb D p = aftF t tb (rowF t tb D (tkS t tb p) (tkE t tb p)) := by rw [itmF, e9]
        rw [e8] at hi
        exact lpm_reads84 (hF.trans hm.1) (frM_T hm.1 hT) hk hm.2 (fun f m h1 h2 h3 => KL f m (e8.trans h1) h2 h3) (fun q m h1 h2 h3 h4 h5 => KR q m (e8.trans h1) h2 h3 h4 h5)
      · refine wp_aload_n (pc' := 40) dX7_reads_39 rfl rfl ⟨_, rfl⟩ ?_
        refine wp_cVI (μ' := mX7_verb) (pc' := 43) (o := 25) dX7_reads_40 rfl mlX7_114 cfX7_verb ⟨(Nat.le_of_ble_eq_true rfl), (Nat.le_of_ble_eq_true rfl)⟩ (sm_verb hT hp hk3.2.2.1 hk3.1 hk3.2.2.2) (by decide) rfl rfl rfl rfl rfl (Nat.le_of_ble_eq_true rfl) ?_
        refine wp_top (hv) ?_
        refine wp_ist2 (pc' := 44) dX7_reads_43 rfl (by decide) rfl ?_
        refine wp_iload_n (pc' := 45) dX7_reads_44 rfl rfl ?_
        refine wp_if_ne (pc' := 48) 55 dX7_reads_45 rfl (by decide) (fun _ => ?_) (fun hh => absurd hh (by decide))
        refine wp_iload_n (pc' := 56) dX7_reads_55 rfl rfl ?_
        refine wp_iconst (pc' := 57) 1 dX7_reads_56 rfl (by decide) ?_
        refine wp_icmp_ne (pc' := 60) 67 dX7_reads_57 rfl (by decide) (fun hh => absurd hh (by decide)) (fun _ => ?_)
        refine wp_aload_n (pc' := 61) dX7_reads_60 rfl rfl ⟨_, rfl⟩ ?_
        refine wp_sVI (μ' := mX7_readsWalker) (pc' := 64) (o := 25) dX7_reads_61 rfl mlX7_122 cfX7_readsWalker ⟨(Nat.le_of_ble_eq_true rfl), (Nat.le_of_ble_eq_true rfl)⟩ (sm_readsWalker hT hD hC hk3.1 hk3.2.1 k4) (by decide) rfl rfl rfl rfl rfl (Nat.le_of_ble_eq_true rfl) (fun x m hm => ?_)
        refine wp_goto 84 dX7_reads_64 (by decide) ?_
        have e9 : kndF t tb D p = walF t tb D (tkS t tb p) (tkE t tb p) := by rw [kndF, if_neg w0, if_pos w1]
        rw [e9] at hk
        have e8 : itmF t tb D p = aftF t tb (walF t tb D (tkS t tb p) (tkE t tb p)) := by rw [itmF, e9]
        rw [e8] at hi
        exact lpm_reads84 (hF.trans hm.1) (frM_T hm.1 hT) hk hm.2 (fun f m h1 h2 h3 => KL f m (e8.trans h1) h2 h3) (fun q m h1 h2 h3 h4 h5 => KR q m (e8.trans h1) h2 h3 h4 h5)
      · refine wp_aload_n (pc' := 40) dX7_reads_39 rfl rfl ⟨_, rfl⟩ ?_
        refine wp_cVI (μ' := mX7_verb) (pc' := 43) (o := 25) dX7_reads_40 rfl mlX7_114 cfX7_verb ⟨(Nat.le_of_ble_eq_true rfl), (Nat.le_of_ble_eq_true rfl)⟩ (sm_verb hT hp hk3.2.2.1 hk3.1 hk3.2.2.2) (by decide) rfl rfl rfl rfl rfl (Nat.le_of_ble_eq_true rfl) ?_
        refine wp_top (hv) ?_
        refine wp_ist2 (pc' := 44) dX7_reads_43 rfl (by decide) rfl ?_
        refine wp_iload_n (pc' := 45) dX7_reads_44 rfl rfl ?_
        refine wp_if_ne (pc' := 48) 55 dX7_reads_45 rfl (by decide) (fun _ => ?_) (fun hh => absurd hh (by decide))
        refine wp_iload_n (pc' := 56) dX7_reads_55 rfl rfl ?_
        refine wp_iconst (pc' := 57) 1 dX7_reads_56 rfl (by decide) ?_
        refine wp_icmp_ne (pc' := 60) 67 dX7_reads_57 rfl (by decide) (fun _ => ?_) (fun hh => absurd hh (by decide))
        refine wp_iload_n (pc' := 68) dX7_reads_67 rfl rfl ?_
        refine wp_iconst (pc' := 69) 2 dX7_reads_68 rfl (by decide) ?_
        refine wp_icmp_ne (pc' := 72) 83 dX7_reads_69 rfl (by decide) (fun hh => absurd hh (by decide)) (fun _ => ?_)
        refine wp_aload_n (pc' := 73) dX7_reads_72 rfl rfl ⟨_, rfl⟩ ?_
        refine wp_sVI (μ' := mX7_readsSink) (pc' := 76) (o := 25) dX7_reads_73 rfl mlX7_125 cfX7_readsSink ⟨(Nat.le_of_ble_eq_true rfl), (Nat.le_of_ble_eq_true rfl)⟩ (sm_readsSink hT hD hC hk3.1 hk3.2.1 k4) (by decide) rfl rfl rfl rfl rfl (Nat.le_of_ble_eq_true rfl) (fun x m hm => ?_)
        refine wp_if_eq (pc' := 79) 83 dX7_reads_76 rfl (by decide) (fun h76 => ?_) (fun h76 => ?_)
        · refine wp_iconst (pc' := 84) 0 dX7_reads_83 rfl (by decide) ?_
          have e9 : kndF t tb D p = snkF t tb D (tkS t tb p) (tkE t tb p) := by rw [kndF, if_neg w0, if_neg w1, if_pos w2]
          rw [e9] at hk
          have e8 : itmF t tb D p = aftF t tb (snkF t tb D (tkS t tb p) (tkE t tb p)) := by rw [itmF, e9]
          rw [e8] at hi
          exact lpm_reads84 (hF.trans hm.1) (frM_T hm.1 hT) hk (by rw [← h76]; exact hm.2) (fun f m h1 h2 h3 => KL f m (e8.trans h1) h2 h3) (fun q m h1 h2 h3 h4 h5 => KR q m (e8.trans h1) h2 h3 h4 h5)
        · refine wp_iconst (pc' := 80) 1 dX7_reads_79 rfl (by decide) ?_
          refine wp_goto 84 dX7_reads_80 (by decide) ?_
          have e9 : kndF t tb D p = snkF t tb D (tkS t tb p) (tkE t tb p) := by rw [kndF, if_neg w0, if_neg w1, if_pos w2]
          rw [e9] at hk
          have e8 : itmF t tb D p = aftF t tb (snkF t tb D (tkS t tb p) (tkE t tb p)) := by rw [itmF, e9]
          rw [e8] at hi
          exact lpm_reads84 (hF.trans hm.1) (frM_T hm.1 hT) hk ((om_01 hm.2).elim (fun z => absurd z h76) (fun z => by rw [← z]; exact hm.2)) (fun f m h1 h2 h3 => KL f m (e8.trans h1) h2 h3) (fun q m h1 h2 h3 h4 h5 => KR q m (e8.trans h1) h2 h3 h4 h5)
      · refine wp_aload_n (pc' := 40) dX7_reads_39 rfl rfl ⟨_, rfl⟩ ?_
        refine wp_cVI (μ' := mX7_verb) (pc' := 43) (o := 25) dX7_reads_40 rfl mlX7_114 cfX7_verb ⟨(Nat.le_of_ble_eq_true rfl), (Nat.le_of_ble_eq_true rfl)⟩ (sm_verb hT hp hk3.2.2.1 hk3.1 hk3.2.2.2) (by decide) rfl rfl rfl rfl rfl (Nat.le_of_ble_eq_true rfl) ?_
        refine wp_top (hv) ?_
        refine wp_ist2 (pc' := 44) dX7_reads_43 rfl (by decide) rfl ?_
        refine wp_iload_n (pc' := 45) dX7_reads_44 rfl rfl ?_
        refine wp_if_ne (pc' := 48) 55 dX7_reads_45 rfl (by decide) (fun _ => ?_) (fun hh => absurd hh (by decide))
        refine wp_iload_n (pc' := 56) dX7_reads_55 rfl rfl ?_
        refine wp_iconst (pc' := 57) 1 dX7_reads_56 rfl (by decide) ?_
        refine wp_icmp_ne (pc' := 60) 67 dX7_reads_57 rfl (by decide) (fun _ => ?_) (fun hh => absurd hh (by decide))
        refine wp_iload_n (pc' := 68) dX7_reads_67 rfl rfl ?_
        refine wp_iconst (pc' := 69) 2 dX7_reads_68 rfl (by decide) ?_
        refine wp_icmp_ne (pc' := 72) 83 dX7_reads_69 rfl (by decide) (fun _ => ?_) (fun hh => absurd hh (by decide))
        refine wp_iconst (pc' := 84) 0 dX7_reads_83 rfl (by decide) ?_
        have e9 : kndF t tb D p = .inl (tkS t tb p) := by rw [kndF, if_neg w0, if_neg w1, if_neg w2]
        rw [e9] at hk
        have e8 : itmF t tb D p = aftF t tb (.inl (tkS t tb p)) := by rw [itmF, e9]
        rw [e8] at hi
        exact lpm_reads84 (hF) (hT) hk ⟨rfl, hk3.1⟩ (fun f m h1 h2 h3 => KL f m (e8.trans h1) h2 h3) (fun q m h1 h2 h3 h4 h5 => KR q m (e8.trans h1) h2 h3 h4 h5)
theorem sm_reads (hT : TXM M t tb) : SI g mX7_reads [ob g 25] M (fun x m => FrM M m ∧ InM t m x (rdsF t tb (t + 1) q_0 0 0)) := by
  refine spec_of_wp (ls := [some (ob g 25), none, none, none]) rfl (Nat.le_of_ble_eq_true rfl) 3 rfl ?_
  refine wp_aload_n (pc' := 1) dX7_reads_0 rfl rfl ⟨_, rfl⟩ ?_
  refine wp_iconst (pc' := 2) 0 dX7_reads_1 rfl (by decide) ?_
  refine wp_put (pc' := 5) (o := 25) dX7_reads_2 rfl fpX7_69 (by decide) rfl (Nat.le_of_ble_eq_true rfl) rfl ?_
  refine wp_aload_n (pc' := 6) dX7_reads_5 rfl rfl ⟨_, rfl⟩ ?_
  refine wp_iconst (pc' := 7) 0 dX7_reads_6 rfl (by decide) ?_
  refine wp_put (pc' := 10) (o := 25) dX7_reads_7 rfl fpX7_105 (by decide) rfl (Nat.le_of_ble_eq_true rfl) rfl ?_
  refine wp_aload_n (pc' := 11) dX7_reads_10 rfl rfl ⟨_, rfl⟩ ?_
  refine wp_iconst (pc' := 12) 0 dX7_reads_11 rfl (by decide) ?_
  refine wp_put (pc' := 15) (o := 25) dX7_reads_12 rfl fpX7_99 (by decide) rfl (Nat.le_of_ble_eq_true rfl) rfl ?_
  refine wp_aload_n (pc' := 16) dX7_reads_15 rfl rfl ⟨_, rfl⟩ ?_
  refine wp_iconst (pc' := 17) 0 dX7_reads_16 rfl (by decide) ?_
  refine wp_put (pc' := 20) (o := 25) dX7_reads_17 rfl fpX7_102 (by decide) rfl (Nat.le_of_ble_eq_true rfl) rfl ?_
  refine wp_aload_n (pc' := 21) dX7_reads_20 rfl rfl ⟨_, rfl⟩ ?_
  refine wp_bipush (pc' := 23) (-9) dX7_reads_21 rfl (by decide) ?_
  refine wp_put (pc' := 26) (o := 25) dX7_reads_23 rfl fpX7_111 (by decide) rfl (Nat.le_of_ble_eq_true rfl) rfl ?_
  refine wp_iconst (pc' := 27) 0 dX7_reads_26 rfl (by decide) ?_
  refine wp_ist1 (pc' := 28) dX7_reads_27 rfl (by decide) rfl ?_
  refine wp_aload_n (pc' := 29) dX7_reads_28 rfl rfl ⟨_, rfl⟩ ?_
  refine wp_sVV (μ' := mX7_token) (pc' := 32) (o := 25) dX7_reads_29 rfl mlX7_96 cfX7_token ⟨(Nat.le_of_ble_eq_true rfl), (Nat.le_of_ble_eq_true rfl)⟩ (sm_token (M := upI (upI (upI (upI (upI M 25 19 0) 25 12 0) 25 13 0) 25 14 0) 25 15 (-9)) (p := 0) hT (Nat.zero_le t) rfl) (by decide) rfl rfl rfl rfl rfl (Nat.le_of_ble_eq_true rfl) (fun m hm => ?_)
  obtain ⟨f, rfl, hf, f21, f19, f20, f22⟩ := hm
  have hF : FrM M (upI (upI (upI (upI (upI M 25 19 0) 25 12 0) 25 13 0) 25 14 0) 25 15 (-9)) := ⟨rfl, fun a h25 _ _ => by simp only [upI, if_neg h25], fun k hk => (((((if_neg (by omega)).trans (if_neg (by omega))).trans (if_neg (by omega))).trans (if_neg (by omega))).trans (if_neg (by omega)))⟩
  have hT2 : TXM (upI (upI (upI (upI (upI M 25 19 0) 25 12 0) 25 13 0) 25 14 0) 25 15 (-9)) t tb := hT
  have hC : DM (upI (upI (upI (upI (upI M 25 19 0) 25 12 0) 25 13 0) 25 14 0) 25 15 (-9)) q_0 := ⟨rfl, rfl, rfl, rfl, fun c hc => absurd hc (Nat.not_lt_zero c), fun j hj => absurd hj (Nat.not_lt_zero j)⟩
  exact lpm_reads (t + 1) q_0 0 0 _ (by omega) (Nat.le_refl 0) (Nat.zero_le t) (hF.set hf) (txm_s hT2 hf) dok_0 (dm_set hC hf) ⟨f21, f19, f20, f22⟩
end MR
