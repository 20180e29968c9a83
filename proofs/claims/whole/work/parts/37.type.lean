/-! ===== type ===== -/
theorem s64_l : ∀ n, n < 8 → ((8 * nI n).toInt64 &&& 63).toBitVec.smod 64 = BitVec.ofNat 64 (8 * n) := by decide +kernel
theorem s64_u : ∀ n, n < 8 → (((8 * nI n).toInt64.toUInt64 &&& Int64.toUInt64 63).toBitVec % 64).toNat = 8 * n := by decide +kernel
theorem m255 : ∀ i, i < 32 → (255 : Int64).toBitVec.getLsbD i = (255 : Int32).toBitVec.getLsbD i := by decide +kernel
theorem m255' : ∀ i, i < 32 → (255 : Int32).toBitVec.getLsbD i = decide (i < 8) := by decide +kernel
theorem byte_eq (v : Int64) {n : Nat} (hn : n < 8) : bM v n = bOf v n := by
  refine b_ext fun i hi => ?_
  unfold bM bOf bt
  rw [Int64.toBitVec_toInt32, BitVec.getLsbD_signExtend, Int64.toBitVec_and, BitVec.getLsbD_and, Int64.toBitVec_shiftRight, s64_l n hn, Int32.toBitVec_and, BitVec.getLsbD_and, Int64.toBitVec_toInt32, BitVec.getLsbD_signExtend, m255 i hi, m255' i hi]
  have e : (v.toUInt64 >>> ((8 * nI n).toInt64.toUInt64 &&& Int64.toUInt64 63)).toInt64.toBitVec = v.toBitVec >>> (8 * n) := by
    show (v.toUInt64 >>> ((8 * nI n).toInt64.toUInt64 &&& Int64.toUInt64 63)).toBitVec = _
    rw [UInt64.toBitVec_shiftRight]
    show v.toBitVec >>> (((8 * nI n).toInt64.toUInt64 &&& Int64.toUInt64 63).toBitVec % 64).toNat = _
    rw [s64_u n hn]
  rw [e, BitVec.getLsbD_ushiftRight, BitVec.sshiftRight_eq', BitVec.getLsbD_sshiftRight]
  have e2 : (BitVec.ofNat 64 (8 * n)).toNat = 8 * n := by rw [BitVec.toNat_ofNat, Nat.mod_eq_of_lt (by omega)]
  rw [e2]
  by_cases h8 : i < 8
  · have h1 : i < 64 := by omega
    have h2 : 8 * n + i < 64 := by omega
    simp [h8, hi, h1, h2]
  · simp [h8]
    intro _ z
    omega
theorem add_eq {M : Mem} {t : Nat} {b : Int32} (h : M.1 2 1 = nI t) (ht : t < 300) : addM M b = upI (upI M 3 t b) 2 1 (nI (t + 1)) := by
  unfold addM
  rw [h]
  have h1 : ¬ (300 : Int32) ≤ nI t := show ¬ nI 300 ≤ nI t from nI_ge ht (by decide)
  have h2 : ¬ (nI t < 0 ∨ Int32.ofNat 300 ≤ nI t) := by
    rintro (z | z)
    · exact nI_pos (by omega) z
    · exact h1 z
  rw [if_neg h1]
  unfold putM
  rw [if_neg h2, nI_clamp (by omega)]
  have e : (upI M 3 t b).1 2 1 = nI t := h
  rw [e, nI_1]
theorem tyM_ok (v : Int64) : ∀ n (M : Mem) t, M.1 2 1 = nI t → t + n ≤ 300 → ∃ f2 f3, tyM v n M = setO (setO M 2 f2) 3 f3 ∧ f2 1 = nI (t + n) ∧ (∀ i, i < t → f3 i = M.1 3 i) ∧ ∀ i, i < n → f3 (t + i) = bOf v (n - 1 - i) := by
  intro n
  induction n with
  | zero =>
    intro M t h _
    refine ⟨M.1 2, M.1 3, ?_, h, fun _ _ => rfl, fun i hi => absurd hi (by omega)⟩
    show M = _
    refine Prod.ext (funext fun a => ?_) rfl
    show M.1 a = if a = 3 then M.1 3 else if a = 2 then M.1 2 else M.1 a
    by_cases h3 : a = 3
    · rw [if_pos h3, h3]
    · rw [if_neg h3]
      by_cases h2 : a = 2
      · rw [if_pos h2, h2]
      · rw [if_neg h2]
  | succ n ih =>
    intro M t h ht
    obtain ⟨f2, f3, e1, e2, e3, e4⟩ := ih (addM M (bOf v n)) (t + 1) (by rw [add_eq h (by omega)]; rfl) (by omega)
    refine ⟨f2, f3, ?_, by rw [e2, show t + 1 + n = t + (n + 1) by omega], fun i hi => ?_, fun i hi => ?_⟩
    · show tyM v n (addM M (bOf v n)) = _
      rw [e1, add_eq h (by omega)]
      refine Prod.ext (funext fun a => ?_) rfl
      show (if a = 3 then f3 else if a = 2 then f2 else if a = 2 then _ else if a = 3 then _ else M.1 a) = if a = 3 then f3 else if a = 2 then f2 else M.1 a
      by_cases h3 : a = 3
      · simp [h3]
      · by_cases h2 : a = 2
        · simp [h2]
        · simp [h2, h3]
    · rw [e3 i (by omega), add_eq h (by omega)]
      show upd (M.1 3) t _ i = M.1 3 i
      unfold upd
      rw [if_neg (by omega)]
    · match i with
      | 0 =>
        rw [e3 (t + 0) (by omega), add_eq h (by omega)]
        show upd (M.1 3) t _ (t + 0) = _
        unfold upd
        rw [if_pos (Nat.add_zero t), show n + 1 - 1 - 0 = n by omega]
      | i + 1 =>
        have := e4 i (by omega)
        rw [show t + 1 + i = t + (i + 1) by omega] at this
        rw [this, show n - 1 - i = n + 1 - 1 - (i + 1) by omega]
theorem mtyM_ok (v : Int64) : ∀ n t (M : Mem), M.1 25 3 = nI t → t + n ≤ 300 → ∃ f25 f26, mtyM v n t M = setO (setO M 25 f25) 26 f26 ∧ f25 3 = nI (t + n) ∧ (∀ k, ¬ k = 3 → f25 k = M.1 25 k) ∧ (∀ i, i < t → f26 i = M.1 26 i) ∧ ∀ i, i < n → f26 (t + i) = bM v (n - 1 - i) := by
  intro n
  induction n with
  | zero =>
    intro t M h _
    refine ⟨M.1 25, M.1 26, ?_, h, fun _ _ => rfl, fun _ _ => rfl, fun i hi => absurd hi (by omega)⟩
    show M = _
    refine Prod.ext (funext fun a => ?_) rfl
    show M.1 a = if a = 26 then M.1 26 else if a = 25 then M.1 25 else M.1 a
    by_cases h3 : a = 26
    · rw [if_pos h3, h3]
    · rw [if_neg h3]
      by_cases h2 : a = 25
      · rw [if_pos h2, h2]
      · rw [if_neg h2]
  | succ n ih =>
    intro t M h ht
    obtain ⟨f2, f3, e1, e2, e5, e3, e4⟩ := ih (t + 1) (upI (upI M 26 t (bM v n)) 25 3 (nI t + 1)) (by rw [nI_1]; rfl) (by omega)
    refine ⟨f2, f3, ?_, by rw [e2, show t + 1 + n = t + (n + 1) by omega], fun k hk => ?_, fun i hi => ?_, fun i hi => ?_⟩
    · show mtyM v n (t + 1) (upI (upI M 26 t (bM v n)) 25 3 (nI t + 1)) = _
      rw [e1]
      refine Prod.ext (funext fun a => ?_) rfl
      show (if a = 26 then f3 else if a = 25 then f2 else if a = 25 then _ else if a = 26 then _ else M.1 a) = if a = 26 then f3 else if a = 25 then f2 else M.1 a
      by_cases h3 : a = 26
      · simp [h3]
      · by_cases h2 : a = 25
        · simp [h2]
        · simp [h2, h3]
    · rw [e5 k hk]
      show upd (M.1 25) 3 _ k = M.1 25 k
      unfold upd
      rw [if_neg hk]
    · rw [e3 i (by omega)]
      show upd (M.1 26) t _ i = M.1 26 i
      unfold upd
      rw [if_neg (by omega)]
    · match i with
      | 0 =>
        rw [e3 (t + 0) (by omega)]
        show upd (M.1 26) t _ (t + 0) = _
        unfold upd
        rw [if_pos (Nat.add_zero t), show n + 1 - 1 - 0 = n by omega]
      | i + 1 =>
        have := e4 i (by omega)
        rw [show t + 1 + i = t + (i + 1) by omega] at this
        rw [this, show n - 1 - i = n + 1 - 1 - (i + 1) by omega]
theorem in_no {v lo hi : Int32} (h : v < lo ∨ hi < v) : inF v lo hi = 0 := if_pos h
theorem in_yes {v lo hi : Int32} (h : ¬ (v < lo ∨ hi < v)) : ¬ inF v lo hi = 0 := by unfold inF; rw [if_neg h]; decide
theorem p_type {g : GG} : ∀ (a : Int64) (b : Int32), PairI g Rel mX6_type mX7_type [.long a, .int b] := by
  intro a b M hM
  obtain ⟨w, h, W, sk, t, ea, eb, hr⟩ := hM
  have hR : Rel (th M) := ⟨w, h, W, sk, t, ea, eb, rel_th hr⟩
  obtain ⟨tle, c1, c2, c3⟩ := hr.2.2.2.2.1
  by_cases hb : b < 1 ∨ 8 < b
  · exact pair_ri (sp_type_bad hb) (nxt_ri (sm_type_bad (in_no hb)) rfl hR)
  · obtain ⟨k, rfl, hk1, hk2⟩ : ∃ k, b = nI k ∧ 1 ≤ k ∧ k ≤ 8 := by
      have h1 : (1 : Int32).toInt = 1 := by decide
      have h8 : (8 : Int32).toInt = 8 := by decide
      rw [Int32.lt_iff_toInt_lt, Int32.lt_iff_toInt_lt, h1, h8] at hb
      refine ⟨b.toInt.toNat, Int32.toInt_inj.mp (by rw [nI_toInt (by omega)]; omega), by omega, by omega⟩
    have hb1 : ¬ nI k < 1 := fun z => hb (Or.inl z)
    have hb2 : nI k ≤ 8 := show nI k ≤ nI 8 from nI_le hk2 (by decide)
    by_cases hf : M.1 2 1 + nI k ≤ 300
    · have hf' : M.1 25 3 + nI k ≤ 300 := by rw [c2, ← c1]; exact hf
      have htk : t + k ≤ 300 := by
        rw [c1, nI_add] at hf
        exact (nI_leI (a := t + k) (b := 300) (by omega) (by omega)).mp hf
      obtain ⟨f2, f3, e1, e2, e3, e4⟩ := tyM_ok a k M t c1 htk
      have hm1 : (tyM a k M).1 25 3 = nI t := by rw [e1]; exact c2
      obtain ⟨f25, f26, m1, m2, m5, m3, m4⟩ := mtyM_ok a k t (th (tyM a k M)) hm1 htk
      refine pair_ri (sp_type_ok (by omega) hb1 hb2 hf) (nxt_ri (sm_type_ok (in_yes hb) (by rw [hm1, ← c2]; exact hf') hm1 htk) ?_ ⟨w, h, W, sk, t + k, ea, eb, ?_⟩)
      · rw [e1]
        exact e2.symm
      · rw [m1]
        rw [e1] at m5 m3
        rw [e1]
        refine ⟨hr.1, hr.2.1, hr.2.2.1, ?_, ?_, hr.2.2.2.2.2⟩
        · obtain ⟨k1, k2, k3, k4⟩ := hr.2.2.2.1
          exact ⟨(m5 8 (by decide)).trans k1, (m5 9 (by decide)).trans k2, (m5 10 (by decide)).trans k3, (m5 11 (by decide)).trans k4⟩
        · refine ⟨htk, e2, m2, fun i hi => ?_⟩
          show f3 i = f26 i
          rcases Nat.lt_or_ge i t with h9 | h9
          · rw [e3 i h9, m3 i h9]
            exact c3 i h9
          · obtain ⟨j, rfl⟩ : ∃ j, i = t + j := ⟨i - t, by omega⟩
            rw [e4 j (by omega), m4 j (by omega), byte_eq a (by omega)]
    · exact pair_ri (sp_type_full hb1 hb2 hf) (nxt_ri (sm_type_full (in_yes hb) (by rw [c2, ← c1]; exact hf)) rfl hR)
