/-! ===== moor: both, and the pair ===== -/
theorem mesF_01 (w : Int32) : ∀ n j (f : Nat → Int32), mesF w n j f 0 = f 0 ∧ mesF w n j f 1 = f 1 := by
  intro n
  induction n with
  | zero => intro j f; exact ⟨rfl, rfl⟩
  | succ n ih =>
    intro j f
    simp only [mesF]
    obtain ⟨h1, h2⟩ := ih (j + 1) (upd (upd f 2 (f 2 ||| shl 1 (nI j * w))) 3 (f 3 ||| shl 1 (nI j * w + w - 1)))
    rw [h1, h2]
    exact ⟨rfl, rfl⟩
theorem mesF_cg (w : Int32) : ∀ n j (f k : Nat → Int32), f 2 = k 2 → f 3 = k 3 → mesF w n j f 2 = mesF w n j k 2 ∧ mesF w n j f 3 = mesF w n j k 3 := by
  intro n
  induction n with
  | zero => intro j f k h1 h2; exact ⟨h1, h2⟩
  | succ n ih =>
    intro j f k h1 h2
    simp only [mesF]
    refine ih (j + 1) _ _ ?_ ?_
    · show f 2 ||| _ = k 2 ||| _
      rw [h1]
    · show f 3 ||| _ = k 3 ||| _
      rw [h2]
theorem ways_of (M : Mem) (w h : Nat) : WaysR w h ((mesM M (nI w) h).1 11) := by
  have e : (mesM M (nI w) h).1 11 = mesF (nI w) h 0 (upd (upd (upd (upd (M.1 11) 0 (nI w)) 1 (shl 1 (nI w * nI h) - 1)) 2 0) 3 0) := rfl
  obtain ⟨a0, a1⟩ := mesF_01 (nI w) h 0 (upd (upd (upd (upd (M.1 11) 0 (nI w)) 1 (shl 1 (nI w * nI h) - 1)) 2 0) 3 0)
  obtain ⟨b0, b1⟩ := mesF_01 (nI w) h 0 (upd (upd (upd (upd (fun _ => 0) 0 (nI w)) 1 (shl 1 (nI w * nI h) - 1)) 2 0) 3 0)
  obtain ⟨c2, c3⟩ := mesF_cg (nI w) h 0 (upd (upd (upd (upd (M.1 11) 0 (nI w)) 1 (shl 1 (nI w * nI h) - 1)) 2 0) 3 0) (upd (upd (upd (upd (fun _ => 0) 0 (nI w)) 1 (shl 1 (nI w * nI h) - 1)) 2 0) 3 0) rfl rfl
  rw [e]
  exact ⟨a0, a1.trans b1.symm, c2, c3⟩
theorem tc_4 (M : Mem) : (toldCopyM M).1 4 0 = M.1 7 0 ∧ (toldCopyM M).1 4 1 = M.1 7 1 ∧ (toldCopyM M).1 4 2 = M.1 7 2 ∧ (toldCopyM M).1 4 3 = M.1 7 3 ∧ (toldCopyM M).1 4 4 = M.1 7 4 ∧ (toldCopyM M).1 4 5 = M.1 7 5 ∧ (toldCopyM M).1 4 6 = M.1 7 6 ∧ (toldCopyM M).1 4 7 = M.1 7 7 := ⟨rfl, rfl, rfl, rfl, rfl, rfl, rfl, rfl⟩
theorem tc_56 (M : Mem) : (toldCopyM M).1 5 = cpyF 4 (M.1 8) (M.1 5) ∧ (toldCopyM M).1 6 = cpyF 4 (M.1 9) (M.1 6) := ⟨rfl, rfl⟩
theorem tc_n (M : Mem) {a : Nat} (h4 : ¬ a = 4) (h5 : ¬ a = 5) (h6 : ¬ a = 6) : (toldCopyM M).1 a = M.1 a := by
  unfold toldCopyM
  simp only [setO, upI, if_neg h4, if_neg h5, if_neg h6]
def MoC (M m : Mem) (D : TolD) : Prop := (∀ a, 25 ≤ a → m.1 a = M.1 a) ∧ m.2 = M.2 ∧ m.1 2 1 = 0 ∧ ToldR (q_w D) (q_h D) (q_k D) (q_s D) (m.1 4) ∧ WaysR (q_w D) (q_h D) (m.1 11) ∧ GroR (q_w D * q_h D) (m.1 4 3) (m.1 4 4) (q_g D) ∧ (∀ k, k < q_k D → m.1 5 k = nI (q_a D k) ∧ m.1 6 k = nI (q_b D k)) ∧ m.1 13 0 = m.1 4 3 ∧ m.1 13 1 = m.1 4 4 ∧ (∀ c, c < 24 → m.1 14 c = (if bt (m.1 4 4) c = true then nI (q_s D) else 0) ∧ m.1 15 c = -9) ∧ (∀ k, k < 4 → m.1 16 k = 0) ∧ m.1 17 5 = 0 ∧ m.1 21 5 = 0
theorem moC_of {M m : Mem} {D : TolD} (hF : FrC M m) (hD : DOK D) (hC : DC m D) : MoC M (upI (upI (batM (mesM (toldCopyM (upI m 2 1 0)) (nI (q_w D)) (q_h D))) 17 5 0) 21 5 0) D := by
  obtain ⟨c1, c2, c3, c4, c5, c6, c7, c8⟩ := hC
  have hk := hD.2.1
  have t4 := tc_4 (upI m 2 1 0)
  have t5 := tc_56 (upI m 2 1 0)
  have hw := ways_of (toldCopyM (upI m 2 1 0)) (q_w D) (q_h D)
  generalize hM2 : toldCopyM (upI m 2 1 0) = M2 at t4 t5 hw
  have tn : ∀ a, ¬ a = 2 → ¬ a = 4 → ¬ a = 5 → ¬ a = 6 → M2.1 a = m.1 a := fun a h2 h4 h5 h6 => by
    rw [← hM2, tc_n _ h4 h5 h6]
    exact if_neg h2
  have t2 : M2.1 2 1 = 0 := by rw [← hM2, tc_n _ (by decide) (by decide) (by decide)]; rfl
  have tm : M2.2 = M.2 := by rw [← hF.1, ← hM2]; rfl
  obtain ⟨f13, f14, f15, f16, e1, e2, e3, e4, e5⟩ := bat_ok (mesM M2 (nI (q_w D)) (q_h D))
  rw [e1]
  obtain ⟨u0, u1, u2, u3, u4, u5, u6, u7⟩ := t4
  have v3 : M2.1 4 3 = m.1 7 3 := u3
  have v4 : M2.1 4 4 = m.1 7 4 := u4
  have v5 : M2.1 4 5 = nI (q_s D) := u5.trans c5
  refine ⟨fun a ha => ?_, tm, t2, ⟨u0.trans c1, u1.trans c2, u2.trans c3, v5, u7.trans c7⟩, hw, ?_, fun k hk2 => ?_, e2, e3, fun c hc => ?_, e5, rfl, rfl⟩
  · have e : M2.1 a = M.1 a := (tn a (by omega) (by omega) (by omega) (by omega)).trans (hF.2 a (by omega) (by omega) (by omega) (by omega))
    rw [← e]
    show (if a = 21 then _ else if a = 17 then _ else if a = 16 then _ else if a = 15 then _ else if a = 14 then _ else if a = 13 then _ else if a = 11 then _ else M2.1 a) = M2.1 a
    rw [if_neg (by omega), if_neg (by omega), if_neg (by omega), if_neg (by omega), if_neg (by omega), if_neg (by omega), if_neg (by omega)]
  · show GroR _ (M2.1 4 3) (M2.1 4 4) _
    rw [v3, v4]
    exact c4
  · show M2.1 5 k = _ ∧ M2.1 6 k = _
    rw [t5.1, t5.2, cpy_in k (by omega), cpy_in k (by omega)]
    exact c8 k hk2
  · obtain ⟨w1, w2⟩ := e4 c hc
    refine ⟨?_, w2⟩
    refine w1.trans ?_
    show (if bt (M2.1 4 4) c = true then M2.1 4 5 else 0) = (if bt (M2.1 4 4) c = true then nI (q_s D) else 0)
    rw [v5]
theorem f10_int {f : Nat} (hf : f ≤ 300) : (-10 - nI f : Int32) < 0 := by
  rw [ng_int, Int32.toInt_sub, nI_toInt (by omega), show (-10 : Int32).toInt = -10 by decide, Int.bmod_eq_of_le (by omega) (by omega)]
  omega
theorem in_ge {t : Nat} {m : Mem} {x : Int32} {r : RzS} (h : InR t m x r) (ht : t ≤ 300) (hx : 0 ≤ x) : ∃ q, r = .inr q ∧ q.2 ≤ t ∧ x = nI q.2 ∧ DC m q.1 ∧ DOK q.1 := by
  match r, h with
  | .inl f, h => exact absurd hx (by rw [h.2]; exact Int32.not_le.mpr (f10_int (by have := h.1; omega)))
  | .inr q, h => exact ⟨q, rfl, h⟩
theorem in_lt {t : Nat} {m : Mem} {x : Int32} {r : RzS} (h : InR t m x r) (ht : t ≤ 300) (hx : ¬ 0 ≤ x) : ∃ f, r = .inl f ∧ f ≤ t ∧ x = -10 - nI f := by
  match r, h with
  | .inl f, h => exact ⟨f, rfl, h⟩
  | .inr q, h => exact absurd (by rw [h.2.1]; exact nI_pos' (by have := h.1; omega)) hx
def MoR (t : Nat) (M m : Mem) (x : Int32) : RzS → Prop
  | .inl f => f ≤ t ∧ x = -10 - nI f ∧ FrC M m
  | .inr q => q.2 ≤ t ∧ x = nI q.2 ∧ DOK q.1 ∧ MoC M m q.1
section MOOR
variable {g : GG} {M : Mem} {t : Nat} {tb : Nat → Int32}
theorem sp_moor (hT : TXC M t tb) : SI g mX6_moor [ob g 0] M (fun x m => MoR t M m x (rdsF t tb (t + 1) q_0 0 0)) := by
  have h3 := hT.1
  refine spec_of_wp (ls := [some (ob g 0), none]) rfl (Nat.le_of_ble_eq_true rfl) 1 rfl ?_
  refine wp_aload_n (pc' := 1) dX6_moor_0 rfl rfl ⟨_, rfl⟩ ?_
  refine wp_get (pc' := 4) (o := 0) dX6_moor_1 rfl flX6_10 (by decide) rfl rfl ?_
  refine wp_aload_n (pc' := 5) dX6_moor_4 rfl rfl ⟨_, rfl⟩ ?_
  refine wp_get (pc' := 8) (o := 0) dX6_moor_5 rfl flX6_28 (by decide) rfl rfl ?_
  refine wp_sVI (μ' := mX2_readInto) (pc' := 11) (o := 1) dX6_moor_8 rfl mlX6_74 cfX2_readInto ⟨(Nat.le_of_ble_eq_true rfl), (Nat.le_of_ble_eq_true rfl)⟩ (sp_readInto hT) (by decide) rfl rfl rfl rfl rfl (Nat.le_of_ble_eq_true rfl) (fun x m hm => ?_)
  refine wp_ist1 (pc' := 12) dX6_moor_11 rfl (by decide) rfl ?_
  refine wp_iload_n (pc' := 13) dX6_moor_12 rfl rfl ?_
  refine wp_if_ge (pc' := 16) 18 dX6_moor_13 rfl (by decide) (fun h13 => ?_) (fun h13 => ?_)
  · obtain ⟨q, hr, z1, z2, hC, hD⟩ := in_ge hm.2 h3 h13
    have hB : isB ((upI m 2 1 0).1 7 6) := by
      rw [show (upI m 2 1 0).1 7 6 = (if q_t q.1 = true then 1 else 0) from hC.2.2.2.2.2.1]
      cases q_t q.1
      · exact ⟨rfl, rfl⟩
      · exact ⟨rfl, rfl⟩
    refine wp_aload_n (pc' := 19) dX6_moor_18 rfl rfl ⟨_, rfl⟩ ?_
    refine wp_get (pc' := 22) (o := 0) dX6_moor_19 rfl flX6_20 (by decide) rfl rfl ?_
    refine wp_cVI (μ' := mX3_empty) (pc' := 25) (o := 2) dX6_moor_22 rfl mlX6_70 cfX3_empty ⟨(Nat.le_of_ble_eq_true rfl), (Nat.le_of_ble_eq_true rfl)⟩ (sp_tempty) (by decide) rfl rfl rfl rfl rfl (Nat.le_of_ble_eq_true rfl) ?_
    refine wp_pop (pc' := 26) dX6_moor_25 rfl rfl ?_
    refine wp_aload_n (pc' := 27) dX6_moor_26 rfl rfl ⟨_, rfl⟩ ?_
    refine wp_get (pc' := 30) (o := 0) dX6_moor_27 rfl flX6_24 (by decide) rfl rfl ?_
    refine wp_aload_n (pc' := 31) dX6_moor_30 rfl rfl ⟨_, rfl⟩ ?_
    refine wp_get (pc' := 34) (o := 0) dX6_moor_31 rfl flX6_28 (by decide) rfl rfl ?_
    refine wp_sVV (μ' := mX4_copy) (pc' := 37) (o := 4) dX6_moor_34 rfl mlX6_78 cfX4_copy ⟨(Nat.le_of_ble_eq_true rfl), (Nat.le_of_ble_eq_true rfl)⟩ (show SV g mX4_copy [ob g 4, ob g 7] (upI m 2 1 0) (fun k => k = toldCopyM (upI m 2 1 0)) from sp_dcopy hB) (by decide) rfl rfl rfl rfl rfl (Nat.le_of_ble_eq_true rfl) (fun m2 hm2 => ?_)
    refine wp_aload_n (pc' := 38) dX6_moor_37 rfl rfl ⟨_, rfl⟩ ?_
    refine wp_get (pc' := 41) (o := 0) dX6_moor_38 rfl flX6_42 (by decide) rfl rfl ?_
    refine wp_aload_n (pc' := 42) dX6_moor_41 rfl rfl ⟨_, rfl⟩ ?_
    refine wp_get (pc' := 45) (o := 0) dX6_moor_42 rfl flX6_24 (by decide) rfl rfl ?_
    refine wp_get (pc' := 48) (o := 4) dX6_moor_45 rfl flX6_82 (by decide) rfl rfl ?_
    refine wp_top ((show m2.1 4 0 = nI (q_w q.1) by rw [hm2]; exact (tc_4 (upI m 2 1 0)).1.trans hC.1)) ?_
    refine wp_aload_n (pc' := 49) dX6_moor_48 rfl rfl ⟨_, rfl⟩ ?_
    refine wp_get (pc' := 52) (o := 0) dX6_moor_49 rfl flX6_24 (by decide) rfl rfl ?_
    refine wp_get (pc' := 55) (o := 4) dX6_moor_52 rfl flX6_85 (by decide) rfl rfl ?_
    refine wp_top ((show m2.1 4 1 = nI (q_h q.1) by rw [hm2]; exact (tc_4 (upI m 2 1 0)).2.1.trans hC.2.1)) ?_
    refine wp_sVV (μ' := mX5_measure) (pc' := 58) (o := 11) dX6_moor_55 rfl mlX6_88 cfX5_measure ⟨(Nat.le_of_ble_eq_true rfl), (Nat.le_of_ble_eq_true rfl)⟩ (show SV g mX5_measure [ob g 11, .int (nI (q_w q.1)), .int (nI (q_h q.1))] m2 (fun k => k = mesM m2 (nI (q_w q.1)) (q_h q.1)) from sp_measure (h := q_h q.1) (by have := (dok_h hD).1; omega)) (by decide) rfl rfl rfl rfl rfl (Nat.le_of_ble_eq_true rfl) (fun m3 hm3 => ?_)
    refine wp_aload_n (pc' := 59) dX6_moor_58 rfl rfl ⟨_, rfl⟩ ?_
    refine wp_get (pc' := 62) (o := 0) dX6_moor_59 rfl flX6_46 (by decide) rfl rfl ?_
    refine wp_aload_n (pc' := 63) dX6_moor_62 rfl rfl ⟨_, rfl⟩ ?_
    refine wp_get (pc' := 66) (o := 0) dX6_moor_63 rfl flX6_24 (by decide) rfl rfl ?_
    refine wp_sVV (μ' := mX0_beginAsTold) (pc' := 69) (o := 13) dX6_moor_66 rfl mlX6_94 cfX0_beginAsTold ⟨(Nat.le_of_ble_eq_true rfl), (Nat.le_of_ble_eq_true rfl)⟩ (show SV g mX0_beginAsTold [ob g 13, ob g 4] m3 (fun k => k = batM m3) from sp_beginAsTold) (by decide) rfl rfl rfl rfl rfl (Nat.le_of_ble_eq_true rfl) (fun m4 hm4 => ?_)
    refine wp_aload_n (pc' := 70) dX6_moor_69 rfl rfl ⟨_, rfl⟩ ?_
    refine wp_get (pc' := 73) (o := 0) dX6_moor_70 rfl flX6_50 (by decide) rfl rfl ?_
    refine wp_iconst (pc' := 74) 0 dX6_moor_73 rfl (by decide) ?_
    refine wp_putz (pc' := 77) (o := 17) dX6_moor_74 rfl fpX6_97 (by decide) rfl (Nat.le_of_ble_eq_true rfl) rfl rfl rfl ?_
    refine wp_aload_n (pc' := 78) dX6_moor_77 rfl rfl ⟨_, rfl⟩ ?_
    refine wp_get (pc' := 81) (o := 0) dX6_moor_78 rfl flX6_53 (by decide) rfl rfl ?_
    refine wp_iconst (pc' := 82) 0 dX6_moor_81 rfl (by decide) ?_
    refine wp_putz (pc' := 85) (o := 21) dX6_moor_82 rfl fpX6_97 (by decide) rfl (Nat.le_of_ble_eq_true rfl) rfl rfl rfl ?_
    refine wp_iload_n (pc' := 86) dX6_moor_85 rfl rfl ?_
    refine wp_ireti dX6_moor_86 rfl ?_
    refine ⟨_, rfl, ?_⟩
    rw [hr, hm4, hm3, hm2]
    exact ⟨z1, z2, hD, moC_of hm.1 hD hC⟩
  · refine wp_iload_n (pc' := 17) dX6_moor_16 rfl rfl ?_
    refine wp_ireti dX6_moor_17 rfl ?_
    obtain ⟨f, hr, z1, z2⟩ := in_lt hm.2 h3 h13
    refine ⟨_, rfl, ?_⟩
    rw [hr]
    exact ⟨z1, z2, hm.1⟩
def MoM (M m : Mem) (x : Int32) : RzS → Prop
  | .inl f => x = -10 - nI f ∧ FrM (th M) m
  | .inr q => x = nI q.2 ∧ m.2 = M.2 ∧ (∀ a, a < 25 → m.1 a = M.1 a) ∧ m.1 25 3 = 0 ∧ ModR (q_w q.1) (q_h q.1) (q_k q.1) (q_s q.1) (m.1 25) ∧ (∀ c, c < q_w q.1 * q_h q.1 → m.1 27 c = q_g q.1 c) ∧ (∀ k, k < q_k q.1 → m.1 29 (2 * k) = nI (q_a q.1 k) ∧ m.1 29 (2 * k + 1) = nI (q_b q.1 k)) ∧ m.1 33 0 = 0 ∧ m.1 33 1 = 0 ∧ (∀ c, c < q_w q.1 * q_h q.1 → m.1 31 c = m.1 27 c ∧ m.1 31 (24 + c) = (if m.1 27 c = 2 then nI (q_s q.1) else 0) ∧ m.1 31 (48 + c) = -9) ∧ ∀ k, k < 4 → m.1 31 (72 + k) = 0
theorem zb_0 : vp_nar .boolean 0 = 0 := by decide

theorem lpm_m27 {x : Int32} {Q : Option Value → Mem → Prop} (K : ∀ F : Nat → Int32, (∀ c, c < 24 → F c = M.1 28 c) → wp g mX7_moor 95 [some (ob g 25), some (.int x), none] [] (setO M 27 F) Q) : ∀ (n j : Nat), j + n = 24 → ∀ (F : Nat → Int32), (∀ c, c < j → F c = M.1 28 c) → wp g mX7_moor 71 [some (ob g 25), some (.int x), some (.int (nI j))] [] (setO M 27 F) Q := by
  intro n
  induction n with
  | zero =>
    intro j hj F hF
    obtain rfl : j = 24 := by omega
    refine wp_iload_n (pc' := 72) dX7_moor_71 rfl rfl ?_
    refine wp_bipush (pc' := 74) 24 dX7_moor_72 rfl (by decide) ?_
    refine wp_icmp_ge (pc' := 77) 95 dX7_moor_74 rfl (by decide) (fun h74 => ?_) (fun h74 => ?_)
    · refine wp_less (fun i v hi => ?_) (K F hF)
      match i, hi with
      | 0, hi => exact hi
      | 1, hi => exact hi
      | 2, hi => exact absurd hi (by simp)
      | i + 3, hi => exact absurd hi (by simp)
    · exact absurd (nI_le (a := 24) (b := 24) (Nat.le_refl 24) (by decide)) h74
  | succ n ih =>
    intro j hj F hF
    refine wp_iload_n (pc' := 72) dX7_moor_71 rfl rfl ?_
    refine wp_bipush (pc' := 74) 24 dX7_moor_72 rfl (by decide) ?_
    refine wp_icmp_ge (pc' := 77) 95 dX7_moor_74 rfl (by decide) (fun h74 => ?_) (fun h74 => ?_)
    · exact absurd h74 (nI_ge (b := 24) (by omega) (by decide))
    · refine wp_aload_n (pc' := 78) dX7_moor_77 rfl rfl ⟨_, rfl⟩ ?_
      refine wp_get (pc' := 81) (o := 25) dX7_moor_78 rfl flX7_13 (by decide) rfl rfl ?_
      refine wp_iload_n (pc' := 82) dX7_moor_81 rfl rfl ?_
      refine wp_aload_n (pc' := 83) dX7_moor_82 rfl rfl ⟨_, rfl⟩ ?_
      refine wp_get (pc' := 86) (o := 25) dX7_moor_83 rfl flX7_16 (by decide) rfl rfl ?_
      refine wp_iload_n (pc' := 87) dX7_moor_86 rfl rfl ?_
      refine wp_ialdN (pc' := 88) (o := 28) (n := 24) (j) dX7_moor_87 rfl (by decide) rfl (rfl) (by omega) (by decide) ?_
      refine wp_iastN (pc' := 89) (o := 27) (n := 24) (j) dX7_moor_88 rfl (by decide) (fun _ _ => rfl) (rfl) (by omega) (by decide) ?_
      refine wp_inc2 (pc' := 92) (nI (j + 1)) dX7_moor_89 rfl (by decide) rfl (nI_1 j) ?_
      refine wp_goto 71 dX7_moor_92 (by decide) ?_
      rw [upI_setO]
      refine ih (j + 1) (by omega) _ (fun c hc => ?_)
      by_cases h9 : c = j
      · rw [h9, upd_at]; rfl
      · rw [upd_off _ _ h9]; exact hF c (by omega)
theorem lpm_m29 {x : Int32} {Q : Option Value → Mem → Prop} (K : ∀ F : Nat → Int32, (∀ c, c < 8 → F c = M.1 30 c) → wp g mX7_moor 121 [some (ob g 25), some (.int x), none] [] (setO M 29 F) Q) : ∀ (n j : Nat), j + n = 8 → ∀ (F : Nat → Int32), (∀ c, c < j → F c = M.1 30 c) → wp g mX7_moor 97 [some (ob g 25), some (.int x), some (.int (nI j))] [] (setO M 29 F) Q := by
  intro n
  induction n with
  | zero =>
    intro j hj F hF
    obtain rfl : j = 8 := by omega
    refine wp_iload_n (pc' := 98) dX7_moor_97 rfl rfl ?_
    refine wp_bipush (pc' := 100) 8 dX7_moor_98 rfl (by decide) ?_
    refine wp_icmp_ge (pc' := 103) 121 dX7_moor_100 rfl (by decide) (fun h100 => ?_) (fun h100 => ?_)
    · refine wp_less (fun i v hi => ?_) (K F hF)
      match i, hi with
      | 0, hi => exact hi
      | 1, hi => exact hi
      | 2, hi => exact absurd hi (by simp)
      | i + 3, hi => exact absurd hi (by simp)
    · exact absurd (nI_le (a := 8) (b := 8) (Nat.le_refl 8) (by decide)) h100
  | succ n ih =>
    intro j hj F hF
    refine wp_iload_n (pc' := 98) dX7_moor_97 rfl rfl ?_
    refine wp_bipush (pc' := 100) 8 dX7_moor_98 rfl (by decide) ?_
    refine wp_icmp_ge (pc' := 103) 121 dX7_moor_100 rfl (by decide) (fun h100 => ?_) (fun h100 => ?_)
    · exact absurd h100 (nI_ge (b := 8) (by omega) (by decide))
    · refine wp_aload_n (pc' := 104) dX7_moor_103 rfl rfl ⟨_, rfl⟩ ?_
      refine wp_get (pc' := 107) (o := 25) dX7_moor_104 rfl flX7_19 (by decide) rfl rfl ?_
      refine wp_iload_n (pc' := 108) dX7_moor_107 rfl rfl ?_
      refine wp_aload_n (pc' := 109) dX7_moor_108 rfl rfl ⟨_, rfl⟩ ?_
      refine wp_get (pc' := 112) (o := 25) dX7_moor_109 rfl flX7_22 (by decide) rfl rfl ?_
      refine wp_iload_n (pc' := 113) dX7_moor_112 rfl rfl ?_
      refine wp_ialdN (pc' := 114) (o := 30) (n := 8) (j) dX7_moor_113 rfl (by decide) rfl (rfl) (by omega) (by decide) ?_
      refine wp_iastN (pc' := 115) (o := 29) (n := 8) (j) dX7_moor_114 rfl (by decide) (fun _ _ => rfl) (rfl) (by omega) (by decide) ?_
      refine wp_inc2 (pc' := 118) (nI (j + 1)) dX7_moor_115 rfl (by decide) rfl (nI_1 j) ?_
      refine wp_goto 97 dX7_moor_118 (by decide) ?_
      rw [upI_setO]
      refine ih (j + 1) (by omega) _ (fun c hc => ?_)
      by_cases h9 : c = j
      · rw [h9, upd_at]; rfl
      · rw [upd_off _ _ h9]; exact hF c (by omega)
theorem im_ge {m : Mem} {x : Int32} {r : RzS} (h : InM t m x r) (ht : t ≤ 300) (hx : ¬ x = -9) : ∃ q, r = .inr q ∧ q.2 ≤ t ∧ x = nI q.2 ∧ DM m q.1 ∧ DOK q.1 := by
  match r, h with
  | .inl f, h => exact absurd h.2.1 hx
  | .inr q, h => exact ⟨q, rfl, h⟩
theorem im_lt {m : Mem} {x : Int32} {r : RzS} (h : InM t m x r) (ht : t ≤ 300) (hx : x = -9) : ∃ f, r = .inl f ∧ f ≤ t ∧ m.1 25 21 = nI f := by
  match r, h with
  | .inl f, h => exact ⟨f, rfl, h.1, h.2.2⟩
  | .inr q, h => exact absurd (h.2.1.symm.trans hx) (nI_ne9 (by have := h.1; omega))
theorem moM_of {m : Mem} {q : TolD × Nat} {F27 F29 : Nat → Int32} (hF : FrM (th M) m) (hD : DOK q.1) (hC : DM m q.1) (h27 : ∀ c, c < 24 → F27 c = m.1 28 c) (h29 : ∀ c, c < 8 → F29 c = m.1 30 c) : MoM M (setO (upI (upI (upI (setO (setO (upI (upI (upI (upI m 25 8 (nI (q_w q.1))) 25 9 (nI (q_h q.1))) 25 10 (nI (q_k q.1))) 25 11 (nI (q_s q.1))) 27 F27) 29 F29) 25 3 0) 33 0 0) 33 1 0) 31 (begS (upI (upI (upI (setO (setO (upI (upI (upI (upI m 25 8 (nI (q_w q.1))) 25 9 (nI (q_h q.1))) 25 10 (nI (q_k q.1))) 25 11 (nI (q_s q.1))) 27 F27) 29 F29) 25 3 0) 33 0 0) 33 1 0) (q_w q.1 * q_h q.1))) (nI q.2) (.inr q) := by
  obtain ⟨c1, c2, c3, c4, c5, c6⟩ := hC
  obtain ⟨d1, d2, d3, d4⟩ := dok_h hD
  obtain ⟨b1, b2⟩ := begS_ok (upI (upI (upI (setO (setO (upI (upI (upI (upI m 25 8 (nI (q_w q.1))) 25 9 (nI (q_h q.1))) 25 10 (nI (q_k q.1))) 25 11 (nI (q_s q.1))) 27 F27) 29 F29) 25 3 0) 33 0 0) 33 1 0) d3
  generalize begS (upI (upI (upI (setO (setO (upI (upI (upI (upI m 25 8 (nI (q_w q.1))) 25 9 (nI (q_h q.1))) 25 10 (nI (q_k q.1))) 25 11 (nI (q_s q.1))) 27 F27) 29 F29) 25 3 0) 33 0 0) 33 1 0) (q_w q.1 * q_h q.1) = S at b1 b2
  refine ⟨rfl, hF.1, fun a ha => ?_, rfl, ⟨rfl, rfl, rfl, rfl⟩, fun c hc => ?_, fun k hk => ?_, rfl, rfl, b1, b2⟩
  · have e : m.1 a = M.1 a := (hF.2.1 a (by omega) (by omega) (by omega)).trans (if_neg (by omega))
    rw [← e]
    simp only [setO, upI, if_neg (show ¬ a = 31 by omega), if_neg (show ¬ a = 33 by omega), if_neg (show ¬ a = 25 by omega), if_neg (show ¬ a = 29 by omega), if_neg (show ¬ a = 27 by omega)]
  · show F27 c = _
    rw [h27 c (by omega)]
    exact c5 c hc
  · show F29 (2 * k) = _ ∧ F29 (2 * k + 1) = _
    rw [h29 _ (by omega), h29 _ (by omega)]
    exact c6 k hk
theorem sm_moor (hT : TXM M t tb) : SI g mX7_moor [ob g 25] M (fun x m => MoM M m x (rdsF t tb (t + 1) q_0 0 0)) := by
  have h3 := hT.1
  refine spec_of_wp (ls := [some (ob g 25), none, none]) rfl (Nat.le_of_ble_eq_true rfl) 2 rfl ?_
  refine wp_aload_n (pc' := 1) dX7_moor_0 rfl rfl ⟨_, rfl⟩ ?_
  refine wp_iconst (pc' := 2) 0 dX7_moor_1 rfl (by decide) ?_
  refine wp_put (pc' := 5) (o := 25) dX7_moor_2 rfl fpX7_47 (by decide) rfl (Nat.le_of_ble_eq_true rfl) rfl ?_
  refine wp_aload_n (pc' := 6) dX7_moor_5 rfl rfl ⟨_, rfl⟩ ?_
  refine wp_sVI (μ' := mX7_reads) (pc' := 9) (o := 25) dX7_moor_6 rfl mlX7_131 cfX7_reads ⟨(Nat.le_of_ble_eq_true rfl), (Nat.le_of_ble_eq_true rfl)⟩ (sm_reads (M := th M) hT) (by decide) rfl rfl rfl rfl rfl (Nat.le_of_ble_eq_true rfl) (fun x m hm => ?_)
  refine wp_ist1 (pc' := 10) dX7_moor_9 rfl (by decide) rfl ?_
  refine wp_iload_n (pc' := 11) dX7_moor_10 rfl rfl ?_
  refine wp_bipush (pc' := 13) (-9) dX7_moor_11 rfl (by decide) ?_
  refine wp_icmp_ne (pc' := 16) 24 dX7_moor_13 rfl (by decide) (fun h13 => ?_) (fun h13 => ?_)
  · obtain ⟨q, hr, z1, z2, hC, hD⟩ := im_ge hm.2 h3 h13
    obtain ⟨d1, d2, d3, d4⟩ := dok_h hD
    have e0 : ∀ z : Int32, z = (if q_t q.1 = true then nI (q_s q.1) else -9) → (z = -9 → (0 : Int32) = nI (q_s q.1)) ∧ (¬ z = -9 → z = nI (q_s q.1)) := fun z hz => by
      by_cases ht : q_t q.1 = true
      · rw [if_pos ht] at hz
        exact ⟨fun y => absurd (hz.symm.trans y) (nI_ne9 (by have := hD.2.2.1; omega)), fun _ => hz⟩
      · rw [if_neg ht] at hz
        exact ⟨fun _ => by rw [hD.2.2.2.1 (Bool.eq_false_iff.mpr ht)]; rfl, fun y => absurd hz y⟩
    refine wp_aload_n (pc' := 25) dX7_moor_24 rfl rfl ⟨_, rfl⟩ ?_
    refine wp_aload_n (pc' := 26) dX7_moor_25 rfl rfl ⟨_, rfl⟩ ?_
    refine wp_get (pc' := 29) (o := 25) dX7_moor_26 rfl flX7_105 (by decide) rfl rfl ?_
    refine wp_top ((show m.1 25 12 = nI (q_w q.1) from hC.1)) ?_
    refine wp_put (pc' := 32) (o := 25) dX7_moor_29 rfl fpX7_51 (by decide) rfl (Nat.le_of_ble_eq_true rfl) rfl ?_
    refine wp_aload_n (pc' := 33) dX7_moor_32 rfl rfl ⟨_, rfl⟩ ?_
    refine wp_aload_n (pc' := 34) dX7_moor_33 rfl rfl ⟨_, rfl⟩ ?_
    refine wp_get (pc' := 37) (o := 25) dX7_moor_34 rfl flX7_99 (by decide) rfl rfl ?_
    refine wp_top ((show m.1 25 13 = nI (q_h q.1) from hC.2.1)) ?_
    refine wp_put (pc' := 40) (o := 25) dX7_moor_37 rfl fpX7_54 (by decide) rfl (Nat.le_of_ble_eq_true rfl) rfl ?_
    refine wp_aload_n (pc' := 41) dX7_moor_40 rfl rfl ⟨_, rfl⟩ ?_
    refine wp_aload_n (pc' := 42) dX7_moor_41 rfl rfl ⟨_, rfl⟩ ?_
    refine wp_get (pc' := 45) (o := 25) dX7_moor_42 rfl flX7_102 (by decide) rfl rfl ?_
    refine wp_top ((show m.1 25 14 = nI (q_k q.1) from hC.2.2.1)) ?_
    refine wp_put (pc' := 48) (o := 25) dX7_moor_45 rfl fpX7_61 (by decide) rfl (Nat.le_of_ble_eq_true rfl) rfl ?_
    refine wp_aload_n (pc' := 49) dX7_moor_48 rfl rfl ⟨_, rfl⟩ ?_
    refine wp_aload_n (pc' := 50) dX7_moor_49 rfl rfl ⟨_, rfl⟩ ?_
    refine wp_get (pc' := 53) (o := 25) dX7_moor_50 rfl flX7_111 (by decide) rfl rfl ?_
    refine wp_bipush (pc' := 55) (-9) dX7_moor_53 rfl (by decide) ?_
    refine wp_icmp_ne (pc' := 58) 62 dX7_moor_55 rfl (by decide) (fun h55 => ?_) (fun h55 => ?_)
    · refine wp_aload_n (pc' := 63) dX7_moor_62 rfl rfl ⟨_, rfl⟩ ?_
      refine wp_get (pc' := 66) (o := 25) dX7_moor_63 rfl flX7_111 (by decide) rfl rfl ?_
      refine wp_top ((show m.1 25 15 = nI (q_s q.1) from (e0 _ hC.2.2.2.1).2 h55)) ?_
      refine wp_put (pc' := 69) (o := 25) dX7_moor_66 rfl fpX7_128 (by decide) rfl (Nat.le_of_ble_eq_true rfl) rfl ?_
      refine wp_iconst (pc' := 70) 0 dX7_moor_69 rfl (by decide) ?_
      refine wp_ist2 (pc' := 71) dX7_moor_70 rfl (by decide) rfl ?_
      refine wp_mem (setO_self _ 27).symm ?_
      refine lpm_m27 (fun F27 h27 => ?_) 24 0 (by decide) _ (fun c hc => absurd hc (Nat.not_lt_zero c))
      refine wp_iconst (pc' := 96) 0 dX7_moor_95 rfl (by decide) ?_
      refine wp_ist2 (pc' := 97) dX7_moor_96 rfl (by decide) rfl ?_
      refine wp_mem (setO_self _ 29).symm ?_
      refine lpm_m29 (fun F29 h29 => ?_) 8 0 (by decide) _ (fun c hc => absurd hc (Nat.not_lt_zero c))
      have k0 : (0 : Int32).toNatClampNeg = 0 := by decide
      have k1 : (1 : Int32).toNatClampNeg = 1 := by decide
      refine wp_aload_n (pc' := 122) dX7_moor_121 rfl rfl ⟨_, rfl⟩ ?_
      refine wp_iconst (pc' := 123) 0 dX7_moor_122 rfl (by decide) ?_
      refine wp_put (pc' := 126) (o := 25) dX7_moor_123 rfl fpX7_64 (by decide) rfl (Nat.le_of_ble_eq_true rfl) rfl ?_
      refine wp_aload_n (pc' := 127) dX7_moor_126 rfl rfl ⟨_, rfl⟩ ?_
      refine wp_get (pc' := 130) (o := 25) dX7_moor_127 rfl flX7_31 (by decide) rfl rfl ?_
      refine wp_iconst (pc' := 131) 0 dX7_moor_130 rfl (by decide) ?_
      refine wp_iconst (pc' := 132) 0 dX7_moor_131 rfl (by decide) ?_
      refine wp_zast (pc' := 133) (o := 33) (n := 2) dX7_moor_132 rfl (by decide) (fun _ _ => rfl) (vp_in_nI (n := 0) (by decide) (by decide)) zb_0 ?_
      refine wp_aload_n (pc' := 134) dX7_moor_133 rfl rfl ⟨_, rfl⟩ ?_
      refine wp_get (pc' := 137) (o := 25) dX7_moor_134 rfl flX7_31 (by decide) rfl rfl ?_
      refine wp_iconst (pc' := 138) 1 dX7_moor_137 rfl (by decide) ?_
      refine wp_iconst (pc' := 139) 0 dX7_moor_138 rfl (by decide) ?_
      refine wp_zast (pc' := 140) (o := 33) (n := 2) dX7_moor_139 rfl (by decide) (fun _ _ => rfl) (vp_in_nI (n := 1) (by decide) (by decide)) zb_0 ?_
      rw [k0, k1]
      refine wp_aload_n (pc' := 141) dX7_moor_140 rfl rfl ⟨_, rfl⟩ ?_
      refine wp_cVV (μ' := mX7_begins) (pc' := 144) (o := 25) dX7_moor_141 rfl mlX7_134 cfX7_begins ⟨(Nat.le_of_ble_eq_true rfl), (Nat.le_of_ble_eq_true rfl)⟩ (sm_begins (M := upI (upI (upI (setO (setO (upI (upI (upI (upI m 25 8 (nI (q_w q.1))) 25 9 (nI (q_h q.1))) 25 10 (nI (q_k q.1))) 25 11 (nI (q_s q.1))) 27 F27) 29 F29) 25 3 0) 33 0 0) 33 1 0) (N := q_w q.1 * q_h q.1) d3 (nI_mul (q_w q.1) (q_h q.1))) (by decide) rfl rfl rfl rfl rfl (Nat.le_of_ble_eq_true rfl) ?_
      refine wp_iload_n (pc' := 145) dX7_moor_144 rfl rfl ?_
      refine wp_ireti dX7_moor_145 rfl ?_
      refine ⟨_, rfl, ?_⟩
      rw [hr, z2]
      exact moM_of hm.1 hD hC h27 h29
    · refine wp_iconst (pc' := 59) 0 dX7_moor_58 rfl (by decide) ?_
      refine wp_top (((e0 _ hC.2.2.2.1).1 h55)) ?_
      refine wp_goto 66 dX7_moor_59 (by decide) ?_
      refine wp_put (pc' := 69) (o := 25) dX7_moor_66 rfl fpX7_128 (by decide) rfl (Nat.le_of_ble_eq_true rfl) rfl ?_
      refine wp_iconst (pc' := 70) 0 dX7_moor_69 rfl (by decide) ?_
      refine wp_ist2 (pc' := 71) dX7_moor_70 rfl (by decide) rfl ?_
      refine wp_mem (setO_self _ 27).symm ?_
      refine lpm_m27 (fun F27 h27 => ?_) 24 0 (by decide) _ (fun c hc => absurd hc (Nat.not_lt_zero c))
      refine wp_iconst (pc' := 96) 0 dX7_moor_95 rfl (by decide) ?_
      refine wp_ist2 (pc' := 97) dX7_moor_96 rfl (by decide) rfl ?_
      refine wp_mem (setO_self _ 29).symm ?_
      refine lpm_m29 (fun F29 h29 => ?_) 8 0 (by decide) _ (fun c hc => absurd hc (Nat.not_lt_zero c))
      have k0 : (0 : Int32).toNatClampNeg = 0 := by decide
      have k1 : (1 : Int32).toNatClampNeg = 1 := by decide
      refine wp_aload_n (pc' := 122) dX7_moor_121 rfl rfl ⟨_, rfl⟩ ?_
      refine wp_iconst (pc' := 123) 0 dX7_moor_122 rfl (by decide) ?_
      refine wp_put (pc' := 126) (o := 25) dX7_moor_123 rfl fpX7_64 (by decide) rfl (Nat.le_of_ble_eq_true rfl) rfl ?_
      refine wp_aload_n (pc' := 127) dX7_moor_126 rfl rfl ⟨_, rfl⟩ ?_
      refine wp_get (pc' := 130) (o := 25) dX7_moor_127 rfl flX7_31 (by decide) rfl rfl ?_
      refine wp_iconst (pc' := 131) 0 dX7_moor_130 rfl (by decide) ?_
      refine wp_iconst (pc' := 132) 0 dX7_moor_131 rfl (by decide) ?_
      refine wp_zast (pc' := 133) (o := 33) (n := 2) dX7_moor_132 rfl (by decide) (fun _ _ => rfl) (vp_in_nI (n := 0) (by decide) (by decide)) zb_0 ?_
      refine wp_aload_n (pc' := 134) dX7_moor_133 rfl rfl ⟨_, rfl⟩ ?_
      refine wp_get (pc' := 137) (o := 25) dX7_moor_134 rfl flX7_31 (by decide) rfl rfl ?_
      refine wp_iconst (pc' := 138) 1 dX7_moor_137 rfl (by decide) ?_
      refine wp_iconst (pc' := 139) 0 dX7_moor_138 rfl (by decide) ?_
      refine wp_zast (pc' := 140) (o := 33) (n := 2) dX7_moor_139 rfl (by decide) (fun _ _ => rfl) (vp_in_nI (n := 1) (by decide) (by decide)) zb_0 ?_
      rw [k0, k1]
      refine wp_aload_n (pc' := 141) dX7_moor_140 rfl rfl ⟨_, rfl⟩ ?_
      refine wp_cVV (μ' := mX7_begins) (pc' := 144) (o := 25) dX7_moor_141 rfl mlX7_134 cfX7_begins ⟨(Nat.le_of_ble_eq_true rfl), (Nat.le_of_ble_eq_true rfl)⟩ (sm_begins (M := upI (upI (upI (setO (setO (upI (upI (upI (upI m 25 8 (nI (q_w q.1))) 25 9 (nI (q_h q.1))) 25 10 (nI (q_k q.1))) 25 11 (nI (q_s q.1))) 27 F27) 29 F29) 25 3 0) 33 0 0) 33 1 0) (N := q_w q.1 * q_h q.1) d3 (nI_mul (q_w q.1) (q_h q.1))) (by decide) rfl rfl rfl rfl rfl (Nat.le_of_ble_eq_true rfl) ?_
      refine wp_iload_n (pc' := 145) dX7_moor_144 rfl rfl ?_
      refine wp_ireti dX7_moor_145 rfl ?_
      refine ⟨_, rfl, ?_⟩
      rw [hr, z2]
      exact moM_of hm.1 hD hC h27 h29
  · refine wp_bipush (pc' := 18) (-10) dX7_moor_16 rfl (by decide) ?_
    refine wp_aload_n (pc' := 19) dX7_moor_18 rfl rfl ⟨_, rfl⟩ ?_
    refine wp_get (pc' := 22) (o := 25) dX7_moor_19 rfl flX7_76 (by decide) rfl rfl ?_
    refine wp_isub (pc' := 23) dX7_moor_22 rfl ?_
    refine wp_ireti dX7_moor_23 rfl ?_
    obtain ⟨f, hr, z1, z2⟩ := im_lt hm.2 h3 h13
    refine ⟨_, rfl, ?_⟩
    rw [hr]
    exact ⟨by rw [z2], hm.1⟩
theorem rel_frC {m : Mem} {w h W sk t : Nat} {ea eb : Nat → Nat} (hF : FrC M m) (hr : RelS M w h W sk t ea eb) : RelS m w h W sk t ea eb := by
  have e : ∀ a, ¬ a = 1 → ¬ a = 7 → ¬ a = 8 → ¬ a = 9 → m.1 a = M.1 a := hF.2
  unfold RelS at hr ⊢
  rw [hF.1, e 2 (by decide) (by decide) (by decide) (by decide), e 3 (by decide) (by decide) (by decide) (by decide), e 4 (by decide) (by decide) (by decide) (by decide), e 5 (by decide) (by decide) (by decide) (by decide), e 6 (by decide) (by decide) (by decide) (by decide), e 11 (by decide) (by decide) (by decide) (by decide), e 13 (by decide) (by decide) (by decide) (by decide), e 14 (by decide) (by decide) (by decide) (by decide), e 15 (by decide) (by decide) (by decide) (by decide), e 16 (by decide) (by decide) (by decide) (by decide), e 17 (by decide) (by decide) (by decide) (by decide), e 18 (by decide) (by decide) (by decide) (by decide), e 19 (by decide) (by decide) (by decide) (by decide), e 20 (by decide) (by decide) (by decide) (by decide), e 21 (by decide) (by decide) (by decide) (by decide), e 22 (by decide) (by decide) (by decide) (by decide), e 23 (by decide) (by decide) (by decide) (by decide), e 24 (by decide) (by decide) (by decide) (by decide), e 25 (by decide) (by decide) (by decide) (by decide), e 26 (by decide) (by decide) (by decide) (by decide), e 27 (by decide) (by decide) (by decide) (by decide), e 29 (by decide) (by decide) (by decide) (by decide), e 31 (by decide) (by decide) (by decide) (by decide), e 32 (by decide) (by decide) (by decide) (by decide), e 33 (by decide) (by decide) (by decide) (by decide)]
  exact hr
theorem rel_frM {m : Mem} {w h W sk t : Nat} {ea eb : Nat → Nat} (hF : FrM M m) (hr : RelS M w h W sk t ea eb) : RelS m w h W sk t ea eb := by
  have e : ∀ a, ¬ a = 25 → ¬ a = 28 → ¬ a = 30 → m.1 a = M.1 a := hF.2.1
  have i := hF.2.2
  unfold RelS ModR at hr ⊢
  rw [hF.1, e 2 (by decide) (by decide) (by decide), e 3 (by decide) (by decide) (by decide), e 4 (by decide) (by decide) (by decide), e 5 (by decide) (by decide) (by decide), e 6 (by decide) (by decide) (by decide), e 11 (by decide) (by decide) (by decide), e 13 (by decide) (by decide) (by decide), e 14 (by decide) (by decide) (by decide), e 15 (by decide) (by decide) (by decide), e 16 (by decide) (by decide) (by decide), e 17 (by decide) (by decide) (by decide), e 18 (by decide) (by decide) (by decide), e 19 (by decide) (by decide) (by decide), e 20 (by decide) (by decide) (by decide), e 21 (by decide) (by decide) (by decide), e 22 (by decide) (by decide) (by decide), e 23 (by decide) (by decide) (by decide), e 24 (by decide) (by decide) (by decide), e 26 (by decide) (by decide) (by decide), e 27 (by decide) (by decide) (by decide), e 29 (by decide) (by decide) (by decide), e 31 (by decide) (by decide) (by decide), e 32 (by decide) (by decide) (by decide), e 33 (by decide) (by decide) (by decide), i 3 (by decide), i 8 (by decide), i 9 (by decide), i 10 (by decide), i 11 (by decide)]
  exact hr
theorem rel_moor {m m2 : Mem} {x : Int32} {q : TolD × Nat} (h02 : M.2 0 = M.2 25) (hD : DOK q.1) (hC : MoC M m q.1) (hM : MoM m m2 x (.inr q)) : RelS m2 (q_w q.1) (q_h q.1) (q_k q.1) (q_s q.1) 0 (q_a q.1) (q_b q.1) := by
  obtain ⟨d1, d2, d3, d4⟩ := dok_h hD
  obtain ⟨-, a2, a3, a4, a5, a6, a7, a8, a9, a10, a11, a12, a13⟩ := hC
  obtain ⟨-, b2, b3, b4, b5, b6, b7, b8, b9, b10, b11⟩ := hM
  have e : ∀ a, a < 25 → m2.1 a = m.1 a := b3
  have hg : GroR (q_w q.1 * q_h q.1) (m.1 4 3) (m.1 4 4) (m2.1 27) := gro_eq a6 b6
  unfold RelS
  rw [b2, a2, e 2 (by decide), e 3 (by decide), e 4 (by decide), e 5 (by decide), e 6 (by decide), e 11 (by decide), e 13 (by decide), e 14 (by decide), e 15 (by decide), e 16 (by decide), e 17 (by decide), e 18 (by decide), e 19 (by decide), e 20 (by decide), e 21 (by decide), e 22 (by decide), e 23 (by decide), e 24 (by decide)]
  refine ⟨⟨hD.1, hD.2.1, hD.2.2.1⟩, a4, a5, b5, ⟨by decide, a3, b4, fun i hi => absurd hi (Nat.not_lt_zero i)⟩, fun k hk => ?_, hg, h02, ?_, ⟨a12.trans b8.symm, fun z => absurd b8 z⟩, ⟨a13.trans b9.symm, fun z => absurd b9 z⟩⟩
  · obtain ⟨y1, y2⟩ := a7 k hk
    obtain ⟨y3, y4⟩ := b7 k hk
    obtain ⟨y5, y6⟩ := hD.2.2.2.2.2 k hk
    exact ⟨y1, y2, y3, y4, y5, y6⟩
  · rw [a8, a9]
    exact now_begun d3 rfl hg a10 a11 b10 b11
theorem p_moor : PairI g Rel mX6_moor mX7_moor [] := by
  intro M hM
  obtain ⟨w, h, W, sk, t, ea, eb, hr⟩ := hM
  obtain ⟨t1, t2, t3, t4⟩ := hr.2.2.2.2.1
  have h02 : M.2 0 = M.2 25 := hr.2.2.2.2.2.2.2.1
  have hTC : TXC M t (M.1 3) := ⟨t1, t2, fun _ _ => rfl⟩
  refine pair_si (spec_mono (sp_moor hTC) fun r m hx => ?_)
  obtain ⟨x, e, hx⟩ := hx
  refine ⟨x, e, ?_⟩
  have hTM : TXM m t (M.1 3) := by
    cases h9 : rdsF t (M.1 3) (t + 1) q_0 0 0 with
    | inl f =>
      rw [h9] at hx
      have hF := hx.2.2
      refine ⟨t1, ?_, fun i hi => ?_⟩
      · rw [hF.2 25 (by decide) (by decide) (by decide) (by decide)]; exact t3
      · rw [hF.2 26 (by decide) (by decide) (by decide) (by decide)]; exact (t4 i hi).symm
    | inr q =>
      rw [h9] at hx
      have hF := hx.2.2.2.1
      refine ⟨t1, ?_, fun i hi => ?_⟩
      · rw [hF 25 (by decide)]; exact t3
      · rw [hF 26 (by decide)]; exact (t4 i hi).symm
  refine nxt_si (sm_moor hTM) fun y m2 hy => ?_
  cases h9 : rdsF t (M.1 3) (t + 1) q_0 0 0 with
  | inl f =>
    rw [h9] at hx hy
    obtain ⟨x1, x2, x3⟩ := hx
    obtain ⟨y1, y2⟩ := hy
    exact ⟨y1.trans x2.symm, w, h, W, sk, t, ea, eb, rel_frM y2 (rel_th (rel_frC x3 hr))⟩
  | inr q =>
    rw [h9] at hx hy
    obtain ⟨x1, x2, x3, x4⟩ := hx
    exact ⟨hy.1.trans x2.symm, _, _, _, _, _, _, _, rel_moor h02 x3 x4 hy⟩
end MOOR
