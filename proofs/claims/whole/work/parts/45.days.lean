/-! ===== days ===== -/
theorem sm_days_0 {g : GG} {M : Mem} {n : Nat} (hW : M.1 25 10 = 0) (hn : n ≤ 9) (hg : ¬ inF (nI n) 1 9 = 0) : RI g mX7_days [ob g 25, .int (nI n)] M 0 (th M) := by
  refine spec_of_wp (ls := [some (ob g 25), some (.int (nI n)), none, none, none, none]) rfl (Nat.le_of_ble_eq_true rfl) 4 rfl ?_
  refine wp_aload_n (pc' := 1) dX7_days_0 rfl rfl ⟨_, rfl⟩ ?_
  refine wp_iconst (pc' := 2) 0 dX7_days_1 rfl (by decide) ?_
  refine wp_put (pc' := 5) (o := 25) dX7_days_2 rfl fpX7_47 (by decide) rfl (Nat.le_of_ble_eq_true rfl) rfl ?_
  refine wp_iload_n (pc' := 6) dX7_days_5 rfl rfl ?_
  refine wp_iconst (pc' := 7) 1 dX7_days_6 rfl (by decide) ?_
  refine wp_bipush (pc' := 9) 9 dX7_days_7 rfl (by decide) ?_
  refine wp_cSI (μ' := mX7_in) (pc' := 12) dX7_days_9 rfl mlX7_57 cfX7_in ⟨(Nat.le_of_ble_eq_true rfl), (Nat.le_of_ble_eq_true rfl)⟩ (sm_in) rfl rfl (Nat.le_of_ble_eq_true rfl) ?_
  refine wp_if_ne (pc' := 15) 17 dX7_days_12 rfl (by decide) (fun q12 => ?_) (fun q12 => ?_)
  · refine wp_iconst (pc' := 18) 0 dX7_days_17 rfl (by decide) ?_
    refine wp_ist2 (pc' := 19) dX7_days_18 rfl (by decide) rfl ?_
    refine wp_iconst (pc' := 20) 0 dX7_days_19 rfl (by decide) ?_
    refine wp_ist3 (pc' := 21) dX7_days_20 rfl (by decide) rfl ?_
    refine wp_iload_n (pc' := 22) dX7_days_21 rfl rfl ?_
    refine wp_iload_n (pc' := 23) dX7_days_22 rfl rfl ?_
    refine wp_aload_n (pc' := 24) dX7_days_23 rfl rfl ⟨_, rfl⟩ ?_
    refine wp_get (pc' := 27) (o := 25) dX7_days_24 rfl flX7_61 (by decide) rfl rfl ?_
    refine wp_imul (pc' := 28) dX7_days_27 rfl ?_
    refine wp_icmp_ge (pc' := 31) 103 dX7_days_28 rfl (by decide) (fun q28 => ?_) (fun q28 => ?_)
    · refine wp_iload_n (pc' := 104) dX7_days_103 rfl rfl ?_
      refine wp_ireti dX7_days_104 rfl ?_
      exact ri_ok rfl rfl
    · exact absurd (by rw [show (upI M 25 0 0).1 25 10 = 0 from hW, Int32.mul_zero]; exact Int32.le_refl 0) q28
  · exact absurd q12 hg
theorem sm_nears_0 {g : GG} {M : Mem} (hwh : M.1 25 8 * M.1 25 9 = nI 0) : RV g mX7_nears [ob g 25] M M := by
  refine spec_of_wp (ls := [some (ob g 25), none, none]) rfl (Nat.le_of_ble_eq_true rfl) 2 rfl ?_
  refine wp_iconst (pc' := 1) 0 dX7_nears_0 rfl (by decide) ?_
  refine wp_ist1 (pc' := 2) dX7_nears_1 rfl (by decide) rfl ?_
  refine wp_iload_n (pc' := 3) dX7_nears_2 rfl rfl ?_
  refine wp_aload_n (pc' := 4) dX7_nears_3 rfl rfl ⟨_, rfl⟩ ?_
  refine wp_get (pc' := 7) (o := 25) dX7_nears_4 rfl flX7_51 (by decide) rfl rfl ?_
  refine wp_aload_n (pc' := 8) dX7_nears_7 rfl rfl ⟨_, rfl⟩ ?_
  refine wp_get (pc' := 11) (o := 25) dX7_nears_8 rfl flX7_54 (by decide) rfl rfl ?_
  refine wp_imul (pc' := 12) dX7_nears_11 rfl ?_
  refine wp_top (hwh) ?_
  refine wp_icmp_ge (pc' := 15) 74 dX7_nears_12 rfl (by decide) (fun h12 => ?_) (fun h12 => ?_)
  · refine wp_vret dX7_nears_74 rfl ?_
    exact rv_ok rfl
  · exact absurd (by decide) h12
theorem sm_joined_00 {g : GG} {M : Mem} {set what : Int32} (hwh : M.1 25 8 * M.1 25 9 = nI 0) (hg : ¬ inF what 0 1 = 0) : RI g mX7_joined [ob g 25, .int set, .int what] M (if what = 0 then onV 0 else 0) (setO (th M) 35 (M.1 35)) := by
  refine spec_of_wp (ls := [some (ob g 25), some (.int set), some (.int what), none, none, none]) rfl (Nat.le_of_ble_eq_true rfl) 3 rfl ?_
  refine wp_aload_n (pc' := 1) dX7_joined_0 rfl rfl ⟨_, rfl⟩ ?_
  refine wp_iconst (pc' := 2) 0 dX7_joined_1 rfl (by decide) ?_
  refine wp_put (pc' := 5) (o := 25) dX7_joined_2 rfl fpX7_47 (by decide) rfl (Nat.le_of_ble_eq_true rfl) rfl ?_
  refine wp_iload_n (pc' := 6) dX7_joined_5 rfl rfl ?_
  refine wp_iconst (pc' := 7) 0 dX7_joined_6 rfl (by decide) ?_
  refine wp_iconst (pc' := 8) 1 dX7_joined_7 rfl (by decide) ?_
  refine wp_cSI (μ' := mX7_in) (pc' := 11) dX7_joined_8 rfl mlX7_57 cfX7_in ⟨(Nat.le_of_ble_eq_true rfl), (Nat.le_of_ble_eq_true rfl)⟩ (sm_in) rfl rfl (Nat.le_of_ble_eq_true rfl) ?_
  refine wp_if_ne (pc' := 14) 16 dX7_joined_11 rfl (by decide) (fun q11 => ?_) (fun q11 => ?_)
  · refine wp_aload_n (pc' := 17) dX7_joined_16 rfl rfl ⟨_, rfl⟩ ?_
    refine wp_cVI (μ' := mX7_listsBogs) (pc' := 20) (o := 25) dX7_joined_17 rfl mlX7_193 cfX7_listsBogs ⟨(Nat.le_of_ble_eq_true rfl), (Nat.le_of_ble_eq_true rfl)⟩ (sm_listsBogs (M := th M) (N := 0) (Nat.zero_le 24) hwh) (by decide) rfl rfl rfl rfl rfl (Nat.le_of_ble_eq_true rfl) ?_
    refine wp_ist3 (pc' := 21) dX7_joined_20 rfl (by decide) rfl ?_
    refine wp_iload_n (pc' := 22) dX7_joined_21 rfl rfl ?_
    refine wp_bipush (pc' := 24) 10 dX7_joined_22 rfl (by decide) ?_
    refine wp_icmp_le (pc' := 27) 30 dX7_joined_24 rfl (by decide) (fun q24 => ?_) (fun q24 => ?_)
    · refine wp_aload_n (pc' := 31) dX7_joined_30 rfl rfl ⟨_, rfl⟩ ?_
      refine wp_cVV (μ' := mX7_nears) (pc' := 34) (o := 25) dX7_joined_31 rfl mlX7_196 cfX7_nears ⟨(Nat.le_of_ble_eq_true rfl), (Nat.le_of_ble_eq_true rfl)⟩ (sm_nears_0 (M := setO (th M) 35 (M.1 35)) hwh) (by decide) rfl rfl rfl rfl rfl (Nat.le_of_ble_eq_true rfl) ?_
      refine wp_iload_n (pc' := 35) dX7_joined_34 rfl rfl ?_
      refine wp_iconst (pc' := 36) 1 dX7_joined_35 rfl (by decide) ?_
      refine wp_aload_n (pc' := 37) dX7_joined_36 rfl rfl ⟨_, rfl⟩ ?_
      refine wp_get (pc' := 40) (o := 25) dX7_joined_37 rfl flX7_51 (by decide) rfl rfl ?_
      refine wp_aload_n (pc' := 41) dX7_joined_40 rfl rfl ⟨_, rfl⟩ ?_
      refine wp_get (pc' := 44) (o := 25) dX7_joined_41 rfl flX7_54 (by decide) rfl rfl ?_
      refine wp_imul (pc' := 45) dX7_joined_44 rfl ?_
      refine wp_top (hwh) ?_
      refine wp_ishl (pc' := 46) dX7_joined_45 rfl ?_
      refine wp_iconst (pc' := 47) 1 dX7_joined_46 rfl (by decide) ?_
      refine wp_isub (pc' := 48) dX7_joined_47 rfl ?_
      refine wp_iand (pc' := 49) dX7_joined_48 rfl ?_
      refine wp_ist4 (pc' := 51) dX7_joined_49 rfl (by decide) rfl ?_
      refine wp_iload (pc' := 53) dX7_joined_51 rfl rfl ?_
      refine wp_if_ne (pc' := 56) 60 dX7_joined_53 rfl (by decide) (fun q53 => ?_) (fun q53 => ?_)
      · exact absurd (show set &&& (shl 1 (nI 0) - 1) = 0 from b_zero.mpr fun i _ => by rw [b_and, show shl 1 (nI 0) - 1 = 0 by decide, b_0, Bool.and_false]) q53
      · refine wp_iconst (pc' := 57) 0 dX7_joined_56 rfl (by decide) ?_
        refine wp_goto 67 dX7_joined_57 (by decide) ?_
        refine wp_ist5 (pc' := 69) dX7_joined_67 rfl (by decide) rfl ?_
        refine wp_iload_n (pc' := 70) dX7_joined_69 rfl rfl ?_
        refine wp_if_ne (pc' := 73) 81 dX7_joined_70 rfl (by decide) (fun q70 => ?_) (fun q70 => ?_)
        · refine wp_iload (pc' := 83) dX7_joined_81 rfl rfl ?_
          refine wp_ireti dX7_joined_83 rfl ?_
          exact ri_ok (by rw [if_neg q70]) rfl
        · refine wp_iload (pc' := 75) dX7_joined_73 rfl rfl ?_
          refine wp_cSI (μ' := mX7_ones) (pc' := 78) dX7_joined_75 rfl mlX7_187 cfX7_ones ⟨(Nat.le_of_ble_eq_true rfl), (Nat.le_of_ble_eq_true rfl)⟩ (sm_ones) rfl rfl (Nat.le_of_ble_eq_true rfl) ?_
          refine wp_goto 83 dX7_joined_78 (by decide) ?_
          refine wp_ireti dX7_joined_83 rfl ?_
          exact ri_ok (by rw [if_pos q70]) rfl
    · exact absurd (show nI 0 ≤ (10 : Int32) by decide) q24
  · exact absurd q11 hg

theorem mdF_app (N w : Nat) (sink : Int32) (ea eb : Nat → Nat) (W : Nat) : ∀ m n t st, mdF N w sink ea eb W (m + n) t st = mdF N w sink ea eb W n (t + m) (mdF N w sink ea eb W m t st) := by
  intro m
  induction m with
  | zero => intro n t st; rw [Nat.zero_add]; rfl
  | succ m ih =>
    intro n t st
    rw [show m + 1 + n = (m + n) + 1 by omega]
    simp only [mdF]
    rw [ih, show t + 1 + m = t + (m + 1) by omega]
theorem lk_res {N w : Nat} {nr : Int32 → Int32} {s : Nat → Int32} {bear : Int32} (hn : NearOK N w nr) (hb : BrOK N (beS s) bear) (hN : N ≤ 24) {a b : Nat} (ha : a < N) (hbN : b < N) : ∀ n j fd p, p < 26 → j + n = N → (∃ c, c < N ∧ s c = 1 ∧ lkF N (adjB w) a b s n j fd (nI (uL p)) = nI c) ∨ (lkF N (adjB w) a b s n j fd (nI (uL p)) = fd ∧ (p = 25 → ∀ c, j ≤ c → c < N → ¬ s c = 1)) := by
  intro n
  induction n with
  | zero =>
    intro j fd p _ hj
    exact Or.inr ⟨rfl, fun _ c h1 h2 => absurd h2 (by omega)⟩
  | succ n ih =>
    intro j fd p hp hj
    simp only [lkF]
    by_cases h1 : s j = 1
    · rw [if_pos h1]
      have hb2 := br_upd hb hN (show j < N by omega)
      obtain ⟨q, hq, e2⟩ : ∃ q, q < 25 ∧ (if dv N (beS (upd s j 2)) (adjB w) a b = -9 then 99 else dv N (beS (upd s j 2)) (adjB w) a b) = nI (uL q) := by
        rcases fsF_val hn hb2 hN ha hbN with e | ⟨d, hd, e⟩
        · rw [e]
          exact ⟨24, by decide, rfl⟩
        · rw [e, if_neg (nI_ne9 (by omega))]
          refine ⟨d, by omega, ?_⟩
          unfold uL
          rw [if_neg (by omega), if_neg (by omega)]
      rw [e2]
      obtain ⟨u1, u2⟩ := uL_lt p hp q (by omega)
      obtain ⟨-, u3⟩ := uL_lt q (by omega) q (by omega)
      by_cases h2 : q < p
      · rw [if_pos (nI_lt (u1.mpr h2) (by omega))]
        rcases ih (j + 1) (nI j) q (by omega) (by omega) with z | ⟨z, -⟩
        · exact Or.inl z
        · exact Or.inl ⟨j, by omega, h1, z⟩
      · rw [if_neg (nI_nlt (by have := mt u1.mp h2; omega) (by omega))]
        rcases ih (j + 1) fd p hp (by omega) with z | ⟨z, z2⟩
        · exact Or.inl z
        · exact Or.inr ⟨z, fun e => absurd hq (by omega)⟩
    · rw [if_neg h1]
      rcases ih (j + 1) fd p hp (by omega) with z | ⟨z, z2⟩
      · exact Or.inl z
      · refine Or.inr ⟨z, fun e c k1 k2 => ?_⟩
        by_cases h9 : c = j
        · rw [h9]; exact h1
        · exact z2 e c (by omega) k2
section P7
variable {g : GG} {M : Mem} {w h W sk t : Nat} {ea eb : Nat → Nat}
/-- the class at its place in the days, and the reference at its own -/
def DR (M : Mem) (w h W sk t : Nat) (ea eb : Nat → Nat) (x : Int32 × Mem) (y : DS) : Prop := x.1 = y.1 ∧ ∃ f13 f14 f15 f16, x.2 = set4 M f13 f14 f15 f16 ∧ RelS (setO x.2 31 y.2) w h W sk t ea eb
theorem day_step {x : Int32 × Mem} {y : DS} (hx : DR M w h W sk t ea eb x y) {k : Nat} (hk : k < W) : DR M w h W sk t ea eb (dst x (nI k)) (mdst (w * h) w (nI sk) ea eb k y) := by
  obtain ⟨h1, f13, f14, f15, f16, h2, hr⟩ := hx
  obtain ⟨x1, x2⟩ := x
  obtain ⟨y1, s⟩ := y
  dsimp only at h1 h2 hr
  have hN := hr.1.1.le.1
  obtain ⟨-, -, -, -, k5, k6⟩ := hr.2.2.2.2.2.1 k hk
  have hst : stM x2 (nI k) = dv (w * h) (beS s) (adjB w) (ea k) (eb k) := rel_st hr hk
  have hlk : likedF x2 (nI k) = lkF (w * h) (adjB w) (ea k) (eb k) s (w * h) 0 (-9) 100 := rel_liked hr hk
  have hnow : NowR (w * h) sk (x2.1 13 0) (x2.1 13 1) (x2.1 14) (x2.1 15) (x2.1 16) s := hr.2.2.2.2.2.2.2.2.1
  have hbr : BrOK (w * h) (beS s) (bearM x2) := rel_br hr
  have hres := lk_res (rel_near hr) hbr hN k5 k6 (w * h) 0 (-9) 25 (by decide) (by omega)
  have hstay : DR M w h W sk t ea eb (x1 + 1, x2) (y1 + 1, s) := ⟨by show x1 + 1 = y1 + 1; rw [h1], f13, f14, f15, f16, h2, hr⟩
  unfold dst mdst
  dsimp only
  rw [hst, hlk]
  by_cases hd : dv (w * h) (beS s) (adjB w) (ea k) (eb k) = -9
  · rw [if_pos (Or.inl hd), if_pos (Or.inr hd)]
    exact hstay
  · rcases hres with ⟨c, hc, hc1, e⟩ | ⟨e, e2⟩
    · have e' : lkF (w * h) (adjB w) (ea k) (eb k) s (w * h) 0 (-9) 100 = nI c := e
      have hbog : ¬ x2.1 13 0 = 0 := fun z => by
        have := (hnow.2.2.1 c hc).2.1.mp hc1
        rw [z, b_0] at this
        cases this
      rw [e', if_neg (not_or.mpr ⟨hd, hbog⟩), if_neg (not_or.mpr ⟨nI_ne9 (by omega), hd⟩), nI_clamp (by omega)]
      obtain ⟨g13, g14, g15, g16, g1, g2⟩ := ga_ok hr hk hc hd
      refine ⟨h1, g13, g14, g15, g16, ?_, ?_⟩
      · show gaM x2 (nI k) (nI c) = _
        rw [g1, h2, set4_set4]
      · show RelS (setO (gaM x2 (nI k) (nI c)) 31 _) w h W sk t ea eb
        rw [g1]
        exact rel_set4 (M := setO x2 31 s) hr g2
    · have e' : lkF (w * h) (adjB w) (ea k) (eb k) s (w * h) 0 (-9) 100 = -9 := e
      have hbog : x2.1 13 0 = 0 := b_zero.mpr fun i _ => by
        rcases Nat.lt_or_ge i (w * h) with z | z
        · exact Bool.eq_false_iff.mpr (mt (hnow.2.2.1 i z).2.1.mpr (e2 rfl i (Nat.zero_le i) z))
        · exact hnow.1 i z
      rw [if_pos (Or.inr hbog), if_pos (Or.inl e')]
      exact hstay
theorem day_row : ∀ n j q (x : Int32 × Mem) (y : DS), j + n = W → DR M w h W sk t ea eb x y → DR M w h W sk t ea eb (dkM n j x) (mdF (w * h) w (nI sk) ea eb W n (q * W + j) y) := by
  intro n
  induction n with
  | zero => intro j q x y _ hx; exact hx
  | succ n ih =>
    intro j q x y hj hx
    simp only [dkM, mdF]
    have e : (q * W + j) % W = j := by rw [Nat.mul_comm, Nat.mul_add_mod, Nat.mod_eq_of_lt (by omega)]
    rw [e, show q * W + j + 1 = q * W + (j + 1) by omega]
    exact ih (j + 1) q _ _ (by omega) (day_step hx (by omega))
theorem day_all : ∀ n q (x : Int32 × Mem) (y : DS), DR M w h W sk t ea eb x y → DR M w h W sk t ea eb (ddM W n x) (mdF (w * h) w (nI sk) ea eb W (n * W) (q * W) y) := by
  intro n
  induction n with
  | zero => intro q x y hx; rw [Nat.zero_mul]; exact hx
  | succ n ih =>
    intro q x y hx
    simp only [ddM]
    rw [show (n + 1) * W = W + n * W by rw [Nat.add_mul, Nat.one_mul, Nat.add_comm], mdF_app, show q * W + W = (q + 1) * W by rw [Nat.add_mul, Nat.one_mul]]
    exact ih (q + 1) _ _ (day_row W 0 q x y (by omega) hx)
theorem p_days : ∀ a : Int32, PairI g Rel mX6_days mX7_days [.int a] := by
  intro a M hM
  obtain ⟨w, h, W, sk, t, ea, eb, hr⟩ := hM
  have hR : Rel (th M) := ⟨w, h, W, sk, t, ea, eb, rel_th hr⟩
  by_cases ha : a < 1 ∨ 9 < a
  · exact pair_ri (sp_days_bad ha) (nxt_ri (sm_days_bad (in_no ha)) rfl hR)
  · obtain ⟨n, rfl, hn1, hn2⟩ : ∃ k, a = nI k ∧ 1 ≤ k ∧ k ≤ 9 := by
      have h1 : (1 : Int32).toInt = 1 := by decide
      have h8 : (9 : Int32).toInt = 9 := by decide
      rw [Int32.lt_iff_toInt_lt, Int32.lt_iff_toInt_lt, h1, h8] at ha
      refine ⟨a.toInt.toNat, Int32.toInt_inj.mp (by rw [nI_toInt (by omega)]; omega), by omega, by omega⟩
    have hW4 := hr.1.2.1
    have h0 : DR M w h W sk t ea eb (0, M) (0, M.1 31) := ⟨rfl, M.1 13, M.1 14, M.1 15, M.1 16, (set4_self M).symm, by show RelS (setO M 31 (M.1 31)) w h W sk t ea eb; rw [setO_self]; exact hr⟩
    obtain ⟨e1, f13, f14, f15, f16, e2, e3⟩ := day_all n 0 _ _ h0
    rw [Nat.zero_mul] at e1 e3
    refine pair_ri (sp_days (w := W) (n := n) (by omega) (by omega) (fun z => ha (Or.inl z)) (show nI n ≤ nI 9 from nI_le hn2 (by decide)) hr.2.1.2.2.2.2) ?_
    rcases Nat.eq_zero_or_pos W with hW | hW
    · subst hW
      rw [Nat.mul_zero] at e1 e3
      rw [e1]
      rw [e2] at e3 ⊢
      refine nxt_ri (sm_days_0 (M := set4 M f13 f14 f15 f16) hr.2.2.2.1.2.2.1 hn2 (in_yes ha)) rfl ⟨w, h, 0, sk, t, ea, eb, rel_th ?_⟩
      have e4 : setO (set4 M f13 f14 f15 f16) 31 (M.1 31) = set4 M f13 f14 f15 f16 := setO_self (set4 M f13 f14 f15 f16) 31
      have e5 : RelS (setO (set4 M f13 f14 f15 f16) 31 (M.1 31)) w h 0 sk t ea eb := e3
      rw [e4] at e5
      exact e5
    · obtain ⟨-, -, -, -, k5, k6⟩ := hr.2.2.2.2.2.1 0 hW
      have hsk : M.1 25 11 = nI sk := hr.2.2.2.1.2.2.2
      have hMW := rel_MW hr (by omega)
      have hEN : ∀ k, k < W → EN M (w * h) k (ea k) (eb k) := fun k hk => rel_EN hr hk
      rw [e1]
      rw [e2] at e3 ⊢
      refine nxt_si (sm_days (M := set4 M f13 f14 f15 f16) (W := W) (ea := ea) (eb := eb) hMW hr.2.2.2.1.2.2.1 hW4 hn2 hEN (in_yes ha)) fun x m hx => ?_
      obtain ⟨z1, f, z2⟩ := hx
      have g1 : (set4 M f13 f14 f15 f16).1 25 11 = nI sk := hsk
      have g2 : (set4 M f13 f14 f15 f16).1 31 = M.1 31 := rfl
      rw [g1, g2] at z1 z2
      rw [z1, z2]
      exact ⟨rfl, w, h, W, sk, t, ea, eb, e3⟩
end P7

