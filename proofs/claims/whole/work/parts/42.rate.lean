/-! ===== rate ===== -/
section P5
variable {g : GG} {M : Mem} {w h W sk t : Nat} {ea eb : Nat → Nat}
theorem w05 (what : Int32) : (what < 0 ∨ 5 < what) ∨ what = 0 ∨ what = 1 ∨ what = 2 ∨ what = 3 ∨ what = 4 ∨ what = 5 := by
  have h0 : (0 : Int32).toInt = 0 := by decide
  have h2 : (5 : Int32).toInt = 5 := by decide
  rw [Int32.lt_iff_toInt_lt, Int32.lt_iff_toInt_lt, h0, h2]
  rcases (show (what.toInt < 0 ∨ 5 < what.toInt) ∨ what.toInt = 0 ∨ what.toInt = 1 ∨ what.toInt = 2 ∨ what.toInt = 3 ∨ what.toInt = 4 ∨ what.toInt = 5 by omega) with h | h | h | h | h | h | h
  · exact Or.inl h
  · exact Or.inr (Or.inl (Int32.toInt_inj.mp h))
  · exact Or.inr (Or.inr (Or.inl (Int32.toInt_inj.mp h)))
  · exact Or.inr (Or.inr (Or.inr (Or.inl (Int32.toInt_inj.mp h))))
  · exact Or.inr (Or.inr (Or.inr (Or.inr (Or.inl (Int32.toInt_inj.mp h)))))
  · exact Or.inr (Or.inr (Or.inr (Or.inr (Or.inr (Or.inl (Int32.toInt_inj.mp h))))))
  · exact Or.inr (Or.inr (Or.inr (Or.inr (Or.inr (Or.inr (Int32.toInt_inj.mp h))))))
theorem rel_rw (hr : RelS M w h W sk t ea eb) {k : Nat} (hk : k < W) : rwV M (nI k) = mstp M (w * h) w (ea k) (eb k) := by
  obtain ⟨-, -, -, -, k5, k6⟩ := hr.2.2.2.2.2.1 k hk
  unfold rwV mstp
  rw [rel_st hr hk]
  rcases fsF_val (rel_near hr) (rel_br hr) hr.1.1.le.1 k5 k6 with e | ⟨d, hd, e⟩
  · have e' : dvM M (w * h) w (ea k) (eb k) = -9 := e
    rw [e', if_pos rfl]
    decide
  · have e' : dvM M (w * h) w (ea k) (eb k) = nI d := e
    rw [e', if_neg (nI_ne9 (by omega))]
    unfold maxF
    rw [if_neg (nI_pos (by omega))]
theorem rel_pass (hr : RelS M w h W sk t ea eb) {k : Nat} (hk : k < W) : atF 4 (M.1 16) (nI k) = M.1 31 (72 + k) := by
  have := hr.1.2.1
  rw [at_nI (by omega) (by decide)]
  exact hr.2.2.2.2.2.2.2.2.1.2.2.2 k (by omega)
theorem rel_tr (hr : RelS M w h W sk t ea eb) (f : Nat → Int32) {x y : Int64} (e : x = y) : RelS (upT (setO (th (upT M 0 x)) 34 f) 25 y) w h W sk t ea eb :=
  ⟨hr.1, hr.2.1, hr.2.2.1, hr.2.2.2.1, hr.2.2.2.2.1, hr.2.2.2.2.2.1, hr.2.2.2.2.2.2.1, e, hr.2.2.2.2.2.2.2.2⟩
theorem trc_trc (M : Mem) (x y : Int64) : trc (upT M 0 x) y = upT M 0 (x + y) := by
  refine Prod.ext rfl (funext fun a => ?_)
  show (if a = 0 then x + y else if a = 0 then x else M.2 a) = if a = 0 then x + y else M.2 a
  by_cases h : a = 0
  · simp [h]
  · simp [h]
theorem trc_1 (M : Mem) (x : Int64) : trc M x = upT M 0 (M.2 0 + x) := rfl
theorem upT_25 (M : Mem) (x : Int64) : (upT M 0 x).2 25 = M.2 25 := rfl
theorem p_rate : ∀ a b : Int32, PairI g Rel mX6_rate mX7_rate [.int a, .int b] := by
  intro kind a M hM
  obtain ⟨w, h, W, sk, t, ea, eb, hr⟩ := hM
  have hR : Rel (th M) := ⟨w, h, W, sk, t, ea, eb, rel_th hr⟩
  refine pair_ri sp_rate ?_
  rcases walkC hr a with ⟨h1, h2⟩ | ⟨k, hk, rfl, h1, h2⟩
  · have v1 : rateV M kind a = -1000000 := by unfold rateV; rw [if_pos h1]
    have v2 : rateM M kind a = M := by unfold rateM; rw [if_pos h1]
    rw [v1, v2]
    exact nxt_ri (sm_rate_bad (Or.inr h2)) rfl hR
  · obtain ⟨-, -, -, -, k5, k6⟩ := hr.2.2.2.2.2.1 k hk
    have hMW := rel_MW hr (by omega)
    have hEN := rel_EN hr hk
    have h31 := hr.1.2.1
    have et : M.2 0 = M.2 25 := hr.2.2.2.2.2.2.2.1
    have erw := rel_rw hr hk
    have eps := rel_pass hr hk
    have elb := lb_all hr (k := nI k) (nI_ne9 (by omega))
    have hg : ∀ b : Nat, b ≤ 5 → ¬ (inF (nI b) 0 5 = 0 ∨ mWalkF M (nI k) = 0) := fun b hb => by
      rintro (z | z)
      · refine in_yes ?_ z
        rintro (z | z)
        · exact nI_pos (by omega) z
        · exact absurd z (show ¬ nI 5 < nI b from nI_nlt hb (by decide))
      · exact h2 z
    rcases w05 kind with hw | rfl | rfl | rfl | rfl | rfl | rfl
    · have v1 : rateV M kind (nI k) = -1000000 := by
        unfold rateV
        rw [if_neg h1, if_neg (out_ne 0 hw (by decide) (by decide)), if_neg (out_ne 1 hw (by decide) (by decide)), if_neg (out_ne 2 hw (by decide) (by decide)), if_neg (out_ne 3 hw (by decide) (by decide)), if_neg (out_ne 4 hw (by decide) (by decide)), if_neg (out_ne 5 hw (by decide) (by decide))]
      have v2 : rateM M kind (nI k) = M := by
        unfold rateM
        rw [if_neg h1, if_neg (out_ne 0 hw (by decide) (by decide)), if_neg (out_ne 1 hw (by decide) (by decide)), if_neg (out_ne 2 hw (by decide) (by decide)), if_neg (out_ne 3 hw (by decide) (by decide)), if_neg (out_ne 4 hw (by decide) (by decide)), if_neg (out_ne 5 hw (by decide) (by decide))]
      rw [v1, v2]
      exact nxt_ri (sm_rate_bad (Or.inl (in_no hw))) rfl hR
    · have v1 : rateV M 0 (nI k) = rwV M (nI k) := by unfold rateV; rw [if_neg h1, if_pos rfl]
      have v2 : rateM M 0 (nI k) = trc M 1 := by unfold rateM; rw [if_neg h1, if_pos rfl]
      have v3 : M.2 0 + 1 = M.2 25 + 1 := by rw [et]
      rw [trc_1 M] at v2
      rw [v1, v2, erw]
      refine nxt_si (sm_rate0 (M := upT M 0 (M.2 0 + 1)) hMW hEN (hg 0 (by decide))) fun x m hx => ?_
      obtain ⟨e1, f, e2⟩ := hx
      rw [e1, e2, upT_25]
      exact ⟨rfl, w, h, W, sk, t, ea, eb, rel_tr hr f v3⟩
    · have v1 : rateV M 1 (nI k) = rwV M (nI k) + atF 4 (M.1 16) (nI k) := by unfold rateV; rw [if_neg h1, if_neg (by decide), if_pos rfl]
      have v2 : rateM M 1 (nI k) = trc (trc M 10) 1 := by unfold rateM; rw [if_neg h1, if_neg (by decide), if_pos rfl]
      have v3 : M.2 0 + 10 + 1 = M.2 25 + 11 := by rw [et, Int64.add_assoc]; rfl
      rw [trc_1 M, trc_trc] at v2
      rw [v1, v2, erw, eps]
      refine nxt_si (sm_rate1 (M := upT M 0 (M.2 0 + 10 + 1)) hMW hEN (hg 1 (by decide))) fun x m hx => ?_
      obtain ⟨e1, f, e2⟩ := hx
      rw [e1, e2, upT_25]
      exact ⟨rfl, w, h, W, sk, t, ea, eb, rel_tr hr f v3⟩
    · have v1 : rateV M 2 (nI k) = rwV M (nI k) - lbF M (nI k) 24 0 0 := by unfold rateV; rw [if_neg h1, if_neg (by decide), if_neg (by decide), if_pos rfl]
      have v2 : rateM M 2 (nI k) = trc (trc M 100) 1 := by unfold rateM; rw [if_neg h1, if_neg (by decide), if_neg (by decide), if_pos rfl]
      have v3 : M.2 0 + 100 + 1 = M.2 25 + 101 := by rw [et, Int64.add_assoc]; rfl
      rw [trc_1 M, trc_trc] at v2
      rw [v1, v2, erw, elb]
      refine nxt_si (sm_rate2 (M := upT M 0 (M.2 0 + 100 + 1)) hMW hEN (hg 2 (by decide))) fun x m hx => ?_
      obtain ⟨e1, f, e2⟩ := hx
      rw [e1, e2, upT_25]
      exact ⟨rfl, w, h, W, sk, t, ea, eb, rel_tr hr f v3⟩
    · have v1 : rateV M 3 (nI k) = 2 * (rwV M (nI k) + atF 4 (M.1 16) (nI k)) := by unfold rateV; rw [if_neg h1, if_neg (by decide), if_neg (by decide), if_neg (by decide), if_pos rfl]
      have v2 : rateM M 3 (nI k) = trc (trc (trc M 1000) 10) 1 := by unfold rateM; rw [if_neg h1, if_neg (by decide), if_neg (by decide), if_neg (by decide), if_pos rfl]
      have v3 : M.2 0 + 1000 + 10 + 1 = M.2 25 + 1011 := by rw [et, Int64.add_assoc, Int64.add_assoc]; rfl
      rw [trc_1 M, trc_trc, trc_trc] at v2
      rw [v1, v2, erw, eps]
      refine nxt_si (sm_rate3 (M := upT M 0 (M.2 0 + 1000 + 10 + 1)) hMW hEN (hg 3 (by decide))) fun x m hx => ?_
      obtain ⟨e1, f, e2⟩ := hx
      rw [e1, e2, upT_25]
      exact ⟨rfl, w, h, W, sk, t, ea, eb, rel_tr hr f v3⟩
    · have v1 : rateV M 4 (nI k) = (rwV M (nI k) - lbF M (nI k) 24 0 0) + nI k := by unfold rateV; rw [if_neg h1, if_neg (by decide), if_neg (by decide), if_neg (by decide), if_neg (by decide), if_pos rfl]
      have v2 : rateM M 4 (nI k) = trc (trc (trc M 10000) 100) 1 := by unfold rateM; rw [if_neg h1, if_neg (by decide), if_neg (by decide), if_neg (by decide), if_neg (by decide), if_pos rfl]
      have v3 : M.2 0 + 10000 + 100 + 1 = M.2 25 + 10101 := by rw [et, Int64.add_assoc, Int64.add_assoc]; rfl
      rw [trc_1 M, trc_trc, trc_trc] at v2
      rw [v1, v2, erw, elb]
      refine nxt_si (sm_rate4 (M := upT M 0 (M.2 0 + 10000 + 100 + 1)) hMW hEN (hg 4 (by decide))) fun x m hx => ?_
      obtain ⟨e1, f, e2⟩ := hx
      rw [e1, e2, upT_25]
      exact ⟨rfl, w, h, W, sk, t, ea, eb, rel_tr hr f v3⟩
    · have v1 : rateV M 5 (nI k) = rwV M (nI k) + stonesF (nearM M) (atF 4 (M.1 5) (nI k)) (atF 4 (M.1 6) (nI k)) (bearM M) := by unfold rateV; rw [if_neg h1, if_neg (by decide), if_neg (by decide), if_neg (by decide), if_neg (by decide), if_neg (by decide), if_pos rfl]
      have v2 : rateM M 5 (nI k) = trc (trc M 100000) 1 := by unfold rateM; rw [if_neg h1, if_neg (by decide), if_neg (by decide), if_neg (by decide), if_neg (by decide), if_neg (by decide), if_pos rfl]
      have v3 : M.2 0 + 100000 + 1 = M.2 25 + 100001 := by rw [et, Int64.add_assoc]; rfl
      rw [trc_1 M, trc_trc] at v2
      obtain ⟨z1, z2⟩ := rel_ends hr hk
      obtain ⟨m0, m1, m2, m3⟩ := rel_stones hr k5 k6
      rw [v1, v2, erw, z1, z2, m2]
      refine nxt_si (sm_rate5 (M := upT M 0 (M.2 0 + 100000 + 1)) hMW hEN (hg 5 (by decide)) (J := JC (w * h) (owN (M.1 31)) w (eb k)) JC_step JC_0) fun x m hx => ?_
      obtain ⟨f, F, e1, e2, e3, e4⟩ := hx
      rw [e1, e2, m3 F e3 e4, upT_25]
      exact ⟨rfl, w, h, W, sk, t, ea, eb, rel_tr hr f v3⟩
end P5
