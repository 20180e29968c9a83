section P9
variable {g : GG} {M : Mem} {w h W sk t : Nat} {ea eb : Nat → Nat}
theorem rel_oth (hr : RelS M w h W sk t ea eb) {a b : Nat} (ha : a < w * h) (hb : b < w * h) : othersF M (nI a) (nI b) = moth M (w * h) a b := by
  have hN := hr.1.1.le.1
  unfold othersF moth
  rw [rel_mb hr]
  refine b_ext fun c hc => ?_
  rw [b_and, b_and, b_and, b_not _ hc, b_not _ hc, b_not _ hc, b_or]
  cases bt (bearM M) c <;> cases bt (shl 1 (nI a)) c <;> cases bt (shl 1 (nI b)) c <;> rfl
theorem alone {N w a b : Nat} {be : Nat → Bool} (hab : adjB w a b = false) (hbe : ∀ c, c < N → be c = true → adjB w a c = true → c = b) : ∀ k c, c < N → Wk N be (adjB w) a k c → c = a := by
  intro k
  induction k with
  | zero => intro c _ h; exact h
  | succ k ih =>
    intro c hc h
    rcases h with h | ⟨h1, d, d1, d2, d3⟩
    · exact ih c hc h
    · have e := ih d d1 d3
      subst e
      have := hbe c hc h1 d2
      subst this
      rw [hab] at d2
      cases d2
theorem p_apart : ∀ a b : Int32, PairI g Rel mX6_apart mX7_apart [.int a, .int b] := by
  intro a b M hM
  obtain ⟨w, h, W, sk, t, ea, eb, hr⟩ := hM
  have hR : Rel (th M) := ⟨w, h, W, sk, t, ea, eb, rel_th hr⟩
  have hN := hr.1.1.le.1
  rcases cellC hr a with ⟨h1, h2⟩ | ⟨a, ha, rfl, h1, h2⟩
  · exact pair_ri (sp_apart_bad (Or.inl h1)) (nxt_ri (sm_apart_bad (Or.inl h2)) rfl hR)
  rcases cellC hr b with ⟨k1, k2⟩ | ⟨b, hb, rfl, k1, k2⟩
  · exact pair_ri (sp_apart_bad (Or.inr (Or.inl k1))) (nxt_ri (sm_apart_bad (Or.inr (Or.inl k2))) rfl hR)
  by_cases hab : nI a = nI b
  · exact pair_ri (sp_apart_bad (Or.inr (Or.inr hab))) (nxt_ri (sm_apart_bad (Or.inr (Or.inr hab))) rfl hR)
  have hab' : ¬ a = b := fun z => hab (by rw [z])
  have hg : ¬ (mCellF M (nI a) = 0 ∨ mCellF M (nI b) = 0 ∨ nI a = nI b) := not_or.mpr ⟨h2, not_or.mpr ⟨k2, hab⟩⟩
  have hg' : ¬ (isCellF M (nI a) = 0 ∨ isCellF M (nI b) = 0 ∨ nI a = nI b) := not_or.mpr ⟨h1, not_or.mpr ⟨k1, hab⟩⟩
  have hMW := rel_MW hr (by omega)
  have eo := rel_oth hr ha hb
  have hbr := rel_br hr
  have hnear := rel_near hr
  have hoS : Sm (w * h) (moth M (w * h) a b) := by unfold moth; rw [rel_mb hr]; exact hbr.1.and _
  have epo : pcF (othersF M (nI a) (nI b)) = onV (moth M (w * h) a b) := by rw [eo, pc_on (hoS.mono hN)]
  by_cases h12 : onV (moth M (w * h) a b) ≤ 12
  · have hna : noApart M (nI a) (nI b) ↔ (M.1 31 a = 1 ∨ M.1 31 b = 1 ∨ ¬ stI w a b = 0) := by
      unfold noApart
      rw [has_iff (show a < 32 by omega), has_iff (show b < 32 by omega), has_iff1 (show b < 32 by omega), hbr.2 a ha, hbr.2 b hb, near1 hnear hN ha hb]
      unfold beS stI
      cases adjB w a b <;> simp
    by_cases hq : (M.1 31 a = 1 ∨ M.1 31 b = 1 ∨ ¬ stI w a b = 0)
    · exact pair_ri (sp_apart_none hg' (by rw [epo]; exact h12) (hna.mpr hq)) (nxt_ri (sm_apart_none hMW ha hb hg h12 hq) rfl hR)
    · obtain ⟨p, hp⟩ := lc_ls (moth M (w * h) a b) (w * h) 0 (0, M.1 35) _ (by omega) (ls_0 _ _)
      rw [Nat.zero_add] at hp
      have hpl : Pl (w * h) (lcN M (w * h) a b) p (lcB M (w * h) a b) (moth M (w * h) a b) := ls_pl hN hp hoS fun c _ => Iff.rfl
      have hcn : lcN M (w * h) a b = cnt (moth M (w * h) a b) (w * h) := lc_cnt hN (w * h) 0 (0, M.1 35) (by omega) rfl
      have hon : onV (moth M (w * h) a b) = nI (lcN M (w * h) a b) := by rw [← pc_on (hoS.mono hN), pc_N hoS hN, hcn]
      have hn12 : lcN M (w * h) a b ≤ 12 := by
        rw [hon] at h12
        exact (nI_leI (a := lcN M (w * h) a b) (b := 12) (by have := hpl.1; omega) (by decide)).mp h12
      obtain ⟨t1, t2⟩ := full_tab _ (show lcN M (w * h) a b < 13 by omega)
      have hpow : 2 ^ lcN M (w * h) a b ≤ 2 ^ 12 := Nat.pow_le_pow_right (by decide) hn12
      have hnr := nb_ok (th M) (w := w) hN
      refine pair_ri (sp_apart (s := 2 ^ lcN M (w * h) a b) (by omega) (by rw [epo, hon]; exact t1) hg' (by rw [epo]; exact h12) (mt hna.mp hq)) (nxt_ri (sm_apart hMW ha hb hg h12 hq (by omega) (nr_sm hnr) (by omega) t1) ?_ ⟨w, h, W, sk, t, ea, eb, hr⟩)
      rw [eo]
      have hS0 : Sm (w * h) (nearM M (shl 1 (nI a)) &&& moth M (w * h) a b) := hoS.and' _
      have hF := cnt_le (nearM M (shl 1 (nI a)) &&& moth M (w * h) a b) (w * h)
      have hts : Sm (w * h) (mtwo a b) := (Sm.one ha (by omega)).or (Sm.one hb (by omega))
      have hta : bt (mtwo a b) a = true := by unfold mtwo; rw [b_or, b_one (by omega) (by omega)]; simp
      have htb : bt (mtwo a b) b = true := by unfold mtwo; rw [b_or, b_one (by omega) (by omega), b_one (by omega) (by omega)]; simp
      obtain ⟨L', l1, l2, l3, l4⟩ := ap_eq hnr hnear hN hpl hoS ha hb hts hta htb (F0 := cnt (nearM M (shl 1 (nI a)) &&& moth M (w * h) a b) (w * h)) (by omega) (2 ^ lcN M (w * h) a b) 0 99 (by omega)
      rw [ch_zero hpl, show min (cnt (nearM M (shl 1 (nI a)) &&& moth M (w * h) a b) (w * h)) 99 = cnt (nearM M (shl 1 (nI a)) &&& moth M (w * h) a b) (w * h) by omega] at l2
      have hle : L' ≤ cnt (nearM M (shl 1 (nI a)) &&& moth M (w * h) a b) (w * h) := by
        obtain ⟨i, i1, i2⟩ := ch_any hpl (q := nearM M (shl 1 (nI a)) &&& moth M (w * h) a b) (fun c z => by rw [b_and, Bool.and_eq_true] at z; exact z.2)
        have := l4 i (Nat.zero_le i) (by omega)
        rw [i2] at this
        refine this ?_
        have hx : Sm (w * h) ((moth M (w * h) a b &&& ((nearM M (shl 1 (nI a)) &&& moth M (w * h) a b) ^^^ (-1))) ||| mtwo a b) := (hoS.and _).or hts
        obtain ⟨q1, q2⟩ := not_or.mp hq
        obtain ⟨q2, q3⟩ := not_or.mp q2
        have hadj : adjB w a b = false := by
          cases z : adjB w a b with
          | false => rfl
          | true => exact absurd (by unfold stI; rw [if_pos z]; decide) q3
        rw [bit_of (by omega), if_neg]
        intro z
        have z1 := (it_Wk (rc_ok hnr (br_self hx) hN) hN ha 24 b hb).mp z
        refine hab' (alone hadj (fun c hc hbc hac => ?_) 24 b hb z1).symm
        rw [b_or, b_and, b_not _ (by omega), b_and, near1 hnear hN ha hc, hac, Bool.true_and] at hbc
        have h2c : bt (mtwo a b) c = true := by
          cases y : bt (moth M (w * h) a b) c <;> simp [y] at hbc <;> exact hbc
        unfold mtwo at h2c
        rw [b_or, b_one (by omega) (by omega), b_one (by omega) (by omega), Bool.or_eq_true] at h2c
        rcases h2c with y | y
        · have := of_decide_eq_true y
          subst this
          exfalso
          unfold adjB dif at hac
          simp at hac
        · exact of_decide_eq_true y
      rw [pc_N hS0 hN]
      show apF _ _ _ _ _ _ _ _ _ _ (nI 99) = _
      rw [l3]
      have e9 : shl 1 (nI a) ||| shl 1 (nI b) = mtwo a b := rfl
      rw [e9, l2, show min (cnt (nearM M (shl 1 (nI a)) &&& moth M (w * h) a b) (w * h)) L' = L' by omega]
  · exact pair_ri (sp_apart_state hg' (by rw [epo]; exact h12)) (nxt_ri (sm_apart_state hMW ha hb hg h12) rfl hR)
end P9
