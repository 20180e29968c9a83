theorem jn_none {nr bg : Nat → Int32} {N n b : Nat} {bear set : Int32} (hN : N ≤ 24) (hch : ∀ i, Sm N (chF bg (nI i) n 0 0)) : ∀ r k fd, jnF nr bg N n b bear set r k fd = -9 → fd = -9 ∧ ∀ i, k ≤ i → i < k + r → ¬ ((bear ||| chF bg (nI i) n 0 0) &&& set = set ∧ rcV nr N b (bear ||| chF bg (nI i) n 0 0) &&& set = set) := by
  intro r
  induction r with
  | zero => intro k fd h; exact ⟨h, fun i h1 h2 => absurd h2 (by omega)⟩
  | succ r ih =>
    intro k fd h
    simp only [jnF] at h
    obtain ⟨h1, h2⟩ := ih (k + 1) _ h
    unfold jnG at h1
    by_cases hc : (fd = -9 ∨ onV (chF bg (nI k) n 0 0) < onV fd) ∧ (bear ||| chF bg (nI k) n 0 0) &&& set = set ∧ rcV nr N b (bear ||| chF bg (nI k) n 0 0) &&& set = set
    · rw [if_pos hc] at h1
      exact absurd h1 (sm_ne9 ((hch k).mono hN))
    · rw [if_neg hc] at h1
      refine ⟨h1, fun i i1 i2 => ?_⟩
      by_cases h9 : i = k
      · subst h9
        exact fun z => hc ⟨Or.inl h1, z⟩
      · exact h2 i (by omega) (by omega)
theorem full_tab : ∀ n, n < 13 → (shl 1 (nI n) = nI (2 ^ n)) ∧ ∀ k, k < n → bt (nI (2 ^ n - 1)) k = true := by decide +kernel
theorem mask_tab : ∀ N, N < 25 → ∀ c, c < 32 → bt (shl 1 (nI N) - 1) c = decide (c < N) := by decide +kernel
theorem ch_full {N n : Nat} {p : Nat → Nat} {bg : Nat → Int32} {b : Int32} (hp : Pl N n p bg b) (hn : n < 13) : chF bg (nI (2 ^ n - 1)) n 0 0 = b := by
  refine b_ext fun c hc => Bool.eq_iff_iff.mpr ?_
  rw [ch_sub hp _ hc, hp.2.2.2.2 c hc]
  constructor
  · rintro ⟨k, k1, k2, -⟩; exact ⟨k, k1, k2⟩
  · rintro ⟨k, k1, k2⟩; exact ⟨k, k1, k2, (full_tab n hn).2 k k1⟩
theorem lb_cnt {s : Nat → Int32} {b : Int32} {N : Nat} (hb : ∀ c, c < N → (s c = 1 ↔ bt b c = true)) : ∀ n j (st : LB), j + n = N → st.1 = cnt b j → (lbG s n j st).1 = cnt b N := by
  intro n
  induction n with
  | zero => intro j st hj h; rw [show N = j by omega]; exact h
  | succ n ih =>
    intro j st hj h
    simp only [lbG]
    refine ih (j + 1) _ (by omega) ?_
    show _ = cnt b j + if bt b j = true then 1 else 0
    by_cases h9 : s j = 1
    · rw [if_pos h9, if_pos ((hb j (by omega)).mp h9), ← h]
    · rw [if_neg h9, if_neg (mt (hb j (by omega)).mpr h9), ← h]; rfl
theorem ja_0 (nf : Int32 → Int32) (bear : Int32) : ¬ jaF nf 0 bear = 0 := by
  unfold jaF
  rw [if_neg (fun z => z (b_zero.mpr fun i _ => by rw [b_and, b_0]; rfl)), if_neg (fun z => z (b_zero.mpr fun i _ => by rw [b_and, b_0]; rfl))]
  decide
theorem lj_0 {N : Nat} {nf : Int32 → Int32} {bear bog : Int32} (hN : N ≤ 24) (hbog : Sm N bog) : ∀ r part, ljF nf 0 bear bog r ((part - bog) &&& bog) 0 = 0 := by
  have key : ∀ r part, Sm N part → ljF nf 0 bear bog r part 0 = 0 := by
    intro r
    induction r with
    | zero => intro part _; rfl
    | succ r ih =>
      intro part hp
      simp only [ljF]
      have h1 : pcF 0 ≤ pcF part := (pc_le hN (Sm.zero N) hp).mpr (cnt_mono (fun i h => by rw [b_0] at h; cases h) N)
      rw [if_pos (Or.inl h1)]
      exact ih _ (hbog.and' _)
  intro r part
  exact key r _ (hbog.and' _)
theorem lj_first {N : Nat} {nf : Int32 → Int32} {bear bog : Int32} (hN : N ≤ 24) (hbog : Sm N bog) {r : Nat} (hr : 0 < r) : ljF nf 0 bear bog r 0 bog = 0 := by
  obtain ⟨r, rfl⟩ : ∃ m, r = m + 1 := ⟨r - 1, by omega⟩
  simp only [ljF]
  by_cases h : pcF bog ≤ pcF 0
  · have h1 := (pc_le hN hbog (Sm.zero N)).mp h
    have h2 : (0 : Int32) = bog := cnt_eq_sub (Sm.zero N) hbog (fun i z => by rw [b_0] at z; cases z) h1
    rw [if_pos (Or.inl h), ← h2]
    exact lj_0 (bog := 0) hN (Sm.zero N) r 0
  · rw [if_neg (not_or.mpr ⟨h, ja_0 nf _⟩)]
    exact lj_0 hN hbog r 0
section P8
variable {g : GG} {M : Mem} {w h W sk t : Nat} {ea eb : Nat → Nat}
theorem rel_pl (hr : RelS M w h W sk t ea eb) : ∃ p, Pl (w * h) (lbN M (w * h)) p (lbB M (w * h)) (M.1 13 0) := by
  have hN := hr.1.1.le.1
  obtain ⟨n1, n2, n3, n4⟩ := hr.2.2.2.2.2.2.2.2.1
  obtain ⟨p, hp⟩ := lb_ls (M.1 31) (w * h) 0 (0, M.1 35) _ (ls_0 _ _)
  rw [Nat.zero_add] at hp
  exact ⟨p, ls_pl hN hp n1 fun c hc => (n3 c hc).2.1.symm⟩
theorem rel_lbN (hr : RelS M w h W sk t ea eb) : pcF (M.1 13 0) = nI (lbN M (w * h)) := by
  have hN := hr.1.1.le.1
  obtain ⟨n1, n2, n3, n4⟩ := hr.2.2.2.2.2.2.2.2.1
  rw [pc_N n1 hN]
  unfold lbN
  rw [lb_cnt (b := M.1 13 0) (fun c hc => (n3 c hc).2.1) (w * h) 0 (0, M.1 35) (by omega) rfl]
theorem rel_all (hr : RelS M w h W sk t ea eb) : M.1 11 1 = shl 1 (nI (w * h)) - 1 := by
  have hle := hr.1.1.le
  have e : M.1 11 1 = meB w h 1 := hr.2.2.1.2.1
  rw [e]
  refine b_ext fun c hc => ?_
  rw [all_tab w (by omega) h (by omega) c hc, mask_tab (w * h) (by omega) c hc]
theorem mask_Sm {N : Nat} (hN : N ≤ 24) : Sm N (shl 1 (nI N) - 1) := fun i hi => by
  rcases Nat.lt_or_ge i 32 with h9 | h9
  · rw [mask_tab N (by omega) i h9]; simp; omega
  · exact b_big h9
theorem rel_mb (hr : RelS M w h W sk t ea eb) : mbF (M.1 31) (w * h) 0 0 = bearM M := br_uniq (mb_br _ hr.1.1.le.1) (rel_br hr)
/-- with all of the bog laid down all is joined -/
theorem all_join (hr : RelS M w h W sk t ea eb) {nr : Nat → Int32} (hnr : NrR (w * h) w nr) {b : Nat} (hb : b < w * h) {set : Int32} (hs : Sm (w * h) set) : (bearM M ||| M.1 13 0) &&& set = set ∧ rcV nr (w * h) b (bearM M ||| M.1 13 0) &&& set = set := by
  have hN := hr.1.1.le.1
  obtain ⟨n1, n2, n3, n4⟩ := hr.2.2.2.2.2.2.2.2.1
  have hbr := rel_br hr
  have hall : BrOK (w * h) (fun _ => true) (bearM M ||| M.1 13 0) := by
    refine ⟨hbr.1.or n1, fun c hc => ?_⟩
    rw [b_or, hbr.2 c hc]
    unfold beS
    by_cases h9 : M.1 31 c = 1
    · rw [(n3 c hc).2.1.mp h9, Bool.or_true]
    · simp [h9]
  constructor
  · refine (hs.and' _).ext hs fun i hi => ?_
    rw [b_and, hall.2 i hi, Bool.true_and]
  · refine (hs.and' _).ext hs fun i hi => ?_
    have h1 := (it_Wk (rc_ok hnr hall hN) hN hb 24 i hi).mpr ((con_ok hr.1.1 hb hi).le (by omega))
    rw [b_and]
    show (bt (it (rcS nr (w * h) _) 24 (shl 1 (nI b))) i && bt set i) = bt set i
    rw [h1, Bool.true_and]
theorem p_joined : ∀ a b : Int32, PairI g Rel mX6_joined mX7_joined [.int a, .int b] := by
  intro set what M hM
  obtain ⟨w, h, W, sk, t, ea, eb, hr⟩ := hM
  have hN := hr.1.1.le.1
  have hwh := (rel_N hr).2
  have hbog : Sm (w * h) (M.1 13 0) := hr.2.2.2.2.2.2.2.2.1.1
  by_cases hw : what < 0 ∨ 1 < what
  · exact pair_ri (sp_joined_bad hw) (nxt_ri (sm_joined_bad (in_no hw)) rfl ⟨w, h, W, sk, t, ea, eb, rel_th hr⟩)
  · have hw0 : ¬ what < 0 := fun z => hw (Or.inl z)
    have hw1 : what ≤ 1 := by
      have := mt (Or.inr (a := what < 0)) hw
      rw [Int32.lt_iff_toInt_lt] at this
      rw [Int32.le_iff_toInt_le]
      omega
    have hg : ¬ inF what 0 1 = 0 := in_yes hw
    have ebog := rel_lbN hr
    rcases Nat.eq_zero_or_pos (w * h) with h0 | h0
    · -- no cell
      have eb0 : M.1 13 0 = 0 := b_zero.mpr fun i _ => hbog i (by omega)
      have ec : cnt (0 : Int32) 24 = 0 := by decide +kernel
      have e1 : pcF (M.1 13 0) = 0 := by rw [eb0, pc_cnt (Sm.zero 24), ec]; rfl
      refine pair_ri (sp_joined (s := 1) (by decide) (by rw [e1]; decide) hw0 hw1 (by rw [e1]; decide)) (nxt_ri (sm_joined_00 (by rw [hwh, h0]) hg) ?_ ⟨w, h, W, sk, t, ea, eb, ?_⟩)
      · have e2 : set &&& M.1 11 1 = 0 := b_zero.mpr fun i _ => by rw [rel_all hr, b_and, mask_Sm hN i (by omega), Bool.and_false]
        unfold joinedV
        rw [e2, lj_first hN hbog (by decide), pc_on (Sm.zero 24)]
      · exact hr
    · have hMW := rel_MW hr h0
      by_cases hb10 : pcF (M.1 13 0) ≤ 10
      · have hb10' : nI (lbN M (w * h)) ≤ 10 := by rw [← ebog]; exact hb10
        obtain ⟨p, hp⟩ := rel_pl hr
        have hn10 : lbN M (w * h) ≤ 10 := (nI_leI (a := lbN M (w * h)) (b := 10) (by have := hp.1; omega) (by decide)).mp hb10'
        obtain ⟨t1, t2⟩ := full_tab (lbN M (w * h)) (by omega)
        have hpow : 2 ^ lbN M (w * h) ≤ 2 ^ 10 := Nat.pow_le_pow_right (by decide) hn10
        have hpos : 0 < 2 ^ lbN M (w * h) := Nat.pow_pos (by decide)
        have hset : set &&& M.1 11 1 = jmask set (w * h) := by unfold jmask; rw [rel_all hr]
        have hsm : Sm (w * h) (jmask set (w * h)) := (mask_Sm hN).and' _
        refine pair_ri (sp_joined (s := 2 ^ lbN M (w * h)) (by omega) (by rw [ebog]; exact t1) hw0 hw1 hb10) ?_
        unfold joinedV
        rw [hset]
        by_cases hj0 : jmask set (w * h) = 0
        · refine nxt_ri (sm_joined_0 hMW hg hb10' hj0) ?_ ⟨w, h, W, sk, t, ea, eb, hr⟩
          rw [hj0, lj_first hN hbog hpos, pc_on (Sm.zero 24)]
        · obtain ⟨b, b1, b2, b3⟩ := low_ex hsm hN hj0
          have hnr := nb_ok (setO (th M) 35 (lbB M (w * h))) (w := w) hN
          refine nxt_ri (sm_joined hMW hg hb10' hj0 b1 b2 b3 (by omega) (nr_sm hnr) (by omega) t1) ?_ ⟨w, h, W, sk, t, ea, eb, hr⟩
          rw [rel_mb hr]
          have hje := join_eq hnr (rel_near hr) (rel_br hr) hN hp hbog b1 b2 b3 (2 ^ lbN M (w * h)) 0 (M.1 13 0) (-9) (Or.inl ⟨rfl, rfl⟩)
          rw [ch_zero hp] at hje
          rcases hje with ⟨-, z⟩ | ⟨z1, z2⟩
          · exfalso
            obtain ⟨-, z2⟩ := jn_none hN (fun i => (ch_Sm hp (nI i)).1) _ _ _ z
            refine z2 (2 ^ lbN M (w * h) - 1) (Nat.zero_le _) (by omega) ?_
            rw [ch_full hp (by omega)]
            exact all_join hr hnr b1 hsm
          · rw [z1, pc_on (z2.mono hN)]
      · refine pair_ri (sp_joined_state hw0 hw1 hb10) (nxt_ri (sm_joined_state hMW hg (by rw [← ebog]; exact hb10)) rfl ⟨w, h, W, sk, t, ea, eb, hr⟩)
end P8
