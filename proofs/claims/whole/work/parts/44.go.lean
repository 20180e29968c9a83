/-! ===== passes ===== -/
def set3 (M : Mem) (f13 f14 f15 : Nat → Int32) : Mem := setO (setO (setO M 13 f13) 14 f14) 15 f15
def set4 (M : Mem) (f13 f14 f15 f16 : Nat → Int32) : Mem := setO (setO (setO (setO M 13 f13) 14 f14) 15 f15) 16 f16
theorem set3_set3 (M : Mem) (f13 f14 f15 g13 g14 g15 : Nat → Int32) : set3 (set3 M f13 f14 f15) g13 g14 g15 = set3 M g13 g14 g15 := by
  refine Prod.ext (funext fun a => ?_) rfl
  show (if a = 15 then g15 else if a = 14 then g14 else if a = 13 then g13 else if a = 15 then f15 else if a = 14 then f14 else if a = 13 then f13 else M.1 a) = if a = 15 then g15 else if a = 14 then g14 else if a = 13 then g13 else M.1 a
  by_cases c1 : a = 15
  · simp [c1]
  · by_cases c2 : a = 14
    · simp [c2]
    · by_cases c3 : a = 13
      · simp [c3]
      · simp [c1, c2, c3]
theorem set4_set3 (M : Mem) (f13 f14 f15 g13 g14 g15 g16 : Nat → Int32) : set4 (set3 M f13 f14 f15) g13 g14 g15 g16 = set4 M g13 g14 g15 g16 := by
  show setO (set3 (set3 M f13 f14 f15) g13 g14 g15) 16 g16 = setO (set3 M g13 g14 g15) 16 g16
  rw [set3_set3]
theorem set4_self (M : Mem) : set4 M (M.1 13) (M.1 14) (M.1 15) (M.1 16) = M := by
  unfold set4
  rw [setO_self, setO_self, setO_self, setO_self]
theorem set4_set4 (M : Mem) (f13 f14 f15 f16 g13 g14 g15 g16 : Nat → Int32) : set4 (set4 M f13 f14 f15 f16) g13 g14 g15 g16 = set4 M g13 g14 g15 g16 := by
  refine Prod.ext (funext fun a => ?_) rfl
  show (if a = 16 then g16 else if a = 15 then g15 else if a = 14 then g14 else if a = 13 then g13 else if a = 16 then f16 else if a = 15 then f15 else if a = 14 then f14 else if a = 13 then f13 else M.1 a) = if a = 16 then g16 else if a = 15 then g15 else if a = 14 then g14 else if a = 13 then g13 else M.1 a
  by_cases c0 : a = 16
  · simp [c0]
  · by_cases c1 : a = 15
    · simp [c1]
    · by_cases c2 : a = 14
      · simp [c2]
      · by_cases c3 : a = 13
        · simp [c3]
        · simp [c0, c1, c2, c3]
theorem go_ok {N w sk b : Nat} {nr : Int32 → Int32} {be : Nat → Bool} {bear : Int32} (hn : NearOK N w nr) (hb : BrOK N be bear) (hN : N ≤ 24) (hk : sk ≤ 9) (hbN : b < N) : ∀ n p (M : Mem) (s : Nat → Int32), p < N → be p = true → dF N be (adjB w) b p = n → n < 99 → NowR N sk (M.1 13 0) (M.1 13 1) (M.1 14) (M.1 15) (M.1 16) (skA N sk s) → (∀ c, c < N → dF N be (adjB w) b c < n → ¬ pend sk s c) →
    ∃ f13 f14 f15, gaW nr (nI b) bear n (nI p) M = set3 M f13 f14 f15 ∧ NowR N sk (f13 0) (f13 1) f14 f15 (M.1 16) (skA N sk (pwS N be (adjB w) (dF N be (adjB w) b) (nI sk) n p s)) := by
  intro n
  induction n with
  | zero =>
    intro p M s hp hpb hF h9 hR hq
    exact ⟨M.1 13, M.1 14, M.1 15, by unfold set3; rw [setO_self, setO_self, setO_self]; rfl, hR⟩
  | succ n ih =>
    intro p M s hp hpb hF h9 hR hq
    obtain ⟨q1, q2, q3, q4⟩ := nxN_ok hN hbN (adjB_comm w) hp hpb (by omega) (by omega)
    simp only [gaW, pwS]
    rw [nextF_nx hn hb hN hp hbN hpb (by omega) (by omega)]
    generalize nxN N be (adjB w) (dF N be (adjB w) b) p = q at q1 q2 q3 q4
    obtain ⟨f13, f14, f15, e1, e2⟩ := step_now hN hk q1 (hq q q1 (by omega)) hR
    rw [e1]
    obtain ⟨g13, g14, g15, e3, e4⟩ := ih q (set3 M f13 f14 f15) (mst sk s q) q1 q2 (by omega) (by omega) e2 (fun c hc hlt => by
      rw [mst_pend hk (by omega) (by omega) (fun z => by subst z; omega)]
      exact hq c hc (by omega))
    refine ⟨g13, g14, g15, ?_, e4⟩
    show gaW nr (nI b) bear n (nI q) (set3 M f13 f14 f15) = _
    rw [e3, set3_set3]
section P6
variable {g : GG} {M : Mem} {w h W sk t : Nat} {ea eb : Nat → Nat} {s : Nat → Int32}
/-- in the class's memory, with the reference's row s beside it -/
theorem ga_ok (hr : RelS (setO M 31 s) w h W sk t ea eb) {k c : Nat} (hk : k < W) (hc : c < w * h) (hd : ¬ dv (w * h) (beS s) (adjB w) (ea k) (eb k) = -9) :
    ∃ f13 f14 f15 f16, gaM M (nI k) (nI c) = set4 M f13 f14 f15 f16 ∧ NowR (w * h) sk (f13 0) (f13 1) f14 f15 f16 (palS (w * h) (beS s) (adjB w) (nI sk) (ea k) (eb k) k c s) := by
  have hN := hr.1.1.le.1
  have hsk := hr.1.2.2
  have hW := hr.1.2.1
  obtain ⟨z1, z2⟩ := rel_ends hr hk
  obtain ⟨-, -, -, -, k5, k6⟩ := hr.2.2.2.2.2.1 k hk
  have hst : stM M (nI k) = dv (w * h) (beS s) (adjB w) (ea k) (eb k) := rel_st hr hk
  have hle := (dF_ok (be := beS s) (ad := adjB w) hN k6).2 (ea k)
  have hdv : dv (w * h) (beS s) (adjB w) (ea k) (eb k) = nI (dF (w * h) (beS s) (adjB w) (eb k) (ea k)) ∧ beS s (ea k) = true ∧ dF (w * h) (beS s) (adjB w) (eb k) (ea k) < 99 := by
    unfold dv at hd ⊢
    by_cases z3 : beS s (ea k) = false ∨ dF (w * h) (beS s) (adjB w) (eb k) (ea k) = 99
    · exact absurd (if_pos z3) hd
    · rw [if_neg z3]
      obtain ⟨z4, z5⟩ := not_or.mp z3
      exact ⟨rfl, by simpa using z4, by omega⟩
  obtain ⟨d1, d2, d3⟩ := hdv
  have hnow := hr.2.2.2.2.2.2.2.2.1
  obtain ⟨f13, f14, f15, e1, e2⟩ := go_ok (rel_near hr) (rel_br hr) hN hsk k6 _ (ea k) M s k5 d2 rfl d3 (now_skA hN hsk hnow) (fun c hc _ => no_pend hsk hnow hc)
  have e3 : gaM M (nI k) (nI c) = layM (set3 M f13 f14 f15) (nI k) (nI c) (nI sk) := by
    unfold gaM
    have y1 : atF 4 (M.1 6) (nI k) = nI (eb k) := z2
    have y2 : atF 4 (M.1 5) (nI k) = nI (ea k) := z1
    have y3 : M.1 4 5 = nI sk := hr.2.1.2.2.2.1
    rw [hst, d1, nI_clamp (by omega), y1, y2]
    have e4 : gaW (nearM M) (nI (eb k)) (bearM M) (dF (w * h) (beS s) (adjB w) (eb k) (ea k)) (nI (ea k)) M = set3 M f13 f14 f15 := e1
    rw [e4]
    show layM (set3 M f13 f14 f15) (nI k) (nI c) (M.1 4 5) = _
    rw [y3]
  obtain ⟨g13, g14, g15, g16, e5, e6⟩ := lay_now (M := set3 M f13 f14 f15) hN hsk hc (show k < 4 by omega) e2
  refine ⟨g13, g14, g15, g16, ?_, e6⟩
  rw [e3, e5]
  exact set4_set3 M f13 f14 f15 g13 g14 g15 g16
theorem rel_set4 (hr : RelS M w h W sk t ea eb) {f13 f14 f15 f16 s : Nat → Int32} (hh : NowR (w * h) sk (f13 0) (f13 1) f14 f15 f16 s) : RelS (setO (set4 M f13 f14 f15 f16) 31 s) w h W sk t ea eb :=
  ⟨hr.1, hr.2.1, hr.2.2.1, hr.2.2.2.1, hr.2.2.2.2.1, hr.2.2.2.2.2.1, hr.2.2.2.2.2.2.1, hr.2.2.2.2.2.2.2.1, hh, hr.2.2.2.2.2.2.2.2.2⟩
theorem bog_iff (hr : RelS M w h W sk t ea eb) {c : Nat} (hc : c < w * h) : hasF (M.1 13 0) (nI c) = 0 ↔ ¬ M.1 31 c = 1 := by
  have hle := hr.1.1.le.1
  rw [has_iff (by omega), (hr.2.2.2.2.2.2.2.2.1.2.2.1 c hc).2.1]
  exact Bool.eq_false_iff
theorem p_passes : ∀ a b : Int32, PairI g Rel mX6_passes mX7_passes [.int a, .int b] := by
  intro a b M hM
  obtain ⟨w, h, W, sk, t, ea, eb, hr⟩ := hM
  have hR : Rel (th M) := ⟨w, h, W, sk, t, ea, eb, rel_th hr⟩
  rcases walkC hr a with ⟨h1, h2⟩ | ⟨k, hk, rfl, h1, h2⟩
  · exact pair_ri (sp_passes_bad (Or.inl h1)) (nxt_ri (sm_passes_bad (Or.inl h2)) rfl hR)
  · rcases cellC hr b with ⟨k1, k2⟩ | ⟨c, hc, rfl, k1, k2⟩
    · exact pair_ri (sp_passes_bad (Or.inr k1)) (nxt_ri (sm_passes_bad (Or.inr k2)) rfl hR)
    · have hst := rel_st hr hk
      have hMW := rel_MW hr (by omega)
      by_cases hs : dvM M (w * h) w (ea k) (eb k) = -9 ∨ ¬ M.1 31 c = 1
      · refine pair_ri (sp_passes_state (not_or.mpr ⟨h1, k1⟩) ?_) (nxt_si (sm_passes_state hMW (rel_EN hr hk) hc (not_or.mpr ⟨h2, k2⟩) hs) fun x m hx => ?_)
        · rw [hst, bog_iff hr hc]; exact hs
        · obtain ⟨e1, f, e2⟩ := hx
          rw [e1, e2]
          exact ⟨rfl, w, h, W, sk, t, ea, eb, rel_34 (rel_th hr) f⟩
      · obtain ⟨d, hd, e⟩ : ∃ d, d < 24 ∧ dvM M (w * h) w (ea k) (eb k) = nI d := by
          obtain ⟨-, -, -, -, k5, k6⟩ := hr.2.2.2.2.2.1 k hk
          rcases fsF_val (rel_near hr) (rel_br hr) hr.1.1.le.1 k5 k6 with e | e
          · exact absurd (Or.inl e) hs
          · exact e
        have hr' : RelS (setO M 31 (M.1 31)) w h W sk t ea eb := by rw [setO_self]; exact hr
        obtain ⟨f13, f14, f15, f16, e1, e2⟩ := ga_ok hr' hk hc (fun z => hs (Or.inl z))
        have hsk : M.1 25 11 = nI sk := hr.2.2.2.1.2.2.2
        refine pair_ri (sp_passes (s := d) (by omega) (hst.trans e) (not_or.mpr ⟨h1, k1⟩) ?_) ?_
        · rw [hst, bog_iff hr hc]; exact hs
        · rw [e1]
          refine nxt_si (sm_passes (M := set4 M f13 f14 f15 f16) hMW (rel_EN hr hk) hc (not_or.mpr ⟨h2, k2⟩) hs) fun x m hx => ?_
          obtain ⟨z1, f, z2⟩ := hx
          refine ⟨z1.trans e, w, h, W, sk, t, ea, eb, ?_⟩
          have e3 : palM (set4 M f13 f14 f15 f16) (w * h) w (ea k) (eb k) k c = palS (w * h) (beS (M.1 31)) (adjB w) (nI sk) (ea k) (eb k) k c (M.1 31) := by
            rw [← hsk]
            rfl
          rw [z2, e3]
          exact rel_set4 hr e2
end P6
