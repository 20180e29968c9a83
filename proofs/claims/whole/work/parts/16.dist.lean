
/-! ===== distances: what 'measures' leaves ===== -/
def DistF (N : Nat) (be : Nat → Bool) (ad : Nat → Nat → Bool) (gl : Nat) (F : Nat → Nat) : Prop := (∀ c, c < N → F c < 99 → be gl = true ∧ Wk N be ad gl (F c) c) ∧ ∀ k c, c < N → be gl = true → Wk N be ad gl k c → F c ≤ k
def JD (N : Nat) (be : Nat → Bool) (ad : Nat → Nat → Bool) (gl : Nat) (F : Nat → Nat) : Prop := (∀ c, c < N → F c < 99 → be gl = true ∧ Wk N be ad gl (F c) c) ∧ (be gl = true → F gl = 0) ∧ ∀ c, c < N → F c ≤ 99
theorem JD_step {N w gl : Nat} {s : Nat → Int32} : ∀ (F : Nat → Nat) (c d : Nat), c < N → d < N → okS s w c d = true → F d + 1 < F c → JD N (beS s) (adjB w) gl F → JD N (beS s) (adjB w) gl (updN F c (F d + 1)) := by
  intro F c d hc hd hok hlt ⟨h1, h2, h3⟩
  have hF := h3 c hc
  obtain ⟨g1, g2⟩ := h1 d hd (by omega)
  simp only [okS, Bool.and_eq_true] at hok
  refine ⟨fun x hx hl => ?_, fun hb => ?_, fun x hx => ?_⟩
  · by_cases e : x = c
    · subst e
      have e2 : updN F x (F d + 1) x = F d + 1 := if_pos rfl
      rw [e2]
      exact ⟨g1, Or.inr ⟨hok.1, d, hd, by rw [adjB_comm]; exact hok.2.2, g2⟩⟩
    · have e2 : updN F c (F d + 1) x = F x := if_neg e
      rw [e2] at hl ⊢
      exact h1 x hx hl
  · have h0 := h2 hb
    by_cases e : gl = c
    · subst e; omega
    · exact (if_neg e).trans h0
  · by_cases e : x = c
    · subst e
      have e2 : updN F x (F d + 1) x = F d + 1 := if_pos rfl
      omega
    · have e2 : updN F c (F d + 1) x = F x := if_neg e
      rw [e2]; exact h3 x hx
theorem JD_0 {N w gl : Nat} {s : Nat → Int32} : JD N (beS s) (adjB w) gl (F0m s gl) := by
  refine ⟨fun c hc hl => ?_, fun hb => ?_, fun c hc => ?_⟩
  · unfold F0m at hl ⊢
    split at hl
    · rename_i h
      rw [if_pos h]
      exact ⟨by rw [← h.1]; exact beS_iff.mpr h.2, h.1⟩
    · omega
  · exact if_pos ⟨rfl, beS_iff.mp hb⟩
  · unfold F0m
    split <;> omega
theorem JD_fin {N w gl : Nat} {s : Nat → Int32} {F : Nat → Nat} (hgl : gl < N) (h : JD N (beS s) (adjB w) gl F) (hS : StableR (okS s w) (fun _ => 1) N F) : DistF N (beS s) (adjB w) gl F := by
  refine ⟨h.1, ?_⟩
  intro k
  induction k with
  | zero => rintro c hc hb rfl; rw [h.2.1 hb]; exact Nat.le_refl 0
  | succ k ih =>
    rintro c hc hb (g | ⟨g, d, g1, g2, g3⟩)
    · have := ih c hc hb g; omega
    · have h1 := ih d g1 hb g3
      have h2 := hS c hc d g1 (by simp only [okS, Bool.and_eq_true]; exact ⟨g, Wk.bear hb k d g3, by rw [adjB_comm]; exact g2⟩)
      dsimp only at h2
      omega
theorem Dist_St {N gl a : Nat} {be : Nat → Bool} {ad : Nat → Nat → Bool} {F : Nat → Nat} (hN : N ≤ 24) (hgl : gl < N) (ha : a < N) (h : DistF N be ad gl F) (hF : F a ≤ 99) : IsSt N be ad gl a (if be a = false ∨ F a = 99 then -9 else nI (F a)) := by
  by_cases e : be a = false ∨ F a = 99
  · rw [if_pos e]
    refine Or.inl ⟨rfl, fun k ⟨q1, q2, q3⟩ => ?_⟩
    rcases e with e | e
    · rw [e] at q3; cases q3
    · have := h.2 24 a ha q1 (Wk_cap hN hgl ha q2)
      omega
  · rw [if_neg e]
    have h1 : ¬ be a = false := fun h => e (Or.inl h)
    have h2 : ¬ F a = 99 := fun h => e (Or.inr h)
    obtain ⟨g1, g2⟩ := h.1 a ha (by omega)
    exact Or.inr ⟨F a, by omega, rfl, g1, by simpa using h1, g2, fun j hj q => by have := h.2 j a ha g1 q; omega⟩


def ls (p : Nat → Bool) : Nat → Nat → Nat
  | 0, d => d
  | n + 1, d => if p d = true then d else ls p n (d + 1)
theorem ls_spec (p : Nat → Bool) : ∀ n d, (ls p n d = d + n ∧ ∀ e, d ≤ e → e < d + n → p e = false) ∨ (d ≤ ls p n d ∧ ls p n d < d + n ∧ p (ls p n d) = true ∧ ∀ e, d ≤ e → e < ls p n d → p e = false) := by
  intro n
  induction n with
  | zero => intro d; exact Or.inl ⟨rfl, fun e h1 h2 => by omega⟩
  | succ n ih =>
    intro d
    by_cases h : p d = true
    · rw [ls, if_pos h]
      exact Or.inr ⟨Nat.le_refl d, by omega, h, fun e h1 h2 => by omega⟩
    · rw [ls, if_neg h]
      have h' : p d = false := by simpa using h
      rcases ih (d + 1) with ⟨g1, g2⟩ | ⟨g1, g2, g3, g4⟩
      · refine Or.inl ⟨by omega, fun e h1 h2 => ?_⟩
        by_cases e1 : e = d
        · rw [e1]; exact h'
        · exact g2 e (by omega) (by omega)
      · refine Or.inr ⟨by omega, by omega, g3, fun e h1 h2 => ?_⟩
        by_cases e1 : e = d
        · rw [e1]; exact h'
        · exact g4 e (by omega) h2
theorem ls_eq {p : Nat → Bool} {n d x : Nat} (h1 : d ≤ x) (h2 : x < d + n) (h3 : p x = true) (h4 : ∀ e, d ≤ e → e < x → p e = false) : ls p n d = x := by
  rcases ls_spec p n d with ⟨_, g2⟩ | ⟨g1, g2, g3, g4⟩
  · rw [g2 x h1 h2] at h3; cases h3
  · rcases Nat.lt_trichotomy (ls p n d) x with l | l | l
    · rw [h4 _ g1 l] at g3; cases g3
    · exact l
    · rw [g4 x h1 l] at h3; cases h3
/-- the distance to a goal: 99 where there is no way -/
def dF (N : Nat) (be : Nat → Bool) (ad : Nat → Nat → Bool) (b c : Nat) : Nat := if be b = true then ls (fun k => bt (it (stG N be ad) k (shl 1 (nI b))) c) 99 0 else 99
theorem dF_ok {N : Nat} {be : Nat → Bool} {ad : Nat → Nat → Bool} {b : Nat} (hN : N ≤ 24) (hb : b < N) : DistF N be ad b (dF N be ad b) ∧ ∀ c, dF N be ad b c ≤ 99 := by
  have hw : ∀ k c, c < N → (bt (it (stG N be ad) k (shl 1 (nI b))) c = true ↔ Wk N be ad b k c) := fun k c hc => it_Wk (stG_ok hN) hN hb k c hc
  refine ⟨⟨fun c hc hl => ?_, fun k c hc hbb hk => ?_⟩, fun c => ?_⟩
  · unfold dF at hl ⊢
    by_cases e : be b = true
    · rw [if_pos e] at hl ⊢
      rcases ls_spec (fun k => bt (it (stG N be ad) k (shl 1 (nI b))) c) 99 0 with ⟨g1, _⟩ | ⟨_, _, g3, _⟩
      · omega
      · exact ⟨e, (hw _ c hc).mp g3⟩
    · rw [if_neg e] at hl; omega
  · unfold dF
    rw [if_pos hbb]
    rcases ls_spec (fun k => bt (it (stG N be ad) k (shl 1 (nI b))) c) 99 0 with ⟨g1, g2⟩ | ⟨_, g2, g3, g4⟩
    · have := g2 24 (by omega) (by omega)
      rw [(hw 24 c hc).mpr (Wk_cap hN hb hc hk)] at this
      cases this
    · apply Nat.le_of_not_lt
      intro l
      have := g4 k (by omega) l
      rw [(hw k c hc).mpr hk] at this
      cases this
  · unfold dF
    split
    · rcases ls_spec (fun k => bt (it (stG N be ad) k (shl 1 (nI b))) c) 99 0 with ⟨g1, _⟩ | ⟨_, g2, _, _⟩ <;> omega
    · exact Nat.le_refl 99
theorem Dist_uniq {N : Nat} {be : Nat → Bool} {ad : Nat → Nat → Bool} {b : Nat} {F G : Nat → Nat} (h : DistF N be ad b F) (k : DistF N be ad b G) (hF : ∀ c, c < N → F c ≤ 99) (kG : ∀ c, c < N → G c ≤ 99) : ∀ c, c < N → F c = G c := by
  intro c hc
  have h1 := hF c hc
  have h2 := kG c hc
  rcases Nat.lt_or_ge (F c) 99 with l | l <;> rcases Nat.lt_or_ge (G c) 99 with l2 | l2
  · obtain ⟨p1, p2⟩ := h.1 c hc l
    obtain ⟨q1, q2⟩ := k.1 c hc l2
    have := h.2 (G c) c hc p1 q2
    have := k.2 (F c) c hc p1 p2
    omega
  · obtain ⟨p1, p2⟩ := h.1 c hc l
    have := k.2 (F c) c hc p1 p2
    omega
  · obtain ⟨p1, p2⟩ := k.1 c hc l2
    have := h.2 (G c) c hc p1 p2
    omega
  · omega
/-- the steps from a to b as a number of the machine -/
def dv (N : Nat) (be : Nat → Bool) (ad : Nat → Nat → Bool) (a b : Nat) : Int32 := if be a = false ∨ dF N be ad b a = 99 then -9 else nI (dF N be ad b a)
theorem dv_St {N : Nat} {be : Nat → Bool} {ad : Nat → Nat → Bool} {a b : Nat} (hN : N ≤ 24) (ha : a < N) (hb : b < N) (hs : ∀ x y, ad x y = ad y x) : IsSt N be ad a b (dv N be ad a b) :=
  (Dist_St hN hb ha (dF_ok hN hb).1 ((dF_ok hN hb).2 a)).sym hs hb ha
/-- the next cell of the way to b: the least that is a step nearer -/
def nxP (be : Nat → Bool) (ad : Nat → Nat → Bool) (F : Nat → Nat) (p d : Nat) : Bool := be d && (ad p d && (F d + 1 == F p))
def nxN (N : Nat) (be : Nat → Bool) (ad : Nat → Nat → Bool) (F : Nat → Nat) (p : Nat) : Nat := ls (nxP be ad F p) N 0
theorem nxN_ok {N : Nat} {be : Nat → Bool} {ad : Nat → Nat → Bool} {b p : Nat} (hN : N ≤ 24) (hb : b < N) (hs : ∀ x y, ad x y = ad y x) (hp : p < N) (hpb : be p = true) (h0 : 0 < dF N be ad b p) (h9 : dF N be ad b p < 99) : nxN N be ad (dF N be ad b) p < N ∧ be (nxN N be ad (dF N be ad b) p) = true ∧ ad p (nxN N be ad (dF N be ad b) p) = true ∧ dF N be ad b (nxN N be ad (dF N be ad b) p) + 1 = dF N be ad b p := by
  obtain ⟨hD, h99⟩ := dF_ok (be := be) (ad := ad) hN hb
  obtain ⟨g1, g2⟩ := hD.1 p hp h9
  have hex : ∃ d, d < N ∧ nxP be ad (dF N be ad b) p d = true := by
    obtain ⟨m, hm⟩ : ∃ m, dF N be ad b p = m + 1 := ⟨dF N be ad b p - 1, by omega⟩
    rw [hm] at g2
    rcases g2 with g2 | ⟨q1, d, q2, q3, q4⟩
    · have := hD.2 m p hp g1 g2; omega
    · have e1 := hD.2 m d q2 g1 q4
      have e2 : dF N be ad b p ≤ dF N be ad b d + 1 := by
        obtain ⟨z1, z2⟩ := hD.1 d q2 (by omega)
        exact hD.2 _ p hp g1 (Or.inr ⟨q1, d, q2, q3, z2⟩)
      refine ⟨d, q2, ?_⟩
      simp only [nxP, Bool.and_eq_true, beq_iff_eq]
      exact ⟨Wk.bear g1 m d q4, by rw [hs]; exact q3, by omega⟩
  obtain ⟨d, d1, d2⟩ := hex
  unfold nxN
  rcases ls_spec (nxP be ad (dF N be ad b) p) N 0 with ⟨_, k2⟩ | ⟨_, k2, k3, _⟩
  · rw [k2 d (by omega) (by omega)] at d2; cases d2
  · simp only [nxP, Bool.and_eq_true, beq_iff_eq] at k3
    exact ⟨by omega, k3.1, k3.2.1, k3.2.2⟩
/-! the reference's own -/
def MW (M : Mem) (N w : Nat) : Prop := N ≤ 24 ∧ M.1 25 8 * M.1 25 9 = nI N ∧ M.1 25 8 = nI w ∧ 0 < w ∧ w ≤ 24
def dM (M : Mem) (N w b : Nat) : Nat → Nat := dF N (beS (M.1 31)) (adjB w) b
def dvM (M : Mem) (N w a b : Nat) : Int32 := dv N (beS (M.1 31)) (adjB w) a b
theorem RF_congr {N : Nat} {f : Nat → Int32} {F G : Nat → Nat} (h : RF N f F) (e : ∀ c, c < N → F c = G c) : RF N f G := fun c hc => by rw [← e c hc]; exact h c hc

theorem sm_stepsOf {g : GG} {M : Mem} {N w a b : Nat} (h : MW M N w) (ha : a < N) (hb : b < N) : SI g mX7_stepsOf [ob g 25, .int (nI a), .int (nI b)] M (fun x m => x = dvM M N w a b ∧ ∃ f, m = setO M 34 f ∧ RF N f (dM M N w b)) := by
  obtain ⟨hN, hwh, hw, h0, hw2⟩ := h
  refine spec_of_wp (ls := [some (ob g 25), some (.int (nI a)), some (.int (nI b))]) rfl (Nat.le_of_ble_eq_true rfl) 0 rfl ?_
  refine wp_aload_n (pc' := 1) dX7_stepsOf_0 rfl rfl ⟨_, rfl⟩ ?_
  refine wp_iload_n (pc' := 2) dX7_stepsOf_1 rfl rfl ?_
  refine wp_sVV (μ' := mX7_measures) (pc' := 5) (o := 25) dX7_stepsOf_2 rfl mlX7_155 cfX7_measures ⟨(Nat.le_of_ble_eq_true rfl), (Nat.le_of_ble_eq_true rfl)⟩ (sm_measures hN hwh hw h0 hw2 hb (JD_step (gl := b)) JD_0) (by decide) rfl rfl rfl rfl rfl (Nat.le_of_ble_eq_true rfl) (fun m hm => ?_)
  obtain ⟨f, F, rfl, hR, hJ1, hS⟩ := hm
  have hD := JD_fin hb hJ1 hS
  have hE := Dist_uniq hD (dF_ok hN hb).1 hJ1.2.2 (fun c _ => (dF_ok hN hb).2 c)
  have hR2 : RF N f (dM M N w b) := RF_congr hR hE
  have hfa : f a = nI (dM M N w b a) := (hR2 a ha).1
  have h99 : dM M N w b a ≤ 99 := (hR2 a ha).2
  refine wp_aload_n (pc' := 6) dX7_stepsOf_5 rfl rfl ⟨_, rfl⟩ ?_
  refine wp_get (pc' := 9) (o := 25) dX7_stepsOf_6 rfl flX7_25 (by decide) rfl rfl ?_
  refine wp_iload_n (pc' := 10) dX7_stepsOf_9 rfl rfl ?_
  refine wp_ialdN (pc' := 11) (o := 31) (n := 76) (a) dX7_stepsOf_10 rfl (by decide) rfl (rfl) (by omega) (by decide) ?_
  refine wp_iconst (pc' := 12) 1 dX7_stepsOf_11 rfl (by decide) ?_
  refine wp_icmp_eq (pc' := 15) 26 dX7_stepsOf_12 rfl (by decide) (fun h12 => ?_) (fun h12 => ?_)
  · refine wp_bipush (pc' := 28) (-9) dX7_stepsOf_26 rfl (by decide) ?_
    refine wp_goto 37 dX7_stepsOf_28 (by decide) ?_
    refine wp_ireti dX7_stepsOf_37 rfl ?_
    exact ⟨_, rfl, (if_pos (Or.inl (by simp only [beS]; rw [show M.1 31 a = 1 from h12]; rfl))).symm, f, rfl, hR2⟩
  · refine wp_aload_n (pc' := 16) dX7_stepsOf_15 rfl rfl ⟨_, rfl⟩ ?_
    refine wp_get (pc' := 19) (o := 25) dX7_stepsOf_16 rfl flX7_35 (by decide) rfl rfl ?_
    refine wp_iload_n (pc' := 20) dX7_stepsOf_19 rfl rfl ?_
    refine wp_ialdN (pc' := 21) (o := 34) (n := 24) (a) dX7_stepsOf_20 rfl (by decide) rfl (rfl) (by omega) (by decide) ?_
    refine wp_bipush (pc' := 23) 99 dX7_stepsOf_21 rfl (by decide) ?_
    refine wp_icmp_ne (pc' := 26) 31 dX7_stepsOf_23 rfl (by decide) (fun h23 => ?_) (fun h23 => ?_)
    · refine wp_aload_n (pc' := 32) dX7_stepsOf_31 rfl rfl ⟨_, rfl⟩ ?_
      refine wp_get (pc' := 35) (o := 25) dX7_stepsOf_32 rfl flX7_35 (by decide) rfl rfl ?_
      refine wp_iload_n (pc' := 36) dX7_stepsOf_35 rfl rfl ?_
      refine wp_ialdN (pc' := 37) (o := 34) (n := 24) (a) dX7_stepsOf_36 rfl (by decide) rfl (rfl) (by omega) (by decide) ?_
      refine wp_ireti dX7_stepsOf_37 rfl ?_
      exact ⟨_, rfl, hfa.trans (if_neg (fun hh => hh.elim (fun hh => by have := beS_iff.mpr (show ¬ M.1 31 a = 1 from h12); rw [hh] at this; cases this) (fun hh => h23 (hfa.trans (congrArg nI hh))))).symm, f, rfl, hR2⟩
    · refine wp_bipush (pc' := 28) (-9) dX7_stepsOf_26 rfl (by decide) ?_
      refine wp_goto 37 dX7_stepsOf_28 (by decide) ?_
      refine wp_ireti dX7_stepsOf_37 rfl ?_
      exact ⟨_, rfl, (if_pos (Or.inr ((nI_eq (by omega) (by decide)).mp (hfa.symm.trans h23)))).symm, f, rfl, hR2⟩
theorem eq_m1 {a b : Nat} (ha : a ≤ 99) (hb : b ≤ 99) : nI a = nI b - 1 ↔ a + 1 = b := by
  constructor
  · intro h
    have h2 : nI a + 1 = nI b := by rw [h, Int32.sub_add_cancel]
    rw [nI_1] at h2
    exact (nI_eq (by omega) (by omega)).mp h2
  · rintro rfl
    exact (nI_pred a).symm
def owF (be : Nat → Bool) (ad : Nat → Nat → Bool) (F : Nat → Nat) (c : Nat) : Nat → Int32 → Int32
  | 0, fd => fd
  | n + 1, fd => owF be ad F c n (if nxP be ad F c n = true then nI n else fd)
theorem owF_ls (be : Nat → Bool) (ad : Nat → Nat → Bool) (F : Nat → Nat) (c : Nat) : ∀ n fd, owF be ad F c n fd = if ls (nxP be ad F c) n 0 < n then nI (ls (nxP be ad F c) n 0) else fd := by
  have key : ∀ n, (ls (nxP be ad F c) (n + 1) 0 = if ls (nxP be ad F c) n 0 < n then ls (nxP be ad F c) n 0 else if nxP be ad F c n = true then n else n + 1) := by
    intro n
    rcases ls_spec (nxP be ad F c) n 0 with ⟨g1, g2⟩ | ⟨g1, g2, g3, g4⟩
    · rw [if_neg (by omega)]
      by_cases h : nxP be ad F c n = true
      · rw [if_pos h]
        exact ls_eq (by omega) (by omega) h (fun e h1 h2 => g2 e h1 (by omega))
      · rw [if_neg h]
        rcases ls_spec (nxP be ad F c) (n + 1) 0 with ⟨k1, _⟩ | ⟨k1, k2, k3, k4⟩
        · omega
        · exfalso
          by_cases e : ls (nxP be ad F c) (n + 1) 0 = n
          · rw [e] at k3; exact h k3
          · rw [g2 _ (by omega) (by omega)] at k3; cases k3
    · rw [if_pos (by omega)]
      exact ls_eq (by omega) (by omega) g3 (fun e h1 h2 => g4 e h1 h2)
  intro n
  induction n with
  | zero => intro fd; rfl
  | succ n ih =>
    intro fd
    rw [owF, ih, key n]
    rcases ls_spec (nxP be ad F c) n 0 with ⟨g1, g2⟩ | ⟨g1, g2, g3, g4⟩
    · have e0 : ¬ ls (nxP be ad F c) n 0 < n := by omega
      simp only [e0, if_false]
      by_cases h : nxP be ad F c n = true
      · simp only [h, if_true]
        rw [if_pos (by omega)]
      · have h' : nxP be ad F c n = false := by simpa using h
        simp [h']
    · have e0 : ls (nxP be ad F c) n 0 < n := by omega
      simp only [e0, if_true]
      rw [if_pos (by omega)]
theorem lpm_onward {g : GG} {M : Mem} {N w c : Nat} (h : MW M N w) (hc : c < N) {F : Nat → Nat} (hR : RF N (M.1 34) F) : ∀ (n : Nat), n ≤ N → ∀ (fd x : Int32), x = nI n - 1 → wp g mX7_onward 15 [some (ob g 25), some (.int (nI c)), some (.int fd), some (.int x)] [] M (fun q m => q = some (.int (owF (beS (M.1 31)) (adjB w) F c n fd)) ∧ m = M) := by
  obtain ⟨hN, hwh, hw, h0, hw2⟩ := h
  intro n
  induction n with
  | zero =>
    intro hn fd x hx
    obtain rfl : x = -1 := hx
    refine wp_iload_n (pc' := 16) dX7_onward_15 rfl rfl ?_
    refine wp_if_lt (pc' := 19) 67 dX7_onward_16 rfl (by decide) (fun _ => ?_) (fun hh => absurd hh (by decide))
    refine wp_iload_n (pc' := 68) dX7_onward_67 rfl rfl ?_
    refine wp_ireti dX7_onward_68 rfl ?_
    exact ri_ok rfl rfl
  | succ n ih =>
    intro hn fd x hx
    rw [nI_pred] at hx
    subst hx
    refine wp_iload_n (pc' := 16) dX7_onward_15 rfl rfl ?_
    refine wp_if_lt (pc' := 19) 67 dX7_onward_16 rfl (by decide) (fun h16 => ?_) (fun h16 => ?_)
    · exact absurd h16 (nI_pos (by omega))
    · refine wp_aload_n (pc' := 20) dX7_onward_19 rfl rfl ⟨_, rfl⟩ ?_
      refine wp_get (pc' := 23) (o := 25) dX7_onward_20 rfl flX7_25 (by decide) rfl rfl ?_
      refine wp_iload_n (pc' := 24) dX7_onward_23 rfl rfl ?_
      refine wp_ialdN (pc' := 25) (o := 31) (n := 76) (n) dX7_onward_24 rfl (by decide) rfl (rfl) (by omega) (by decide) ?_
      refine wp_iconst (pc' := 26) 1 dX7_onward_25 rfl (by decide) ?_
      refine wp_icmp_eq (pc' := 29) 59 dX7_onward_26 rfl (by decide) (fun h26 => ?_) (fun h26 => ?_)
      · refine wp_iload_n (pc' := 60) dX7_onward_59 rfl rfl ?_
        refine wp_ist2 (pc' := 61) dX7_onward_60 rfl (by decide) rfl ?_
        refine wp_inc3 (pc' := 64) (nI n - 1) dX7_onward_61 rfl (by decide) rfl (dec1 (nI n)) ?_
        refine wp_goto 15 dX7_onward_64 (by decide) ?_
        have e : nxP (beS (M.1 31)) (adjB w) F c n = false := by simp [nxP, beS, h26]
        rw [owF, e]
        exact ih (by omega) _ _ rfl
      · refine wp_aload_n (pc' := 30) dX7_onward_29 rfl rfl ⟨_, rfl⟩ ?_
        refine wp_iload_n (pc' := 31) dX7_onward_30 rfl rfl ?_
        refine wp_iload_n (pc' := 32) dX7_onward_31 rfl rfl ?_
        refine wp_cVI (μ' := mX7_isStep) (pc' := 35) (o := 25) dX7_onward_32 rfl mlX7_151 cfX7_isStep ⟨(Nat.le_of_ble_eq_true rfl), (Nat.le_of_ble_eq_true rfl)⟩ (sm_isStep hw h0 hw2 (by omega) (by omega)) (by decide) rfl rfl rfl rfl rfl (Nat.le_of_ble_eq_true rfl) ?_
        refine wp_if_eq (pc' := 38) 59 dX7_onward_35 rfl (by decide) (fun h35 => ?_) (fun h35 => ?_)
        · refine wp_iload_n (pc' := 60) dX7_onward_59 rfl rfl ?_
          refine wp_ist2 (pc' := 61) dX7_onward_60 rfl (by decide) rfl ?_
          refine wp_inc3 (pc' := 64) (nI n - 1) dX7_onward_61 rfl (by decide) rfl (dec1 (nI n)) ?_
          refine wp_goto 15 dX7_onward_64 (by decide) ?_
          have e : nxP (beS (M.1 31)) (adjB w) F c n = false := by simp [nxP, stI_0 h35]
          rw [owF, e]
          exact ih (by omega) _ _ rfl
        · refine wp_aload_n (pc' := 39) dX7_onward_38 rfl rfl ⟨_, rfl⟩ ?_
          refine wp_get (pc' := 42) (o := 25) dX7_onward_39 rfl flX7_35 (by decide) rfl rfl ?_
          refine wp_iload_n (pc' := 43) dX7_onward_42 rfl rfl ?_
          refine wp_ialdN (pc' := 44) (o := 34) (n := 24) (n) dX7_onward_43 rfl (by decide) rfl (rfl) (by omega) (by decide) ?_
          refine wp_aload_n (pc' := 45) dX7_onward_44 rfl rfl ⟨_, rfl⟩ ?_
          refine wp_get (pc' := 48) (o := 25) dX7_onward_45 rfl flX7_35 (by decide) rfl rfl ?_
          refine wp_iload_n (pc' := 49) dX7_onward_48 rfl rfl ?_
          refine wp_ialdN (pc' := 50) (o := 34) (n := 24) (c) dX7_onward_49 rfl (by decide) rfl (rfl) (by omega) (by decide) ?_
          refine wp_iconst (pc' := 51) 1 dX7_onward_50 rfl (by decide) ?_
          refine wp_isub (pc' := 52) dX7_onward_51 rfl ?_
          refine wp_icmp_ne (pc' := 55) 59 dX7_onward_52 rfl (by decide) (fun h52 => ?_) (fun h52 => ?_)
          · refine wp_iload_n (pc' := 60) dX7_onward_59 rfl rfl ?_
            refine wp_ist2 (pc' := 61) dX7_onward_60 rfl (by decide) rfl ?_
            refine wp_inc3 (pc' := 64) (nI n - 1) dX7_onward_61 rfl (by decide) rfl (dec1 (nI n)) ?_
            refine wp_goto 15 dX7_onward_64 (by decide) ?_
            have e : nxP (beS (M.1 31)) (adjB w) F c n = false := by
              have : ¬ F n + 1 = F c := fun hh => h52 (by rw [(hR n (by omega)).1, (hR c hc).1]; exact (eq_m1 (hR n (by omega)).2 (hR c hc).2).mpr hh)
              simp [nxP, this]
            rw [owF, e]
            exact ih (by omega) _ _ rfl
          · refine wp_iload_n (pc' := 56) dX7_onward_55 rfl rfl ?_
            refine wp_goto 60 dX7_onward_56 (by decide) ?_
            refine wp_ist2 (pc' := 61) dX7_onward_60 rfl (by decide) rfl ?_
            refine wp_inc3 (pc' := 64) (nI n - 1) dX7_onward_61 rfl (by decide) rfl (dec1 (nI n)) ?_
            refine wp_goto 15 dX7_onward_64 (by decide) ?_
            have e : nxP (beS (M.1 31)) (adjB w) F c n = true := by
              have h9 : F n + 1 = F c := (eq_m1 (hR n (by omega)).2 (hR c hc).2).mp (by rw [← (hR n (by omega)).1, ← (hR c hc).1]; exact h52)
              simp [nxP, beS, h26, stI_1 h35, h9]
            rw [owF, e]
            exact ih (by omega) _ _ rfl
theorem sm_onward {g : GG} {M : Mem} {N w c : Nat} (h : MW M N w) (hc : c < N) {F : Nat → Nat} (hR : RF N (M.1 34) F) : RI g mX7_onward [ob g 25, .int (nI c)] M (owF (beS (M.1 31)) (adjB w) F c N (-9)) M := by
  refine spec_of_wp (ls := [some (ob g 25), some (.int (nI c)), none, none]) rfl (Nat.le_of_ble_eq_true rfl) 2 rfl ?_
  refine wp_bipush (pc' := 2) (-9) dX7_onward_0 rfl (by decide) ?_
  refine wp_ist2 (pc' := 3) dX7_onward_2 rfl (by decide) rfl ?_
  refine wp_aload_n (pc' := 4) dX7_onward_3 rfl rfl ⟨_, rfl⟩ ?_
  refine wp_get (pc' := 7) (o := 25) dX7_onward_4 rfl flX7_51 (by decide) rfl rfl ?_
  refine wp_aload_n (pc' := 8) dX7_onward_7 rfl rfl ⟨_, rfl⟩ ?_
  refine wp_get (pc' := 11) (o := 25) dX7_onward_8 rfl flX7_54 (by decide) rfl rfl ?_
  refine wp_imul (pc' := 12) dX7_onward_11 rfl ?_
  refine wp_top (h.2.1) ?_
  refine wp_iconst (pc' := 13) 1 dX7_onward_12 rfl (by decide) ?_
  refine wp_isub (pc' := 14) dX7_onward_13 rfl ?_
  refine wp_ist3 (pc' := 15) dX7_onward_14 rfl (by decide) rfl ?_
  exact lpm_onward h hc hR N (Nat.le_refl N) _ _ rfl
