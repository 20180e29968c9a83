
/-! the reference: days, costs, rate -/
theorem lkF_range {N : Nat} {ad : Nat → Nat → Bool} {a b : Nat} {s : Nat → Int32} : ∀ (n c : Nat) (fd le : Int32), (fd = -9 ∨ ∃ d, d < c + n ∧ fd = nI d) → (lkF N ad a b s n c fd le = -9 ∨ ∃ d, d < c + n ∧ lkF N ad a b s n c fd le = nI d) := by
  intro n
  induction n with
  | zero => intro c fd le h; exact h
  | succ n ih =>
    intro c fd le h
    have e : c + (n + 1) = c + 1 + n := by omega
    rw [lkF, e]
    rw [e] at h
    by_cases h1 : s c = 1
    · rw [if_pos h1]
      by_cases h2 : (if dv N (beS (upd s c 2)) ad a b = -9 then 99 else dv N (beS (upd s c 2)) ad a b) < le
      · rw [if_pos h2]
        exact ih (c + 1) _ _ (Or.inr ⟨c, by omega, rfl⟩)
      · rw [if_neg h2]
        exact ih (c + 1) _ _ h
    · rw [if_neg h1]
      exact ih (c + 1) _ _ h
theorem lkM_range (M : Mem) (N w a b : Nat) : lkM M N w a b = -9 ∨ ∃ d, d < N ∧ lkM M N w a b = nI d := by
  have := lkF_range (N := N) (ad := adjB w) (a := a) (b := b) (s := M.1 31) N 0 (-9) 100 (Or.inl rfl)
  rw [Nat.zero_add] at this
  exact this
abbrev DS : Type := Int32 × (Nat → Int32)
def mdst (N w : Nat) (sink : Int32) (ea eb : Nat → Nat) (k : Nat) (st : DS) : DS :=
  if lkF N (adjB w) (ea k) (eb k) st.2 N 0 (-9) 100 = -9 ∨ dv N (beS st.2) (adjB w) (ea k) (eb k) = -9 then (st.1 + 1, st.2)
  else (st.1, palS N (beS st.2) (adjB w) sink (ea k) (eb k) k (lkF N (adjB w) (ea k) (eb k) st.2 N 0 (-9) 100).toNatClampNeg st.2)
def mdF (N w : Nat) (sink : Int32) (ea eb : Nat → Nat) (W : Nat) : Nat → Nat → DS → DS
  | 0, _, st => st
  | n + 1, t, st => mdF N w sink ea eb W n (t + 1) (mdst N w sink ea eb (t % W) st)

theorem mem34 (M : Mem) (f f1 s : Nat → Int32) : setO (setO (setO M 34 f) 31 s) 34 f1 = setO (setO M 34 f1) 31 s := by
  rw [setO_swap (setO M 34 f) s f1 (by decide), setO_setO]
theorem mem34b (M : Mem) (f f1 s s1 : Nat → Int32) : setO (setO (setO (setO M 34 f) 31 s) 34 f1) 31 s1 = setO (setO M 34 f1) 31 s1 := by
  rw [mem34, setO_setO]
theorem lpm_days {g : GG} {M : Mem} {N w W n : Nat} {ea eb : Nat → Nat} (h : MW M N w) (hW : M.1 25 10 = nI W) (hW4 : W ≤ 4) (hn : n ≤ 9) (hE : ∀ k, k < W → EN M N k (ea k) (eb k)) : ∀ (r t : Nat), t + r = n * W → ∀ (cn : Int32) (s f : Nat → Int32) (x4 x5 : Option Value), wp g mX7_days 21 [some (ob g 25), some (.int (nI n)), some (.int cn), some (.int (nI t)), x4, x5] [] (setO (setO M 34 f) 31 s) (fun q m => ∃ x : Int32, q = some (.int x) ∧ x = (mdF N w (M.1 25 11) ea eb W r t (cn, s)).1 ∧ ∃ f, m = setO (setO M 34 f) 31 (mdF N w (M.1 25 11) ea eb W r t (cn, s)).2) := by
  have hnW : n * W ≤ 36 := Nat.le_trans (Nat.mul_le_mul hn hW4) (by decide)
  have hpr : nI n * M.1 25 10 = nI (n * W) := by rw [hW, pk_mul]
  intro r
  induction r with
  | zero =>
    intro t ht cn s f x4 x5
    obtain rfl : t = n * W := by omega
    refine wp_iload_n (pc' := 22) dX7_days_21 rfl rfl ?_
    refine wp_iload_n (pc' := 23) dX7_days_22 rfl rfl ?_
    refine wp_aload_n (pc' := 24) dX7_days_23 rfl rfl ⟨_, rfl⟩ ?_
    refine wp_get (pc' := 27) (o := 25) dX7_days_24 rfl flX7_61 (by decide) rfl rfl ?_
    refine wp_imul (pc' := 28) dX7_days_27 rfl ?_
    refine wp_top (hpr) ?_
    refine wp_icmp_ge (pc' := 31) 103 dX7_days_28 rfl (by decide) (fun q28 => ?_) (fun q28 => ?_)
    · refine wp_iload_n (pc' := 104) dX7_days_103 rfl rfl ?_
      refine wp_ireti dX7_days_104 rfl ?_
      exact ⟨_, rfl, rfl, f, rfl⟩
    · exact absurd (nI_le (Nat.le_refl (n * W)) (by omega)) q28
  | succ r ih =>
    intro t ht cn s f x4 x5
    have hW0 : 0 < W := Nat.pos_of_ne_zero (fun e => by rw [e] at ht; omega)
    have htW : t % W < W := Nat.mod_lt t hW0
    have hEk := hE (t % W) htW
    obtain ⟨hE1, hE2, ha, hb, hk4⟩ := hEk
    have hne : ¬ M.1 25 10 = 0 := by rw [hW]; exact nI_ne0 hW0 (by omega)
    have hrem : nI t - nI t / M.1 25 10 * M.1 25 10 = nI (t % W) := by rw [hW]; exact pk_rem (by omega) hW0 (by omega)
    refine wp_iload_n (pc' := 22) dX7_days_21 rfl rfl ?_
    refine wp_iload_n (pc' := 23) dX7_days_22 rfl rfl ?_
    refine wp_aload_n (pc' := 24) dX7_days_23 rfl rfl ⟨_, rfl⟩ ?_
    refine wp_get (pc' := 27) (o := 25) dX7_days_24 rfl flX7_61 (by decide) rfl rfl ?_
    refine wp_imul (pc' := 28) dX7_days_27 rfl ?_
    refine wp_top (hpr) ?_
    refine wp_icmp_ge (pc' := 31) 103 dX7_days_28 rfl (by decide) (fun q28 => ?_) (fun q28 => ?_)
    · refine wp_iload_n (pc' := 104) dX7_days_103 rfl rfl ?_
      refine wp_ireti dX7_days_104 rfl ?_
      exact absurd q28 (nI_ge (by omega) (by omega))
    · refine wp_iload_n (pc' := 32) dX7_days_31 rfl rfl ?_
      refine wp_aload_n (pc' := 33) dX7_days_32 rfl rfl ⟨_, rfl⟩ ?_
      refine wp_get (pc' := 36) (o := 25) dX7_days_33 rfl flX7_61 (by decide) rfl rfl ?_
      refine wp_irem (pc' := 37) dX7_days_36 rfl hne ?_
      refine wp_top (hrem) ?_
      refine wp_ist4 (pc' := 39) dX7_days_37 rfl (by decide) rfl ?_
      refine wp_aload_n (pc' := 40) dX7_days_39 rfl rfl ⟨_, rfl⟩ ?_
      refine wp_iload (pc' := 42) dX7_days_40 rfl rfl ?_
      refine wp_sVI (μ' := mX7_likesOf) (pc' := 45) (o := 25) dX7_days_42 rfl mlX7_169 cfX7_likesOf ⟨(Nat.le_of_ble_eq_true rfl), (Nat.le_of_ble_eq_true rfl)⟩ (sm_likesOf (M := setO (setO M 34 f) 31 s) (N := N) (w := w) (k := t % W) (a := ea (t % W)) (b := eb (t % W)) h ⟨hE1, hE2, ha, hb, hk4⟩) (by decide) rfl rfl rfl rfl rfl (Nat.le_of_ble_eq_true rfl) (fun x m hm => ?_)
      obtain ⟨hx, f1, rfl⟩ := hm
      change x = lkF N (adjB w) (ea (t % W)) (eb (t % W)) s N 0 (-9) 100 at hx
      subst hx
      refine wp_ist5 (pc' := 47) dX7_days_45 rfl (by decide) rfl ?_
      refine wp_iload (pc' := 49) dX7_days_47 rfl rfl ?_
      refine wp_bipush (pc' := 51) (-9) dX7_days_49 rfl (by decide) ?_
      refine wp_icmp_eq (pc' := 54) 83 dX7_days_51 rfl (by decide) (fun q51 => ?_) (fun q51 => ?_)
      · refine wp_inc2 (pc' := 86) (cn + 1) dX7_days_83 rfl (by decide) rfl rfl ?_
        refine wp_goto 97 dX7_days_86 (by decide) ?_
        
        refine wp_inc3 (pc' := 100) (nI (t + 1)) dX7_days_97 rfl (by decide) rfl (nI_1 t) ?_
        refine wp_goto 21 dX7_days_100 (by decide) ?_
        have e : mdst N w (M.1 25 11) ea eb (t % W) (cn, s) = _ := if_pos (Or.inl q51)
        rw [mdF, e]
        rw [mem34]
        exact ih (t + 1) (by omega) _ _ _ _ _
      · refine wp_aload_n (pc' := 55) dX7_days_54 rfl rfl ⟨_, rfl⟩ ?_
        refine wp_aload_n (pc' := 56) dX7_days_55 rfl rfl ⟨_, rfl⟩ ?_
        refine wp_get (pc' := 59) (o := 25) dX7_days_56 rfl flX7_19 (by decide) rfl rfl ?_
        refine wp_iconst (pc' := 60) 2 dX7_days_59 rfl (by decide) ?_
        refine wp_iload (pc' := 62) dX7_days_60 rfl rfl ?_
        refine wp_imul (pc' := 63) dX7_days_62 rfl ?_
        refine wp_ialdN (pc' := 64) (o := 29) (n := 8) (2 * (t % W)) dX7_days_63 rfl (by decide) rfl (by rw [show (2 : Int32) = nI 2 from rfl, pk_mul]) (by omega) (by decide) ?_
        refine wp_top (hE1) ?_
        refine wp_aload_n (pc' := 65) dX7_days_64 rfl rfl ⟨_, rfl⟩ ?_
        refine wp_get (pc' := 68) (o := 25) dX7_days_65 rfl flX7_19 (by decide) rfl rfl ?_
        refine wp_iconst (pc' := 69) 2 dX7_days_68 rfl (by decide) ?_
        refine wp_iload (pc' := 71) dX7_days_69 rfl rfl ?_
        refine wp_imul (pc' := 72) dX7_days_71 rfl ?_
        refine wp_iconst (pc' := 73) 1 dX7_days_72 rfl (by decide) ?_
        refine wp_iadd (pc' := 74) dX7_days_73 rfl ?_
        refine wp_ialdN (pc' := 75) (o := 29) (n := 8) (2 * (t % W) + 1) dX7_days_74 rfl (by decide) rfl (by rw [show (2 : Int32) = nI 2 from rfl, pk_mul]; exact nI_1 (2 * (t % W))) (by omega) (by decide) ?_
        refine wp_top (hE2) ?_
        refine wp_sVI (μ' := mX7_stepsOf) (pc' := 78) (o := 25) dX7_days_75 rfl mlX7_159 cfX7_stepsOf ⟨(Nat.le_of_ble_eq_true rfl), (Nat.le_of_ble_eq_true rfl)⟩ (sm_stepsOf (M := setO (setO (setO M 34 f) 31 s) 34 f1) (N := N) (w := w) h ha hb) (by decide) rfl rfl rfl rfl rfl (Nat.le_of_ble_eq_true rfl) (fun y m hm2 => ?_)
        obtain ⟨hy, f2, rfl, hR⟩ := hm2
        change y = dv N (beS s) (adjB w) (ea (t % W)) (eb (t % W)) at hy
        subst hy
        refine wp_bipush (pc' := 80) (-9) dX7_days_78 rfl (by decide) ?_
        refine wp_icmp_ne (pc' := 83) 89 dX7_days_80 rfl (by decide) (fun q80 => ?_) (fun q80 => ?_)
        · obtain ⟨c, hc, hce⟩ : ∃ c, c < N ∧ lkF N (adjB w) (ea (t % W)) (eb (t % W)) s N 0 (-9) 100 = nI c := by
            have := lkF_range (N := N) (ad := adjB w) (a := ea (t % W)) (b := eb (t % W)) (s := s) N 0 (-9) 100 (Or.inl rfl)
            rw [Nat.zero_add] at this
            exact this.resolve_left q51
          have hN24 := h.1
          have hcc : (lkF N (adjB w) (ea (t % W)) (eb (t % W)) s N 0 (-9) 100).toNatClampNeg = c := by rw [hce, nI_clamp (by omega)]
          refine wp_aload_n (pc' := 90) dX7_days_89 rfl rfl ⟨_, rfl⟩ ?_
          refine wp_iload (pc' := 92) dX7_days_90 rfl rfl ?_
          refine wp_iload (pc' := 94) dX7_days_92 rfl rfl ?_
          refine wp_top (hce) ?_
          refine wp_sVV (μ' := mX7_passesAndLays) (pc' := 97) (o := 25) dX7_days_94 rfl mlX7_165 cfX7_passesAndLays ⟨(Nat.le_of_ble_eq_true rfl), (Nat.le_of_ble_eq_true rfl)⟩ (sm_passesAndLays (M := setO (setO (setO (setO M 34 f) 31 s) 34 f1) 34 f2) (N := N) (w := w) (k := t % W) (c := c) (a := ea (t % W)) (b := eb (t % W)) h ⟨hE1, hE2, ha, hb, hk4⟩ hc q80) (by decide) rfl rfl rfl rfl rfl (Nat.le_of_ble_eq_true rfl) (fun m hm3 => ?_)
          obtain ⟨f3, rfl⟩ := hm3
          rw [show palS N (beS ((setO (setO (setO (setO M 34 f) 31 s) 34 f1) 34 f2).1 31)) (adjB w) ((setO (setO (setO (setO M 34 f) 31 s) 34 f1) 34 f2).1 25 11) (ea (t % W)) (eb (t % W)) (t % W) c ((setO (setO (setO (setO M 34 f) 31 s) 34 f1) 34 f2).1 31) = palS N (beS s) (adjB w) (M.1 25 11) (ea (t % W)) (eb (t % W)) (t % W) (lkF N (adjB w) (ea (t % W)) (eb (t % W)) s N 0 (-9) 100).toNatClampNeg s from by rw [hcc]; rfl]
          refine wp_inc3 (pc' := 100) (nI (t + 1)) dX7_days_97 rfl (by decide) rfl (nI_1 t) ?_
          refine wp_goto 21 dX7_days_100 (by decide) ?_
          have e : mdst N w (M.1 25 11) ea eb (t % W) (cn, s) = _ := if_neg (fun hh => hh.elim q51 q80)
          rw [mdF, e]
          rw [mem34, mem34, mem34b]
          exact ih (t + 1) (by omega) _ _ _ _ _
        · refine wp_inc2 (pc' := 86) (cn + 1) dX7_days_83 rfl (by decide) rfl rfl ?_
          refine wp_goto 97 dX7_days_86 (by decide) ?_
          
          refine wp_inc3 (pc' := 100) (nI (t + 1)) dX7_days_97 rfl (by decide) rfl (nI_1 t) ?_
          refine wp_goto 21 dX7_days_100 (by decide) ?_
          have e : mdst N w (M.1 25 11) ea eb (t % W) (cn, s) = _ := if_pos (Or.inr q80)
          rw [mdF, e]
          rw [mem34, mem34]
          exact ih (t + 1) (by omega) _ _ _ _ _
theorem sm_days_bad {g : GG} {M : Mem} {n : Int32} (h : inF n 1 9 = 0) : RI g mX7_days [ob g 25, .int n] M (-1) (th M) := by
  refine spec_of_wp (ls := [some (ob g 25), some (.int n), none, none, none, none]) rfl (Nat.le_of_ble_eq_true rfl) 4 rfl ?_
  refine wp_aload_n (pc' := 1) dX7_days_0 rfl rfl ⟨_, rfl⟩ ?_
  refine wp_iconst (pc' := 2) 0 dX7_days_1 rfl (by decide) ?_
  refine wp_put (pc' := 5) (o := 25) dX7_days_2 rfl fpX7_47 (by decide) rfl (Nat.le_of_ble_eq_true rfl) rfl ?_
  refine wp_iload_n (pc' := 6) dX7_days_5 rfl rfl ?_
  refine wp_iconst (pc' := 7) 1 dX7_days_6 rfl (by decide) ?_
  refine wp_bipush (pc' := 9) 9 dX7_days_7 rfl (by decide) ?_
  refine wp_cSI (μ' := mX7_in) (pc' := 12) dX7_days_9 rfl mlX7_57 cfX7_in ⟨(Nat.le_of_ble_eq_true rfl), (Nat.le_of_ble_eq_true rfl)⟩ (sm_in) rfl rfl (Nat.le_of_ble_eq_true rfl) ?_
  refine wp_if_ne (pc' := 15) 17 dX7_days_12 rfl (by decide) (fun q12 => ?_) (fun q12 => ?_)
  · exact absurd h q12
  · refine wp_iconst (pc' := 16) (-1) dX7_days_15 rfl (by decide) ?_
    refine wp_ireti dX7_days_16 rfl ?_
    exact ri_ok rfl rfl
theorem sm_days {g : GG} {M : Mem} {N w W n : Nat} {ea eb : Nat → Nat} (h : MW M N w) (hW : M.1 25 10 = nI W) (hW4 : W ≤ 4) (hn : n ≤ 9) (hE : ∀ k, k < W → EN M N k (ea k) (eb k)) (hg : ¬ inF (nI n) 1 9 = 0) : SI g mX7_days [ob g 25, .int (nI n)] M (fun x m => x = (mdF N w (M.1 25 11) ea eb W (n * W) 0 (0, M.1 31)).1 ∧ ∃ f, m = setO (setO (th M) 34 f) 31 (mdF N w (M.1 25 11) ea eb W (n * W) 0 (0, M.1 31)).2) := by
  refine spec_of_wp (ls := [some (ob g 25), some (.int (nI n)), none, none, none, none]) rfl (Nat.le_of_ble_eq_true rfl) 4 rfl ?_
  refine wp_aload_n (pc' := 1) dX7_days_0 rfl rfl ⟨_, rfl⟩ ?_
  refine wp_iconst (pc' := 2) 0 dX7_days_1 rfl (by decide) ?_
  refine wp_put (pc' := 5) (o := 25) dX7_days_2 rfl fpX7_47 (by decide) rfl (Nat.le_of_ble_eq_true rfl) rfl ?_
  refine wp_iload_n (pc' := 6) dX7_days_5 rfl rfl ?_
  refine wp_iconst (pc' := 7) 1 dX7_days_6 rfl (by decide) ?_
  refine wp_bipush (pc' := 9) 9 dX7_days_7 rfl (by decide) ?_
  refine wp_cSI (μ' := mX7_in) (pc' := 12) dX7_days_9 rfl mlX7_57 cfX7_in ⟨(Nat.le_of_ble_eq_true rfl), (Nat.le_of_ble_eq_true rfl)⟩ (sm_in) rfl rfl (Nat.le_of_ble_eq_true rfl) ?_
  refine wp_if_ne (pc' := 15) 17 dX7_days_12 rfl (by decide) (fun q12 => ?_) (fun q12 => ?_)
  · refine wp_iconst (pc' := 18) 0 dX7_days_17 rfl (by decide) ?_
    refine wp_ist2 (pc' := 19) dX7_days_18 rfl (by decide) rfl ?_
    refine wp_iconst (pc' := 20) 0 dX7_days_19 rfl (by decide) ?_
    refine wp_ist3 (pc' := 21) dX7_days_20 rfl (by decide) rfl ?_
    refine wp_mem (M' := setO (setO (th M) 34 ((th M).1 34)) 31 ((th M).1 31)) (by rw [setO_self, setO_self]; rfl) ?_
    exact lpm_days (M := th M) h hW hW4 hn hE (n * W) 0 (Nat.zero_add _) 0 _ _ _ _
  · exact absurd q12 hg

def owN (s : Nat → Int32) (c : Nat) : Nat := if s c = 1 then 1 else 0
theorem owN_le (s : Nat → Int32) (c : Nat) : owN s c ≤ 1 := by unfold owN; split <;> omega
def F0c (s : Nat → Int32) (b : Nat) : Nat → Nat := fun c => if c = b then owN s c else 99
theorem lpm_cost0_aux : True := trivial

theorem lpm_cost0 {g : GG} {M : Mem} {N b : Nat} {a : Int32} (hN : N ≤ 24) (hb : b < N) {Q : Option Value → Mem → Prop} : ∀ (n j : Nat), j + n = N → ∀ (f : Nat → Int32) (x5 x6 x7 x8 : Option Value), (∀ c, c < j → f c = nI (F0c (M.1 31) b c)) → (∀ f' x5 x6 x7 x8 : _, RF N f' (F0c (M.1 31) b) → wp g mX7_costs 59 [some (ob g 25), some (.int a), some (.int (nI b)), some (.int (nI N)), some (.int (nI N)), x5, x6, x7, x8] [] (setO M 34 f') Q) → wp g mX7_costs 13 [some (ob g 25), some (.int a), some (.int (nI b)), some (.int (nI N)), some (.int (nI j)), x5, x6, x7, x8] [] (setO M 34 f) Q := by
  intro n
  induction n with
  | zero =>
    intro j hj f x5 x6 x7 x8 hf K
    obtain rfl : j = N := by omega
    refine wp_iload (pc' := 15) dX7_costs_13 rfl rfl ?_
    refine wp_iload_n (pc' := 16) dX7_costs_15 rfl rfl ?_
    refine wp_icmp_ge (pc' := 19) 59 dX7_costs_16 rfl (by decide) (fun h16 => ?_) (fun h16 => ?_)
    · exact K f _ _ _ _ (fun c hc => ⟨hf c hc, by have := owN_le (M.1 31) c; unfold F0c; split <;> omega⟩)
    · exact absurd (nI_le (Nat.le_refl j) (by omega)) h16
  | succ n ih =>
    intro j hj f x5 x6 x7 x8 hf K
    refine wp_iload (pc' := 15) dX7_costs_13 rfl rfl ?_
    refine wp_iload_n (pc' := 16) dX7_costs_15 rfl rfl ?_
    refine wp_icmp_ge (pc' := 19) 59 dX7_costs_16 rfl (by decide) (fun h16 => ?_) (fun h16 => ?_)
    · exact absurd h16 (nI_ge (by omega) (by omega))
    · refine wp_aload_n (pc' := 20) dX7_costs_19 rfl rfl ⟨_, rfl⟩ ?_
      refine wp_get (pc' := 23) (o := 25) dX7_costs_20 rfl flX7_35 (by decide) rfl rfl ?_
      refine wp_iload (pc' := 25) dX7_costs_23 rfl rfl ?_
      refine wp_iload (pc' := 27) dX7_costs_25 rfl rfl ?_
      refine wp_iload_n (pc' := 28) dX7_costs_27 rfl rfl ?_
      refine wp_icmp_ne (pc' := 31) 50 dX7_costs_28 rfl (by decide) (fun h28 => ?_) (fun h28 => ?_)
      · refine wp_bipush (pc' := 52) 99 dX7_costs_50 rfl (by decide) ?_
        refine wp_iastN (pc' := 53) (o := 34) (n := 24) (j) dX7_costs_52 rfl (by decide) (fun _ _ => rfl) (rfl) (by omega) (by decide) ?_
        refine wp_inc4 (pc' := 56) (nI (j + 1)) dX7_costs_53 rfl (by decide) rfl (nI_1 j) ?_
        refine wp_goto 13 dX7_costs_56 (by decide) ?_
        rw [upI_setO]
        refine ih (j + 1) (by omega) _ _ _ _ _ (fun c hc => ?_) K
        by_cases e : c = j
        · subst e
          refine (if_pos rfl).trans ?_
          rw [F0c, if_neg (fun h => h28 (by rw [h]))]; rfl
        · exact (if_neg e).trans (hf c (by omega))
      · refine wp_aload_n (pc' := 32) dX7_costs_31 rfl rfl ⟨_, rfl⟩ ?_
        refine wp_get (pc' := 35) (o := 25) dX7_costs_32 rfl flX7_25 (by decide) rfl rfl ?_
        refine wp_iload (pc' := 37) dX7_costs_35 rfl rfl ?_
        refine wp_ialdN (pc' := 38) (o := 31) (n := 76) (j) dX7_costs_37 rfl (by decide) rfl (rfl) (by omega) (by decide) ?_
        refine wp_iconst (pc' := 39) 1 dX7_costs_38 rfl (by decide) ?_
        refine wp_icmp_ne (pc' := 42) 46 dX7_costs_39 rfl (by decide) (fun h39 => ?_) (fun h39 => ?_)
        · refine wp_iconst (pc' := 47) 0 dX7_costs_46 rfl (by decide) ?_
          refine wp_goto 52 dX7_costs_47 (by decide) ?_
          refine wp_iastN (pc' := 53) (o := 34) (n := 24) (j) dX7_costs_52 rfl (by decide) (fun _ _ => rfl) (rfl) (by omega) (by decide) ?_
          refine wp_inc4 (pc' := 56) (nI (j + 1)) dX7_costs_53 rfl (by decide) rfl (nI_1 j) ?_
          refine wp_goto 13 dX7_costs_56 (by decide) ?_
          rw [upI_setO]
          refine ih (j + 1) (by omega) _ _ _ _ _ (fun c hc => ?_) K
          by_cases e : c = j
          · subst e
            refine (if_pos rfl).trans ?_
            rw [F0c, if_pos ((nI_eq (by omega) (by omega)).mp h28), owN, if_neg (show ¬ M.1 31 c = 1 from h39)]; rfl
          · exact (if_neg e).trans (hf c (by omega))
        · refine wp_iconst (pc' := 43) 1 dX7_costs_42 rfl (by decide) ?_
          refine wp_goto 52 dX7_costs_43 (by decide) ?_
          refine wp_iastN (pc' := 53) (o := 34) (n := 24) (j) dX7_costs_52 rfl (by decide) (fun _ _ => rfl) (rfl) (by omega) (by decide) ?_
          refine wp_inc4 (pc' := 56) (nI (j + 1)) dX7_costs_53 rfl (by decide) rfl (nI_1 j) ?_
          refine wp_goto 13 dX7_costs_56 (by decide) ?_
          rw [upI_setO]
          refine ih (j + 1) (by omega) _ _ _ _ _ (fun c hc => ?_) K
          by_cases e : c = j
          · subst e
            refine (if_pos rfl).trans ?_
            rw [F0c, if_pos ((nI_eq (by omega) (by omega)).mp h28), owN, if_pos (show M.1 31 c = 1 from h39)]; rfl
          · exact (if_neg e).trans (hf c (by omega))
theorem lpm_ixc {g : GG} {M : Mem} {N w c : Nat} {a b : Int32} (hN : N ≤ 24) (hw : M.1 25 8 = nI w) (h0 : 0 < w) (hw2 : w ≤ 24) (hc : c < N) {Q : Option Value → Mem → Prop} : ∀ (n d : Nat), d + n = N → ∀ (f : Nat → Int32) (F : Nat → Nat) (mo : Int32) (x8 : Option Value), RF N f F → (mo = 0 ∨ mo = 1) → (∀ f' x8, RF N f' (ix (adjB w) (owN (M.1 31)) c n d (F, mo)).1 → ((ix (adjB w) (owN (M.1 31)) c n d (F, mo)).2 = 0 ∨ (ix (adjB w) (owN (M.1 31)) c n d (F, mo)).2 = 1) → wp g mX7_costs 199 [some (ob g 25), some (.int a), some (.int b), some (.int (nI N)), some (.int (ix (adjB w) (owN (M.1 31)) c n d (F, mo)).2), some (.int (nI c)), some (.int (nI (owN (M.1 31) c))), some (.int (nI N)), x8] [] (setO M 34 f') Q) → wp g mX7_costs 100 [some (ob g 25), some (.int a), some (.int b), some (.int (nI N)), some (.int mo), some (.int (nI c)), some (.int (nI (owN (M.1 31) c))), some (.int (nI d)), x8] [] (setO M 34 f) Q := by
  intro n
  induction n with
  | zero =>
    intro d hd f F mo x8 hR hmo K
    obtain rfl : d = N := by omega
    refine wp_iload (pc' := 102) dX7_costs_100 rfl rfl ?_
    refine wp_iload_n (pc' := 103) dX7_costs_102 rfl rfl ?_
    refine wp_icmp_ge (pc' := 106) 199 dX7_costs_103 rfl (by decide) (fun h103 => ?_) (fun h103 => ?_)
    · exact K f _ hR hmo
    · exact absurd (nI_le (Nat.le_refl d) (by omega)) h103
  | succ n ih =>
    intro d hdn f F mo x8 hR hmo K
    have hd : d < N := by omega
    refine wp_iload (pc' := 102) dX7_costs_100 rfl rfl ?_
    refine wp_iload_n (pc' := 103) dX7_costs_102 rfl rfl ?_
    refine wp_icmp_ge (pc' := 106) 199 dX7_costs_103 rfl (by decide) (fun h103 => ?_) (fun h103 => ?_)
    · exact absurd h103 (nI_ge (by omega) (by omega))
    · refine wp_aload_n (pc' := 107) dX7_costs_106 rfl rfl ⟨_, rfl⟩ ?_
      refine wp_iload (pc' := 109) dX7_costs_107 rfl rfl ?_
      refine wp_iload (pc' := 111) dX7_costs_109 rfl rfl ?_
      refine wp_cVI (μ' := mX7_isStep) (pc' := 114) (o := 25) dX7_costs_111 rfl mlX7_151 cfX7_isStep ⟨(Nat.le_of_ble_eq_true rfl), (Nat.le_of_ble_eq_true rfl)⟩ (sm_isStep (M := setO M 34 f) hw h0 hw2 (by omega) (by omega)) (by decide) rfl rfl rfl rfl rfl (Nat.le_of_ble_eq_true rfl) ?_
      refine wp_if_eq (pc' := 117) 141 dX7_costs_114 rfl (by decide) (fun h114 => ?_) (fun h114 => ?_)
      · refine wp_iconst (pc' := 142) 0 dX7_costs_141 rfl (by decide) ?_
        refine wp_ist8 (pc' := 144) dX7_costs_142 rfl (by decide) rfl ?_
        refine wp_aload_n (pc' := 145) dX7_costs_144 rfl rfl ⟨_, rfl⟩ ?_
        refine wp_get (pc' := 148) (o := 25) dX7_costs_145 rfl flX7_35 (by decide) rfl rfl ?_
        refine wp_iload (pc' := 150) dX7_costs_148 rfl rfl ?_
        refine wp_iload (pc' := 152) dX7_costs_150 rfl rfl ?_
        refine wp_if_eq (pc' := 155) 168 dX7_costs_152 rfl (by decide) (fun _ => ?_) (fun hh => absurd hh (by decide))
        refine wp_aload_n (pc' := 169) dX7_costs_168 rfl rfl ⟨_, rfl⟩ ?_
        refine wp_get (pc' := 172) (o := 25) dX7_costs_169 rfl flX7_35 (by decide) rfl rfl ?_
        refine wp_iload (pc' := 174) dX7_costs_172 rfl rfl ?_
        refine wp_ialdN (pc' := 175) (o := 34) (n := 24) (c) dX7_costs_174 rfl (by decide) rfl (rfl) (by omega) (by decide) ?_
        refine wp_iastN (pc' := 176) (o := 34) (n := 24) (c) dX7_costs_175 rfl (by decide) (fun _ _ => rfl) (rfl) (by omega) (by decide) ?_
        refine wp_iload (pc' := 178) dX7_costs_176 rfl rfl ?_
        refine wp_if_ne (pc' := 181) 186 dX7_costs_178 rfl (by decide) (fun h178 => ?_) (fun h178 => ?_)
        · refine wp_iconst (pc' := 187) 1 dX7_costs_186 rfl (by decide) ?_
          refine wp_goto 191 dX7_costs_187 (by decide) ?_
          refine wp_ist4 (pc' := 193) dX7_costs_191 rfl (by decide) rfl ?_
          refine wp_inc7 (pc' := 196) (nI (d + 1)) dX7_costs_193 rfl (by decide) rfl (nI_1 d) ?_
          refine wp_goto 100 dX7_costs_196 (by decide) ?_
          have e : rx (adjB w) (owN (M.1 31)) c d (F, mo) = (F, mo) := rx_no (stI_0 h114)
          rw [ixS, e] at K
          rw [upI_setO, setO_eq, upd_self]
          obtain rfl := bit_or hmo h178
          exact ih (d + 1) (by omega) f F _ _ hR (by simp) K
        · refine wp_iload (pc' := 183) dX7_costs_181 rfl rfl ?_
          refine wp_if_eq (pc' := 186) 190 dX7_costs_183 rfl (by decide) (fun _ => ?_) (fun hh => absurd hh (by decide))
          refine wp_iconst (pc' := 191) 0 dX7_costs_190 rfl (by decide) ?_
          refine wp_ist4 (pc' := 193) dX7_costs_191 rfl (by decide) rfl ?_
          refine wp_inc7 (pc' := 196) (nI (d + 1)) dX7_costs_193 rfl (by decide) rfl (nI_1 d) ?_
          refine wp_goto 100 dX7_costs_196 (by decide) ?_
          have e : rx (adjB w) (owN (M.1 31)) c d (F, mo) = (F, mo) := rx_no (stI_0 h114)
          rw [ixS, e] at K
          rw [upI_setO, setO_eq, upd_self]
          obtain rfl : mo = 0 := h178
          exact ih (d + 1) (by omega) f F _ _ hR (by simp) K
      · refine wp_aload_n (pc' := 118) dX7_costs_117 rfl rfl ⟨_, rfl⟩ ?_
        refine wp_get (pc' := 121) (o := 25) dX7_costs_118 rfl flX7_35 (by decide) rfl rfl ?_
        refine wp_iload (pc' := 123) dX7_costs_121 rfl rfl ?_
        refine wp_ialdN (pc' := 124) (o := 34) (n := 24) (d) dX7_costs_123 rfl (by decide) rfl (rfl) (by omega) (by decide) ?_
        refine wp_iload (pc' := 126) dX7_costs_124 rfl rfl ?_
        refine wp_iadd (pc' := 127) dX7_costs_126 rfl ?_
        refine wp_aload_n (pc' := 128) dX7_costs_127 rfl rfl ⟨_, rfl⟩ ?_
        refine wp_get (pc' := 131) (o := 25) dX7_costs_128 rfl flX7_35 (by decide) rfl rfl ?_
        refine wp_iload (pc' := 133) dX7_costs_131 rfl rfl ?_
        refine wp_ialdN (pc' := 134) (o := 34) (n := 24) (c) dX7_costs_133 rfl (by decide) rfl (rfl) (by omega) (by decide) ?_
        refine wp_icmp_ge (pc' := 137) 141 dX7_costs_134 rfl (by decide) (fun h134 => ?_) (fun h134 => ?_)
        · refine wp_iconst (pc' := 142) 0 dX7_costs_141 rfl (by decide) ?_
          refine wp_ist8 (pc' := 144) dX7_costs_142 rfl (by decide) rfl ?_
          refine wp_aload_n (pc' := 145) dX7_costs_144 rfl rfl ⟨_, rfl⟩ ?_
          refine wp_get (pc' := 148) (o := 25) dX7_costs_145 rfl flX7_35 (by decide) rfl rfl ?_
          refine wp_iload (pc' := 150) dX7_costs_148 rfl rfl ?_
          refine wp_iload (pc' := 152) dX7_costs_150 rfl rfl ?_
          refine wp_if_eq (pc' := 155) 168 dX7_costs_152 rfl (by decide) (fun _ => ?_) (fun hh => absurd hh (by decide))
          refine wp_aload_n (pc' := 169) dX7_costs_168 rfl rfl ⟨_, rfl⟩ ?_
          refine wp_get (pc' := 172) (o := 25) dX7_costs_169 rfl flX7_35 (by decide) rfl rfl ?_
          refine wp_iload (pc' := 174) dX7_costs_172 rfl rfl ?_
          refine wp_ialdN (pc' := 175) (o := 34) (n := 24) (c) dX7_costs_174 rfl (by decide) rfl (rfl) (by omega) (by decide) ?_
          refine wp_iastN (pc' := 176) (o := 34) (n := 24) (c) dX7_costs_175 rfl (by decide) (fun _ _ => rfl) (rfl) (by omega) (by decide) ?_
          refine wp_iload (pc' := 178) dX7_costs_176 rfl rfl ?_
          refine wp_if_ne (pc' := 181) 186 dX7_costs_178 rfl (by decide) (fun h178 => ?_) (fun h178 => ?_)
          · refine wp_iconst (pc' := 187) 1 dX7_costs_186 rfl (by decide) ?_
            refine wp_goto 191 dX7_costs_187 (by decide) ?_
            refine wp_ist4 (pc' := 193) dX7_costs_191 rfl (by decide) rfl ?_
            refine wp_inc7 (pc' := 196) (nI (d + 1)) dX7_costs_193 rfl (by decide) rfl (nI_1 d) ?_
            refine wp_goto 100 dX7_costs_196 (by decide) ?_
            have e : rx (adjB w) (owN (M.1 31)) c d (F, mo) = (F, mo) := rx_no2 (Nat.not_lt.mpr ((RF_le hR hc hd (owN_le _ _)).mp h134))
            rw [ixS, e] at K
            rw [upI_setO, setO_eq, upd_self]
            obtain rfl := bit_or hmo h178
            exact ih (d + 1) (by omega) f F _ _ hR (by simp) K
          · refine wp_iload (pc' := 183) dX7_costs_181 rfl rfl ?_
            refine wp_if_eq (pc' := 186) 190 dX7_costs_183 rfl (by decide) (fun _ => ?_) (fun hh => absurd hh (by decide))
            refine wp_iconst (pc' := 191) 0 dX7_costs_190 rfl (by decide) ?_
            refine wp_ist4 (pc' := 193) dX7_costs_191 rfl (by decide) rfl ?_
            refine wp_inc7 (pc' := 196) (nI (d + 1)) dX7_costs_193 rfl (by decide) rfl (nI_1 d) ?_
            refine wp_goto 100 dX7_costs_196 (by decide) ?_
            have e : rx (adjB w) (owN (M.1 31)) c d (F, mo) = (F, mo) := rx_no2 (Nat.not_lt.mpr ((RF_le hR hc hd (owN_le _ _)).mp h134))
            rw [ixS, e] at K
            rw [upI_setO, setO_eq, upd_self]
            obtain rfl : mo = 0 := h178
            exact ih (d + 1) (by omega) f F _ _ hR (by simp) K
        · refine wp_iconst (pc' := 138) 1 dX7_costs_137 rfl (by decide) ?_
          refine wp_goto 142 dX7_costs_138 (by decide) ?_
          refine wp_ist8 (pc' := 144) dX7_costs_142 rfl (by decide) rfl ?_
          refine wp_aload_n (pc' := 145) dX7_costs_144 rfl rfl ⟨_, rfl⟩ ?_
          refine wp_get (pc' := 148) (o := 25) dX7_costs_145 rfl flX7_35 (by decide) rfl rfl ?_
          refine wp_iload (pc' := 150) dX7_costs_148 rfl rfl ?_
          refine wp_iload (pc' := 152) dX7_costs_150 rfl rfl ?_
          refine wp_if_eq (pc' := 155) 168 dX7_costs_152 rfl (by decide) (fun hh => absurd hh (by decide)) (fun _ => ?_)
          refine wp_aload_n (pc' := 156) dX7_costs_155 rfl rfl ⟨_, rfl⟩ ?_
          refine wp_get (pc' := 159) (o := 25) dX7_costs_156 rfl flX7_35 (by decide) rfl rfl ?_
          refine wp_iload (pc' := 161) dX7_costs_159 rfl rfl ?_
          refine wp_ialdN (pc' := 162) (o := 34) (n := 24) (d) dX7_costs_161 rfl (by decide) rfl (rfl) (by omega) (by decide) ?_
          refine wp_iload (pc' := 164) dX7_costs_162 rfl rfl ?_
          refine wp_iadd (pc' := 165) dX7_costs_164 rfl ?_
          refine wp_goto 175 dX7_costs_165 (by decide) ?_
          refine wp_iastN (pc' := 176) (o := 34) (n := 24) (c) dX7_costs_175 rfl (by decide) (fun _ _ => rfl) (rfl) (by omega) (by decide) ?_
          refine wp_iload (pc' := 178) dX7_costs_176 rfl rfl ?_
          refine wp_if_ne (pc' := 181) 186 dX7_costs_178 rfl (by decide) (fun h178 => ?_) (fun h178 => ?_)
          · refine wp_iconst (pc' := 187) 1 dX7_costs_186 rfl (by decide) ?_
            refine wp_goto 191 dX7_costs_187 (by decide) ?_
            refine wp_ist4 (pc' := 193) dX7_costs_191 rfl (by decide) rfl ?_
            refine wp_inc7 (pc' := 196) (nI (d + 1)) dX7_costs_193 rfl (by decide) rfl (nI_1 d) ?_
            refine wp_goto 100 dX7_costs_196 (by decide) ?_
            have hlt : F d + owN (M.1 31) c < F c := Nat.lt_of_not_le (fun h => h134 ((RF_le hR hc hd (owN_le _ _)).mpr h))
            have e : rx (adjB w) (owN (M.1 31)) c d (F, mo) = (updN F c (F d + owN (M.1 31) c), 1) := if_pos ⟨stI_1 h114, hlt⟩
            rw [ixS, e] at K
            rw [upI_setO, setO_eq, (hR d hd).1, nI_add]
            exact ih (d + 1) (by omega) _ _ _ _ (RF_upd hR (by have := (hR c hc).2; omega)) (by simp) K
          · refine wp_iload (pc' := 183) dX7_costs_181 rfl rfl ?_
            refine wp_if_eq (pc' := 186) 190 dX7_costs_183 rfl (by decide) (fun hh => absurd hh (by decide)) (fun _ => ?_)
            refine wp_iconst (pc' := 187) 1 dX7_costs_186 rfl (by decide) ?_
            refine wp_goto 191 dX7_costs_187 (by decide) ?_
            refine wp_ist4 (pc' := 193) dX7_costs_191 rfl (by decide) rfl ?_
            refine wp_inc7 (pc' := 196) (nI (d + 1)) dX7_costs_193 rfl (by decide) rfl (nI_1 d) ?_
            refine wp_goto 100 dX7_costs_196 (by decide) ?_
            have hlt : F d + owN (M.1 31) c < F c := Nat.lt_of_not_le (fun h => h134 ((RF_le hR hc hd (owN_le _ _)).mpr h))
            have e : rx (adjB w) (owN (M.1 31)) c d (F, mo) = (updN F c (F d + owN (M.1 31) c), 1) := if_pos ⟨stI_1 h114, hlt⟩
            rw [ixS, e] at K
            rw [upI_setO, setO_eq, (hR d hd).1, nI_add]
            exact ih (d + 1) (by omega) _ _ _ _ (RF_upd hR (by have := (hR c hc).2; omega)) (by simp) K
theorem lpm_mxc {g : GG} {M : Mem} {N w : Nat} {a b : Int32} (hN : N ≤ 24) (hw : M.1 25 8 = nI w) (h0 : 0 < w) (hw2 : w ≤ 24) {Q : Option Value → Mem → Prop} : ∀ (n c : Nat), c + n = N → ∀ (f : Nat → Int32) (F : Nat → Nat) (mo : Int32) (x6 x7 x8 : Option Value), RF N f F → (mo = 0 ∨ mo = 1) → (∀ f' x6 x7 x8, RF N f' (mx (adjB w) (owN (M.1 31)) N n c (F, mo)).1 → ((mx (adjB w) (owN (M.1 31)) N n c (F, mo)).2 = 0 ∨ (mx (adjB w) (owN (M.1 31)) N n c (F, mo)).2 = 1) → wp g mX7_costs 205 [some (ob g 25), some (.int a), some (.int b), some (.int (nI N)), some (.int (mx (adjB w) (owN (M.1 31)) N n c (F, mo)).2), some (.int (nI N)), x6, x7, x8] [] (setO M 34 f') Q) → wp g mX7_costs 73 [some (ob g 25), some (.int a), some (.int b), some (.int (nI N)), some (.int mo), some (.int (nI c)), x6, x7, x8] [] (setO M 34 f) Q := by
  intro n
  induction n with
  | zero =>
    intro c hc f F mo x6 x7 x8 hR hmo K
    obtain rfl : c = N := by omega
    refine wp_iload (pc' := 75) dX7_costs_73 rfl rfl ?_
    refine wp_iload_n (pc' := 76) dX7_costs_75 rfl rfl ?_
    refine wp_icmp_ge (pc' := 79) 205 dX7_costs_76 rfl (by decide) (fun h76 => ?_) (fun h76 => ?_)
    · exact K f _ _ _ hR hmo
    · exact absurd (nI_le (Nat.le_refl c) (by omega)) h76
  | succ n ih =>
    intro c hcn f F mo x6 x7 x8 hR hmo K
    have hc : c < N := by omega
    rw [mxS] at K
    refine wp_iload (pc' := 75) dX7_costs_73 rfl rfl ?_
    refine wp_iload_n (pc' := 76) dX7_costs_75 rfl rfl ?_
    refine wp_icmp_ge (pc' := 79) 205 dX7_costs_76 rfl (by decide) (fun h76 => ?_) (fun h76 => ?_)
    · exact absurd h76 (nI_ge (by omega) (by omega))
    · refine wp_aload_n (pc' := 80) dX7_costs_79 rfl rfl ⟨_, rfl⟩ ?_
      refine wp_get (pc' := 83) (o := 25) dX7_costs_80 rfl flX7_25 (by decide) rfl rfl ?_
      refine wp_iload (pc' := 85) dX7_costs_83 rfl rfl ?_
      refine wp_ialdN (pc' := 86) (o := 31) (n := 76) (c) dX7_costs_85 rfl (by decide) rfl (rfl) (by omega) (by decide) ?_
      refine wp_iconst (pc' := 87) 1 dX7_costs_86 rfl (by decide) ?_
      refine wp_icmp_ne (pc' := 90) 94 dX7_costs_87 rfl (by decide) (fun h87 => ?_) (fun h87 => ?_)
      · refine wp_iconst (pc' := 95) 0 dX7_costs_94 rfl (by decide) ?_
        refine wp_ist6 (pc' := 97) dX7_costs_95 rfl (by decide) rfl ?_
        refine wp_iconst (pc' := 98) 0 dX7_costs_97 rfl (by decide) ?_
        refine wp_ist7 (pc' := 100) dX7_costs_98 rfl (by decide) rfl ?_
        have T : ∀ (v : Int32) (x8 : Option Value), v = nI (owN (M.1 31) c) → wp g mX7_costs 100 [some (ob g 25), some (.int a), some (.int b), some (.int (nI N)), some (.int mo), some (.int (nI c)), some (.int v), some (.int 0), x8] [] (setO M 34 f) Q := by
          rintro v x8 rfl
          refine lpm_ixc hN hw h0 hw2 hc N 0 (Nat.zero_add N) f F mo _ hR hmo (fun f1 y8 hR1 hmo1 => ?_)
          refine wp_inc5 (pc' := 202) (nI (c + 1)) dX7_costs_199 rfl (by decide) rfl (nI_1 c) ?_
          refine wp_goto 73 dX7_costs_202 (by decide) ?_
          exact ih (c + 1) (by omega) f1 _ _ _ _ _ hR1 hmo1 K
        exact T _ _ (by rw [owN, if_neg (show ¬ M.1 31 c = 1 from h87)]; rfl)
      · refine wp_iconst (pc' := 91) 1 dX7_costs_90 rfl (by decide) ?_
        refine wp_goto 95 dX7_costs_91 (by decide) ?_
        refine wp_ist6 (pc' := 97) dX7_costs_95 rfl (by decide) rfl ?_
        refine wp_iconst (pc' := 98) 0 dX7_costs_97 rfl (by decide) ?_
        refine wp_ist7 (pc' := 100) dX7_costs_98 rfl (by decide) rfl ?_
        have T : ∀ (v : Int32) (x8 : Option Value), v = nI (owN (M.1 31) c) → wp g mX7_costs 100 [some (ob g 25), some (.int a), some (.int b), some (.int (nI N)), some (.int mo), some (.int (nI c)), some (.int v), some (.int 0), x8] [] (setO M 34 f) Q := by
          rintro v x8 rfl
          refine lpm_ixc hN hw h0 hw2 hc N 0 (Nat.zero_add N) f F mo _ hR hmo (fun f1 y8 hR1 hmo1 => ?_)
          refine wp_inc5 (pc' := 202) (nI (c + 1)) dX7_costs_199 rfl (by decide) rfl (nI_1 c) ?_
          refine wp_goto 73 dX7_costs_202 (by decide) ?_
          exact ih (c + 1) (by omega) f1 _ _ _ _ _ hR1 hmo1 K
        exact T _ _ (by rw [owN, if_pos (show M.1 31 c = 1 from h87)]; rfl)
theorem lpm_whc {g : GG} {M : Mem} {N w : Nat} {a b : Int32} (hN : N ≤ 24) (hw : M.1 25 8 = nI w) (h0 : 0 < w) (hw2 : w ≤ 24) {J : (Nat → Nat) → Prop} (hJ : ∀ F c d, c < N → d < N → adjB w c d = true → F d + owN (M.1 31) c < F c → J F → J (updN F c (F d + owN (M.1 31) c))) {Q : Option Value → Mem → Prop} (K : ∀ f F x4 x5 x6 x7 x8, RF N f F → J F → StableR (adjB w) (owN (M.1 31)) N F → wp g mX7_costs 208 [some (ob g 25), some (.int a), some (.int b), some (.int (nI N)), x4, x5, x6, x7, x8] [] (setO M 34 f) Q) : ∀ (T : Nat) (F : Nat → Nat) (f : Nat → Int32) (x5 x6 x7 x8 : Option Value), sumF F N ≤ T → RF N f F → J F → wp g mX7_costs 62 [some (ob g 25), some (.int a), some (.int b), some (.int (nI N)), some (.int 1), x5, x6, x7, x8] [] (setO M 34 f) Q := by
  intro T
  induction T with
  | zero =>
    intro F f x5 x6 x7 x8 hT hR hF
    refine wp_iload (pc' := 64) dX7_costs_62 rfl rfl ?_
    refine wp_if_eq (pc' := 67) 208 dX7_costs_64 rfl (by decide) (fun hh => absurd hh (by decide)) (fun _ => ?_)
    refine wp_iconst (pc' := 68) 0 dX7_costs_67 rfl (by decide) ?_
    refine wp_ist4 (pc' := 70) dX7_costs_68 rfl (by decide) rfl ?_
    refine wp_iconst (pc' := 71) 0 dX7_costs_70 rfl (by decide) ?_
    refine wp_ist5 (pc' := 73) dX7_costs_71 rfl (by decide) rfl ?_
    refine lpm_mxc hN hw h0 hw2 N 0 (Nat.zero_add N) f F 0 _ _ _ hR (Or.inl rfl) (fun f1 y6 y7 y8 hR1 hmo1 => ?_)
    have hch := mx_ch (ok := adjB w) (ad := owN (M.1 31)) (N := N) N 0 (by omega) (F, 0)
    have hfx := mx_fix (ok := adjB w) (ad := owN (M.1 31)) (N := N) N 0 (by omega) (F, 0) rfl
    have hj1 := mx_J (ok := adjB w) (ad := owN (M.1 31)) (N := N) (J := J) hJ N 0 (by omega) (F, 0) hF
    generalize mx (adjB w) (owN (M.1 31)) N N 0 (F, 0) = r at hR1 hmo1 hch hfx hj1 ⊢
    obtain ⟨F1, mo1⟩ := r
    dsimp only at hR1 hmo1 hch hfx hj1 ⊢
    rcases hmo1 with rfl | rfl
    · obtain ⟨e1, e2⟩ := hfx rfl
      obtain rfl : F1 = F := (Prod.mk.inj e1).1
      refine wp_goto 62 dX7_costs_205 (by decide) ?_
      refine wp_iload (pc' := 64) dX7_costs_62 rfl rfl ?_
      refine wp_if_eq (pc' := 67) 208 dX7_costs_64 rfl (by decide) (fun _ => ?_) (fun hh => absurd hh (by decide))
      exact K f1 F1 _ _ _ _ _ hR1 hj1 (fun b hb e he hok => Nat.not_lt.mp (e2 b (Nat.zero_le b) (by omega) e he hok))
    · rcases hch with hch | ⟨_, hlt⟩
      · exact absurd (congrArg Prod.snd hch) (show ¬ (1 : Int32) = 0 by decide)
      · exact absurd hlt (by dsimp only; omega)
  | succ T ih =>
    intro F f x5 x6 x7 x8 hT hR hF
    refine wp_iload (pc' := 64) dX7_costs_62 rfl rfl ?_
    refine wp_if_eq (pc' := 67) 208 dX7_costs_64 rfl (by decide) (fun hh => absurd hh (by decide)) (fun _ => ?_)
    refine wp_iconst (pc' := 68) 0 dX7_costs_67 rfl (by decide) ?_
    refine wp_ist4 (pc' := 70) dX7_costs_68 rfl (by decide) rfl ?_
    refine wp_iconst (pc' := 71) 0 dX7_costs_70 rfl (by decide) ?_
    refine wp_ist5 (pc' := 73) dX7_costs_71 rfl (by decide) rfl ?_
    refine lpm_mxc hN hw h0 hw2 N 0 (Nat.zero_add N) f F 0 _ _ _ hR (Or.inl rfl) (fun f1 y6 y7 y8 hR1 hmo1 => ?_)
    have hch := mx_ch (ok := adjB w) (ad := owN (M.1 31)) (N := N) N 0 (by omega) (F, 0)
    have hfx := mx_fix (ok := adjB w) (ad := owN (M.1 31)) (N := N) N 0 (by omega) (F, 0) rfl
    have hj1 := mx_J (ok := adjB w) (ad := owN (M.1 31)) (N := N) (J := J) hJ N 0 (by omega) (F, 0) hF
    generalize mx (adjB w) (owN (M.1 31)) N N 0 (F, 0) = r at hR1 hmo1 hch hfx hj1 ⊢
    obtain ⟨F1, mo1⟩ := r
    dsimp only at hR1 hmo1 hch hfx hj1 ⊢
    rcases hmo1 with rfl | rfl
    · obtain ⟨e1, e2⟩ := hfx rfl
      obtain rfl : F1 = F := (Prod.mk.inj e1).1
      refine wp_goto 62 dX7_costs_205 (by decide) ?_
      refine wp_iload (pc' := 64) dX7_costs_62 rfl rfl ?_
      refine wp_if_eq (pc' := 67) 208 dX7_costs_64 rfl (by decide) (fun _ => ?_) (fun hh => absurd hh (by decide))
      exact K f1 F1 _ _ _ _ _ hR1 hj1 (fun b hb e he hok => Nat.not_lt.mp (e2 b (Nat.zero_le b) (by omega) e he hok))
    · rcases hch with hch | ⟨_, hlt⟩
      · exact absurd (congrArg Prod.snd hch) (show ¬ (1 : Int32) = 0 by decide)
      · refine wp_goto 62 dX7_costs_205 (by decide) ?_
        exact ih F1 f1 _ _ _ _ (by dsimp only at hlt; omega) hR1 hj1
theorem sm_costs {g : GG} {M : Mem} {N w a b : Nat} (h : MW M N w) (ha : a < N) (hb : b < N) {J : (Nat → Nat) → Prop} (hJ : ∀ F c d, c < N → d < N → adjB w c d = true → F d + owN (M.1 31) c < F c → J F → J (updN F c (F d + owN (M.1 31) c))) (hJ0 : J (F0c (M.1 31) b)) : SI g mX7_costs [ob g 25, .int (nI a), .int (nI b)] M (fun x m => ∃ f F, m = setO M 34 f ∧ x = nI (F a) ∧ RF N f F ∧ J F ∧ StableR (adjB w) (owN (M.1 31)) N F) := by
  obtain ⟨hN, hwh, hw, h0, hw2⟩ := h
  refine spec_of_wp (ls := [some (ob g 25), some (.int (nI a)), some (.int (nI b)), none, none, none, none, none, none]) rfl (Nat.le_of_ble_eq_true rfl) 6 rfl ?_
  refine wp_aload_n (pc' := 1) dX7_costs_0 rfl rfl ⟨_, rfl⟩ ?_
  refine wp_get (pc' := 4) (o := 25) dX7_costs_1 rfl flX7_51 (by decide) rfl rfl ?_
  refine wp_aload_n (pc' := 5) dX7_costs_4 rfl rfl ⟨_, rfl⟩ ?_
  refine wp_get (pc' := 8) (o := 25) dX7_costs_5 rfl flX7_54 (by decide) rfl rfl ?_
  refine wp_imul (pc' := 9) dX7_costs_8 rfl ?_
  refine wp_top (hwh) ?_
  refine wp_ist3 (pc' := 10) dX7_costs_9 rfl (by decide) rfl ?_
  refine wp_iconst (pc' := 11) 0 dX7_costs_10 rfl (by decide) ?_
  refine wp_ist4 (pc' := 13) dX7_costs_11 rfl (by decide) rfl ?_
  refine wp_mem (setO_self M 34).symm ?_
  refine lpm_cost0 hN hb N 0 (Nat.zero_add N) _ _ _ _ _ (fun c hc => absurd hc (Nat.not_lt_zero c)) (fun f1 y5 y6 y7 y8 hR1 => ?_)
  refine wp_iconst (pc' := 60) 1 dX7_costs_59 rfl (by decide) ?_
  refine wp_ist4 (pc' := 62) dX7_costs_60 rfl (by decide) rfl ?_
  refine lpm_whc hN hw h0 hw2 hJ (fun f F x4 x5 x6 x7 x8 hR hF hS => ?_) _ _ _ _ _ _ _ (Nat.le_refl _) hR1 hJ0
  refine wp_aload_n (pc' := 209) dX7_costs_208 rfl rfl ⟨_, rfl⟩ ?_
  refine wp_get (pc' := 212) (o := 25) dX7_costs_209 rfl flX7_35 (by decide) rfl rfl ?_
  refine wp_iload_n (pc' := 213) dX7_costs_212 rfl rfl ?_
  refine wp_ialdN (pc' := 214) (o := 34) (n := 24) (a) dX7_costs_213 rfl (by decide) rfl (rfl) (by omega) (by decide) ?_
  refine wp_ireti dX7_costs_214 rfl ?_
  exact ⟨_, rfl, f, F, rfl, (hR a ha).1, hR, hF, hS⟩
