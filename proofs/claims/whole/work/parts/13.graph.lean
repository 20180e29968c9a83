
/-! ===== relaxing until nothing changes (plain facts) ===== -/
def updN (F : Nat → Nat) (c v : Nat) : Nat → Nat := fun x => if x = c then v else F x
def sumF (F : Nat → Nat) : Nat → Nat
  | 0 => 0
  | n + 1 => sumF F n + F n
theorem sumF_ge {F : Nat → Nat} {c v : Nat} : ∀ n, n ≤ c → sumF (updN F c v) n = sumF F n := by
  intro n
  induction n with
  | zero => intro _; rfl
  | succ n ih =>
    intro h
    rw [sumF, sumF, ih (by omega)]
    have : updN F c v n = F n := if_neg (by omega)
    rw [this]
theorem sumF_lt {F : Nat → Nat} {c v : Nat} (h : v < F c) : ∀ n, c < n → sumF (updN F c v) n < sumF F n := by
  intro n
  induction n with
  | zero => intro h; omega
  | succ n ih =>
    intro hc
    rw [sumF, sumF]
    by_cases e : c = n
    · subst e
      rw [sumF_ge c (Nat.le_refl c)]
      have : updN F c v c = v := if_pos rfl
      omega
    · have := ih (by omega)
      have e2 : updN F c v n = F n := if_neg (fun h => e h.symm)
      omega
abbrev RS : Type := (Nat → Nat) × Int32
def rx (ok : Nat → Nat → Bool) (ad : Nat → Nat) (c d : Nat) (s : RS) : RS := if ok c d = true ∧ s.1 d + ad c < s.1 c then (updN s.1 c (s.1 d + ad c), 1) else s
def ix (ok : Nat → Nat → Bool) (ad : Nat → Nat) (c : Nat) : Nat → Nat → RS → RS
  | 0, _, s => s
  | n + 1, d, s => ix ok ad c n (d + 1) (rx ok ad c d s)
def mx (ok : Nat → Nat → Bool) (ad : Nat → Nat) (N : Nat) : Nat → Nat → RS → RS
  | 0, _, s => s
  | n + 1, c, s => mx ok ad N n (c + 1) (ix ok ad c N 0 s)
/-- what a stretch of relaxing does: nothing, or it sinks the sum and says so -/
def Ch (N : Nat) (s s' : RS) : Prop := s' = s ∨ (s'.2 = 1 ∧ sumF s'.1 N < sumF s.1 N)
theorem Ch.trans {N : Nat} {a b c : RS} (h : Ch N a b) (k : Ch N b c) : Ch N a c := by
  rcases h with rfl | ⟨h1, h2⟩
  · exact k
  · rcases k with rfl | ⟨k1, k2⟩
    · exact Or.inr ⟨h1, h2⟩
    · exact Or.inr ⟨k1, by omega⟩
theorem rx_ch {ok : Nat → Nat → Bool} {ad : Nat → Nat} {N c d : Nat} (hc : c < N) (s : RS) : Ch N s (rx ok ad c d s) := by
  unfold rx
  split
  · rename_i h
    exact Or.inr ⟨rfl, sumF_lt h.2 N hc⟩
  · exact Or.inl rfl
theorem ix_ch {ok : Nat → Nat → Bool} {ad : Nat → Nat} {N c : Nat} (hc : c < N) : ∀ (n d : Nat) (s : RS), Ch N s (ix ok ad c n d s) := by
  intro n
  induction n with
  | zero => intro d s; exact Or.inl rfl
  | succ n ih => intro d s; exact (rx_ch hc s).trans (ih (d + 1) _)
theorem mx_ch {ok : Nat → Nat → Bool} {ad : Nat → Nat} {N : Nat} : ∀ (n c : Nat), c + n ≤ N → ∀ (s : RS), Ch N s (mx ok ad N n c s) := by
  intro n
  induction n with
  | zero => intro c _ s; exact Or.inl rfl
  | succ n ih => intro c hc s; exact (ix_ch (by omega) N 0 s).trans (ih (c + 1) (by omega) _)
theorem upd_ne_self {F : Nat → Nat} {c v : Nat} (h : v < F c) (e : updN F c v = F) : False := by
  have : updN F c v c = F c := by rw [e]
  have h2 : updN F c v c = v := if_pos rfl
  omega
theorem ix_fix {ok : Nat → Nat → Bool} {ad : Nat → Nat} {N c : Nat} (hc : c < N) : ∀ (n d : Nat) (s : RS), s.2 = 0 → (ix ok ad c n d s).2 = 0 → ix ok ad c n d s = s ∧ ∀ e, d ≤ e → e < d + n → ok c e = true → ¬ s.1 e + ad c < s.1 c := by
  intro n
  induction n with
  | zero => intro d s _ _; exact ⟨rfl, fun e h1 h2 => by omega⟩
  | succ n ih =>
    intro d s h0 h1
    have hr : rx ok ad c d s = s := by
      rcases (rx_ch (ok := ok) (ad := ad) (d := d) hc s) with h | ⟨h, _⟩
      · exact h
      · exfalso
        rcases ix_ch (ok := ok) (ad := ad) hc n (d + 1) (rx ok ad c d s) with k | ⟨k, _⟩
        · have : (ix ok ad c (n + 1) d s).2 = 1 := by
            show (ix ok ad c n (d + 1) (rx ok ad c d s)).2 = 1
            rw [k]; exact h
          rw [this] at h1
          exact absurd h1 (by decide)
        · have : (ix ok ad c (n + 1) d s).2 = 1 := k
          rw [this] at h1
          exact absurd h1 (by decide)
    have e0 : ix ok ad c (n + 1) d s = ix ok ad c n (d + 1) s := by
      show ix ok ad c n (d + 1) (rx ok ad c d s) = _
      rw [hr]
    rw [e0] at h1 ⊢
    obtain ⟨g1, g2⟩ := ih (d + 1) s h0 h1
    refine ⟨g1, fun e h2 h3 hok hlt => ?_⟩
    by_cases he : e = d
    · subst he
      have hx : rx ok ad c e s = (updN s.1 c (s.1 e + ad c), 1) := if_pos ⟨hok, hlt⟩
      rw [hr] at hx
      have : s.2 = 1 := by rw [hx]
      rw [this] at h0
      exact absurd h0 (by decide)
    · exact g2 e (by omega) (by omega) hok hlt
theorem mx_fix {ok : Nat → Nat → Bool} {ad : Nat → Nat} {N : Nat} : ∀ (n c : Nat), c + n ≤ N → ∀ (s : RS), s.2 = 0 → (mx ok ad N n c s).2 = 0 → mx ok ad N n c s = s ∧ ∀ b, c ≤ b → b < c + n → ∀ e, e < N → ok b e = true → ¬ s.1 e + ad b < s.1 b := by
  intro n
  induction n with
  | zero => intro c _ s _ _; exact ⟨rfl, fun e h1 h2 => by omega⟩
  | succ n ih =>
    intro c hc s h0 h1
    have hr : (ix ok ad c N 0 s).2 = 0 := by
      rcases ix_ch (ok := ok) (ad := ad) (show c < N by omega) N 0 s with h | ⟨h, _⟩
      · rw [h]; exact h0
      · exfalso
        rcases mx_ch (ok := ok) (ad := ad) (N := N) n (c + 1) (by omega) (ix ok ad c N 0 s) with k | ⟨k, _⟩
        · have : (mx ok ad N (n + 1) c s).2 = 1 := by
            show (mx ok ad N n (c + 1) (ix ok ad c N 0 s)).2 = 1
            rw [k]; exact h
          rw [this] at h1
          exact absurd h1 (by decide)
        · have : (mx ok ad N (n + 1) c s).2 = 1 := k
          rw [this] at h1
          exact absurd h1 (by decide)
    obtain ⟨f1, f2⟩ := ix_fix (show c < N by omega) N 0 s h0 hr
    have e0 : mx ok ad N (n + 1) c s = mx ok ad N n (c + 1) s := by
      show mx ok ad N n (c + 1) (ix ok ad c N 0 s) = _
      rw [f1]
    rw [e0] at h1 ⊢
    obtain ⟨g1, g2⟩ := ih (c + 1) (by omega) s h0 h1
    refine ⟨g1, fun b h2 h3 e he hok => ?_⟩
    by_cases hb : b = c
    · subst hb
      exact f2 e (Nat.zero_le e) (by omega) hok
    · exact g2 b (by omega) (by omega) e he hok
section RJ
variable {ok : Nat → Nat → Bool} {ad : Nat → Nat} {N : Nat} {J : (Nat → Nat) → Prop}
theorem rx_J (hJ : ∀ F c d, c < N → d < N → ok c d = true → F d + ad c < F c → J F → J (updN F c (F d + ad c))) {c d : Nat} (hc : c < N) (hd : d < N) (s : RS) (h : J s.1) : J (rx ok ad c d s).1 := by
  unfold rx
  split
  · rename_i k
    exact hJ s.1 c d hc hd k.1 k.2 h
  · exact h
theorem ix_J (hJ : ∀ F c d, c < N → d < N → ok c d = true → F d + ad c < F c → J F → J (updN F c (F d + ad c))) {c : Nat} (hc : c < N) : ∀ (n d : Nat), d + n ≤ N → ∀ (s : RS), J s.1 → J (ix ok ad c n d s).1 := by
  intro n
  induction n with
  | zero => intro d _ s h; exact h
  | succ n ih => intro d hd s h; exact ih (d + 1) (by omega) _ (rx_J hJ hc (by omega) s h)
theorem mx_J (hJ : ∀ F c d, c < N → d < N → ok c d = true → F d + ad c < F c → J F → J (updN F c (F d + ad c))) : ∀ (n c : Nat), c + n ≤ N → ∀ (s : RS), J s.1 → J (mx ok ad N n c s).1 := by
  intro n
  induction n with
  | zero => intro d _ s h; exact h
  | succ n ih => intro c hc s h; exact ih (c + 1) (by omega) _ (ix_J hJ (by omega) N 0 (by omega) s h)
end RJ
def RF (N : Nat) (f : Nat → Int32) (F : Nat → Nat) : Prop := ∀ c, c < N → f c = nI (F c) ∧ F c ≤ 99
theorem RF_upd {N : Nat} {f : Nat → Int32} {F : Nat → Nat} (h : RF N f F) {c v : Nat} (hv : v ≤ 99) : RF N (upd f c (nI v)) (updN F c v) := by
  intro x hx
  by_cases e : x = c
  · subst e
    exact ⟨(if_pos rfl).trans (congrArg nI (if_pos rfl).symm), by rw [show updN F x v x = v from if_pos rfl]; exact hv⟩
  · exact ⟨(if_neg e).trans (((h x hx).1).trans (congrArg nI (if_neg e).symm)), by rw [show updN F c v x = F x from if_neg e]; exact (h x hx).2⟩
theorem upd_self (f : Nat → Int32) (c : Nat) : upd f c (f c) = f := by
  funext x
  show (if x = c then f c else f x) = f x
  by_cases e : x = c
  · rw [if_pos e, e]
  · rw [if_neg e]
theorem bit_or {mo : Int32} (h : mo = 0 ∨ mo = 1) (h2 : ¬ mo = 0) : mo = 1 := h.resolve_left h2
/-! ===== whether two cells are one step apart ===== -/
def dif (a b : Nat) : Nat := (a - b) + (b - a)
def adjP (w a b : Nat) : Prop := (dif (a % w) (b % w) = 0 ∧ 1 ≤ dif (a / w) (b / w) ∧ dif (a / w) (b / w) ≤ 2) ∨ (dif (a / w) (b / w) = 0 ∧ 1 ≤ dif (a % w) (b % w) ∧ dif (a % w) (b % w) ≤ 2)
def adjB (w a b : Nat) : Bool := (dif (a % w) (b % w) == 0 && (1 ≤ dif (a / w) (b / w) && dif (a / w) (b / w) ≤ 2)) || (dif (a / w) (b / w) == 0 && (1 ≤ dif (a % w) (b % w) && dif (a % w) (b % w) ≤ 2))
theorem adjB_iff (w a b : Nat) : adjB w a b = true ↔ adjP w a b := by
  unfold adjB adjP
  simp [Bool.or_eq_true, Bool.and_eq_true]
def stI (w a b : Nat) : Int32 := if adjB w a b = true then 1 else 0

theorem sm_apartBy {g : GG} {M : Mem} {a b : Nat} (ha : a < 2 ^ 31) (hb : b < 2 ^ 31) : RI g mX7_apartBy [.int (nI a), .int (nI b)] M (nI (dif a b)) M := by
  refine spec_of_wp (ls := [some (.int (nI a)), some (.int (nI b))]) rfl (Nat.le_of_ble_eq_true rfl) 0 rfl ?_
  refine wp_iload_n (pc' := 1) dX7_apartBy_0 rfl rfl ?_
  refine wp_iload_n (pc' := 2) dX7_apartBy_1 rfl rfl ?_
  refine wp_icmp_ge (pc' := 5) 11 dX7_apartBy_2 rfl (by decide) (fun h2 => ?_) (fun h2 => ?_)
  · refine wp_iload_n (pc' := 12) dX7_apartBy_11 rfl rfl ?_
    refine wp_iload_n (pc' := 13) dX7_apartBy_12 rfl rfl ?_
    refine wp_isub (pc' := 14) dX7_apartBy_13 rfl ?_
    refine wp_ireti dX7_apartBy_14 rfl ?_
    exact ri_ok (by have := (nI_leI hb ha).mp h2; rw [pk_sub this]; congr 1; unfold dif; omega) rfl
  · refine wp_iload_n (pc' := 6) dX7_apartBy_5 rfl rfl ?_
    refine wp_iload_n (pc' := 7) dX7_apartBy_6 rfl rfl ?_
    refine wp_isub (pc' := 8) dX7_apartBy_7 rfl ?_
    refine wp_goto 14 dX7_apartBy_8 (by decide) ?_
    refine wp_ireti dX7_apartBy_14 rfl ?_
    exact ri_ok (by have hh : a ≤ b := Nat.le_of_lt (Nat.lt_of_not_le (fun h => h2 ((nI_leI hb ha).mpr h))); rw [pk_sub hh]; congr 1; unfold dif; omega) rfl
theorem inF12 {d : Nat} (hd : d < 2 ^ 31) : inF (nI d) 1 2 = if 1 ≤ d ∧ d ≤ 2 then 1 else 0 := by
  unfold inF
  have e1 : (nI d < 1) ↔ d < 1 := nI_ltI hd (by decide)
  have e2 : ((2 : Int32) < nI d) ↔ 2 < d := nI_ltI (by decide) hd
  by_cases h : 1 ≤ d ∧ d ≤ 2
  · rw [if_pos h, if_neg (fun k => k.elim (fun k => by have := e1.mp k; omega) (fun k => by have := e2.mp k; omega))]
  · rw [if_neg h, if_pos]
    by_cases h1 : d < 1
    · exact Or.inl (e1.mpr h1)
    · exact Or.inr (e2.mpr (by omega))
theorem dif_lt {a b n : Nat} (ha : a < n) (hb : b < n) : dif a b < n := by unfold dif; omega
theorem sm_isStep {g : GG} {M : Mem} {a b w : Nat} (hw : M.1 25 8 = nI w) (h0 : 0 < w) (hw2 : w ≤ 24) (ha : a ≤ 24) (hb : b ≤ 24) : RI g mX7_isStep [ob g 25, .int (nI a), .int (nI b)] M (stI w a b) M := by
  have hw31 : w < 2 ^ 31 := by omega
  have ha31 : a < 2 ^ 31 := by omega
  have hb31 : b < 2 ^ 31 := by omega
  have m1 : a % w < 2 ^ 31 := Nat.lt_of_le_of_lt (Nat.mod_le a w) ha31
  have m2 : b % w < 2 ^ 31 := Nat.lt_of_le_of_lt (Nat.mod_le b w) hb31
  have q1 : a / w < 2 ^ 31 := Nat.lt_of_le_of_lt (Nat.div_le_self a w) ha31
  have q2 : b / w < 2 ^ 31 := Nat.lt_of_le_of_lt (Nat.div_le_self b w) hb31
  have z1 : dif (a % w) (b % w) < 2 ^ 31 := dif_lt m1 m2
  have z2 : dif (a / w) (b / w) < 2 ^ 31 := dif_lt q1 q2
  have hne : ¬ M.1 25 8 = 0 := by rw [hw]; exact nI_ne0 h0 hw31
  have r1 : nI a - nI a / M.1 25 8 * M.1 25 8 = nI (a % w) := by rw [hw]; exact pk_rem ha31 h0 hw31
  have r2 : nI b - nI b / M.1 25 8 * M.1 25 8 = nI (b % w) := by rw [hw]; exact pk_rem hb31 h0 hw31
  have v1 : nI a / M.1 25 8 = nI (a / w) := by rw [hw]; exact pk_div ha31 h0 hw31
  have v2 : nI b / M.1 25 8 = nI (b / w) := by rw [hw]; exact pk_div hb31 h0 hw31
  have i1 := inF12 z1
  have i2 := inF12 z2
  have e1 : (nI (dif (a % w) (b % w)) = 0) ↔ dif (a % w) (b % w) = 0 := nI_eq z1 (by decide)
  have e2 : (nI (dif (a / w) (b / w)) = 0) ↔ dif (a / w) (b / w) = 0 := nI_eq z2 (by decide)
  refine spec_of_wp (ls := [some (ob g 25), some (.int (nI a)), some (.int (nI b)), none, none]) rfl (Nat.le_of_ble_eq_true rfl) 2 rfl ?_
  refine wp_iload_n (pc' := 1) dX7_isStep_0 rfl rfl ?_
  refine wp_aload_n (pc' := 2) dX7_isStep_1 rfl rfl ⟨_, rfl⟩ ?_
  refine wp_get (pc' := 5) (o := 25) dX7_isStep_2 rfl flX7_51 (by decide) rfl rfl ?_
  refine wp_irem (pc' := 6) dX7_isStep_5 rfl hne ?_
  refine wp_top (r1) ?_
  refine wp_iload_n (pc' := 7) dX7_isStep_6 rfl rfl ?_
  refine wp_aload_n (pc' := 8) dX7_isStep_7 rfl rfl ⟨_, rfl⟩ ?_
  refine wp_get (pc' := 11) (o := 25) dX7_isStep_8 rfl flX7_51 (by decide) rfl rfl ?_
  refine wp_irem (pc' := 12) dX7_isStep_11 rfl hne ?_
  refine wp_top (r2) ?_
  refine wp_cSI (μ' := mX7_apartBy) (pc' := 15) dX7_isStep_12 rfl mlX7_147 cfX7_apartBy ⟨(Nat.le_of_ble_eq_true rfl), (Nat.le_of_ble_eq_true rfl)⟩ (sm_apartBy m1 m2) rfl rfl (Nat.le_of_ble_eq_true rfl) ?_
  refine wp_ist3 (pc' := 16) dX7_isStep_15 rfl (by decide) rfl ?_
  refine wp_iload_n (pc' := 17) dX7_isStep_16 rfl rfl ?_
  refine wp_aload_n (pc' := 18) dX7_isStep_17 rfl rfl ⟨_, rfl⟩ ?_
  refine wp_get (pc' := 21) (o := 25) dX7_isStep_18 rfl flX7_51 (by decide) rfl rfl ?_
  refine wp_idiv (pc' := 22) dX7_isStep_21 rfl hne ?_
  refine wp_top (v1) ?_
  refine wp_iload_n (pc' := 23) dX7_isStep_22 rfl rfl ?_
  refine wp_aload_n (pc' := 24) dX7_isStep_23 rfl rfl ⟨_, rfl⟩ ?_
  refine wp_get (pc' := 27) (o := 25) dX7_isStep_24 rfl flX7_51 (by decide) rfl rfl ?_
  refine wp_idiv (pc' := 28) dX7_isStep_27 rfl hne ?_
  refine wp_top (v2) ?_
  refine wp_cSI (μ' := mX7_apartBy) (pc' := 31) dX7_isStep_28 rfl mlX7_147 cfX7_apartBy ⟨(Nat.le_of_ble_eq_true rfl), (Nat.le_of_ble_eq_true rfl)⟩ (sm_apartBy q1 q2) rfl rfl (Nat.le_of_ble_eq_true rfl) ?_
  refine wp_ist4 (pc' := 33) dX7_isStep_31 rfl (by decide) rfl ?_
  refine wp_iload_n (pc' := 34) dX7_isStep_33 rfl rfl ?_
  refine wp_if_ne (pc' := 37) 47 dX7_isStep_34 rfl (by decide) (fun h34 => ?_) (fun h34 => ?_)
  · refine wp_iload (pc' := 49) dX7_isStep_47 rfl rfl ?_
    refine wp_if_ne (pc' := 52) 65 dX7_isStep_49 rfl (by decide) (fun h49 => ?_) (fun h49 => ?_)
    · refine wp_iconst (pc' := 66) 0 dX7_isStep_65 rfl (by decide) ?_
      refine wp_iretz dX7_isStep_66 rfl rfl ?_
      refine ri_ok ?_ rfl
      unfold stI adjB
      simp only [i1, i2, e1, e2] at h34 h49
      simp only [Bool.or_eq_true, Bool.and_eq_true, beq_iff_eq, decide_eq_true_eq]
      split <;> rename_i hh <;> first | rfl | (exfalso; revert h34 h49 hh; split <;> simp <;> omega) | (exfalso; revert h34 h49 hh; simp <;> omega)
    · refine wp_iload_n (pc' := 53) dX7_isStep_52 rfl rfl ?_
      refine wp_iconst (pc' := 54) 1 dX7_isStep_53 rfl (by decide) ?_
      refine wp_iconst (pc' := 55) 2 dX7_isStep_54 rfl (by decide) ?_
      refine wp_cSI (μ' := mX7_in) (pc' := 58) dX7_isStep_55 rfl mlX7_57 cfX7_in ⟨(Nat.le_of_ble_eq_true rfl), (Nat.le_of_ble_eq_true rfl)⟩ (sm_in) rfl rfl (Nat.le_of_ble_eq_true rfl) ?_
      refine wp_if_eq (pc' := 61) 65 dX7_isStep_58 rfl (by decide) (fun h58 => ?_) (fun h58 => ?_)
      · refine wp_iconst (pc' := 66) 0 dX7_isStep_65 rfl (by decide) ?_
        refine wp_iretz dX7_isStep_66 rfl rfl ?_
        refine ri_ok ?_ rfl
        unfold stI adjB
        simp only [i1, i2, e1, e2] at h34 h49 h58
        simp only [Bool.or_eq_true, Bool.and_eq_true, beq_iff_eq, decide_eq_true_eq]
        split <;> rename_i hh <;> first | rfl | (exfalso; revert h34 h49 h58 hh; split <;> simp <;> omega) | (exfalso; revert h34 h49 h58 hh; simp <;> omega)
      · refine wp_iconst (pc' := 62) 1 dX7_isStep_61 rfl (by decide) ?_
        refine wp_goto 66 dX7_isStep_62 (by decide) ?_
        refine wp_iretz dX7_isStep_66 rfl rfl ?_
        refine ri_ok ?_ rfl
        unfold stI adjB
        simp only [i1, i2, e1, e2] at h34 h49 h58
        simp only [Bool.or_eq_true, Bool.and_eq_true, beq_iff_eq, decide_eq_true_eq]
        split <;> rename_i hh <;> first | rfl | (exfalso; revert h34 h49 h58 hh; split <;> simp <;> omega) | (exfalso; revert h34 h49 h58 hh; simp <;> omega)
  · refine wp_iload (pc' := 39) dX7_isStep_37 rfl rfl ?_
    refine wp_iconst (pc' := 40) 1 dX7_isStep_39 rfl (by decide) ?_
    refine wp_iconst (pc' := 41) 2 dX7_isStep_40 rfl (by decide) ?_
    refine wp_cSI (μ' := mX7_in) (pc' := 44) dX7_isStep_41 rfl mlX7_57 cfX7_in ⟨(Nat.le_of_ble_eq_true rfl), (Nat.le_of_ble_eq_true rfl)⟩ (sm_in) rfl rfl (Nat.le_of_ble_eq_true rfl) ?_
    refine wp_if_ne (pc' := 47) 61 dX7_isStep_44 rfl (by decide) (fun h44 => ?_) (fun h44 => ?_)
    · refine wp_iconst (pc' := 62) 1 dX7_isStep_61 rfl (by decide) ?_
      refine wp_goto 66 dX7_isStep_62 (by decide) ?_
      refine wp_iretz dX7_isStep_66 rfl rfl ?_
      refine ri_ok ?_ rfl
      unfold stI adjB
      simp only [i1, i2, e1, e2] at h34 h44
      simp only [Bool.or_eq_true, Bool.and_eq_true, beq_iff_eq, decide_eq_true_eq]
      split <;> rename_i hh <;> first | rfl | (exfalso; revert h34 h44 hh; split <;> simp <;> omega) | (exfalso; revert h34 h44 hh; simp <;> omega)
    · refine wp_iload (pc' := 49) dX7_isStep_47 rfl rfl ?_
      refine wp_if_ne (pc' := 52) 65 dX7_isStep_49 rfl (by decide) (fun h49 => ?_) (fun h49 => ?_)
      · refine wp_iconst (pc' := 66) 0 dX7_isStep_65 rfl (by decide) ?_
        refine wp_iretz dX7_isStep_66 rfl rfl ?_
        refine ri_ok ?_ rfl
        unfold stI adjB
        simp only [i1, i2, e1, e2] at h34 h44 h49
        simp only [Bool.or_eq_true, Bool.and_eq_true, beq_iff_eq, decide_eq_true_eq]
        split <;> rename_i hh <;> first | rfl | (exfalso; revert h34 h44 h49 hh; split <;> simp <;> omega) | (exfalso; revert h34 h44 h49 hh; simp <;> omega)
      · refine wp_iload_n (pc' := 53) dX7_isStep_52 rfl rfl ?_
        refine wp_iconst (pc' := 54) 1 dX7_isStep_53 rfl (by decide) ?_
        refine wp_iconst (pc' := 55) 2 dX7_isStep_54 rfl (by decide) ?_
        refine wp_cSI (μ' := mX7_in) (pc' := 58) dX7_isStep_55 rfl mlX7_57 cfX7_in ⟨(Nat.le_of_ble_eq_true rfl), (Nat.le_of_ble_eq_true rfl)⟩ (sm_in) rfl rfl (Nat.le_of_ble_eq_true rfl) ?_
        refine wp_if_eq (pc' := 61) 65 dX7_isStep_58 rfl (by decide) (fun h58 => ?_) (fun h58 => ?_)
        · refine wp_iconst (pc' := 66) 0 dX7_isStep_65 rfl (by decide) ?_
          refine wp_iretz dX7_isStep_66 rfl rfl ?_
          refine ri_ok ?_ rfl
          unfold stI adjB
          simp only [i1, i2, e1, e2] at h34 h44 h49 h58
          simp only [Bool.or_eq_true, Bool.and_eq_true, beq_iff_eq, decide_eq_true_eq]
          split <;> rename_i hh <;> first | rfl | (exfalso; revert h34 h44 h49 h58 hh; split <;> simp <;> omega) | (exfalso; revert h34 h44 h49 h58 hh; simp <;> omega)
        · refine wp_iconst (pc' := 62) 1 dX7_isStep_61 rfl (by decide) ?_
          refine wp_goto 66 dX7_isStep_62 (by decide) ?_
          refine wp_iretz dX7_isStep_66 rfl rfl ?_
          refine ri_ok ?_ rfl
          unfold stI adjB
          simp only [i1, i2, e1, e2] at h34 h44 h49 h58
          simp only [Bool.or_eq_true, Bool.and_eq_true, beq_iff_eq, decide_eq_true_eq]
          split <;> rename_i hh <;> first | rfl | (exfalso; revert h34 h44 h49 h58 hh; split <;> simp <;> omega) | (exfalso; revert h34 h44 h49 h58 hh; simp <;> omega)
