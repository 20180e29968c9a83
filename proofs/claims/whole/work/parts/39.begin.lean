/-! ===== anew, keep, back ===== -/
theorem put_in {M : Mem} {o n j : Nat} {x : Int32} (hj : j < n) (hn : n < 2 ^ 31) : putM M o n (nI j) x = upI M o j x := by
  unfold putM
  rw [if_neg, nI_clamp (by omega)]
  rintro (z | z)
  · exact nI_pos (by omega) z
  · exact nI_ge hj hn z
theorem bat1_ok : ∀ n j (M : Mem), j + n ≤ 24 → ∃ f14 f15, bat1 n j M = setO (setO M 14 f14) 15 f15 ∧ (∀ c, c < j → f14 c = M.1 14 c ∧ f15 c = M.1 15 c) ∧ ∀ c, j ≤ c → c < j + n → f14 c = (if bt (M.1 13 1) c = true then M.1 4 5 else 0) ∧ f15 c = -9 := by
  intro n
  induction n with
  | zero =>
    intro j M _
    refine ⟨M.1 14, M.1 15, ?_, fun c _ => ⟨rfl, rfl⟩, fun c h1 h2 => absurd h2 (by omega)⟩
    show M = _
    rw [setO_self, setO_self]
  | succ n ih =>
    intro j M hj
    simp only [bat1]
    rw [put_in (by omega) (by decide), put_in (by omega) (by decide)]
    obtain ⟨f14, f15, e1, e2, e3⟩ := ih (j + 1) (upI (upI M 14 j (if hasF (M.1 13 1) (nI j) = 0 then 0 else M.1 4 5)) 15 j (-9)) (by omega)
    refine ⟨f14, f15, ?_, fun c hc => ?_, fun c h1 h2 => ?_⟩
    · rw [e1]
      refine Prod.ext (funext fun a => ?_) rfl
      show (if a = 15 then f15 else if a = 14 then f14 else if a = 15 then _ else if a = 14 then _ else M.1 a) = if a = 15 then f15 else if a = 14 then f14 else M.1 a
      by_cases h3 : a = 15
      · simp [h3]
      · by_cases h2 : a = 14
        · simp [h2]
        · simp [h2, h3]
    · obtain ⟨z1, z2⟩ := e2 c (by omega)
      rw [z1, z2]
      show upd (M.1 14) j _ c = M.1 14 c ∧ upd (M.1 15) j _ c = M.1 15 c
      unfold upd
      rw [if_neg (by omega), if_neg (by omega)]
      exact ⟨rfl, rfl⟩
    · by_cases h9 : c = j
      · subst h9
        obtain ⟨z1, z2⟩ := e2 c (by omega)
        rw [z1, z2]
        show upd (M.1 14) c _ c = _ ∧ upd (M.1 15) c _ c = _
        unfold upd
        rw [if_pos rfl, if_pos rfl]
        refine ⟨?_, rfl⟩
        by_cases hb : bt (M.1 13 1) c = true
        · rw [if_neg ((has_iff1 (by omega)).mpr hb), if_pos hb]
        · rw [if_pos ((has_iff (by omega)).mpr (Bool.eq_false_iff.mpr hb)), if_neg hb]
      · exact e3 c (by omega) (by omega)
theorem bat2_ok : ∀ n j (M : Mem), j + n ≤ 4 → ∃ f16, bat2 n j M = setO M 16 f16 ∧ (∀ c, c < j → f16 c = M.1 16 c) ∧ ∀ c, j ≤ c → c < j + n → f16 c = 0 := by
  intro n
  induction n with
  | zero =>
    intro j M _
    refine ⟨M.1 16, ?_, fun c _ => rfl, fun c h1 h2 => absurd h2 (by omega)⟩
    show M = _
    rw [setO_self]
  | succ n ih =>
    intro j M hj
    simp only [bat2]
    rw [put_in (by omega) (by decide)]
    obtain ⟨f16, e1, e2, e3⟩ := ih (j + 1) (upI M 16 j 0) (by omega)
    refine ⟨f16, ?_, fun c hc => ?_, fun c h1 h2 => ?_⟩
    · rw [e1]
      refine Prod.ext (funext fun a => ?_) rfl
      show (if a = 16 then f16 else if a = 16 then _ else M.1 a) = if a = 16 then f16 else M.1 a
      by_cases h3 : a = 16
      · simp [h3]
      · simp [h3]
    · rw [e2 c (by omega)]
      show upd (M.1 16) j _ c = _
      unfold upd
      rw [if_neg (by omega)]
    · by_cases h9 : c = j
      · subst h9
        rw [e2 c (by omega)]
        show upd (M.1 16) c _ c = _
        unfold upd
        rw [if_pos rfl]
      · exact e3 c (by omega) (by omega)
theorem bat_ok (M : Mem) : ∃ f13 f14 f15 f16, batM M = setO (setO (setO (setO M 13 f13) 14 f14) 15 f15) 16 f16 ∧ f13 0 = M.1 4 3 ∧ f13 1 = M.1 4 4 ∧ (∀ c, c < 24 → f14 c = (if bt (M.1 4 4) c = true then M.1 4 5 else 0) ∧ f15 c = -9) ∧ ∀ k, k < 4 → f16 k = 0 := by
  obtain ⟨f14, f15, e1, -, e3⟩ := bat1_ok 24 0 (upI (upI M 13 0 (M.1 4 3)) 13 1 (M.1 4 4)) (by omega)
  obtain ⟨f16, g1, -, g3⟩ := bat2_ok 4 0 (bat1 24 0 (upI (upI M 13 0 (M.1 4 3)) 13 1 (M.1 4 4))) (by omega)
  refine ⟨upd (upd (M.1 13) 0 (M.1 4 3)) 1 (M.1 4 4), f14, f15, f16, ?_, rfl, rfl, fun c hc => e3 c (by omega) (by omega), fun k hk => g3 k (by omega) (by omega)⟩
  unfold batM
  rw [g1, e1]
  refine Prod.ext (funext fun a => ?_) rfl
  show (if a = 16 then f16 else if a = 15 then f15 else if a = 14 then f14 else if a = 13 then upd (upd (M.1 13) 0 (M.1 4 3)) 1 (M.1 4 4) else if a = 13 then _ else M.1 a) = (if a = 16 then f16 else if a = 15 then f15 else if a = 14 then f14 else if a = 13 then _ else M.1 a)
  by_cases h3 : a = 13
  · simp [h3]
  · simp [h3]
theorem bg0_ok : ∀ n j (f : Nat → Int32), (∀ i, j ≤ i → i < j + n → bg0 n j f i = 0) ∧ ∀ i, (i < j ∨ j + n ≤ i) → bg0 n j f i = f i := by
  intro n
  induction n with
  | zero => intro j f; exact ⟨fun i h1 h2 => absurd h2 (by omega), fun i _ => rfl⟩
  | succ n ih =>
    intro j f
    obtain ⟨h1, h2⟩ := ih (j + 1) (upd f j 0)
    refine ⟨fun i k1 k2 => ?_, fun i k => ?_⟩
    · by_cases h9 : i = j
      · subst h9
        show bg0 n (i + 1) (upd f i 0) i = 0
        rw [h2 i (by omega)]
        unfold upd
        rw [if_pos rfl]
      · exact h1 i (by omega) (by omega)
    · show bg0 n (j + 1) (upd f j 0) i = f i
      rw [h2 i (by omega)]
      unfold upd
      rw [if_neg (by omega)]
theorem bg1_ok (told : Nat → Int32) (sink : Int32) : ∀ n j (f : Nat → Int32), j + n ≤ 24 → (∀ c, j ≤ c → c < j + n → bg1 told sink n j f c = told c ∧ bg1 told sink n j f (24 + c) = (if told c = 2 then sink else 0) ∧ bg1 told sink n j f (48 + c) = -9) ∧ ∀ i, (¬ (j ≤ i ∧ i < j + n) ∧ ¬ (24 + j ≤ i ∧ i < 24 + j + n) ∧ ¬ (48 + j ≤ i ∧ i < 48 + j + n)) → bg1 told sink n j f i = f i := by
  intro n
  induction n with
  | zero => intro j f _; exact ⟨fun i h1 h2 => absurd h2 (by omega), fun i _ => rfl⟩
  | succ n ih =>
    intro j f hj
    obtain ⟨h1, h2⟩ := ih (j + 1) (upd (upd (upd f j (told j)) (24 + j) (if told j = 2 then sink else 0)) (48 + j) (-9)) (by omega)
    refine ⟨fun c k1 k2 => ?_, fun i k => ?_⟩
    · by_cases h9 : c = j
      · subst h9
        simp only [bg1]
        rw [h2 c (by omega), h2 (24 + c) (by omega), h2 (48 + c) (by omega)]
        unfold upd
        refine ⟨?_, ?_, ?_⟩
        · rw [if_neg (by omega), if_neg (by omega), if_pos rfl]
        · rw [if_neg (by omega), if_pos rfl]
        · rw [if_pos rfl]
      · exact h1 c (by omega) (by omega)
    · simp only [bg1]
      rw [h2 i (by omega)]
      unfold upd
      rw [if_neg (by omega), if_neg (by omega), if_neg (by omega)]
theorem begS_ok (M : Mem) {N : Nat} (hN : N ≤ 24) : (∀ c, c < N → begS M N c = M.1 27 c ∧ begS M N (24 + c) = (if M.1 27 c = 2 then M.1 25 11 else 0) ∧ begS M N (48 + c) = -9) ∧ ∀ k, k < 4 → begS M N (72 + k) = 0 := by
  obtain ⟨h1, h2⟩ := bg1_ok (M.1 27) (M.1 25 11) N 0 (bg0 76 0 (M.1 31)) (by omega)
  refine ⟨fun c hc => h1 c (by omega) (by omega), fun k hk => ?_⟩
  unfold begS
  rw [h2 (72 + k) (by omega)]
  exact (bg0_ok 76 0 (M.1 31)).1 _ (by omega) (by omega)
/-- all is as told -/
theorem now_begun {N sk : Nat} {bog stones sink : Int32} {to be la pa s : Nat → Int32} (hN : N ≤ 24) (hs : sink = nI sk) (hg : GroR N bog stones to) (h1 : ∀ c, c < 24 → be c = (if bt stones c = true then sink else 0) ∧ la c = -9) (h2 : ∀ k, k < 4 → pa k = 0)
    (h3 : ∀ c, c < N → s c = to c ∧ s (24 + c) = (if to c = 2 then sink else 0) ∧ s (48 + c) = -9) (h4 : ∀ k, k < 4 → s (72 + k) = 0) : NowR N sk bog stones be la pa s := by
  obtain ⟨g1, g2, g3⟩ := hg
  refine ⟨g1, g2, fun c hc => ?_, fun k hk => by rw [h2 k hk, h4 k hk]⟩
  obtain ⟨k1, k2, k3⟩ := g3 c hc
  obtain ⟨e1, e2, e3⟩ := h3 c hc
  obtain ⟨b1, b2⟩ := h1 c (by omega)
  rw [e1, e2, e3, b1, b2]
  refine ⟨k1, k2, k3, ?_, rfl, fun z => ⟨sk, by rw [if_pos z, hs], Nat.le_refl _, fun z => z⟩, fun _ => rfl⟩
  by_cases hb : bt stones c = true
  · rw [if_pos hb, if_pos (k3.mpr hb)]
  · rw [if_neg hb, if_neg (mt k3.mp hb)]
section P2
variable {g : GG} {M : Mem} {w h W sk t : Nat} {ea eb : Nat → Nat}
theorem p_anew : PairI g Rel mX6_anew mX7_anew [] := by
  intro M hM
  obtain ⟨w, h, W, sk, t, ea, eb, hr⟩ := hM
  obtain ⟨hN, hwh⟩ := rel_N hr
  obtain ⟨f13, f14, f15, f16, e1, e2, e3, e4, e5⟩ := bat_ok M
  have hwh' : (batM M).1 25 8 * (batM M).1 25 9 = nI (w * h) := by rw [e1]; exact hwh
  obtain ⟨b1, b2⟩ := begS_ok (th (batM M)) hN
  refine pair_ri sp_anew (nxt_ri (sm_anew hN hwh') ?_ ⟨w, h, W, sk, t, ea, eb, ?_⟩)
  · rw [pb_all hr, e1]
    rfl
  · generalize begS (th (batM M)) (w * h) = s' at b1 b2
    rw [e1] at b1 ⊢
    refine ⟨hr.1, hr.2.1, hr.2.2.1, hr.2.2.2.1, hr.2.2.2.2.1, hr.2.2.2.2.2.1, hr.2.2.2.2.2.2.1, hr.2.2.2.2.2.2.2.1, ?_, hr.2.2.2.2.2.2.2.2.2⟩
    show NowR (w * h) sk (f13 0) (f13 1) f14 f15 f16 s'
    rw [e2, e3]
    have hsk : M.1 25 11 = nI sk := hr.2.2.2.1.2.2.2
    refine now_begun hN rfl hr.2.2.2.2.2.2.1 (fun c hc => ?_) e5 (fun c hc => ?_) b2
    · have h4 : M.1 4 5 = nI sk := hr.2.1.2.2.2.1
      rw [← h4]
      exact e4 c hc
    · rw [← hsk]
      exact b1 c hc
theorem cpy_in {n : Nat} {f k : Nat → Int32} : ∀ c, c < n → cpyF n f k c = f c := by
  intro c hc
  unfold cpyF va_cpy
  rw [if_pos (by omega), show 0 + (c - 0) = c by omega]
theorem cpS_ok (o : Nat) (s : Nat → Int32) : ∀ n j (f : Nat → Int32), (∀ i, j ≤ i → i < j + n → cpS o s n j f (o + i) = s i) ∧ ∀ i, (i < o + j ∨ o + j + n ≤ i) → cpS o s n j f i = f i := by
  intro n
  induction n with
  | zero => intro j f; exact ⟨fun i h1 h2 => absurd h2 (by omega), fun i _ => rfl⟩
  | succ n ih =>
    intro j f
    obtain ⟨h1, h2⟩ := ih (j + 1) (upd f (o + j) (s j))
    refine ⟨fun i k1 k2 => ?_, fun i k => ?_⟩
    · by_cases h9 : i = j
      · subst h9
        simp only [cpS]
        rw [h2 (o + i) (by omega)]
        unfold upd
        rw [if_pos rfl]
      · exact h1 i (by omega) (by omega)
    · simp only [cpS]
      rw [h2 i (by omega)]
      unfold upd
      rw [if_neg (by omega)]
theorem bkS_ok (o : Nat) (im : Nat → Int32) : ∀ n j (f : Nat → Int32), (∀ i, j ≤ i → i < j + n → bkS o im n j f i = im (o + i)) ∧ ∀ i, (i < j ∨ j + n ≤ i) → bkS o im n j f i = f i := by
  intro n
  induction n with
  | zero => intro j f; exact ⟨fun i h1 h2 => absurd h2 (by omega), fun i _ => rfl⟩
  | succ n ih =>
    intro j f
    obtain ⟨h1, h2⟩ := ih (j + 1) (upd f j (im (o + j)))
    refine ⟨fun i k1 k2 => ?_, fun i k => ?_⟩
    · by_cases h9 : i = j
      · subst h9
        simp only [bkS]
        rw [h2 i (by omega)]
        unfold upd
        rw [if_pos rfl]
      · exact h1 i (by omega) (by omega)
    · simp only [bkS]
      rw [h2 i (by omega)]
      unfold upd
      rw [if_neg (by omega)]
theorem w01 (what : Int32) : (what < 0 ∨ 1 < what) ∨ what = 0 ∨ what = 1 := by
  have h0 : (0 : Int32).toInt = 0 := by decide
  have h2 : (1 : Int32).toInt = 1 := by decide
  rw [Int32.lt_iff_toInt_lt, Int32.lt_iff_toInt_lt, h0, h2]
  rcases (show (what.toInt < 0 ∨ 1 < what.toInt) ∨ what.toInt = 0 ∨ what.toInt = 1 by omega) with h | h | h
  · exact Or.inl h
  · exact Or.inr (Or.inl (Int32.toInt_inj.mp h))
  · exact Or.inr (Or.inr (Int32.toInt_inj.mp h))
theorem mma_stones {N sk : Nat} {bog stones : Int32} {be la pa s : Nat → Int32} (hN : N ≤ 24) (h : NowR N sk bog stones be la pa s) : mmaF s 2 N 0 0 = pcF stones :=
  mma_pc hN h.2.1 fun c hc => (h.2.2.1 c hc).2.2.1.symm
theorem p_keep : ∀ a : Int32, PairI g Rel mX6_keep mX7_keep [.int a] := by
  intro a M hM
  obtain ⟨w, h, W, sk, t, ea, eb, hr⟩ := hM
  obtain ⟨hN, hwh⟩ := rel_N hr
  have hn := hr.2.2.2.2.2.2.2.2.1
  obtain ⟨i0, i1⟩ := hr.2.2.2.2.2.2.2.2.2
  rcases w01 a with ha | rfl | rfl
  · exact pair_ri (sp_keep_bad ha) (nxt_ri (sm_keep_bad (in_no ha)) rfl ⟨w, h, W, sk, t, ea, eb, rel_th hr⟩)
  · obtain ⟨c1, c2⟩ := cpS_ok 0 (M.1 31) 76 0 (M.1 32)
    refine pair_ri sp_keep0 (nxt_ri (sm_keep (M := upI (ncp17_13 M) 17 5 1) (i := 0) hN hwh (by decide) (by decide)) (mma_stones hN hn) ⟨w, h, W, sk, t, ea, eb, ?_⟩)
    refine ⟨hr.1, hr.2.1, hr.2.2.1, hr.2.2.2.1, hr.2.2.2.2.1, hr.2.2.2.2.2.1, hr.2.2.2.2.2.2.1, hr.2.2.2.2.2.2.2.1, hn, ⟨rfl, fun _ => ?_⟩, ⟨i1.1, fun z => ?_⟩⟩
    · refine hn.congr hN cpy_in cpy_in cpy_in fun j hj => ?_
      have := c1 j (by omega) (by omega)
      rw [Nat.zero_add] at this
      exact this
    · refine (i1.2 z).congr hN (fun _ _ => rfl) (fun _ _ => rfl) (fun _ _ => rfl) fun j hj => ?_
      exact c2 (76 + j) (by omega)
  · obtain ⟨c1, c2⟩ := cpS_ok 76 (M.1 31) 76 0 (M.1 32)
    refine pair_ri sp_keep1 (nxt_ri (sm_keep (M := upI (ncp21_13 M) 21 5 1) (i := 1) hN hwh (by decide) (by decide)) (mma_stones hN hn) ⟨w, h, W, sk, t, ea, eb, ?_⟩)
    refine ⟨hr.1, hr.2.1, hr.2.2.1, hr.2.2.2.1, hr.2.2.2.2.1, hr.2.2.2.2.2.1, hr.2.2.2.2.2.2.1, hr.2.2.2.2.2.2.2.1, hn, ⟨i0.1, fun z => ?_⟩, ⟨rfl, fun _ => ?_⟩⟩
    · refine (i0.2 z).congr hN (fun _ _ => rfl) (fun _ _ => rfl) (fun _ _ => rfl) fun j hj => ?_
      exact c2 j (by omega)
    · refine hn.congr hN cpy_in cpy_in cpy_in fun j hj => ?_
      exact c1 j (by omega) (by omega)
theorem p_back : ∀ a : Int32, PairI g Rel mX6_back mX7_back [.int a] := by
  intro a M hM
  obtain ⟨w, h, W, sk, t, ea, eb, hr⟩ := hM
  obtain ⟨hN, hwh⟩ := rel_N hr
  have hn := hr.2.2.2.2.2.2.2.2.1
  obtain ⟨i0, i1⟩ := hr.2.2.2.2.2.2.2.2.2
  rcases w01 a with ha | rfl | rfl
  · exact pair_ri (sp_back_bad ha) (nxt_ri (sm_back_bad (in_no ha)) rfl ⟨w, h, W, sk, t, ea, eb, rel_th hr⟩)
  · refine pair_ri sp_back0 ?_
    unfold back0V back0M
    by_cases hk : M.1 33 0 = 0
    · rw [if_pos (i0.1.trans hk), if_pos (i0.1.trans hk)]
      exact nxt_ri (sm_back_none (i := 0) (by decide) (by decide) hk) rfl ⟨w, h, W, sk, t, ea, eb, rel_th hr⟩
    · rw [if_neg (fun z => hk (i0.1.symm.trans z)), if_neg (fun z => hk (i0.1.symm.trans z))]
      have hi := i0.2 hk
      obtain ⟨c1, c2⟩ := bkS_ok (76 * 0) (M.1 32) 76 0 (M.1 31)
      have hj : NowR (w * h) sk (M.1 17 0) (M.1 17 1) (cpyF 24 (M.1 18) (M.1 14)) (cpyF 24 (M.1 19) (M.1 15)) (cpyF 4 (M.1 20) (M.1 16)) (bkS (76 * 0) (M.1 32) 76 0 (M.1 31)) := by
        refine hi.congr hN cpy_in cpy_in cpy_in fun j hj => ?_
        rw [c1 j (by omega) (by omega), Nat.mul_zero, Nat.zero_add]
      refine nxt_ri (sm_back (M := ncp13_17 M) (i := 0) hN hwh (by decide) (by decide) hk) (mma_stones hN hj) ⟨w, h, W, sk, t, ea, eb, ?_⟩
      exact ⟨hr.1, hr.2.1, hr.2.2.1, hr.2.2.2.1, hr.2.2.2.2.1, hr.2.2.2.2.2.1, hr.2.2.2.2.2.2.1, hr.2.2.2.2.2.2.2.1, hj, i0, i1⟩
  · refine pair_ri sp_back1 ?_
    unfold back1V back1M
    by_cases hk : M.1 33 1 = 0
    · rw [if_pos (i1.1.trans hk), if_pos (i1.1.trans hk)]
      exact nxt_ri (sm_back_none (i := 1) (by decide) (by decide) hk) rfl ⟨w, h, W, sk, t, ea, eb, rel_th hr⟩
    · rw [if_neg (fun z => hk (i1.1.symm.trans z)), if_neg (fun z => hk (i1.1.symm.trans z))]
      have hi := i1.2 hk
      obtain ⟨c1, c2⟩ := bkS_ok (76 * 1) (M.1 32) 76 0 (M.1 31)
      have hj : NowR (w * h) sk (M.1 21 0) (M.1 21 1) (cpyF 24 (M.1 22) (M.1 14)) (cpyF 24 (M.1 23) (M.1 15)) (cpyF 4 (M.1 24) (M.1 16)) (bkS (76 * 1) (M.1 32) 76 0 (M.1 31)) := by
        refine hi.congr hN cpy_in cpy_in cpy_in fun j hj => ?_
        rw [c1 j (by omega) (by omega)]
      refine nxt_ri (sm_back (M := ncp13_21 M) (i := 1) hN hwh (by decide) (by decide) hk) (mma_stones hN hj) ⟨w, h, W, sk, t, ea, eb, ?_⟩
      exact ⟨hr.1, hr.2.1, hr.2.2.1, hr.2.2.2.1, hr.2.2.2.2.1, hr.2.2.2.2.2.1, hr.2.2.2.2.2.2.1, hr.2.2.2.2.2.2.2.1, hj, i0, i1⟩
end P2
