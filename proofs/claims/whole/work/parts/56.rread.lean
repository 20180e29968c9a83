/-! ===== the class reads items ===== -/
def FrC (M m : Mem) : Prop := m.2 = M.2 ∧ ∀ a, ¬ a = 1 → ¬ a = 7 → ¬ a = 8 → ¬ a = 9 → m.1 a = M.1 a
theorem FrC.refl (M : Mem) : FrC M M := ⟨rfl, fun _ _ _ _ _ => rfl⟩
theorem FrC.trans {M m n : Mem} (h : FrC M m) (k : FrC m n) : FrC M n := ⟨k.1.trans h.1, fun a h1 h2 h3 h4 => (k.2 a h1 h2 h3 h4).trans (h.2 a h1 h2 h3 h4)⟩
theorem FrC.set {M m : Mem} (h : FrC M m) (f : Nat → Int32) : FrC M (setO m 1 f) := h.trans ⟨rfl, fun _ h1 _ _ _ => if_neg h1⟩
theorem ite01 {P : Prop} {_ : Decidable P} : (if P then (1 : Int32) else 0) = 0 ↔ ¬ P := by
  by_cases h : P
  · rw [if_pos h]; exact ⟨fun z => absurd z (by decide), fun z => absurd h z⟩
  · rw [if_neg h]; exact ⟨fun _ => h, fun _ => rfl⟩
def DcN (M : Mem) (w h N : Nat) (G : Nat → Int32) (s : Nat) (tt : Bool) (k : Nat) (a b : Nat → Nat) : Prop := M.1 7 0 = nI w ∧ M.1 7 1 = nI h ∧ M.1 7 2 = nI N ∧ GroR N (M.1 7 3) (M.1 7 4) G ∧ M.1 7 5 = nI s ∧ M.1 7 6 = (if tt = true then 1 else 0) ∧ M.1 7 7 = nI k ∧ ∀ j, j < k → M.1 8 j = nI (a j) ∧ M.1 9 j = nI (b j)
def DC (M : Mem) (D : TolD) : Prop := DcN M (q_w D) (q_h D) (q_w D * q_h D) (q_g D) (q_s D) (q_t D) (q_k D) (q_a D) (q_b D)
def OuR (m : Mem) (x : Int32) : RzS → Prop
  | .inl f => x = 0 ∧ m.1 1 1 = nI f
  | .inr q => x = 1 ∧ DC m q.1 ∧ m.1 1 2 = nI q.2
theorem ou_0 {m : Mem} {x : Int32} {r : RzS} (h : OuR m x r) (hx : x = 0) : ∃ f, r = .inl f ∧ m.1 1 1 = nI f := by
  match r, h with
  | .inl f, h => exact ⟨f, rfl, h.2⟩
  | .inr q, h => exact absurd (h.1.symm.trans hx) (by decide)
theorem ou_1 {m : Mem} {x : Int32} {r : RzS} (h : OuR m x r) (hx : ¬ x = 0) : ∃ q, r = .inr q ∧ DC m q.1 ∧ m.1 1 2 = nI q.2 := by
  match r, h with
  | .inl f, h => exact absurd h.1 hx
  | .inr q, h => exact ⟨q, rfl, h.2⟩
theorem gro_0 {N : Nat} {bog st : Int32} {G : Nat → Int32} (h : GroR N bog st G) (hg : G N = 0) : GroR (N + 1) bog st G := by
  obtain ⟨h1, h2, h3⟩ := h
  refine ⟨h1.mono (by omega), h2.mono (by omega), fun c hc => ?_⟩
  by_cases h9 : c = N
  · rw [h9, hg, h1 N (Nat.le_refl N), h2 N (Nat.le_refl N)]
    exact ⟨Or.inl rfl, ⟨fun z => absurd z (by decide), fun z => absurd z (by decide)⟩, ⟨fun z => absurd z (by decide), fun z => absurd z (by decide)⟩⟩
  · exact h3 c (by omega)
theorem one_ne {N c : Nat} (hN : N < 24) (hc : c < N + 1) (h9 : ¬ c = N) (x : Int32) : bt (x ||| shl 1 (nI N)) c = bt x c := by
  rw [b_or, b_one (by omega) (by omega), decide_eq_false h9, Bool.or_false]
theorem one_eq {N : Nat} (hN : N < 24) (x : Int32) : bt (x ||| shl 1 (nI N)) N = true := by
  rw [b_or, b_one (by omega) (by omega), decide_eq_true rfl, Bool.or_true]
theorem gro_1 {N : Nat} {bog st : Int32} {G : Nat → Int32} (hN : N < 24) (h : GroR N bog st G) (hg : G N = 1) : GroR (N + 1) (bog ||| shl 1 (nI N)) st G := by
  obtain ⟨h1, h2, h3⟩ := h
  refine ⟨(h1.mono (by omega)).or (Sm.one (by omega) (by omega)), h2.mono (by omega), fun c hc => ?_⟩
  by_cases h9 : c = N
  · rw [h9, hg, one_eq hN, h2 N (Nat.le_refl N)]
    exact ⟨Or.inr (Or.inl rfl), ⟨fun _ => rfl, fun _ => rfl⟩, ⟨fun z => absurd z (by decide), fun z => absurd z (by decide)⟩⟩
  · rw [one_ne hN hc h9]; exact h3 c (by omega)
theorem gro_2 {N : Nat} {bog st : Int32} {G : Nat → Int32} (hN : N < 24) (h : GroR N bog st G) (hg : G N = 2) : GroR (N + 1) bog (st ||| shl 1 (nI N)) G := by
  obtain ⟨h1, h2, h3⟩ := h
  refine ⟨h1.mono (by omega), (h2.mono (by omega)).or (Sm.one (by omega) (by omega)), fun c hc => ?_⟩
  by_cases h9 : c = N
  · rw [h9, hg, one_eq hN, h1 N (Nat.le_refl N)]
    exact ⟨Or.inr (Or.inr rfl), ⟨fun z => absurd z (by decide), fun z => absurd z (by decide)⟩, ⟨fun _ => rfl, fun _ => rfl⟩⟩
  · rw [one_ne hN hc h9]; exact h3 c (by omega)
theorem gro_eq {N : Nat} {bog st : Int32} {G G' : Nat → Int32} (h : GroR N bog st G) (e : ∀ c, c < N → G' c = G c) : GroR N bog st G' := ⟨h.1, h.2.1, fun c hc => by rw [e c hc]; exact h.2.2 c hc⟩
theorem cb_iff {x : Int32} : cellBad x ↔ ¬ lok x = true := by
  unfold cellBad lok
  rw [decide_eq_true_iff, not_or, not_or]
theorem ac_ok {M : Mem} {w h N : Nat} {G : Nat → Int32} {s : Nat} {tt : Bool} {k : Nat} {a b : Nat → Nat} {x : Int32} (hN : N < 24) (hC : DcN M w h N G s tt k a b) (hx : lok x = true) (hg : G N = lcd x) : DcN (acM M x) w h (N + 1) G s tt k a b ∧ FrC M (acM M x) ∧ (acM M x).1 1 = M.1 1 := by
  obtain ⟨c1, c2, c3, c4, c5, c6, c7, c8⟩ := hC
  unfold lok at hx
  rw [decide_eq_true_iff] at hx
  rcases hx with rfl | rfl | rfl
  · have e : acM M 104 = upI M 7 2 (nI (N + 1)) := by
      unfold acM acS acB
      rw [if_neg (show ¬ (104 : Int32) = 98 by decide), if_neg (show ¬ (104 : Int32) = 115 by decide), c3, nI_1]
    rw [e]
    exact ⟨⟨c1, c2, rfl, gro_0 c4 hg, c5, c6, c7, c8⟩, ⟨rfl, fun a _ h7 _ _ => if_neg h7⟩, rfl⟩
  · have e : acM M 98 = upI (upI M 7 3 (M.1 7 3 ||| shl 1 (nI N))) 7 2 (nI (N + 1)) := by
      unfold acM acS acB
      rw [if_pos (show (98 : Int32) = 98 by decide), if_neg (show ¬ (98 : Int32) = 115 by decide), c3]
      show upI (upI M 7 3 (M.1 7 3 ||| shl 1 (nI N))) 7 2 (M.1 7 2 + 1) = _
      rw [c3, nI_1]
    rw [e]
    exact ⟨⟨c1, c2, rfl, gro_1 hN c4 hg, c5, c6, c7, c8⟩, ⟨rfl, fun a _ h7 _ _ => (if_neg h7).trans (if_neg h7)⟩, rfl⟩
  · have e : acM M 115 = upI (upI M 7 4 (M.1 7 4 ||| shl 1 (nI N))) 7 2 (nI (N + 1)) := by
      unfold acM acS acB
      rw [if_neg (show ¬ (115 : Int32) = 98 by decide), if_pos (show (115 : Int32) = 115 by decide), c3]
      show upI (upI M 7 4 (M.1 7 4 ||| shl 1 (nI N))) 7 2 (M.1 7 2 + 1) = _
      rw [c3, nI_1]
    rw [e]
    exact ⟨⟨c1, c2, rfl, gro_2 hN c4 hg, c5, c6, c7, c8⟩, ⟨rfl, fun a _ h7 _ _ => (if_neg h7).trans (if_neg h7)⟩, rfl⟩
section RR
variable {g : GG} {M : Mem} {t p : Nat} {tb : Nat → Int32} {D : TolD} {s0 e0 : Nat}
theorem frC_T {m : Mem} (h : FrC M m) (hT : TXC M t tb) : TXC m t tb := by
  obtain ⟨h1, h2, h3⟩ := hT
  refine ⟨h1, ?_, fun i hi => ?_⟩
  · rw [h.2 2 (by decide) (by decide) (by decide) (by decide)]; exact h2
  · rw [h.2 3 (by decide) (by decide) (by decide) (by decide)]; exact h3 i hi
theorem dok_h (hD : DOK D) : q_h D ≤ 4 ∧ q_w D ≤ 6 ∧ q_w D * q_h D ≤ 24 ∧ q_k D ≤ 4 := by
  have h := hD.1.le
  exact ⟨h.2.2, h.2.1, h.1, hD.2.1⟩
theorem takes_iff (hD : DOK D) (hC : DC M D) : takesF M = 0 ↔ ¬ (q_h D < 4 ∧ q_k D = 0) := by
  obtain ⟨d1, d2, d3, d4⟩ := dok_h hD
  have e1 : M.1 7 1 = nI (q_h D) := hC.2.1
  have e2 : M.1 7 7 = nI (q_k D) := hC.2.2.2.2.2.2.1
  unfold takesF
  rw [e1, e2]
  by_cases z : q_h D < 4 ∧ q_k D = 0
  · rw [if_neg (show ¬ ((4 : Int32) ≤ nI (q_h D) ∨ ¬ nI (q_k D) = 0) from not_or.mpr ⟨nI_ge (b := 4) z.1 (by decide), fun y => y (by rw [z.2]; rfl)⟩)]
    exact ⟨fun y => absurd y (by decide), fun y => absurd z y⟩
  · rw [if_pos (show (4 : Int32) ≤ nI (q_h D) ∨ ¬ nI (q_k D) = 0 from by
      by_cases y : q_h D < 4
      · exact Or.inr (nI_ne0 (by omega) (by omega))
      · exact Or.inl (nI_le (a := 4) (by omega) (by omega)))]
    exact ⟨fun _ => z, fun _ => rfl⟩
theorem rowBad_iff (hD : DOK D) (hC : DC M D) {l : Nat} (hl : l ≤ 300) : rowBad M (nI l) ↔ ¬ rowL D l := by
  obtain ⟨d1, d2, d3, d4⟩ := dok_h hD
  have e1 : M.1 7 1 = nI (q_h D) := hC.2.1
  have e2 : M.1 7 0 = nI (q_w D) := hC.1
  have e3 : nI (q_h D) = 0 ↔ q_h D = 0 := ⟨fun z => nN_inj (b := 0) (by omega) (by decide) z, fun z => by rw [z]; rfl⟩
  have e4 : nI l ≤ 6 ↔ l ≤ 6 := nI_leI (b := 6) (by omega) (by decide)
  have e5 : nI l = nI (q_w D) ↔ l = q_w D := nI_eq (by omega) (by omega)
  unfold rowBad rowL
  rw [e1, e2, e3, e4, e5]
  by_cases z : q_h D = 0
  · simp [z]
  · simp [z]
theorem num_to {v3 v4 : Int32} {b : Nat} (h3 : v3 = csF t tb p) (h4 : nuK t tb p → v4 = nI (nuN t tb p)) (hp : p ≤ t) (hb : b ≤ 24) : (if v3 = 2 ∧ v4 ≤ nI b - 1 then (1 : Int32) else 0) = if nuB t tb b p then 1 else 0 := by
  by_cases hk : nuK t tb p
  · have h5 := nu_le hp hk
    have e : (v4 ≤ nI b - 1) ↔ nuN t tb p < b := by
      rw [h4 hk, Int32.le_iff_toInt_le, ti_sub1 (by omega), nI_toInt (by omega)]
      omega
    by_cases h6 : nuN t tb p < b
    · rw [if_pos ⟨h3.trans (cs_2.mpr hk), e.mpr h6⟩, if_pos ⟨hk, h6⟩]
    · rw [if_neg (fun z => h6 (e.mp z.2)), if_neg (fun z => h6 z.2)]
  · rw [if_neg (fun z => hk (cs_2.mp (h3.symm.trans z.1))), if_neg (fun z => hk z.1)]

theorem lp_readRow {s e b w h : Nat} {G : Nat → Int32} {sk_ : Nat} {tt : Bool} {k : Nat} {a bb : Nat → Nat} {M0 : Mem} (hse : s ≤ e) (het : e ≤ t) (hb : b + (e - s) ≤ 24) (hG : ∀ j, j < e - s → G (b + j) = lcd (tb (s + j))) : ∀ (n j : Nat), j + n = e - s → ∀ (M : Mem), FrC M0 M → TXC M t tb → M.1 1 1 = nI s → M.1 1 2 = nI e → (∀ i, i < j → lok (tb (s + i)) = true) → DcN M w h (b + j) G sk_ tt k a bb → wp g mX2_readRow 44 [some (ob g 1), some (ob g 7), some (.int (nI (s + j)))] [] M (fun q m => ∃ x : Int32, q = some (.int x) ∧ FrC M0 m ∧ ((x = 0 ∧ (¬ ∀ i, i < e - s → lok (tb (s + i)) = true) ∧ m.1 1 1 = nI s) ∨ (x = 1 ∧ (∀ i, i < e - s → lok (tb (s + i)) = true) ∧ m.1 1 2 = nI e ∧ DcN m w h (b + (e - s)) G sk_ tt k a bb))) := by
  intro n
  induction n with
  | zero =>
    intro j hj M hF hT h11 h12 hA hC
    have h3 := hT.1
    refine wp_iload_n (pc' := 45) dX2_readRow_44 rfl rfl ?_
    refine wp_aload_n (pc' := 46) dX2_readRow_45 rfl rfl ⟨_, rfl⟩ ?_
    refine wp_get (pc' := 49) (o := 1) dX2_readRow_46 rfl flX2_23 (by decide) rfl rfl ?_
    refine wp_top ((show M.1 1 2 = nI e from h12)) ?_
    refine wp_icmp_ge (pc' := 52) 75 dX2_readRow_49 rfl (by decide) (fun h49 => ?_) (fun h49 => ?_)
    · refine wp_iconst (pc' := 76) 1 dX2_readRow_75 rfl (by decide) ?_
      refine wp_iretz dX2_readRow_76 rfl rfl ?_
      have hj2 : j = e - s := by omega
      subst hj2
      exact ⟨_, rfl, hF, Or.inr ⟨rfl, hA, h12, hC⟩⟩
    · exact absurd (nI_le (a := e) (b := s + j) (by omega) (by omega)) h49
  | succ n ih =>
    intro j hj M hF hT h11 h12 hA hC
    have h3 := hT.1
    refine wp_iload_n (pc' := 45) dX2_readRow_44 rfl rfl ?_
    refine wp_aload_n (pc' := 46) dX2_readRow_45 rfl rfl ⟨_, rfl⟩ ?_
    refine wp_get (pc' := 49) (o := 1) dX2_readRow_46 rfl flX2_23 (by decide) rfl rfl ?_
    refine wp_top ((show M.1 1 2 = nI e from h12)) ?_
    refine wp_icmp_ge (pc' := 52) 75 dX2_readRow_49 rfl (by decide) (fun h49 => ?_) (fun h49 => ?_)
    · refine wp_iconst (pc' := 76) 1 dX2_readRow_75 rfl (by decide) ?_
      refine wp_iretz dX2_readRow_76 rfl rfl ?_
      exact absurd h49 (nI_ge (by omega) (by omega))
    · refine wp_aload_n (pc' := 53) dX2_readRow_52 rfl rfl ⟨_, rfl⟩ ?_
      refine wp_aload_n (pc' := 54) dX2_readRow_53 rfl rfl ⟨_, rfl⟩ ?_
      refine wp_get (pc' := 57) (o := 1) dX2_readRow_54 rfl flX2_12 (by decide) rfl rfl ?_
      refine wp_iload_n (pc' := 58) dX2_readRow_57 rfl rfl ?_
      refine wp_cVI (μ' := mX3_byteAt) (pc' := 61) (o := 2) dX2_readRow_58 rfl mlX2_67 cfX3_byteAt ⟨(Nat.le_of_ble_eq_true rfl), (Nat.le_of_ble_eq_true rfl)⟩ (sp_byteAt) (by decide) rfl rfl rfl rfl rfl (Nat.le_of_ble_eq_true rfl) ?_
      refine wp_top ((show byF M (nI (s + j)) = tb (s + j) by rw [byF_N hT (by omega), byN, if_pos (by omega)])) ?_
      refine wp_sVI (μ' := mX4_addCell) (pc' := 64) (o := 7) dX2_readRow_61 rfl mlX2_71 cfX4_addCell ⟨(Nat.le_of_ble_eq_true rfl), (Nat.le_of_ble_eq_true rfl)⟩ (sp_addCell) (by decide) rfl rfl rfl rfl rfl (Nat.le_of_ble_eq_true rfl) (fun x m hm => ?_)
      refine wp_if_ne (pc' := 67) 69 dX2_readRow_64 rfl (by decide) (fun h64 => ?_) (fun h64 => ?_)
      · refine wp_inc2 (pc' := 72) (nI (s + (j + 1))) dX2_readRow_69 rfl (by decide) rfl (nI_1 (s + j)) ?_
        refine wp_goto 44 dX2_readRow_72 (by decide) ?_
        obtain ⟨hx, -, -⟩ | ⟨-, hb2, rfl⟩ := hm
        · exact absurd hx h64
        have hl : lok (tb (s + j)) = true := Classical.not_not.mp (mt cb_iff.mpr hb2)
        obtain ⟨a1, a2, a3⟩ := ac_ok (by omega) hC hl (hG j (by omega))
        refine ih (j + 1) (by omega) _ (hF.trans a2) (frC_T a2 hT) (by rw [a3]; exact h11) (by rw [a3]; exact h12) (fun i hi => ?_) a1
        by_cases h9 : i = j
        · rw [h9]; exact hl
        · exact hA i (by omega)
      · refine wp_iconst (pc' := 68) 0 dX2_readRow_67 rfl (by decide) ?_
        refine wp_iretz dX2_readRow_68 rfl rfl ?_
        obtain ⟨hx, hb2, rfl⟩ | ⟨rfl, -, -⟩ := hm
        · subst hx
          exact ⟨_, rfl, hF, Or.inl ⟨rfl, fun z => cb_iff.mp hb2 (z j (by omega)), h11⟩⟩
        · exact absurd h64 (by decide)
theorem sp_readRow (hT : TXC M t tb) (hD : DOK D) (hC : DC M D) (h1 : M.1 1 1 = nI s0) (h2 : M.1 1 2 = nI e0) (he : e0 ≤ t) : SI g mX2_readRow [ob g 1, ob g 7] M (fun x m => FrC M m ∧ OuR m x (rowF t tb D s0 e0)) := by
  have h3 := hT.1
  obtain ⟨d1, d2, d3, d4⟩ := dok_h hD
  obtain ⟨k1, k2⟩ := tk_S (tb := tb) he
  obtain ⟨k3, k4, k5⟩ := tk_E (tb := tb) he
  refine spec_of_wp (ls := [some (ob g 1), some (ob g 7), none]) rfl (Nat.le_of_ble_eq_true rfl) 1 rfl ?_
  refine wp_aload_n (pc' := 1) dX2_readRow_0 rfl rfl ⟨_, rfl⟩ ?_
  refine wp_cVI (μ' := mX4_takesRow) (pc' := 4) (o := 7) dX2_readRow_1 rfl mlX2_59 cfX4_takesRow ⟨(Nat.le_of_ble_eq_true rfl), (Nat.le_of_ble_eq_true rfl)⟩ (sp_takesRow) (by decide) rfl rfl rfl rfl rfl (Nat.le_of_ble_eq_true rfl) ?_
  refine wp_if_ne (pc' := 7) 9 dX2_readRow_4 rfl (by decide) (fun h4 => ?_) (fun h4 => ?_)
  · have hh : q_h D < 4 ∧ q_k D = 0 := Classical.not_not.mp (mt (takes_iff hD hC).mpr h4)
    refine wp_aload_n (pc' := 10) dX2_readRow_9 rfl rfl ⟨_, rfl⟩ ?_
    refine wp_sVV (μ' := mX2_toNextToken) (pc' := 13) (o := 1) dX2_readRow_10 rfl mlX2_27 cfX2_toNextToken ⟨(Nat.le_of_ble_eq_true rfl), (Nat.le_of_ble_eq_true rfl)⟩ (sp_token hT he h2) (by decide) rfl rfl rfl rfl rfl (Nat.le_of_ble_eq_true rfl) (fun m hm => ?_)
    obtain ⟨f, rfl, f1, f2, f3, f4⟩ := hm
    refine wp_aload_n (pc' := 14) dX2_readRow_13 rfl rfl ⟨_, rfl⟩ ?_
    refine wp_get (pc' := 17) (o := 1) dX2_readRow_14 rfl flX2_30 (by decide) rfl rfl ?_
    refine wp_top ((show (setO M 1 f).1 1 3 = csF t tb e0 from f3)) ?_
    refine wp_iconst (pc' := 18) 1 dX2_readRow_17 rfl (by decide) ?_
    refine wp_icmp_ne (pc' := 21) 37 dX2_readRow_18 rfl (by decide) (fun h18 => ?_) (fun h18 => ?_)
    · refine wp_iconst (pc' := 38) 0 dX2_readRow_37 rfl (by decide) ?_
      refine wp_iretz dX2_readRow_38 rfl rfl ?_
      exact ⟨_, rfl, (FrC.refl M).set f, (by rw [rowF, if_neg (fun z => z hh), if_neg (fun z => h18 ((cs_ne (by decide) (by decide)).mpr z.1))]; exact ⟨rfl, f1⟩)⟩
    · refine wp_aload_n (pc' := 22) dX2_readRow_21 rfl rfl ⟨_, rfl⟩ ?_
      refine wp_aload_n (pc' := 23) dX2_readRow_22 rfl rfl ⟨_, rfl⟩ ?_
      refine wp_get (pc' := 26) (o := 1) dX2_readRow_23 rfl flX2_23 (by decide) rfl rfl ?_
      refine wp_aload_n (pc' := 27) dX2_readRow_26 rfl rfl ⟨_, rfl⟩ ?_
      refine wp_get (pc' := 30) (o := 1) dX2_readRow_27 rfl flX2_37 (by decide) rfl rfl ?_
      refine wp_isub (pc' := 31) dX2_readRow_30 rfl ?_
      refine wp_top ((show (setO M 1 f).1 1 2 - (setO M 1 f).1 1 1 = nI (tkE t tb e0 - tkS t tb e0) by rw [show (setO M 1 f).1 1 2 = nI (tkE t tb e0) from f2, show (setO M 1 f).1 1 1 = nI (tkS t tb e0) from f1, pk_sub k3])) ?_
      refine wp_sVI (μ' := mX4_beginRow) (pc' := 34) (o := 7) dX2_readRow_31 rfl mlX2_63 cfX4_beginRow ⟨(Nat.le_of_ble_eq_true rfl), (Nat.le_of_ble_eq_true rfl)⟩ (sp_beginRow) (by decide) rfl rfl rfl rfl rfl (Nat.le_of_ble_eq_true rfl) (fun x m hm => ?_)
      refine wp_if_ne (pc' := 37) 39 dX2_readRow_34 rfl (by decide) (fun h34 => ?_) (fun h34 => ?_)
      · obtain ⟨hx, -, -⟩ | ⟨-, hb2, rfl⟩ := hm
        · exact absurd hx h34
        refine wp_aload_n (pc' := 40) dX2_readRow_39 rfl rfl ⟨_, rfl⟩ ?_
        refine wp_get (pc' := 43) (o := 1) dX2_readRow_40 rfl flX2_37 (by decide) rfl rfl ?_
        refine wp_top ((show (browM (setO M 1 f) (nI (tkE t tb e0 - tkS t tb e0))).1 1 1 = nI (tkS t tb e0 + 0) from f1)) ?_
        refine wp_ist2 (pc' := 44) dX2_readRow_43 rfl (by decide) rfl ?_
        have ho : tkO t tb e0 = 1 := (cs_ne (by decide) (by decide)).mp h18
        have hl : rowL D (tkE t tb e0 - tkS t tb e0) := Classical.not_not.mp (mt (rowBad_iff (M := setO M 1 f) hD hC (by omega)).mpr hb2)
        have hlt := k5 (fun z => absurd (ho.symm.trans z) (by decide))
        have hN := row_N hD hl
        have hsh := (row_shp hD hh.1 (show 0 < tkE t tb e0 - tkS t tb e0 by omega) hl).le
        have hF : FrC M (browM (setO M 1 f) (nI (tkE t tb e0 - tkS t tb e0))) := ⟨rfl, fun a e1 e7 _ _ => ((if_neg e7).trans (if_neg e7)).trans (if_neg e1)⟩
        refine wp_mono (lp_readRow (M0 := M) (s := tkS t tb e0) (e := tkE t tb e0) (b := q_w D * q_h D) (w := tkE t tb e0 - tkS t tb e0) (h := q_h D + 1) (G := rowG tb D (tkS t tb e0)) (sk_ := q_s D) (tt := q_t D) (k := q_k D) (a := q_a D) (bb := q_b D) k3 k4 (by omega) (fun j _ => ?_) (tkE t tb e0 - tkS t tb e0) 0 (Nat.zero_add _) _ hF (frC_T hF hT) f1 f2 (fun i hi => absurd hi (Nat.not_lt_zero i)) ?_) (fun r m hx => ?_)
        · show (if q_w D * q_h D ≤ q_w D * q_h D + j then lcd (tb (tkS t tb e0 + (q_w D * q_h D + j - q_w D * q_h D))) else _) = _
          rw [if_pos (Nat.le_add_right _ _), Nat.add_sub_cancel_left]
        · obtain ⟨c1, c2, c3, c4, c5, c6, c7, c8⟩ := hC
          have c2' : (setO M 1 f).1 7 1 = nI (q_h D) := c2
          exact ⟨rfl, (by show (setO M 1 f).1 7 1 + 1 = _; rw [c2', nI_1]), c3, gro_eq c4 (fun c hc => if_neg (by omega)), c5, c6, c7, c8⟩
        · obtain ⟨x, rfl, hF2, hx⟩ := hx
          refine ⟨x, rfl, hF2, ?_⟩
          rw [rowF, if_neg (fun z => z hh)]
          rcases hx with ⟨rfl, y1, y2⟩ | ⟨rfl, y1, y2, y3⟩
          · rw [if_neg (fun z => y1 z.2.2)]; exact ⟨rfl, y2⟩
          · rw [if_pos ⟨ho, hl, y1⟩]
            refine ⟨rfl, ?_, y2⟩
            rw [hN] at y3
            exact y3
      · refine wp_iconst (pc' := 38) 0 dX2_readRow_37 rfl (by decide) ?_
        refine wp_iretz dX2_readRow_38 rfl rfl ?_
        obtain ⟨-, hb2, rfl⟩ | ⟨rfl, -, -⟩ := hm
        · exact ⟨_, rfl, (FrC.refl M).set f, (by rw [rowF, if_neg (fun z => z hh), if_neg (fun z => (rowBad_iff (M := setO M 1 f) hD hC (by omega)).mp hb2 z.2.1)]; exact ⟨rfl, f1⟩)⟩
        · exact absurd h34 (by decide)
  · refine wp_iconst (pc' := 8) 0 dX2_readRow_7 rfl (by decide) ?_
    refine wp_iretz dX2_readRow_8 rfl rfl ?_
    exact ⟨_, rfl, FrC.refl _, (by rw [rowF, if_pos ((takes_iff hD hC).mp h4)]; exact ⟨rfl, h1⟩)⟩
theorem aw_ok (hC : DC M D) (hk : q_k D < 4) (x y : Nat) : DC (awM M (nI x) (nI y)) (walD D x y) ∧ FrC M (awM M (nI x) (nI y)) ∧ (awM M (nI x) (nI y)).1 1 = M.1 1 := by
  obtain ⟨c1, c2, c3, c4, c5, c6, c7, c8⟩ := hC
  have e : awM M (nI x) (nI y) = upI (upI (upI M 8 (q_k D) (nI x)) 9 (q_k D) (nI y)) 7 7 (nI (q_k D + 1)) := by
    unfold awM
    rw [c7, put_in (n := 4) hk (by decide), put_in (n := 4) hk (by decide), nI_1]
  rw [e]
  refine ⟨⟨c1, c2, c3, c4, c5, c6, rfl, fun j hj => ?_⟩, ⟨rfl, fun a _ h7 h8 h9 => ((if_neg h7).trans (if_neg h9)).trans (if_neg h8)⟩, rfl⟩
  have hj2 : j < q_k D + 1 := hj
  show (if j = q_k D then nI x else M.1 8 j) = nI (if j = q_k D then x else q_a D j) ∧ (if j = q_k D then nI y else M.1 9 j) = nI (if j = q_k D then y else q_b D j)
  by_cases h9 : j = q_k D
  · rw [if_pos h9, if_pos h9, if_pos h9, if_pos h9]; exact ⟨rfl, rfl⟩
  · rw [if_neg h9, if_neg h9, if_neg h9, if_neg h9]; exact c8 j (by omega)
theorem sp_readWalker (hT : TXC M t tb) (hD : DOK D) (hC : DC M D) (h1 : M.1 1 1 = nI s0) (h2 : M.1 1 2 = nI e0) (he : e0 ≤ t) : SI g mX2_readWalker [ob g 1, ob g 7] M (fun x m => FrC M m ∧ OuR m x (walF t tb D s0 e0)) := by
  have h3 := hT.1
  obtain ⟨d1, d2, d3, d4⟩ := dok_h hD
  obtain ⟨k1, k2⟩ := tk_S (tb := tb) he
  obtain ⟨k3, k4, k5⟩ := tk_E (tb := tb) he
  refine spec_of_wp (ls := [some (ob g 1), some (ob g 7), none]) rfl (Nat.le_of_ble_eq_true rfl) 1 rfl ?_
  refine wp_aload_n (pc' := 1) dX2_readWalker_0 rfl rfl ⟨_, rfl⟩ ?_
  refine wp_get (pc' := 4) (o := 7) dX2_readWalker_1 rfl flX2_74 (by decide) rfl rfl ?_
  refine wp_top ((show M.1 7 7 = nI (q_k D) from hC.2.2.2.2.2.2.1)) ?_
  refine wp_iconst (pc' := 5) 4 dX2_readWalker_4 rfl (by decide) ?_
  refine wp_icmp_lt (pc' := 8) 10 dX2_readWalker_5 rfl (by decide) (fun h5 => ?_) (fun h5 => ?_)
  · have hk4 : q_k D < 4 := (nI_ltI (b := 4) (by omega) (by decide)).mp h5
    refine wp_aload_n (pc' := 11) dX2_readWalker_10 rfl rfl ⟨_, rfl⟩ ?_
    refine wp_sVV (μ' := mX2_toNextToken) (pc' := 14) (o := 1) dX2_readWalker_11 rfl mlX2_27 cfX2_toNextToken ⟨(Nat.le_of_ble_eq_true rfl), (Nat.le_of_ble_eq_true rfl)⟩ (sp_token hT he h2) (by decide) rfl rfl rfl rfl rfl (Nat.le_of_ble_eq_true rfl) (fun m hm => ?_)
    obtain ⟨f, rfl, f1, f2, f3, f4⟩ := hm
    refine wp_aload_n (pc' := 15) dX2_readWalker_14 rfl rfl ⟨_, rfl⟩ ?_
    refine wp_aload_n (pc' := 16) dX2_readWalker_15 rfl rfl ⟨_, rfl⟩ ?_
    refine wp_get (pc' := 19) (o := 7) dX2_readWalker_16 rfl flX2_77 (by decide) rfl rfl ?_
    refine wp_top ((show (setO M 1 f).1 7 2 = nI (q_w D * q_h D) from hC.2.2.1)) ?_
    refine wp_iconst (pc' := 20) 1 dX2_readWalker_19 rfl (by decide) ?_
    refine wp_isub (pc' := 21) dX2_readWalker_20 rfl ?_
    refine wp_cVI (μ' := mX2_isNumberTo) (pc' := 24) (o := 1) dX2_readWalker_21 rfl mlX2_80 cfX2_isNumberTo ⟨(Nat.le_of_ble_eq_true rfl), (Nat.le_of_ble_eq_true rfl)⟩ (sp_isNumberTo) (by decide) rfl rfl rfl rfl rfl (Nat.le_of_ble_eq_true rfl) ?_
    refine wp_top ((num_to (v3 := (setO M 1 f).1 1 3) (v4 := (setO M 1 f).1 1 4) f3 f4 he d3)) ?_
    refine wp_if_ne (pc' := 27) 29 dX2_readWalker_24 rfl (by decide) (fun h24 => ?_) (fun h24 => ?_)
    · have hb1 := Classical.not_not.mp (mt ite01.mpr h24)
      have hn1 := nu_le he hb1.1
      refine wp_aload_n (pc' := 30) dX2_readWalker_29 rfl rfl ⟨_, rfl⟩ ?_
      refine wp_get (pc' := 33) (o := 1) dX2_readWalker_30 rfl flX2_83 (by decide) rfl rfl ?_
      refine wp_top ((show (setO M 1 f).1 1 4 = nI (nuN t tb e0) from f4 hb1.1)) ?_
      refine wp_ist2 (pc' := 34) dX2_readWalker_33 rfl (by decide) rfl ?_
      refine wp_aload_n (pc' := 35) dX2_readWalker_34 rfl rfl ⟨_, rfl⟩ ?_
      refine wp_sVV (μ' := mX2_toNextToken) (pc' := 38) (o := 1) dX2_readWalker_35 rfl mlX2_27 cfX2_toNextToken ⟨(Nat.le_of_ble_eq_true rfl), (Nat.le_of_ble_eq_true rfl)⟩ (sp_token (M := setO M 1 f) (p := tkE t tb e0) hT k4 f2) (by decide) rfl rfl rfl rfl rfl (Nat.le_of_ble_eq_true rfl) (fun m hm => ?_)
      obtain ⟨f2_, rfl, g1, g2, g3, g4⟩ := hm
      refine wp_aload_n (pc' := 39) dX2_readWalker_38 rfl rfl ⟨_, rfl⟩ ?_
      refine wp_aload_n (pc' := 40) dX2_readWalker_39 rfl rfl ⟨_, rfl⟩ ?_
      refine wp_get (pc' := 43) (o := 7) dX2_readWalker_40 rfl flX2_77 (by decide) rfl rfl ?_
      refine wp_top ((show (setO (setO M 1 f) 1 f2_).1 7 2 = nI (q_w D * q_h D) from hC.2.2.1)) ?_
      refine wp_iconst (pc' := 44) 1 dX2_readWalker_43 rfl (by decide) ?_
      refine wp_isub (pc' := 45) dX2_readWalker_44 rfl ?_
      refine wp_cVI (μ' := mX2_isNumberTo) (pc' := 48) (o := 1) dX2_readWalker_45 rfl mlX2_80 cfX2_isNumberTo ⟨(Nat.le_of_ble_eq_true rfl), (Nat.le_of_ble_eq_true rfl)⟩ (sp_isNumberTo) (by decide) rfl rfl rfl rfl rfl (Nat.le_of_ble_eq_true rfl) ?_
      refine wp_top ((num_to (v3 := (setO (setO M 1 f) 1 f2_).1 1 3) (v4 := (setO (setO M 1 f) 1 f2_).1 1 4) g3 g4 k4 d3)) ?_
      refine wp_if_eq (pc' := 51) 59 dX2_readWalker_48 rfl (by decide) (fun h48 => ?_) (fun h48 => ?_)
      · refine wp_iconst (pc' := 60) 0 dX2_readWalker_59 rfl (by decide) ?_
        refine wp_iretz dX2_readWalker_60 rfl rfl ?_
        exact ⟨_, rfl, ((FrC.refl M).set f).set f2_, (by rw [walF, if_neg (fun z => z hk4), if_neg (fun z => z hb1), if_pos (Or.inl (ite01.mp h48))]; exact ⟨rfl, g1⟩)⟩
      · have hb2 := Classical.not_not.mp (mt ite01.mpr h48)
        have hn2 := nu_le k4 hb2.1
        refine wp_aload_n (pc' := 52) dX2_readWalker_51 rfl rfl ⟨_, rfl⟩ ?_
        refine wp_get (pc' := 55) (o := 1) dX2_readWalker_52 rfl flX2_83 (by decide) rfl rfl ?_
        refine wp_top ((show (setO (setO M 1 f) 1 f2_).1 1 4 = nI (nuN t tb (tkE t tb e0)) from g4 hb2.1)) ?_
        refine wp_iload_n (pc' := 56) dX2_readWalker_55 rfl rfl ?_
        refine wp_icmp_ne (pc' := 59) 61 dX2_readWalker_56 rfl (by decide) (fun h56 => ?_) (fun h56 => ?_)
        · refine wp_aload_n (pc' := 62) dX2_readWalker_61 rfl rfl ⟨_, rfl⟩ ?_
          refine wp_iload_n (pc' := 63) dX2_readWalker_62 rfl rfl ?_
          refine wp_aload_n (pc' := 64) dX2_readWalker_63 rfl rfl ⟨_, rfl⟩ ?_
          refine wp_get (pc' := 67) (o := 1) dX2_readWalker_64 rfl flX2_83 (by decide) rfl rfl ?_
          refine wp_top ((show (setO (setO M 1 f) 1 f2_).1 1 4 = nI (nuN t tb (tkE t tb e0)) from g4 hb2.1)) ?_
          refine wp_cVV (μ' := mX4_addWalker) (pc' := 70) (o := 7) dX2_readWalker_67 rfl mlX2_86 cfX4_addWalker ⟨(Nat.le_of_ble_eq_true rfl), (Nat.le_of_ble_eq_true rfl)⟩ (sp_addWalker) (by decide) rfl rfl rfl rfl rfl (Nat.le_of_ble_eq_true rfl) ?_
          refine wp_iconst (pc' := 71) 1 dX2_readWalker_70 rfl (by decide) ?_
          refine wp_iretz dX2_readWalker_71 rfl rfl ?_
          obtain ⟨a1, a2, a3⟩ := aw_ok (M := setO (setO M 1 f) 1 f2_) hC hk4 (nuN t tb e0) (nuN t tb (tkE t tb e0))
          refine ⟨_, rfl, (((FrC.refl M).set f).set f2_).trans a2, ?_⟩
          rw [walF, if_neg (fun z => z hk4), if_neg (fun z => z hb1), if_neg (not_or.mpr ⟨fun z => z hb2, fun z => h56 (by rw [z])⟩)]
          refine ⟨rfl, a1, ?_⟩
          rw [a3]
          exact g2
        · refine wp_iconst (pc' := 60) 0 dX2_readWalker_59 rfl (by decide) ?_
          refine wp_iretz dX2_readWalker_60 rfl rfl ?_
          exact ⟨_, rfl, ((FrC.refl M).set f).set f2_, (by rw [walF, if_neg (fun z => z hk4), if_neg (fun z => z hb1), if_pos (Or.inr (nN_inj (by omega) (by omega) h56).symm)]; exact ⟨rfl, g1⟩)⟩
    · refine wp_iconst (pc' := 28) 0 dX2_readWalker_27 rfl (by decide) ?_
      refine wp_iretz dX2_readWalker_28 rfl rfl ?_
      exact ⟨_, rfl, (FrC.refl M).set f, (by rw [walF, if_neg (fun z => z hk4), if_pos (ite01.mp h24)]; exact ⟨rfl, f1⟩)⟩
  · refine wp_iconst (pc' := 9) 0 dX2_readWalker_8 rfl (by decide) ?_
    refine wp_iretz dX2_readWalker_9 rfl rfl ?_
    exact ⟨_, rfl, FrC.refl _, (by rw [walF, if_pos (fun z => h5 (nI_lt (b := 4) z (by decide)))]; exact ⟨rfl, h1⟩)⟩
theorem sp_readSink (hT : TXC M t tb) (hD : DOK D) (hC : DC M D) (h1 : M.1 1 1 = nI s0) (h2 : M.1 1 2 = nI e0) (he : e0 ≤ t) : SI g mX2_readSink [ob g 1, ob g 7] M (fun x m => FrC M m ∧ OuR m x (snkF t tb D s0 e0)) := by
  have h3 := hT.1
  obtain ⟨d1, d2, d3, d4⟩ := dok_h hD
  obtain ⟨k1, k2⟩ := tk_S (tb := tb) he
  obtain ⟨k3, k4, k5⟩ := tk_E (tb := tb) he
  refine spec_of_wp (ls := [some (ob g 1), some (ob g 7)]) rfl (Nat.le_of_ble_eq_true rfl) 0 rfl ?_
  refine wp_aload_n (pc' := 1) dX2_readSink_0 rfl rfl ⟨_, rfl⟩ ?_
  refine wp_get (pc' := 4) (o := 7) dX2_readSink_1 rfl flX2_90 (by decide) rfl rfl ?_
  refine wp_top ((show M.1 7 6 = (if q_t D = true then 1 else 0) from hC.2.2.2.2.2.1)) ?_
  refine wp_if_eq (pc' := 7) 9 dX2_readSink_4 rfl (by decide) (fun h4 => ?_) (fun h4 => ?_)
  · refine wp_aload_n (pc' := 10) dX2_readSink_9 rfl rfl ⟨_, rfl⟩ ?_
    refine wp_sVV (μ' := mX2_toNextToken) (pc' := 13) (o := 1) dX2_readSink_10 rfl mlX2_27 cfX2_toNextToken ⟨(Nat.le_of_ble_eq_true rfl), (Nat.le_of_ble_eq_true rfl)⟩ (sp_token hT he h2) (by decide) rfl rfl rfl rfl rfl (Nat.le_of_ble_eq_true rfl) (fun m hm => ?_)
    obtain ⟨f, rfl, f1, f2, f3, f4⟩ := hm
    refine wp_aload_n (pc' := 14) dX2_readSink_13 rfl rfl ⟨_, rfl⟩ ?_
    refine wp_bipush (pc' := 16) 9 dX2_readSink_14 rfl (by decide) ?_
    refine wp_top ((show (9 : Int32) = nI 10 - 1 by decide)) ?_
    refine wp_cVI (μ' := mX2_isNumberTo) (pc' := 19) (o := 1) dX2_readSink_16 rfl mlX2_80 cfX2_isNumberTo ⟨(Nat.le_of_ble_eq_true rfl), (Nat.le_of_ble_eq_true rfl)⟩ (sp_isNumberTo) (by decide) rfl rfl rfl rfl rfl (Nat.le_of_ble_eq_true rfl) ?_
    refine wp_top ((num_to (v3 := (setO M 1 f).1 1 3) (v4 := (setO M 1 f).1 1 4) f3 f4 he (by decide))) ?_
    refine wp_if_ne (pc' := 22) 24 dX2_readSink_19 rfl (by decide) (fun h19 => ?_) (fun h19 => ?_)
    · have hb1 := Classical.not_not.mp (mt ite01.mpr h19)
      refine wp_aload_n (pc' := 25) dX2_readSink_24 rfl rfl ⟨_, rfl⟩ ?_
      refine wp_aload_n (pc' := 26) dX2_readSink_25 rfl rfl ⟨_, rfl⟩ ?_
      refine wp_get (pc' := 29) (o := 1) dX2_readSink_26 rfl flX2_83 (by decide) rfl rfl ?_
      refine wp_top ((show (setO M 1 f).1 1 4 = nI (nuN t tb e0) from f4 hb1.1)) ?_
      refine wp_put (pc' := 32) (o := 7) dX2_readSink_29 rfl fpX2_94 (by decide) rfl (Nat.le_of_ble_eq_true rfl) rfl ?_
      refine wp_aload_n (pc' := 33) dX2_readSink_32 rfl rfl ⟨_, rfl⟩ ?_
      refine wp_iconst (pc' := 34) 1 dX2_readSink_33 rfl (by decide) ?_
      refine wp_putz (pc' := 37) (o := 7) dX2_readSink_34 rfl fpX2_90 (by decide) rfl (Nat.le_of_ble_eq_true rfl) rfl rfl rfl ?_
      refine wp_iconst (pc' := 38) 1 dX2_readSink_37 rfl (by decide) ?_
      refine wp_iretz dX2_readSink_38 rfl rfl ?_
      refine ⟨_, rfl, ((FrC.refl M).set f).trans ⟨rfl, fun a _ h7 _ _ => (if_neg h7).trans (if_neg h7)⟩, ?_⟩
      rw [snkF, if_neg (ite01.mp h4), if_neg (fun z => z hb1)]
      obtain ⟨c1, c2, c3, c4, c5, c6, c7, c8⟩ := hC
      exact ⟨rfl, ⟨c1, c2, c3, c4, rfl, rfl, c7, c8⟩, f2⟩
    · refine wp_iconst (pc' := 23) 0 dX2_readSink_22 rfl (by decide) ?_
      refine wp_iretz dX2_readSink_23 rfl rfl ?_
      exact ⟨_, rfl, (FrC.refl M).set f, (by rw [snkF, if_neg (ite01.mp h4), if_pos (ite01.mp h19)]; exact ⟨rfl, f1⟩)⟩
  · refine wp_iconst (pc' := 8) 0 dX2_readSink_7 rfl (by decide) ?_
    refine wp_iretz dX2_readSink_8 rfl rfl ?_
    exact ⟨_, rfl, FrC.refl _, (by rw [snkF, if_pos (Classical.not_not.mp (mt ite01.mpr h4))]; exact ⟨rfl, h1⟩)⟩
theorem lp_item53 {M0 : Mem} {r : RzS} {x : Int32} (hF : FrC M0 M) (hT : TXC M t tb) {e : Nat} (hr : RokF t e r) (hO : OuR M x r) : wp g mX2_readItem 53 [some (ob g 1), some (ob g 7), some (.int x)] [] M (fun q m => ∃ x : Int32, q = some (.int x) ∧ FrC M0 m ∧ OuR m x (aftF t tb r)) := by
  match r, hr, hO with
  | .inl f, hr, hO =>
    obtain ⟨rfl, hs⟩ := hO
    refine wp_iload_n (pc' := 54) dX2_readItem_53 rfl rfl ?_
    refine wp_if_ne (pc' := 57) 59 dX2_readItem_54 rfl (by decide) (fun hh => absurd hh (by decide)) (fun _ => ?_)
    refine wp_iconst (pc' := 58) 0 dX2_readItem_57 rfl (by decide) ?_
    refine wp_iretz dX2_readItem_58 rfl rfl ?_
    exact ⟨_, rfl, hF, rfl, hs⟩
  | .inr q, hr, hO =>
    obtain ⟨rfl, hC, hb⟩ := hO
    obtain ⟨r1, r2, r3⟩ := hr
    refine wp_iload_n (pc' := 54) dX2_readItem_53 rfl rfl ?_
    refine wp_if_ne (pc' := 57) 59 dX2_readItem_54 rfl (by decide) (fun _ => ?_) (fun hh => absurd hh (by decide))
    refine wp_aload_n (pc' := 60) dX2_readItem_59 rfl rfl ⟨_, rfl⟩ ?_
    refine wp_sVV (μ' := mX2_toNextToken) (pc' := 63) (o := 1) dX2_readItem_60 rfl mlX2_27 cfX2_toNextToken ⟨(Nat.le_of_ble_eq_true rfl), (Nat.le_of_ble_eq_true rfl)⟩ (sp_token hT r3 hb) (by decide) rfl rfl rfl rfl rfl (Nat.le_of_ble_eq_true rfl) (fun m hm => ?_)
    obtain ⟨f, rfl, f1, f2, f3, f4⟩ := hm
    refine wp_aload_n (pc' := 64) dX2_readItem_63 rfl rfl ⟨_, rfl⟩ ?_
    refine wp_get (pc' := 67) (o := 1) dX2_readItem_64 rfl flX2_30 (by decide) rfl rfl ?_
    refine wp_top ((show (setO M 1 f).1 1 3 = csF t tb q.2 from f3)) ?_
    refine wp_iconst (pc' := 68) 3 dX2_readItem_67 rfl (by decide) ?_
    refine wp_icmp_ne (pc' := 71) 75 dX2_readItem_68 rfl (by decide) (fun h68 => ?_) (fun h68 => ?_)
    · refine wp_iconst (pc' := 76) 0 dX2_readItem_75 rfl (by decide) ?_
      refine wp_iretz dX2_readItem_76 rfl rfl ?_
      refine ⟨_, rfl, hF.set f, ?_⟩
      show OuR _ _ (if tkO t tb q.2 = 3 then .inr (q.1, tkE t tb q.2) else .inl (tkS t tb q.2))
      rw [if_neg (fun z => h68 ((cs_ne (by decide) (by decide)).mpr z))]
      exact ⟨rfl, f1⟩
    · refine wp_iconst (pc' := 72) 1 dX2_readItem_71 rfl (by decide) ?_
      refine wp_goto 76 dX2_readItem_72 (by decide) ?_
      refine wp_iretz dX2_readItem_76 rfl rfl ?_
      refine ⟨_, rfl, hF.set f, ?_⟩
      show OuR _ _ (if tkO t tb q.2 = 3 then .inr (q.1, tkE t tb q.2) else .inl (tkS t tb q.2))
      rw [if_pos ((cs_ne (by decide) (by decide)).mp h68)]
      exact ⟨rfl, hC, f2⟩
theorem wd_cs {s e i : Nat} : wdF tb s e (csF t tb p) i = wdF tb s e (tkO t tb p) i := by
  unfold wdF
  exact decide_eq_decide.mpr (and_congr (cs_ne (by decide) (by decide)) Iff.rfl)
theorem sp_readItem (hT : TXC M t tb) (hD : DOK D) (hC : DC M D) (hp : p ≤ t) (h0 : ¬ tkO t tb p = 0) (h11 : M.1 1 1 = nI (tkS t tb p)) (h12 : M.1 1 2 = nI (tkE t tb p)) (h13 : M.1 1 3 = csF t tb p) : SI g mX2_readItem [ob g 1, ob g 7] M (fun x m => FrC M m ∧ OuR m x (itmF t tb D p)) := by
  have h3 := hT.1
  obtain ⟨k1, k2⟩ := tk_S (tb := tb) hp
  obtain ⟨k3, k4, k5⟩ := tk_E (tb := tb) hp
  have hk := knd_ok hD hp h0
  refine spec_of_wp (ls := [some (ob g 1), some (ob g 7), none]) rfl (Nat.le_of_ble_eq_true rfl) 1 rfl ?_
  refine wp_iconst (pc' := 1) 0 dX2_readItem_0 rfl (by decide) ?_
  refine wp_ist2 (pc' := 2) dX2_readItem_1 rfl (by decide) rfl ?_
  refine wp_aload_n (pc' := 3) dX2_readItem_2 rfl rfl ⟨_, rfl⟩ ?_
  refine wp_ldcs (pc' := 5) (i := 0) dX2_readItem_3 rfl (fun s h => h.2.2.1) ?_
  refine wp_cVI (μ' := mX2_isWord) (pc' := 8) (o := 1) dX2_readItem_5 rfl mlX2_42 cfX2_isWord ⟨(Nat.le_of_ble_eq_true rfl), (Nat.le_of_ble_eq_true rfl)⟩ (sp_isWord (by decide) hT h11 h12 k3 k4) (by decide) rfl rfl rfl rfl rfl (Nat.le_of_ble_eq_true rfl) ?_
  refine wp_top ((show (if wdF tb (tkS t tb p) (tkE t tb p) (M.1 1 3) 0 = true then (1 : Int32) else 0) = (if wdF tb (tkS t tb p) (tkE t tb p) (tkO t tb p) 0 = true then 1 else 0) by rw [h13, wd_cs])) ?_
  refine wp_if_eq (pc' := 11) 20 dX2_readItem_8 rfl (by decide) (fun h8 => ?_) (fun h8 => ?_)
  · refine wp_aload_n (pc' := 21) dX2_readItem_20 rfl rfl ⟨_, rfl⟩ ?_
    refine wp_ldcs (pc' := 23) (i := 1) dX2_readItem_21 rfl (fun s h => h.2.2.2.1) ?_
    refine wp_cVI (μ' := mX2_isWord) (pc' := 26) (o := 1) dX2_readItem_23 rfl mlX2_42 cfX2_isWord ⟨(Nat.le_of_ble_eq_true rfl), (Nat.le_of_ble_eq_true rfl)⟩ (sp_isWord (by decide) hT h11 h12 k3 k4) (by decide) rfl rfl rfl rfl rfl (Nat.le_of_ble_eq_true rfl) ?_
    refine wp_top ((show (if wdF tb (tkS t tb p) (tkE t tb p) (M.1 1 3) 1 = true then (1 : Int32) else 0) = (if wdF tb (tkS t tb p) (tkE t tb p) (tkO t tb p) 1 = true then 1 else 0) by rw [h13, wd_cs])) ?_
    refine wp_if_eq (pc' := 29) 38 dX2_readItem_26 rfl (by decide) (fun h26 => ?_) (fun h26 => ?_)
    · refine wp_aload_n (pc' := 39) dX2_readItem_38 rfl rfl ⟨_, rfl⟩ ?_
      refine wp_ldcs (pc' := 41) (i := 2) dX2_readItem_39 rfl (fun s h => h.2.2.2.2) ?_
      refine wp_cVI (μ' := mX2_isWord) (pc' := 44) (o := 1) dX2_readItem_41 rfl mlX2_42 cfX2_isWord ⟨(Nat.le_of_ble_eq_true rfl), (Nat.le_of_ble_eq_true rfl)⟩ (sp_isWord (by decide) hT h11 h12 k3 k4) (by decide) rfl rfl rfl rfl rfl (Nat.le_of_ble_eq_true rfl) ?_
      refine wp_top ((show (if wdF tb (tkS t tb p) (tkE t tb p) (M.1 1 3) 2 = true then (1 : Int32) else 0) = (if wdF tb (tkS t tb p) (tkE t tb p) (tkO t tb p) 2 = true then 1 else 0) by rw [h13, wd_cs])) ?_
      refine wp_if_eq (pc' := 47) 53 dX2_readItem_44 rfl (by decide) (fun h44 => ?_) (fun h44 => ?_)
      · have e9 : kndF t tb D p = .inl (tkS t tb p) := by rw [kndF, if_neg (ite01.mp h8), if_neg (ite01.mp h26), if_neg (ite01.mp h44)]
        unfold itmF
        rw [e9]
        rw [e9] at hk
        exact lp_item53 (FrC.refl M) hT hk ⟨rfl, h11⟩
      · refine wp_aload_n (pc' := 48) dX2_readItem_47 rfl rfl ⟨_, rfl⟩ ?_
        refine wp_aload_n (pc' := 49) dX2_readItem_48 rfl rfl ⟨_, rfl⟩ ?_
        refine wp_sVI (μ' := mX2_readSink) (pc' := 52) (o := 1) dX2_readItem_49 rfl mlX2_56 cfX2_readSink ⟨(Nat.le_of_ble_eq_true rfl), (Nat.le_of_ble_eq_true rfl)⟩ (sp_readSink hT hD hC h11 h12 k4) (by decide) rfl rfl rfl rfl rfl (Nat.le_of_ble_eq_true rfl) (fun x m hm => ?_)
        refine wp_ist2 (pc' := 53) dX2_readItem_52 rfl (by decide) rfl ?_
        have e9 : kndF t tb D p = snkF t tb D (tkS t tb p) (tkE t tb p) := by rw [kndF, if_neg (ite01.mp h8), if_neg (ite01.mp h26), if_pos (Classical.not_not.mp (mt ite01.mpr h44))]
        unfold itmF
        rw [e9]
        rw [e9] at hk
        exact lp_item53 hm.1 (frC_T hm.1 hT) hk hm.2
    · refine wp_aload_n (pc' := 30) dX2_readItem_29 rfl rfl ⟨_, rfl⟩ ?_
      refine wp_aload_n (pc' := 31) dX2_readItem_30 rfl rfl ⟨_, rfl⟩ ?_
      refine wp_sVI (μ' := mX2_readWalker) (pc' := 34) (o := 1) dX2_readItem_31 rfl mlX2_51 cfX2_readWalker ⟨(Nat.le_of_ble_eq_true rfl), (Nat.le_of_ble_eq_true rfl)⟩ (sp_readWalker hT hD hC h11 h12 k4) (by decide) rfl rfl rfl rfl rfl (Nat.le_of_ble_eq_true rfl) (fun x m hm => ?_)
      refine wp_ist2 (pc' := 35) dX2_readItem_34 rfl (by decide) rfl ?_
      refine wp_goto 53 dX2_readItem_35 (by decide) ?_
      have e9 : kndF t tb D p = walF t tb D (tkS t tb p) (tkE t tb p) := by rw [kndF, if_neg (ite01.mp h8), if_pos (Classical.not_not.mp (mt ite01.mpr h26))]
      unfold itmF
      rw [e9]
      rw [e9] at hk
      exact lp_item53 hm.1 (frC_T hm.1 hT) hk hm.2
  · refine wp_aload_n (pc' := 12) dX2_readItem_11 rfl rfl ⟨_, rfl⟩ ?_
    refine wp_aload_n (pc' := 13) dX2_readItem_12 rfl rfl ⟨_, rfl⟩ ?_
    refine wp_sVI (μ' := mX2_readRow) (pc' := 16) (o := 1) dX2_readItem_13 rfl mlX2_46 cfX2_readRow ⟨(Nat.le_of_ble_eq_true rfl), (Nat.le_of_ble_eq_true rfl)⟩ (sp_readRow hT hD hC h11 h12 k4) (by decide) rfl rfl rfl rfl rfl (Nat.le_of_ble_eq_true rfl) (fun x m hm => ?_)
    refine wp_ist2 (pc' := 17) dX2_readItem_16 rfl (by decide) rfl ?_
    refine wp_goto 53 dX2_readItem_17 (by decide) ?_
    have e9 : kndF t tb D p = rowF t tb D (tkS t tb p) (tkE t tb p) := by rw [kndF, if_pos (Classical.not_not.mp (mt ite01.mpr h8))]
    unfold itmF
    rw [e9]
    rw [e9] at hk
    exact lp_item53 hm.1 (frC_T hm.1 hT) hk hm.2
def InR (t : Nat) (m : Mem) (x : Int32) : RzS → Prop
  | .inl f => f ≤ t ∧ x = -10 - nI f
  | .inr q => q.2 ≤ t ∧ x = nI q.2 ∧ DC m q.1 ∧ DOK q.1
theorem rds_0 {n items : Nat} (h : tkO t tb p = 0) : rdsF t tb (n + 1) D p items = .inr (D, items) := if_pos h
theorem rds_l {n items f : Nat} (h : ¬ tkO t tb p = 0) (hr : itmF t tb D p = .inl f) : rdsF t tb (n + 1) D p items = .inl f := by
  rw [rdsF, if_neg h, hr]
theorem rds_r {n items : Nat} {q : TolD × Nat} (h : ¬ tkO t tb p = 0) (hr : itmF t tb D p = .inr q) : rdsF t tb (n + 1) D p items = rdsF t tb n q.1 q.2 (items + 1) := by
  rw [rdsF, if_neg h, hr]
theorem lp_readInto {M0 : Mem} : ∀ (n : Nat) (D : TolD) (p items : Nat) (M : Mem), t < p + n → items ≤ p → p ≤ t → FrC M0 M → TXC M t tb → DOK D → DC M D → M.1 1 1 = nI (tkS t tb p) → M.1 1 2 = nI (tkE t tb p) → M.1 1 3 = csF t tb p → wp g mX2_readInto 15 [some (ob g 1), some (ob g 7), some (.int (nI items))] [] M (fun q m => ∃ x : Int32, q = some (.int x) ∧ FrC M0 m ∧ InR t m x (rdsF t tb n D p items)) := by
  intro n
  induction n with
  | zero => intro D p items M h1 h2 h3; omega
  | succ n ih =>
    intro D p items M hpn hip hp hF hT hD hC h11 h12 h13
    have h3 := hT.1
    obtain ⟨k1, k2⟩ := tk_S (tb := tb) hp
    obtain ⟨k3, k4, k5⟩ := tk_E (tb := tb) hp
    refine wp_aload_n (pc' := 16) dX2_readInto_15 rfl rfl ⟨_, rfl⟩ ?_
    refine wp_get (pc' := 19) (o := 1) dX2_readInto_16 rfl flX2_30 (by decide) rfl rfl ?_
    refine wp_top ((show M.1 1 3 = csF t tb p from h13)) ?_
    refine wp_if_eq (pc' := 22) 55 dX2_readInto_19 rfl (by decide) (fun h19 => ?_) (fun h19 => ?_)
    · refine wp_iload_n (pc' := 56) dX2_readInto_55 rfl rfl ?_
      refine wp_ireti dX2_readInto_56 rfl ?_
      refine ⟨_, rfl, hF, ?_⟩
      rw [rds_0 ((cs_ne (by decide) (by decide)).mp h19)]
      exact ⟨by show items ≤ t; omega, rfl, hC, hD⟩
    · have h0 : ¬ tkO t tb p = 0 := fun z => h19 ((cs_ne (by decide) (by decide)).mpr z)
      have hlt := (tk_lt hp h0).1
      have hi := itm_ok hD hp h0
      refine wp_iload_n (pc' := 23) dX2_readInto_22 rfl rfl ?_
      refine wp_sipush (pc' := 26) 300 dX2_readInto_23 rfl (by decide) ?_
      refine wp_icmp_ge (pc' := 29) 55 dX2_readInto_26 rfl (by decide) (fun h26 => ?_) (fun h26 => ?_)
      · refine wp_iload_n (pc' := 56) dX2_readInto_55 rfl rfl ?_
        refine wp_ireti dX2_readInto_56 rfl ?_
        exact absurd h26 (nI_ge (b := 300) (by omega) (by decide))
      · refine wp_aload_n (pc' := 30) dX2_readInto_29 rfl rfl ⟨_, rfl⟩ ?_
        refine wp_aload_n (pc' := 31) dX2_readInto_30 rfl rfl ⟨_, rfl⟩ ?_
        refine wp_sVI (μ' := mX2_readItem) (pc' := 34) (o := 1) dX2_readInto_31 rfl mlX2_33 cfX2_readItem ⟨(Nat.le_of_ble_eq_true rfl), (Nat.le_of_ble_eq_true rfl)⟩ (sp_readItem hT hD hC hp h0 h11 h12 h13) (by decide) rfl rfl rfl rfl rfl (Nat.le_of_ble_eq_true rfl) (fun x m hm => ?_)
        refine wp_if_ne (pc' := 37) 45 dX2_readInto_34 rfl (by decide) (fun h34 => ?_) (fun h34 => ?_)
        · obtain ⟨q, hr, hC2, hb⟩ := ou_1 hm.2 h34
          rw [hr] at hi
          obtain ⟨i1, i2, i3⟩ := hi
          refine wp_inc2 (pc' := 48) (nI (items + 1)) dX2_readInto_45 rfl (by decide) rfl (nI_1 items) ?_
          refine wp_aload_n (pc' := 49) dX2_readInto_48 rfl rfl ⟨_, rfl⟩ ?_
          refine wp_sVV (μ' := mX2_toNextToken) (pc' := 52) (o := 1) dX2_readInto_49 rfl mlX2_27 cfX2_toNextToken ⟨(Nat.le_of_ble_eq_true rfl), (Nat.le_of_ble_eq_true rfl)⟩ (sp_token (frC_T hm.1 hT) i3 hb) (by decide) rfl rfl rfl rfl rfl (Nat.le_of_ble_eq_true rfl) (fun m2 hm2 => ?_)
          obtain ⟨f, rfl, f1, f2, f3, f4⟩ := hm2
          refine wp_goto 15 dX2_readInto_52 (by decide) ?_
          rw [rds_r h0 hr]
          exact ih q.1 q.2 (items + 1) (setO _ 1 f) (by omega) (by omega) i3 ((hF.trans hm.1).set f) (frC_T ((FrC.refl _).set f) (frC_T hm.1 hT)) i1 hC2 f1 f2 f3
        · obtain ⟨f, hr, hs⟩ := ou_0 hm.2 h34
          refine wp_bipush (pc' := 39) (-10) dX2_readInto_37 rfl (by decide) ?_
          refine wp_aload_n (pc' := 40) dX2_readInto_39 rfl rfl ⟨_, rfl⟩ ?_
          refine wp_get (pc' := 43) (o := 1) dX2_readInto_40 rfl flX2_37 (by decide) rfl rfl ?_
          refine wp_isub (pc' := 44) dX2_readInto_43 rfl ?_
          refine wp_ireti dX2_readInto_44 rfl ?_
          refine ⟨_, rfl, hF.trans hm.1, ?_⟩
          rw [rds_l h0 hr]
          rw [hr] at hi
          exact ⟨hi, by rw [hs]⟩
theorem sp_readInto (hT : TXC M t tb) : SI g mX2_readInto [ob g 1, ob g 7] M (fun x m => FrC M m ∧ InR t m x (rdsF t tb (t + 1) q_0 0 0)) := by
  refine spec_of_wp (ls := [some (ob g 1), some (ob g 7), none]) rfl (Nat.le_of_ble_eq_true rfl) 1 rfl ?_
  refine wp_aload_n (pc' := 1) dX2_readInto_0 rfl rfl ⟨_, rfl⟩ ?_
  refine wp_cVV (μ' := mX4_empty) (pc' := 4) (o := 7) dX2_readInto_1 rfl mlX2_18 cfX4_empty ⟨(Nat.le_of_ble_eq_true rfl), (Nat.le_of_ble_eq_true rfl)⟩ (sp_dempty) (by decide) rfl rfl rfl rfl rfl (Nat.le_of_ble_eq_true rfl) ?_
  refine wp_aload_n (pc' := 5) dX2_readInto_4 rfl rfl ⟨_, rfl⟩ ?_
  refine wp_iconst (pc' := 6) 0 dX2_readInto_5 rfl (by decide) ?_
  refine wp_put (pc' := 9) (o := 1) dX2_readInto_6 rfl fpX2_23 (by decide) rfl (Nat.le_of_ble_eq_true rfl) rfl ?_
  refine wp_iconst (pc' := 10) 0 dX2_readInto_9 rfl (by decide) ?_
  refine wp_ist2 (pc' := 11) dX2_readInto_10 rfl (by decide) rfl ?_
  refine wp_aload_n (pc' := 12) dX2_readInto_11 rfl rfl ⟨_, rfl⟩ ?_
  refine wp_sVV (μ' := mX2_toNextToken) (pc' := 15) (o := 1) dX2_readInto_12 rfl mlX2_27 cfX2_toNextToken ⟨(Nat.le_of_ble_eq_true rfl), (Nat.le_of_ble_eq_true rfl)⟩ (sp_token (M := upI (temptyM M) 1 2 0) (p := 0) hT (Nat.zero_le t) rfl) (by decide) rfl rfl rfl rfl rfl (Nat.le_of_ble_eq_true rfl) (fun m hm => ?_)
  obtain ⟨f, rfl, f1, f2, f3, f4⟩ := hm
  have hF : FrC M (upI (temptyM M) 1 2 0) := ⟨rfl, fun a h1 h7 _ _ => by unfold temptyM; simp only [upI, if_neg h1, if_neg h7]⟩
  exact lp_readInto (t + 1) q_0 0 0 (setO (upI (temptyM M) 1 2 0) 1 f) (by omega) (Nat.le_refl 0) (Nat.zero_le t) (hF.set f) hT dok_0 ⟨rfl, rfl, rfl, ⟨Sm.zero _, Sm.zero _, fun c hc => absurd hc (Nat.not_lt_zero c)⟩, rfl, rfl, rfl, fun j hj => absurd hj (Nat.not_lt_zero j)⟩ f1 f2 f3
end RR
