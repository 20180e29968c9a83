theorem mlL_15 : ML RL 15 yX6_type := Or.inl (wR4 _ (List.mem_of_getElem? (i := 21) rfl))
theorem mlL_19 : ML RL 19 yX7_type := Or.inl (wR5 _ (List.mem_of_getElem? (i := 7) rfl))
theorem mlL_20 : ML RL 20 yX6_clear := Or.inl (wR5 _ (List.mem_of_getElem? (i := 16) rfl))
theorem mlL_24 : ML RL 24 yX7_clear := Or.inl (wR6 _ (List.mem_of_getElem? (i := 0) rfl))
theorem mlL_25 : ML RL 25 yX6_moor := Or.inl (wR6 _ (List.mem_of_getElem? (i := 4) rfl))
theorem mlL_28 : ML RL 28 yX7_moor := Or.inl (wR12 _ (List.mem_of_getElem? (i := 20) rfl))
theorem mlL_29 : ML RL 29 yX6_cell := Or.inl (wR15 _ (List.mem_of_getElem? (i := 7) rfl))
theorem mlL_33 : ML RL 33 yX7_cell := Or.inl (wR15 _ (List.mem_of_getElem? (i := 22) rfl))
theorem mlL_34 : ML RL 34 yX6_walker := Or.inl (wR16 _ (List.mem_of_getElem? (i := 6) rfl))
theorem mlL_37 : ML RL 37 yX7_walker := Or.inl (wR16 _ (List.mem_of_getElem? (i := 18) rfl))
theorem mlL_38 : ML RL 38 yX6_passes := Or.inl (wR17 _ (List.mem_of_getElem? (i := 6) rfl))
theorem mlL_41 : ML RL 41 yX7_passes := Or.inl (wR18 _ (List.mem_of_getElem? (i := 20) rfl))
theorem mlL_42 : ML RL 42 yX6_days := Or.inl (wR19 _ (List.mem_of_getElem? (i := 23) rfl))
theorem mlL_46 : ML RL 46 yX7_days := Or.inl (wR20 _ (List.mem_of_getElem? (i := 12) rfl))
theorem mlL_47 : ML RL 47 yX6_now := Or.inl (wR20 _ (List.mem_of_getElem? (i := 20) rfl))
theorem mlL_50 : ML RL 50 yX7_now := Or.inl (wR21 _ (List.mem_of_getElem? (i := 11) rfl))
theorem mlL_51 : ML RL 51 yX6_anew := Or.inl (wR21 _ (List.mem_of_getElem? (i := 23) rfl))
theorem mlL_54 : ML RL 54 yX7_anew := Or.inl (wR22 _ (List.mem_of_getElem? (i := 3) rfl))
theorem mlL_55 : ML RL 55 yX6_steps := Or.inl (wR22 _ (List.mem_of_getElem? (i := 7) rfl))
theorem mlL_58 : ML RL 58 yX7_steps := Or.inl (wR22 _ (List.mem_of_getElem? (i := 11) rfl))
theorem mlL_59 : ML RL 59 yX6_way := Or.inl (wR22 _ (List.mem_of_getElem? (i := 15) rfl))
theorem mlL_63 : ML RL 63 yX7_way := Or.inl (wR22 _ (List.mem_of_getElem? (i := 19) rfl))
theorem mlL_64 : ML RL 64 yX6_stones := Or.inl (wR22 _ (List.mem_of_getElem? (i := 23) rfl))
theorem mlL_67 : ML RL 67 yX7_stones := Or.inl (wR23 _ (List.mem_of_getElem? (i := 11) rfl))
theorem mlL_68 : ML RL 68 yX6_joined := Or.inl (wR23 _ (List.mem_of_getElem? (i := 19) rfl))
theorem mlL_71 : ML RL 71 yX7_joined := Or.inl (wR24 _ (List.mem_of_getElem? (i := 9) rfl))
theorem mlL_72 : ML RL 72 yX6_likes := Or.inl (wR25 _ (List.mem_of_getElem? (i := 16) rfl))
theorem mlL_75 : ML RL 75 yX7_likes := Or.inl (wR25 _ (List.mem_of_getElem? (i := 20) rfl))
theorem mlL_76 : ML RL 76 yX6_byTurns := Or.inl (wR26 _ (List.mem_of_getElem? (i := 0) rfl))
theorem mlL_79 : ML RL 79 yX7_byTurns := Or.inl (wR26 _ (List.mem_of_getElem? (i := 20) rfl))
theorem mlL_80 : ML RL 80 yX6_apart := Or.inl (wR27 _ (List.mem_of_getElem? (i := 0) rfl))
theorem mlL_83 : ML RL 83 yX7_apart := Or.inl (wR27 _ (List.mem_of_getElem? (i := 10) rfl))
theorem mlL_84 : ML RL 84 yX6_rate := Or.inl (wR27 _ (List.mem_of_getElem? (i := 14) rfl))
theorem mlL_87 : ML RL 87 yX7_rate := Or.inl (wR29 _ (List.mem_of_getElem? (i := 1) rfl))
theorem mlL_88 : ML RL 88 yX6_keep := Or.inl (wR29 _ (List.mem_of_getElem? (i := 12) rfl))
theorem mlL_91 : ML RL 91 yX7_keep := Or.inl (wR30 _ (List.mem_of_getElem? (i := 0) rfl))
theorem mlL_92 : ML RL 92 yX6_back := Or.inl (wR30 _ (List.mem_of_getElem? (i := 4) rfl))
theorem mlL_95 : ML RL 95 yX7_back := Or.inl (wR30 _ (List.mem_of_getElem? (i := 8) rfl))
theorem mlL_96 : ML RL 96 yX6_count := Or.inl (wR30 _ (List.mem_of_getElem? (i := 12) rfl))
theorem mlL_99 : ML RL 99 yX7_count := Or.inl (wR30 _ (List.mem_of_getElem? (i := 16) rfl))
theorem mlL_100 : ML RL 100 yX6_trace := Or.inl (wR30 _ (List.mem_of_getElem? (i := 20) rfl))
theorem mlL_104 : ML RL 104 yX7_trace := Or.inl (wR31 _ (List.mem_of_getElem? (i := 0) rfl))
theorem cnL_13 : Cond.constantLong RL 13 (4294967295) ∈ wsL_law := (wR1 _ (List.mem_of_getElem? (i := 6) rfl))

/-! ===== the law's loop ===== -/
section KL
variable {p : Program} {g : GG} {e : Env} {R : Room} {s : State} {m : MethodId} {args : Array Value} {below : List Frame} {meth : Method} {c : Code} {H : Heap} {locs : List Loc} {cells slots : Nat} {Q : State → Prop} {own : String} {cc : ByteArray} {nL : Nat} {A : Nat → Prop} {M : Mem} {pc pc' : Nat} {ls : Array Slot} {st rest : List Value}
theorem k_call {μ' : MD} {idx n o ci : Nat} {fs As : List Value} {Q' : Option Value → Mem → Prop} {q : vw_C} (C : KC own cc nL A (g_D g) (g_cI g) (g_cZ g) p s m args c) (S : KS A (g_D g) s (world g M) H locs) (hE : EnvG g s) (hT : Str g s s.heap) (hAs : ∀ x : Nat, A x → s.heap.size ≤ x) (d : decode cc pc = .ok (.invokevirtual idx, 3)) (hpc : pc + 3 = pc') (ml : ML own idx μ'.1) (cf : CFV μ' n) (rm : μ'.2.2.2.2.1 + 1 ≤ R.frames ∧ 8 + (μ'.2.2.1 + 11) + μ'.2.2.2.2.2 ≤ R.locals) (hcl0 : cells ≤ R.cells) (hsl0 : slots ≤ R.slots) (hs : Spec g μ' (ob g o :: As) M Q') (ho : o < 38) (hc : cell_ g o (M.1 o) (M.2 o) = .inr (ci, fs)) (hq : vwCl[ci]? = some q) (hcl : q.1 = μ'.1.cls) (hn : As.length = n) (hst : st = As.reverse ++ ob g o :: rest) (hl : ls.size = nL) (hW : (rest.map fun v => v.category).sum ≤ 8)
    (kk : ∀ (r : Option Value) (M' : Mem) (H1 : Heap) (locs1 : List Loc), Q' r M' → KS A (g_D g) s (world g M') H1 locs1 → W p (g_l g) e R s m args below meth c H1 locs1 cells slots Q (F0 m pc' ls (r.toList ++ rest))) : W p (g_l g) e R s m args below meth c H locs cells slots Q (F0 m pc ls st) := by
  subst hpc
  obtain ⟨P, Dd, S⟩ := S
  obtain ⟨⟨f1, f2, f3⟩, f4, f5⟩ := cf
  have hts := C.2.2.2.2.1
  have he := world_get g M ho
  rw [hc] at he
  have hAA : ∀ x : Nat, AA g x → A x := fun x hx => by
    obtain ⟨o1, h1, rfl⟩ := hx
    exact Dd.2 o1 _ (world_get g M h1)
  have hD' : va_D (AA g) (world g M) := ⟨Dd.1, fun k q hk => by
    by_cases h9 : k < 38
    · rw [world_get g M h9] at hk
      cases hk
      exact ⟨k, h9, rfl⟩
    · rw [List.getElem?_eq_none (by simp [world]; omega)] at hk
      cases hk⟩
  have hpre : ∀ U : State, U.heap = H → s.WarmedH U.vm → va_Pc (ob g o :: As) (PreM g M) (ob g o :: As).toArray U := fun U hU hW =>
    ⟨rfl, by rw [hU]; exact P, hE.warm hW, hD', by rw [hU]; exact (hT.moved hW.alike).kept (fun q h1 _ => S.2.1 q h1 (fun z => Nat.not_le.mpr h1 (hAs q z)))⟩
  have hrun : va_Run p (g_l g) e R s m args below meth c H locs cells slots 0 0 (F0 m pc ls st) rest (QQ g Q' (ob g o :: As).toArray) (AA g) := by
    rcases ml with ml | ml
    · exact va_runV (C := μ'.1.cls) (b := g_ad g o) (As := As) (rest := rest) ⟨C.1, C.2.1, C.2.2.1, C.2.2.2.1, hts⟩ hs ⟨callB_of (ws' := wsL_law) n hts (wsOf_good f1) rfl rfl rfl (hts _ f2) (hts _ ml) f3 rm, hts _ f4, hts _ f5⟩
        ⟨blindP g M _, by rw [← hcl]; exact va_recv C.2.2.2.2.2.1.1 P hq he, hpre⟩ rfl hn hl hst (lv_room hW) d ⟨hcl0, hsl0⟩
    · exact va_runVN (host := "MoorStones") (C := μ'.1.cls) (b := g_ad g o) (As := As) (rest := rest) ⟨C.1, C.2.1, C.2.2.1, C.2.2.2.1, hts⟩ hs ⟨va_cnB (ws' := wsL_law) n hts (wsOf_good f1) rfl rfl rfl (C.2.2.2.2.2.1.2 _ ml) (hts _ f2) f3 rm, hts _ f4, hts _ f5⟩
        ⟨blindP g M _, by rw [← hcl]; exact va_recv C.2.2.2.2.2.1.1 P hq he, hpre⟩ rfl hn hl hst (lv_room hW) d ⟨hcl0, hsl0⟩
  intro T hT' X
  obtain ⟨v, st₀, t, T', L, h0, X', hL, e1, e2, ⟨⟨r, M', hv, hp, hb⟩, hz, hk⟩, stp⟩ := hrun T hT' X
  cases hv
  rw [h0] at hz hk
  obtain ⟨t2, a1, b1⟩ := kk v M' T'.heap (locs ++ L) hp
    ⟨by rw [e1]; exact hb, world_D g M M' Dd, Nat.le_trans S.1 (by rw [e1]; exact hz), fun q h1 h2 => by rw [e1, hk q (Nat.lt_of_lt_of_le h1 S.1) (fun z => h2 (hAA q z))]; exact S.2.1 q h1 h2, fun q hq => by
      rcases List.mem_append.mp hq with h | h
      · exact S.2.2 q h
      · exact hAA _ (hL q h)⟩ T' rfl X'
  exact ⟨t2, stp t2 a1, b1⟩
end KL
/-- the class's call and then the model's give the same, and the relation is kept -/
def PairI (g : GG) (Rel : Mem → Prop) (μ ν : MD) (As : List Value) : Prop := ∀ M, Rel M → Spec g μ (ob g 0 :: As) M (fun r M1 => ∃ v : Int32, r = some (.int v) ∧ Spec g ν (ob g 25 :: As) M1 (fun r' M2 => r' = some (.int v) ∧ Rel M2))
def PairL (g : GG) (Rel : Mem → Prop) (μ ν : MD) (As : List Value) : Prop := ∀ M, Rel M → Spec g μ (ob g 0 :: As) M (fun r M1 => ∃ v : Int64, r = some (.long v) ∧ Spec g ν (ob g 25 :: As) M1 (fun r' M2 => r' = some (.long v) ∧ Rel M2))
def Pairs (g : GG) (Rel : Mem → Prop) : Prop := (∀ (a : Int64) (b : Int32), PairI g Rel mX6_type mX7_type [.long a, .int b]) ∧ (PairI g Rel mX6_clear mX7_clear []) ∧ (PairI g Rel mX6_moor mX7_moor []) ∧ (∀ a b : Int32, PairI g Rel mX6_cell mX7_cell [.int a, .int b]) ∧ (∀ a b : Int32, PairI g Rel mX6_walker mX7_walker [.int a, .int b]) ∧ (∀ a b : Int32, PairI g Rel mX6_passes mX7_passes [.int a, .int b]) ∧ (∀ a : Int32, PairI g Rel mX6_days mX7_days [.int a]) ∧ (∀ a : Int32, PairI g Rel mX6_now mX7_now [.int a]) ∧ (PairI g Rel mX6_anew mX7_anew []) ∧ (∀ a b : Int32, PairI g Rel mX6_steps mX7_steps [.int a, .int b]) ∧ (∀ a b c : Int32, PairI g Rel mX6_way mX7_way [.int a, .int b, .int c]) ∧ (∀ a b : Int32, PairI g Rel mX6_stones mX7_stones [.int a, .int b]) ∧ (∀ a b : Int32, PairI g Rel mX6_joined mX7_joined [.int a, .int b]) ∧ (∀ a : Int32, PairI g Rel mX6_likes mX7_likes [.int a]) ∧ (∀ a b : Int32, PairI g Rel mX6_byTurns mX7_byTurns [.int a, .int b]) ∧ (∀ a b : Int32, PairI g Rel mX6_apart mX7_apart [.int a, .int b]) ∧ (∀ a b : Int32, PairI g Rel mX6_rate mX7_rate [.int a, .int b]) ∧ (∀ a : Int32, PairI g Rel mX6_keep mX7_keep [.int a]) ∧ (∀ a : Int32, PairI g Rel mX6_back mX7_back [.int a]) ∧ (∀ a : Int32, PairI g Rel mX6_count mX7_count [.int a]) ∧ PairL g Rel mX6_trace mX7_trace []
abbrev LA (s : State) : Nat → Prop := fun q => s.heap.size ≤ q
/-- what stays, in the law's frame -/
def LC (g : GG) (p : Program) (s : State) (m : MethodId) (args : Array Value) (c : Code) (b L : Nat) (xs : Nat → Int32) : Prop :=
  KC RL cL_law 4 (LA s) (g_D g) (g_cI g) (g_cZ g) p s m args c ∧ EnvG g s ∧ Str g s s.heap ∧ va_X b L xs s s.heap ∧ b < s.heap.size ∧ L ≤ 256
theorem lc_in {i L k : Nat} (hL : L ≤ 256) (h : i + k < L) : vp_in (nI i + nI k) L := by
  rw [nI_add]
  exact vp_in_nI h (by omega)
theorem lcmp_same (x : Int64) : lg_cmp x x = 0 := by
  unfold lg_cmp
  simp
theorem law_top {L i : Nat} (hL : L ≤ 256) (h : ¬ (Int32.ofNat L - 4 < nI i)) (hi : i ≤ L) : i + 4 ≤ L := by
  refine Nat.le_of_not_lt fun hlt => h ?_
  rw [Int32.lt_iff_toInt_lt, nI_toInt (by omega), Int32.toInt_sub, show (Int32.ofNat L).toInt = (L : Int) from nI_toInt (by omega), show (4 : Int32).toInt = 4 by decide, Int.bmod_eq_of_le (by omega) (by omega)]
  omega
theorem sw_21 (x : Int32) : (x.toInt < 0 ∨ 20 < x.toInt) ∨ x.toInt = 0 ∨ x.toInt = 1 ∨ x.toInt = 2 ∨ x.toInt = 3 ∨ x.toInt = 4 ∨ x.toInt = 5 ∨ x.toInt = 6 ∨ x.toInt = 7 ∨ x.toInt = 8 ∨ x.toInt = 9 ∨ x.toInt = 10 ∨ x.toInt = 11 ∨ x.toInt = 12 ∨ x.toInt = 13 ∨ x.toInt = 14 ∨ x.toInt = 15 ∨ x.toInt = 16 ∨ x.toInt = 17 ∨ x.toInt = 18 ∨ x.toInt = 19 ∨ x.toInt = 20 := by omega
set_option maxHeartbeats 4000000 in
set_option maxRecDepth 100000 in
theorem law_type {p : Program} {g : GG} {e : Env} {s : State} {m : MethodId} {args : Array Value} {below : List Frame} {meth : Method} {c : Code} {b L i : Nat} {xs : Nat → Int32} {Q : State → Prop} {Rel : Mem → Prop} {M : Mem} {H : Heap} {locs : List Loc} {ls : Array Slot} (C0 : LC g p s m args c b L xs) (hi : i + 4 ≤ L) (hl : lv_has ls 4 [(0, .ref b), (1, ob g 0), (2, ob g 25), (3, .int (nI i))]) (hp : ∀ (a : Int64) (b : Int32), PairI g Rel mX6_type mX7_type [.long a, .int b]) (hR : Rel M) (S : KS (LA s) (g_D g) s (world g M) H locs)
    (hnext : ∀ (M2 : Mem) (H2 : Heap) (locs2 : List Loc), Rel M2 → KS (LA s) (g_D g) s (world g M2) H2 locs2 → W p (g_l g) e room_1 s m args below meth c H2 locs2 38 1738 Q (F0 m 726 ls [])) : W p (g_l g) e room_1 s m args below meth c H locs 38 1738 Q (F0 m 132 ls []) := by
  obtain ⟨C, hE, hT, hX, hbl, hL⟩ := C0
  have hbA : ¬ LA s b := Nat.not_le.mpr hbl
  refine lv_aload_n C.1 C.2.1 dL_law_132 rfl (lv_at hl 1 rfl) ?_
  refine lv_aload_n C.1 C.2.1 dL_law_133 rfl (lv_at hl 0 rfl) ?_
  refine lv_iload_n C.1 C.2.1 dL_law_134 rfl (lv_at hl 3 rfl) ?_
  refine lv_iconst (v := nI 1) C.1 C.2.1 dL_law_135 (by decide) ?_
  refine lv_iadd C.1 C.2.1 dL_law_136 ?_
  refine va_sld C.1 C.2.1 hX hbl hbA S.2.2 (lc_in hL (k := 1) (by omega)) dL_law_137 ?_
  refine lv_i2l C.1 C.2.1 dL_law_138 rfl ?_
  refine lv_bipush (v := 32) C.1 C.2.1 dL_law_139 (by decide) ?_
  refine lv_lshl C.1 C.2.1 dL_law_141 rfl ?_
  refine lv_aload_n C.1 C.2.1 dL_law_142 rfl (lv_at hl 0 rfl) ?_
  refine lv_iload_n C.1 C.2.1 dL_law_143 rfl (lv_at hl 3 rfl) ?_
  refine lv_iconst (v := nI 2) C.1 C.2.1 dL_law_144 (by decide) ?_
  refine lv_iadd C.1 C.2.1 dL_law_145 ?_
  refine va_sld C.1 C.2.1 hX hbl hbA S.2.2 (lc_in hL (k := 2) (by omega)) dL_law_146 ?_
  refine lv_i2l C.1 C.2.1 dL_law_147 rfl ?_
  refine lv_ldc2 C.1 C.2.1 C.2.2.2.1 (C.2.2.2.2.1 _ cnL_13) dL_law_148 ?_
  refine lv_land C.1 C.2.1 dL_law_151 ?_
  refine lv_lor C.1 C.2.1 dL_law_152 ?_
  refine lv_aload_n C.1 C.2.1 dL_law_153 rfl (lv_at hl 0 rfl) ?_
  refine lv_iload_n C.1 C.2.1 dL_law_154 rfl (lv_at hl 3 rfl) ?_
  refine lv_iconst (v := nI 3) C.1 C.2.1 dL_law_155 (by decide) ?_
  refine lv_iadd C.1 C.2.1 dL_law_156 ?_
  refine va_sld C.1 C.2.1 hX hbl hbA S.2.2 (lc_in hL (k := 3) (by omega)) dL_law_157 ?_
  refine k_call (g := g) (M := M) (μ' := mX6_type) (o := 0) (n := 2) (ci := 6) (As := [.long ((((xs (nI i + nI 1).toNatClampNeg)).toInt64 <<< (((32) : Int32).toInt64 &&& 63)) ||| (((xs (nI i + nI 2).toNatClampNeg)).toInt64 &&& (4294967295))), .int (xs (nI i + nI 3).toNatClampNeg)]) (rest := []) C S hE hT (fun _ h => h) dL_law_158 rfl mlL_15 cfX6_type ⟨Nat.le_of_ble_eq_true rfl, Nat.le_of_ble_eq_true rfl⟩ (Nat.le_of_ble_eq_true rfl) (Nat.le_of_ble_eq_true rfl) (hp _ _ M hR) (Nat.le_of_ble_eq_true rfl) rfl rfl rfl rfl rfl hl.1 (Nat.le_of_ble_eq_true rfl) (fun r M1 H locs hq S1 => ?_)
  obtain ⟨v, rfl, hs2⟩ := hq
  have S := S1
  refine lv_aload_n C.1 C.2.1 dL_law_161 rfl (lv_at hl 2 rfl) ?_
  refine lv_aload_n C.1 C.2.1 dL_law_162 rfl (lv_at hl 0 rfl) ?_
  refine lv_iload_n C.1 C.2.1 dL_law_163 rfl (lv_at hl 3 rfl) ?_
  refine lv_iconst (v := nI 1) C.1 C.2.1 dL_law_164 (by decide) ?_
  refine lv_iadd C.1 C.2.1 dL_law_165 ?_
  refine va_sld C.1 C.2.1 hX hbl hbA S.2.2 (lc_in hL (k := 1) (by omega)) dL_law_166 ?_
  refine lv_i2l C.1 C.2.1 dL_law_167 rfl ?_
  refine lv_bipush (v := 32) C.1 C.2.1 dL_law_168 (by decide) ?_
  refine lv_lshl C.1 C.2.1 dL_law_170 rfl ?_
  refine lv_aload_n C.1 C.2.1 dL_law_171 rfl (lv_at hl 0 rfl) ?_
  refine lv_iload_n C.1 C.2.1 dL_law_172 rfl (lv_at hl 3 rfl) ?_
  refine lv_iconst (v := nI 2) C.1 C.2.1 dL_law_173 (by decide) ?_
  refine lv_iadd C.1 C.2.1 dL_law_174 ?_
  refine va_sld C.1 C.2.1 hX hbl hbA S.2.2 (lc_in hL (k := 2) (by omega)) dL_law_175 ?_
  refine lv_i2l C.1 C.2.1 dL_law_176 rfl ?_
  refine lv_ldc2 C.1 C.2.1 C.2.2.2.1 (C.2.2.2.2.1 _ cnL_13) dL_law_177 ?_
  refine lv_land C.1 C.2.1 dL_law_180 ?_
  refine lv_lor C.1 C.2.1 dL_law_181 ?_
  refine lv_aload_n C.1 C.2.1 dL_law_182 rfl (lv_at hl 0 rfl) ?_
  refine lv_iload_n C.1 C.2.1 dL_law_183 rfl (lv_at hl 3 rfl) ?_
  refine lv_iconst (v := nI 3) C.1 C.2.1 dL_law_184 (by decide) ?_
  refine lv_iadd C.1 C.2.1 dL_law_185 ?_
  refine va_sld C.1 C.2.1 hX hbl hbA S.2.2 (lc_in hL (k := 3) (by omega)) dL_law_186 ?_
  refine k_call (g := g) (M := M1) (μ' := mX7_type) (o := 25) (n := 2) (ci := 7) (As := [.long ((((xs (nI i + nI 1).toNatClampNeg)).toInt64 <<< (((32) : Int32).toInt64 &&& 63)) ||| (((xs (nI i + nI 2).toNatClampNeg)).toInt64 &&& (4294967295))), .int (xs (nI i + nI 3).toNatClampNeg)]) (rest := [.int v]) C S hE hT (fun _ h => h) dL_law_187 rfl mlL_19 cfX7_type ⟨Nat.le_of_ble_eq_true rfl, Nat.le_of_ble_eq_true rfl⟩ (Nat.le_of_ble_eq_true rfl) (Nat.le_of_ble_eq_true rfl) hs2 (Nat.le_of_ble_eq_true rfl) rfl rfl rfl rfl rfl hl.1 (Nat.le_of_ble_eq_true rfl) (fun r M2 H locs hq S2 => ?_)
  obtain ⟨rfl, hR2⟩ := hq
  have S := S2
  refine lv_icmp_eq (tgt := 726) C.1 C.2.1 dL_law_190 (by decide) (fun _ => ?_) (fun h => absurd rfl h)
  exact hnext M2 _ _ hR2 S

set_option maxHeartbeats 4000000 in
set_option maxRecDepth 100000 in
theorem law_clear {p : Program} {g : GG} {e : Env} {s : State} {m : MethodId} {args : Array Value} {below : List Frame} {meth : Method} {c : Code} {b L i : Nat} {xs : Nat → Int32} {Q : State → Prop} {Rel : Mem → Prop} {M : Mem} {H : Heap} {locs : List Loc} {ls : Array Slot} (C0 : LC g p s m args c b L xs) (hi : i + 4 ≤ L) (hl : lv_has ls 4 [(0, .ref b), (1, ob g 0), (2, ob g 25), (3, .int (nI i))]) (hp : PairI g Rel mX6_clear mX7_clear []) (hR : Rel M) (S : KS (LA s) (g_D g) s (world g M) H locs)
    (hnext : ∀ (M2 : Mem) (H2 : Heap) (locs2 : List Loc), Rel M2 → KS (LA s) (g_D g) s (world g M2) H2 locs2 → W p (g_l g) e room_1 s m args below meth c H2 locs2 38 1738 Q (F0 m 726 ls [])) : W p (g_l g) e room_1 s m args below meth c H locs 38 1738 Q (F0 m 195 ls []) := by
  obtain ⟨C, hE, hT, hX, hbl, hL⟩ := C0
  have hbA : ¬ LA s b := Nat.not_le.mpr hbl
  refine lv_aload_n C.1 C.2.1 dL_law_195 rfl (lv_at hl 1 rfl) ?_
  refine k_call (g := g) (M := M) (μ' := mX6_clear) (o := 0) (n := 0) (ci := 6) (As := []) (rest := []) C S hE hT (fun _ h => h) dL_law_196 rfl mlL_20 cfX6_clear ⟨Nat.le_of_ble_eq_true rfl, Nat.le_of_ble_eq_true rfl⟩ (Nat.le_of_ble_eq_true rfl) (Nat.le_of_ble_eq_true rfl) (hp  M hR) (Nat.le_of_ble_eq_true rfl) rfl rfl rfl rfl rfl hl.1 (Nat.le_of_ble_eq_true rfl) (fun r M1 H locs hq S1 => ?_)
  obtain ⟨v, rfl, hs2⟩ := hq
  have S := S1
  refine lv_aload_n C.1 C.2.1 dL_law_199 rfl (lv_at hl 2 rfl) ?_
  refine k_call (g := g) (M := M1) (μ' := mX7_clear) (o := 25) (n := 0) (ci := 7) (As := []) (rest := [.int v]) C S hE hT (fun _ h => h) dL_law_200 rfl mlL_24 cfX7_clear ⟨Nat.le_of_ble_eq_true rfl, Nat.le_of_ble_eq_true rfl⟩ (Nat.le_of_ble_eq_true rfl) (Nat.le_of_ble_eq_true rfl) hs2 (Nat.le_of_ble_eq_true rfl) rfl rfl rfl rfl rfl hl.1 (Nat.le_of_ble_eq_true rfl) (fun r M2 H locs hq S2 => ?_)
  obtain ⟨rfl, hR2⟩ := hq
  have S := S2
  refine lv_icmp_eq (tgt := 726) C.1 C.2.1 dL_law_203 (by decide) (fun _ => ?_) (fun h => absurd rfl h)
  exact hnext M2 _ _ hR2 S

set_option maxHeartbeats 4000000 in
set_option maxRecDepth 100000 in
theorem law_moor {p : Program} {g : GG} {e : Env} {s : State} {m : MethodId} {args : Array Value} {below : List Frame} {meth : Method} {c : Code} {b L i : Nat} {xs : Nat → Int32} {Q : State → Prop} {Rel : Mem → Prop} {M : Mem} {H : Heap} {locs : List Loc} {ls : Array Slot} (C0 : LC g p s m args c b L xs) (hi : i + 4 ≤ L) (hl : lv_has ls 4 [(0, .ref b), (1, ob g 0), (2, ob g 25), (3, .int (nI i))]) (hp : PairI g Rel mX6_moor mX7_moor []) (hR : Rel M) (S : KS (LA s) (g_D g) s (world g M) H locs)
    (hnext : ∀ (M2 : Mem) (H2 : Heap) (locs2 : List Loc), Rel M2 → KS (LA s) (g_D g) s (world g M2) H2 locs2 → W p (g_l g) e room_1 s m args below meth c H2 locs2 38 1738 Q (F0 m 726 ls [])) : W p (g_l g) e room_1 s m args below meth c H locs 38 1738 Q (F0 m 208 ls []) := by
  obtain ⟨C, hE, hT, hX, hbl, hL⟩ := C0
  have hbA : ¬ LA s b := Nat.not_le.mpr hbl
  refine lv_aload_n C.1 C.2.1 dL_law_208 rfl (lv_at hl 1 rfl) ?_
  refine k_call (g := g) (M := M) (μ' := mX6_moor) (o := 0) (n := 0) (ci := 6) (As := []) (rest := []) C S hE hT (fun _ h => h) dL_law_209 rfl mlL_25 cfX6_moor ⟨Nat.le_of_ble_eq_true rfl, Nat.le_of_ble_eq_true rfl⟩ (Nat.le_of_ble_eq_true rfl) (Nat.le_of_ble_eq_true rfl) (hp  M hR) (Nat.le_of_ble_eq_true rfl) rfl rfl rfl rfl rfl hl.1 (Nat.le_of_ble_eq_true rfl) (fun r M1 H locs hq S1 => ?_)
  obtain ⟨v, rfl, hs2⟩ := hq
  have S := S1
  refine lv_aload_n C.1 C.2.1 dL_law_212 rfl (lv_at hl 2 rfl) ?_
  refine k_call (g := g) (M := M1) (μ' := mX7_moor) (o := 25) (n := 0) (ci := 7) (As := []) (rest := [.int v]) C S hE hT (fun _ h => h) dL_law_213 rfl mlL_28 cfX7_moor ⟨Nat.le_of_ble_eq_true rfl, Nat.le_of_ble_eq_true rfl⟩ (Nat.le_of_ble_eq_true rfl) (Nat.le_of_ble_eq_true rfl) hs2 (Nat.le_of_ble_eq_true rfl) rfl rfl rfl rfl rfl hl.1 (Nat.le_of_ble_eq_true rfl) (fun r M2 H locs hq S2 => ?_)
  obtain ⟨rfl, hR2⟩ := hq
  have S := S2
  refine lv_icmp_eq (tgt := 726) C.1 C.2.1 dL_law_216 (by decide) (fun _ => ?_) (fun h => absurd rfl h)
  exact hnext M2 _ _ hR2 S

set_option maxHeartbeats 4000000 in
set_option maxRecDepth 100000 in
theorem law_cell {p : Program} {g : GG} {e : Env} {s : State} {m : MethodId} {args : Array Value} {below : List Frame} {meth : Method} {c : Code} {b L i : Nat} {xs : Nat → Int32} {Q : State → Prop} {Rel : Mem → Prop} {M : Mem} {H : Heap} {locs : List Loc} {ls : Array Slot} (C0 : LC g p s m args c b L xs) (hi : i + 4 ≤ L) (hl : lv_has ls 4 [(0, .ref b), (1, ob g 0), (2, ob g 25), (3, .int (nI i))]) (hp : ∀ a b : Int32, PairI g Rel mX6_cell mX7_cell [.int a, .int b]) (hR : Rel M) (S : KS (LA s) (g_D g) s (world g M) H locs)
    (hnext : ∀ (M2 : Mem) (H2 : Heap) (locs2 : List Loc), Rel M2 → KS (LA s) (g_D g) s (world g M2) H2 locs2 → W p (g_l g) e room_1 s m args below meth c H2 locs2 38 1738 Q (F0 m 726 ls [])) : W p (g_l g) e room_1 s m args below meth c H locs 38 1738 Q (F0 m 221 ls []) := by
  obtain ⟨C, hE, hT, hX, hbl, hL⟩ := C0
  have hbA : ¬ LA s b := Nat.not_le.mpr hbl
  refine lv_aload_n C.1 C.2.1 dL_law_221 rfl (lv_at hl 1 rfl) ?_
  refine lv_aload_n C.1 C.2.1 dL_law_222 rfl (lv_at hl 0 rfl) ?_
  refine lv_iload_n C.1 C.2.1 dL_law_223 rfl (lv_at hl 3 rfl) ?_
  refine lv_iconst (v := nI 1) C.1 C.2.1 dL_law_224 (by decide) ?_
  refine lv_iadd C.1 C.2.1 dL_law_225 ?_
  refine va_sld C.1 C.2.1 hX hbl hbA S.2.2 (lc_in hL (k := 1) (by omega)) dL_law_226 ?_
  refine lv_aload_n C.1 C.2.1 dL_law_227 rfl (lv_at hl 0 rfl) ?_
  refine lv_iload_n C.1 C.2.1 dL_law_228 rfl (lv_at hl 3 rfl) ?_
  refine lv_iconst (v := nI 2) C.1 C.2.1 dL_law_229 (by decide) ?_
  refine lv_iadd C.1 C.2.1 dL_law_230 ?_
  refine va_sld C.1 C.2.1 hX hbl hbA S.2.2 (lc_in hL (k := 2) (by omega)) dL_law_231 ?_
  refine k_call (g := g) (M := M) (μ' := mX6_cell) (o := 0) (n := 2) (ci := 6) (As := [.int (xs (nI i + nI 1).toNatClampNeg), .int (xs (nI i + nI 2).toNatClampNeg)]) (rest := []) C S hE hT (fun _ h => h) dL_law_232 rfl mlL_29 cfX6_cell ⟨Nat.le_of_ble_eq_true rfl, Nat.le_of_ble_eq_true rfl⟩ (Nat.le_of_ble_eq_true rfl) (Nat.le_of_ble_eq_true rfl) (hp _ _ M hR) (Nat.le_of_ble_eq_true rfl) rfl rfl rfl rfl rfl hl.1 (Nat.le_of_ble_eq_true rfl) (fun r M1 H locs hq S1 => ?_)
  obtain ⟨v, rfl, hs2⟩ := hq
  have S := S1
  refine lv_aload_n C.1 C.2.1 dL_law_235 rfl (lv_at hl 2 rfl) ?_
  refine lv_aload_n C.1 C.2.1 dL_law_236 rfl (lv_at hl 0 rfl) ?_
  refine lv_iload_n C.1 C.2.1 dL_law_237 rfl (lv_at hl 3 rfl) ?_
  refine lv_iconst (v := nI 1) C.1 C.2.1 dL_law_238 (by decide) ?_
  refine lv_iadd C.1 C.2.1 dL_law_239 ?_
  refine va_sld C.1 C.2.1 hX hbl hbA S.2.2 (lc_in hL (k := 1) (by omega)) dL_law_240 ?_
  refine lv_aload_n C.1 C.2.1 dL_law_241 rfl (lv_at hl 0 rfl) ?_
  refine lv_iload_n C.1 C.2.1 dL_law_242 rfl (lv_at hl 3 rfl) ?_
  refine lv_iconst (v := nI 2) C.1 C.2.1 dL_law_243 (by decide) ?_
  refine lv_iadd C.1 C.2.1 dL_law_244 ?_
  refine va_sld C.1 C.2.1 hX hbl hbA S.2.2 (lc_in hL (k := 2) (by omega)) dL_law_245 ?_
  refine k_call (g := g) (M := M1) (μ' := mX7_cell) (o := 25) (n := 2) (ci := 7) (As := [.int (xs (nI i + nI 1).toNatClampNeg), .int (xs (nI i + nI 2).toNatClampNeg)]) (rest := [.int v]) C S hE hT (fun _ h => h) dL_law_246 rfl mlL_33 cfX7_cell ⟨Nat.le_of_ble_eq_true rfl, Nat.le_of_ble_eq_true rfl⟩ (Nat.le_of_ble_eq_true rfl) (Nat.le_of_ble_eq_true rfl) hs2 (Nat.le_of_ble_eq_true rfl) rfl rfl rfl rfl rfl hl.1 (Nat.le_of_ble_eq_true rfl) (fun r M2 H locs hq S2 => ?_)
  obtain ⟨rfl, hR2⟩ := hq
  have S := S2
  refine lv_icmp_eq (tgt := 726) C.1 C.2.1 dL_law_249 (by decide) (fun _ => ?_) (fun h => absurd rfl h)
  exact hnext M2 _ _ hR2 S

set_option maxHeartbeats 4000000 in
set_option maxRecDepth 100000 in
theorem law_walker {p : Program} {g : GG} {e : Env} {s : State} {m : MethodId} {args : Array Value} {below : List Frame} {meth : Method} {c : Code} {b L i : Nat} {xs : Nat → Int32} {Q : State → Prop} {Rel : Mem → Prop} {M : Mem} {H : Heap} {locs : List Loc} {ls : Array Slot} (C0 : LC g p s m args c b L xs) (hi : i + 4 ≤ L) (hl : lv_has ls 4 [(0, .ref b), (1, ob g 0), (2, ob g 25), (3, .int (nI i))]) (hp : ∀ a b : Int32, PairI g Rel mX6_walker mX7_walker [.int a, .int b]) (hR : Rel M) (S : KS (LA s) (g_D g) s (world g M) H locs)
    (hnext : ∀ (M2 : Mem) (H2 : Heap) (locs2 : List Loc), Rel M2 → KS (LA s) (g_D g) s (world g M2) H2 locs2 → W p (g_l g) e room_1 s m args below meth c H2 locs2 38 1738 Q (F0 m 726 ls [])) : W p (g_l g) e room_1 s m args below meth c H locs 38 1738 Q (F0 m 254 ls []) := by
  obtain ⟨C, hE, hT, hX, hbl, hL⟩ := C0
  have hbA : ¬ LA s b := Nat.not_le.mpr hbl
  refine lv_aload_n C.1 C.2.1 dL_law_254 rfl (lv_at hl 1 rfl) ?_
  refine lv_aload_n C.1 C.2.1 dL_law_255 rfl (lv_at hl 0 rfl) ?_
  refine lv_iload_n C.1 C.2.1 dL_law_256 rfl (lv_at hl 3 rfl) ?_
  refine lv_iconst (v := nI 1) C.1 C.2.1 dL_law_257 (by decide) ?_
  refine lv_iadd C.1 C.2.1 dL_law_258 ?_
  refine va_sld C.1 C.2.1 hX hbl hbA S.2.2 (lc_in hL (k := 1) (by omega)) dL_law_259 ?_
  refine lv_aload_n C.1 C.2.1 dL_law_260 rfl (lv_at hl 0 rfl) ?_
  refine lv_iload_n C.1 C.2.1 dL_law_261 rfl (lv_at hl 3 rfl) ?_
  refine lv_iconst (v := nI 2) C.1 C.2.1 dL_law_262 (by decide) ?_
  refine lv_iadd C.1 C.2.1 dL_law_263 ?_
  refine va_sld C.1 C.2.1 hX hbl hbA S.2.2 (lc_in hL (k := 2) (by omega)) dL_law_264 ?_
  refine k_call (g := g) (M := M) (μ' := mX6_walker) (o := 0) (n := 2) (ci := 6) (As := [.int (xs (nI i + nI 1).toNatClampNeg), .int (xs (nI i + nI 2).toNatClampNeg)]) (rest := []) C S hE hT (fun _ h => h) dL_law_265 rfl mlL_34 cfX6_walker ⟨Nat.le_of_ble_eq_true rfl, Nat.le_of_ble_eq_true rfl⟩ (Nat.le_of_ble_eq_true rfl) (Nat.le_of_ble_eq_true rfl) (hp _ _ M hR) (Nat.le_of_ble_eq_true rfl) rfl rfl rfl rfl rfl hl.1 (Nat.le_of_ble_eq_true rfl) (fun r M1 H locs hq S1 => ?_)
  obtain ⟨v, rfl, hs2⟩ := hq
  have S := S1
  refine lv_aload_n C.1 C.2.1 dL_law_268 rfl (lv_at hl 2 rfl) ?_
  refine lv_aload_n C.1 C.2.1 dL_law_269 rfl (lv_at hl 0 rfl) ?_
  refine lv_iload_n C.1 C.2.1 dL_law_270 rfl (lv_at hl 3 rfl) ?_
  refine lv_iconst (v := nI 1) C.1 C.2.1 dL_law_271 (by decide) ?_
  refine lv_iadd C.1 C.2.1 dL_law_272 ?_
  refine va_sld C.1 C.2.1 hX hbl hbA S.2.2 (lc_in hL (k := 1) (by omega)) dL_law_273 ?_
  refine lv_aload_n C.1 C.2.1 dL_law_274 rfl (lv_at hl 0 rfl) ?_
  refine lv_iload_n C.1 C.2.1 dL_law_275 rfl (lv_at hl 3 rfl) ?_
  refine lv_iconst (v := nI 2) C.1 C.2.1 dL_law_276 (by decide) ?_
  refine lv_iadd C.1 C.2.1 dL_law_277 ?_
  refine va_sld C.1 C.2.1 hX hbl hbA S.2.2 (lc_in hL (k := 2) (by omega)) dL_law_278 ?_
  refine k_call (g := g) (M := M1) (μ' := mX7_walker) (o := 25) (n := 2) (ci := 7) (As := [.int (xs (nI i + nI 1).toNatClampNeg), .int (xs (nI i + nI 2).toNatClampNeg)]) (rest := [.int v]) C S hE hT (fun _ h => h) dL_law_279 rfl mlL_37 cfX7_walker ⟨Nat.le_of_ble_eq_true rfl, Nat.le_of_ble_eq_true rfl⟩ (Nat.le_of_ble_eq_true rfl) (Nat.le_of_ble_eq_true rfl) hs2 (Nat.le_of_ble_eq_true rfl) rfl rfl rfl rfl rfl hl.1 (Nat.le_of_ble_eq_true rfl) (fun r M2 H locs hq S2 => ?_)
  obtain ⟨rfl, hR2⟩ := hq
  have S := S2
  refine lv_icmp_eq (tgt := 726) C.1 C.2.1 dL_law_282 (by decide) (fun _ => ?_) (fun h => absurd rfl h)
  exact hnext M2 _ _ hR2 S

set_option maxHeartbeats 4000000 in
set_option maxRecDepth 100000 in
theorem law_passes {p : Program} {g : GG} {e : Env} {s : State} {m : MethodId} {args : Array Value} {below : List Frame} {meth : Method} {c : Code} {b L i : Nat} {xs : Nat → Int32} {Q : State → Prop} {Rel : Mem → Prop} {M : Mem} {H : Heap} {locs : List Loc} {ls : Array Slot} (C0 : LC g p s m args c b L xs) (hi : i + 4 ≤ L) (hl : lv_has ls 4 [(0, .ref b), (1, ob g 0), (2, ob g 25), (3, .int (nI i))]) (hp : ∀ a b : Int32, PairI g Rel mX6_passes mX7_passes [.int a, .int b]) (hR : Rel M) (S : KS (LA s) (g_D g) s (world g M) H locs)
    (hnext : ∀ (M2 : Mem) (H2 : Heap) (locs2 : List Loc), Rel M2 → KS (LA s) (g_D g) s (world g M2) H2 locs2 → W p (g_l g) e room_1 s m args below meth c H2 locs2 38 1738 Q (F0 m 726 ls [])) : W p (g_l g) e room_1 s m args below meth c H locs 38 1738 Q (F0 m 287 ls []) := by
  obtain ⟨C, hE, hT, hX, hbl, hL⟩ := C0
  have hbA : ¬ LA s b := Nat.not_le.mpr hbl
  refine lv_aload_n C.1 C.2.1 dL_law_287 rfl (lv_at hl 1 rfl) ?_
  refine lv_aload_n C.1 C.2.1 dL_law_288 rfl (lv_at hl 0 rfl) ?_
  refine lv_iload_n C.1 C.2.1 dL_law_289 rfl (lv_at hl 3 rfl) ?_
  refine lv_iconst (v := nI 1) C.1 C.2.1 dL_law_290 (by decide) ?_
  refine lv_iadd C.1 C.2.1 dL_law_291 ?_
  refine va_sld C.1 C.2.1 hX hbl hbA S.2.2 (lc_in hL (k := 1) (by omega)) dL_law_292 ?_
  refine lv_aload_n C.1 C.2.1 dL_law_293 rfl (lv_at hl 0 rfl) ?_
  refine lv_iload_n C.1 C.2.1 dL_law_294 rfl (lv_at hl 3 rfl) ?_
  refine lv_iconst (v := nI 2) C.1 C.2.1 dL_law_295 (by decide) ?_
  refine lv_iadd C.1 C.2.1 dL_law_296 ?_
  refine va_sld C.1 C.2.1 hX hbl hbA S.2.2 (lc_in hL (k := 2) (by omega)) dL_law_297 ?_
  refine k_call (g := g) (M := M) (μ' := mX6_passes) (o := 0) (n := 2) (ci := 6) (As := [.int (xs (nI i + nI 1).toNatClampNeg), .int (xs (nI i + nI 2).toNatClampNeg)]) (rest := []) C S hE hT (fun _ h => h) dL_law_298 rfl mlL_38 cfX6_passes ⟨Nat.le_of_ble_eq_true rfl, Nat.le_of_ble_eq_true rfl⟩ (Nat.le_of_ble_eq_true rfl) (Nat.le_of_ble_eq_true rfl) (hp _ _ M hR) (Nat.le_of_ble_eq_true rfl) rfl rfl rfl rfl rfl hl.1 (Nat.le_of_ble_eq_true rfl) (fun r M1 H locs hq S1 => ?_)
  obtain ⟨v, rfl, hs2⟩ := hq
  have S := S1
  refine lv_aload_n C.1 C.2.1 dL_law_301 rfl (lv_at hl 2 rfl) ?_
  refine lv_aload_n C.1 C.2.1 dL_law_302 rfl (lv_at hl 0 rfl) ?_
  refine lv_iload_n C.1 C.2.1 dL_law_303 rfl (lv_at hl 3 rfl) ?_
  refine lv_iconst (v := nI 1) C.1 C.2.1 dL_law_304 (by decide) ?_
  refine lv_iadd C.1 C.2.1 dL_law_305 ?_
  refine va_sld C.1 C.2.1 hX hbl hbA S.2.2 (lc_in hL (k := 1) (by omega)) dL_law_306 ?_
  refine lv_aload_n C.1 C.2.1 dL_law_307 rfl (lv_at hl 0 rfl) ?_
  refine lv_iload_n C.1 C.2.1 dL_law_308 rfl (lv_at hl 3 rfl) ?_
  refine lv_iconst (v := nI 2) C.1 C.2.1 dL_law_309 (by decide) ?_
  refine lv_iadd C.1 C.2.1 dL_law_310 ?_
  refine va_sld C.1 C.2.1 hX hbl hbA S.2.2 (lc_in hL (k := 2) (by omega)) dL_law_311 ?_
  refine k_call (g := g) (M := M1) (μ' := mX7_passes) (o := 25) (n := 2) (ci := 7) (As := [.int (xs (nI i + nI 1).toNatClampNeg), .int (xs (nI i + nI 2).toNatClampNeg)]) (rest := [.int v]) C S hE hT (fun _ h => h) dL_law_312 rfl mlL_41 cfX7_passes ⟨Nat.le_of_ble_eq_true rfl, Nat.le_of_ble_eq_true rfl⟩ (Nat.le_of_ble_eq_true rfl) (Nat.le_of_ble_eq_true rfl) hs2 (Nat.le_of_ble_eq_true rfl) rfl rfl rfl rfl rfl hl.1 (Nat.le_of_ble_eq_true rfl) (fun r M2 H locs hq S2 => ?_)
  obtain ⟨rfl, hR2⟩ := hq
  have S := S2
  refine lv_icmp_eq (tgt := 726) C.1 C.2.1 dL_law_315 (by decide) (fun _ => ?_) (fun h => absurd rfl h)
  exact hnext M2 _ _ hR2 S

set_option maxHeartbeats 4000000 in
set_option maxRecDepth 100000 in
theorem law_days {p : Program} {g : GG} {e : Env} {s : State} {m : MethodId} {args : Array Value} {below : List Frame} {meth : Method} {c : Code} {b L i : Nat} {xs : Nat → Int32} {Q : State → Prop} {Rel : Mem → Prop} {M : Mem} {H : Heap} {locs : List Loc} {ls : Array Slot} (C0 : LC g p s m args c b L xs) (hi : i + 4 ≤ L) (hl : lv_has ls 4 [(0, .ref b), (1, ob g 0), (2, ob g 25), (3, .int (nI i))]) (hp : ∀ a : Int32, PairI g Rel mX6_days mX7_days [.int a]) (hR : Rel M) (S : KS (LA s) (g_D g) s (world g M) H locs)
    (hnext : ∀ (M2 : Mem) (H2 : Heap) (locs2 : List Loc), Rel M2 → KS (LA s) (g_D g) s (world g M2) H2 locs2 → W p (g_l g) e room_1 s m args below meth c H2 locs2 38 1738 Q (F0 m 726 ls [])) : W p (g_l g) e room_1 s m args below meth c H locs 38 1738 Q (F0 m 320 ls []) := by
  obtain ⟨C, hE, hT, hX, hbl, hL⟩ := C0
  have hbA : ¬ LA s b := Nat.not_le.mpr hbl
  refine lv_aload_n C.1 C.2.1 dL_law_320 rfl (lv_at hl 1 rfl) ?_
  refine lv_aload_n C.1 C.2.1 dL_law_321 rfl (lv_at hl 0 rfl) ?_
  refine lv_iload_n C.1 C.2.1 dL_law_322 rfl (lv_at hl 3 rfl) ?_
  refine lv_iconst (v := nI 1) C.1 C.2.1 dL_law_323 (by decide) ?_
  refine lv_iadd C.1 C.2.1 dL_law_324 ?_
  refine va_sld C.1 C.2.1 hX hbl hbA S.2.2 (lc_in hL (k := 1) (by omega)) dL_law_325 ?_
  refine k_call (g := g) (M := M) (μ' := mX6_days) (o := 0) (n := 1) (ci := 6) (As := [.int (xs (nI i + nI 1).toNatClampNeg)]) (rest := []) C S hE hT (fun _ h => h) dL_law_326 rfl mlL_42 cfX6_days ⟨Nat.le_of_ble_eq_true rfl, Nat.le_of_ble_eq_true rfl⟩ (Nat.le_of_ble_eq_true rfl) (Nat.le_of_ble_eq_true rfl) (hp _ M hR) (Nat.le_of_ble_eq_true rfl) rfl rfl rfl rfl rfl hl.1 (Nat.le_of_ble_eq_true rfl) (fun r M1 H locs hq S1 => ?_)
  obtain ⟨v, rfl, hs2⟩ := hq
  have S := S1
  refine lv_aload_n C.1 C.2.1 dL_law_329 rfl (lv_at hl 2 rfl) ?_
  refine lv_aload_n C.1 C.2.1 dL_law_330 rfl (lv_at hl 0 rfl) ?_
  refine lv_iload_n C.1 C.2.1 dL_law_331 rfl (lv_at hl 3 rfl) ?_
  refine lv_iconst (v := nI 1) C.1 C.2.1 dL_law_332 (by decide) ?_
  refine lv_iadd C.1 C.2.1 dL_law_333 ?_
  refine va_sld C.1 C.2.1 hX hbl hbA S.2.2 (lc_in hL (k := 1) (by omega)) dL_law_334 ?_
  refine k_call (g := g) (M := M1) (μ' := mX7_days) (o := 25) (n := 1) (ci := 7) (As := [.int (xs (nI i + nI 1).toNatClampNeg)]) (rest := [.int v]) C S hE hT (fun _ h => h) dL_law_335 rfl mlL_46 cfX7_days ⟨Nat.le_of_ble_eq_true rfl, Nat.le_of_ble_eq_true rfl⟩ (Nat.le_of_ble_eq_true rfl) (Nat.le_of_ble_eq_true rfl) hs2 (Nat.le_of_ble_eq_true rfl) rfl rfl rfl rfl rfl hl.1 (Nat.le_of_ble_eq_true rfl) (fun r M2 H locs hq S2 => ?_)
  obtain ⟨rfl, hR2⟩ := hq
  have S := S2
  refine lv_icmp_eq (tgt := 726) C.1 C.2.1 dL_law_338 (by decide) (fun _ => ?_) (fun h => absurd rfl h)
  exact hnext M2 _ _ hR2 S

set_option maxHeartbeats 4000000 in
set_option maxRecDepth 100000 in
theorem law_now {p : Program} {g : GG} {e : Env} {s : State} {m : MethodId} {args : Array Value} {below : List Frame} {meth : Method} {c : Code} {b L i : Nat} {xs : Nat → Int32} {Q : State → Prop} {Rel : Mem → Prop} {M : Mem} {H : Heap} {locs : List Loc} {ls : Array Slot} (C0 : LC g p s m args c b L xs) (hi : i + 4 ≤ L) (hl : lv_has ls 4 [(0, .ref b), (1, ob g 0), (2, ob g 25), (3, .int (nI i))]) (hp : ∀ a : Int32, PairI g Rel mX6_now mX7_now [.int a]) (hR : Rel M) (S : KS (LA s) (g_D g) s (world g M) H locs)
    (hnext : ∀ (M2 : Mem) (H2 : Heap) (locs2 : List Loc), Rel M2 → KS (LA s) (g_D g) s (world g M2) H2 locs2 → W p (g_l g) e room_1 s m args below meth c H2 locs2 38 1738 Q (F0 m 726 ls [])) : W p (g_l g) e room_1 s m args below meth c H locs 38 1738 Q (F0 m 343 ls []) := by
  obtain ⟨C, hE, hT, hX, hbl, hL⟩ := C0
  have hbA : ¬ LA s b := Nat.not_le.mpr hbl
  refine lv_aload_n C.1 C.2.1 dL_law_343 rfl (lv_at hl 1 rfl) ?_
  refine lv_aload_n C.1 C.2.1 dL_law_344 rfl (lv_at hl 0 rfl) ?_
  refine lv_iload_n C.1 C.2.1 dL_law_345 rfl (lv_at hl 3 rfl) ?_
  refine lv_iconst (v := nI 1) C.1 C.2.1 dL_law_346 (by decide) ?_
  refine lv_iadd C.1 C.2.1 dL_law_347 ?_
  refine va_sld C.1 C.2.1 hX hbl hbA S.2.2 (lc_in hL (k := 1) (by omega)) dL_law_348 ?_
  refine k_call (g := g) (M := M) (μ' := mX6_now) (o := 0) (n := 1) (ci := 6) (As := [.int (xs (nI i + nI 1).toNatClampNeg)]) (rest := []) C S hE hT (fun _ h => h) dL_law_349 rfl mlL_47 cfX6_now ⟨Nat.le_of_ble_eq_true rfl, Nat.le_of_ble_eq_true rfl⟩ (Nat.le_of_ble_eq_true rfl) (Nat.le_of_ble_eq_true rfl) (hp _ M hR) (Nat.le_of_ble_eq_true rfl) rfl rfl rfl rfl rfl hl.1 (Nat.le_of_ble_eq_true rfl) (fun r M1 H locs hq S1 => ?_)
  obtain ⟨v, rfl, hs2⟩ := hq
  have S := S1
  refine lv_aload_n C.1 C.2.1 dL_law_352 rfl (lv_at hl 2 rfl) ?_
  refine lv_aload_n C.1 C.2.1 dL_law_353 rfl (lv_at hl 0 rfl) ?_
  refine lv_iload_n C.1 C.2.1 dL_law_354 rfl (lv_at hl 3 rfl) ?_
  refine lv_iconst (v := nI 1) C.1 C.2.1 dL_law_355 (by decide) ?_
  refine lv_iadd C.1 C.2.1 dL_law_356 ?_
  refine va_sld C.1 C.2.1 hX hbl hbA S.2.2 (lc_in hL (k := 1) (by omega)) dL_law_357 ?_
  refine k_call (g := g) (M := M1) (μ' := mX7_now) (o := 25) (n := 1) (ci := 7) (As := [.int (xs (nI i + nI 1).toNatClampNeg)]) (rest := [.int v]) C S hE hT (fun _ h => h) dL_law_358 rfl mlL_50 cfX7_now ⟨Nat.le_of_ble_eq_true rfl, Nat.le_of_ble_eq_true rfl⟩ (Nat.le_of_ble_eq_true rfl) (Nat.le_of_ble_eq_true rfl) hs2 (Nat.le_of_ble_eq_true rfl) rfl rfl rfl rfl rfl hl.1 (Nat.le_of_ble_eq_true rfl) (fun r M2 H locs hq S2 => ?_)
  obtain ⟨rfl, hR2⟩ := hq
  have S := S2
  refine lv_icmp_eq (tgt := 726) C.1 C.2.1 dL_law_361 (by decide) (fun _ => ?_) (fun h => absurd rfl h)
  exact hnext M2 _ _ hR2 S

set_option maxHeartbeats 4000000 in
set_option maxRecDepth 100000 in
theorem law_anew {p : Program} {g : GG} {e : Env} {s : State} {m : MethodId} {args : Array Value} {below : List Frame} {meth : Method} {c : Code} {b L i : Nat} {xs : Nat → Int32} {Q : State → Prop} {Rel : Mem → Prop} {M : Mem} {H : Heap} {locs : List Loc} {ls : Array Slot} (C0 : LC g p s m args c b L xs) (hi : i + 4 ≤ L) (hl : lv_has ls 4 [(0, .ref b), (1, ob g 0), (2, ob g 25), (3, .int (nI i))]) (hp : PairI g Rel mX6_anew mX7_anew []) (hR : Rel M) (S : KS (LA s) (g_D g) s (world g M) H locs)
    (hnext : ∀ (M2 : Mem) (H2 : Heap) (locs2 : List Loc), Rel M2 → KS (LA s) (g_D g) s (world g M2) H2 locs2 → W p (g_l g) e room_1 s m args below meth c H2 locs2 38 1738 Q (F0 m 726 ls [])) : W p (g_l g) e room_1 s m args below meth c H locs 38 1738 Q (F0 m 366 ls []) := by
  obtain ⟨C, hE, hT, hX, hbl, hL⟩ := C0
  have hbA : ¬ LA s b := Nat.not_le.mpr hbl
  refine lv_aload_n C.1 C.2.1 dL_law_366 rfl (lv_at hl 1 rfl) ?_
  refine k_call (g := g) (M := M) (μ' := mX6_anew) (o := 0) (n := 0) (ci := 6) (As := []) (rest := []) C S hE hT (fun _ h => h) dL_law_367 rfl mlL_51 cfX6_anew ⟨Nat.le_of_ble_eq_true rfl, Nat.le_of_ble_eq_true rfl⟩ (Nat.le_of_ble_eq_true rfl) (Nat.le_of_ble_eq_true rfl) (hp  M hR) (Nat.le_of_ble_eq_true rfl) rfl rfl rfl rfl rfl hl.1 (Nat.le_of_ble_eq_true rfl) (fun r M1 H locs hq S1 => ?_)
  obtain ⟨v, rfl, hs2⟩ := hq
  have S := S1
  refine lv_aload_n C.1 C.2.1 dL_law_370 rfl (lv_at hl 2 rfl) ?_
  refine k_call (g := g) (M := M1) (μ' := mX7_anew) (o := 25) (n := 0) (ci := 7) (As := []) (rest := [.int v]) C S hE hT (fun _ h => h) dL_law_371 rfl mlL_54 cfX7_anew ⟨Nat.le_of_ble_eq_true rfl, Nat.le_of_ble_eq_true rfl⟩ (Nat.le_of_ble_eq_true rfl) (Nat.le_of_ble_eq_true rfl) hs2 (Nat.le_of_ble_eq_true rfl) rfl rfl rfl rfl rfl hl.1 (Nat.le_of_ble_eq_true rfl) (fun r M2 H locs hq S2 => ?_)
  obtain ⟨rfl, hR2⟩ := hq
  have S := S2
  refine lv_icmp_eq (tgt := 726) C.1 C.2.1 dL_law_374 (by decide) (fun _ => ?_) (fun h => absurd rfl h)
  exact hnext M2 _ _ hR2 S

set_option maxHeartbeats 4000000 in
set_option maxRecDepth 100000 in
theorem law_steps {p : Program} {g : GG} {e : Env} {s : State} {m : MethodId} {args : Array Value} {below : List Frame} {meth : Method} {c : Code} {b L i : Nat} {xs : Nat → Int32} {Q : State → Prop} {Rel : Mem → Prop} {M : Mem} {H : Heap} {locs : List Loc} {ls : Array Slot} (C0 : LC g p s m args c b L xs) (hi : i + 4 ≤ L) (hl : lv_has ls 4 [(0, .ref b), (1, ob g 0), (2, ob g 25), (3, .int (nI i))]) (hp : ∀ a b : Int32, PairI g Rel mX6_steps mX7_steps [.int a, .int b]) (hR : Rel M) (S : KS (LA s) (g_D g) s (world g M) H locs)
    (hnext : ∀ (M2 : Mem) (H2 : Heap) (locs2 : List Loc), Rel M2 → KS (LA s) (g_D g) s (world g M2) H2 locs2 → W p (g_l g) e room_1 s m args below meth c H2 locs2 38 1738 Q (F0 m 726 ls [])) : W p (g_l g) e room_1 s m args below meth c H locs 38 1738 Q (F0 m 379 ls []) := by
  obtain ⟨C, hE, hT, hX, hbl, hL⟩ := C0
  have hbA : ¬ LA s b := Nat.not_le.mpr hbl
  refine lv_aload_n C.1 C.2.1 dL_law_379 rfl (lv_at hl 1 rfl) ?_
  refine lv_aload_n C.1 C.2.1 dL_law_380 rfl (lv_at hl 0 rfl) ?_
  refine lv_iload_n C.1 C.2.1 dL_law_381 rfl (lv_at hl 3 rfl) ?_
  refine lv_iconst (v := nI 1) C.1 C.2.1 dL_law_382 (by decide) ?_
  refine lv_iadd C.1 C.2.1 dL_law_383 ?_
  refine va_sld C.1 C.2.1 hX hbl hbA S.2.2 (lc_in hL (k := 1) (by omega)) dL_law_384 ?_
  refine lv_aload_n C.1 C.2.1 dL_law_385 rfl (lv_at hl 0 rfl) ?_
  refine lv_iload_n C.1 C.2.1 dL_law_386 rfl (lv_at hl 3 rfl) ?_
  refine lv_iconst (v := nI 2) C.1 C.2.1 dL_law_387 (by decide) ?_
  refine lv_iadd C.1 C.2.1 dL_law_388 ?_
  refine va_sld C.1 C.2.1 hX hbl hbA S.2.2 (lc_in hL (k := 2) (by omega)) dL_law_389 ?_
  refine k_call (g := g) (M := M) (μ' := mX6_steps) (o := 0) (n := 2) (ci := 6) (As := [.int (xs (nI i + nI 1).toNatClampNeg), .int (xs (nI i + nI 2).toNatClampNeg)]) (rest := []) C S hE hT (fun _ h => h) dL_law_390 rfl mlL_55 cfX6_steps ⟨Nat.le_of_ble_eq_true rfl, Nat.le_of_ble_eq_true rfl⟩ (Nat.le_of_ble_eq_true rfl) (Nat.le_of_ble_eq_true rfl) (hp _ _ M hR) (Nat.le_of_ble_eq_true rfl) rfl rfl rfl rfl rfl hl.1 (Nat.le_of_ble_eq_true rfl) (fun r M1 H locs hq S1 => ?_)
  obtain ⟨v, rfl, hs2⟩ := hq
  have S := S1
  refine lv_aload_n C.1 C.2.1 dL_law_393 rfl (lv_at hl 2 rfl) ?_
  refine lv_aload_n C.1 C.2.1 dL_law_394 rfl (lv_at hl 0 rfl) ?_
  refine lv_iload_n C.1 C.2.1 dL_law_395 rfl (lv_at hl 3 rfl) ?_
  refine lv_iconst (v := nI 1) C.1 C.2.1 dL_law_396 (by decide) ?_
  refine lv_iadd C.1 C.2.1 dL_law_397 ?_
  refine va_sld C.1 C.2.1 hX hbl hbA S.2.2 (lc_in hL (k := 1) (by omega)) dL_law_398 ?_
  refine lv_aload_n C.1 C.2.1 dL_law_399 rfl (lv_at hl 0 rfl) ?_
  refine lv_iload_n C.1 C.2.1 dL_law_400 rfl (lv_at hl 3 rfl) ?_
  refine lv_iconst (v := nI 2) C.1 C.2.1 dL_law_401 (by decide) ?_
  refine lv_iadd C.1 C.2.1 dL_law_402 ?_
  refine va_sld C.1 C.2.1 hX hbl hbA S.2.2 (lc_in hL (k := 2) (by omega)) dL_law_403 ?_
  refine k_call (g := g) (M := M1) (μ' := mX7_steps) (o := 25) (n := 2) (ci := 7) (As := [.int (xs (nI i + nI 1).toNatClampNeg), .int (xs (nI i + nI 2).toNatClampNeg)]) (rest := [.int v]) C S hE hT (fun _ h => h) dL_law_404 rfl mlL_58 cfX7_steps ⟨Nat.le_of_ble_eq_true rfl, Nat.le_of_ble_eq_true rfl⟩ (Nat.le_of_ble_eq_true rfl) (Nat.le_of_ble_eq_true rfl) hs2 (Nat.le_of_ble_eq_true rfl) rfl rfl rfl rfl rfl hl.1 (Nat.le_of_ble_eq_true rfl) (fun r M2 H locs hq S2 => ?_)
  obtain ⟨rfl, hR2⟩ := hq
  have S := S2
  refine lv_icmp_eq (tgt := 726) C.1 C.2.1 dL_law_407 (by decide) (fun _ => ?_) (fun h => absurd rfl h)
  exact hnext M2 _ _ hR2 S

set_option maxHeartbeats 4000000 in
set_option maxRecDepth 100000 in
theorem law_way {p : Program} {g : GG} {e : Env} {s : State} {m : MethodId} {args : Array Value} {below : List Frame} {meth : Method} {c : Code} {b L i : Nat} {xs : Nat → Int32} {Q : State → Prop} {Rel : Mem → Prop} {M : Mem} {H : Heap} {locs : List Loc} {ls : Array Slot} (C0 : LC g p s m args c b L xs) (hi : i + 4 ≤ L) (hl : lv_has ls 4 [(0, .ref b), (1, ob g 0), (2, ob g 25), (3, .int (nI i))]) (hp : ∀ a b c : Int32, PairI g Rel mX6_way mX7_way [.int a, .int b, .int c]) (hR : Rel M) (S : KS (LA s) (g_D g) s (world g M) H locs)
    (hnext : ∀ (M2 : Mem) (H2 : Heap) (locs2 : List Loc), Rel M2 → KS (LA s) (g_D g) s (world g M2) H2 locs2 → W p (g_l g) e room_1 s m args below meth c H2 locs2 38 1738 Q (F0 m 726 ls [])) : W p (g_l g) e room_1 s m args below meth c H locs 38 1738 Q (F0 m 412 ls []) := by
  obtain ⟨C, hE, hT, hX, hbl, hL⟩ := C0
  have hbA : ¬ LA s b := Nat.not_le.mpr hbl
  refine lv_aload_n C.1 C.2.1 dL_law_412 rfl (lv_at hl 1 rfl) ?_
  refine lv_aload_n C.1 C.2.1 dL_law_413 rfl (lv_at hl 0 rfl) ?_
  refine lv_iload_n C.1 C.2.1 dL_law_414 rfl (lv_at hl 3 rfl) ?_
  refine lv_iconst (v := nI 1) C.1 C.2.1 dL_law_415 (by decide) ?_
  refine lv_iadd C.1 C.2.1 dL_law_416 ?_
  refine va_sld C.1 C.2.1 hX hbl hbA S.2.2 (lc_in hL (k := 1) (by omega)) dL_law_417 ?_
  refine lv_aload_n C.1 C.2.1 dL_law_418 rfl (lv_at hl 0 rfl) ?_
  refine lv_iload_n C.1 C.2.1 dL_law_419 rfl (lv_at hl 3 rfl) ?_
  refine lv_iconst (v := nI 2) C.1 C.2.1 dL_law_420 (by decide) ?_
  refine lv_iadd C.1 C.2.1 dL_law_421 ?_
  refine va_sld C.1 C.2.1 hX hbl hbA S.2.2 (lc_in hL (k := 2) (by omega)) dL_law_422 ?_
  refine lv_aload_n C.1 C.2.1 dL_law_423 rfl (lv_at hl 0 rfl) ?_
  refine lv_iload_n C.1 C.2.1 dL_law_424 rfl (lv_at hl 3 rfl) ?_
  refine lv_iconst (v := nI 3) C.1 C.2.1 dL_law_425 (by decide) ?_
  refine lv_iadd C.1 C.2.1 dL_law_426 ?_
  refine va_sld C.1 C.2.1 hX hbl hbA S.2.2 (lc_in hL (k := 3) (by omega)) dL_law_427 ?_
  refine k_call (g := g) (M := M) (μ' := mX6_way) (o := 0) (n := 3) (ci := 6) (As := [.int (xs (nI i + nI 1).toNatClampNeg), .int (xs (nI i + nI 2).toNatClampNeg), .int (xs (nI i + nI 3).toNatClampNeg)]) (rest := []) C S hE hT (fun _ h => h) dL_law_428 rfl mlL_59 cfX6_way ⟨Nat.le_of_ble_eq_true rfl, Nat.le_of_ble_eq_true rfl⟩ (Nat.le_of_ble_eq_true rfl) (Nat.le_of_ble_eq_true rfl) (hp _ _ _ M hR) (Nat.le_of_ble_eq_true rfl) rfl rfl rfl rfl rfl hl.1 (Nat.le_of_ble_eq_true rfl) (fun r M1 H locs hq S1 => ?_)
  obtain ⟨v, rfl, hs2⟩ := hq
  have S := S1
  refine lv_aload_n C.1 C.2.1 dL_law_431 rfl (lv_at hl 2 rfl) ?_
  refine lv_aload_n C.1 C.2.1 dL_law_432 rfl (lv_at hl 0 rfl) ?_
  refine lv_iload_n C.1 C.2.1 dL_law_433 rfl (lv_at hl 3 rfl) ?_
  refine lv_iconst (v := nI 1) C.1 C.2.1 dL_law_434 (by decide) ?_
  refine lv_iadd C.1 C.2.1 dL_law_435 ?_
  refine va_sld C.1 C.2.1 hX hbl hbA S.2.2 (lc_in hL (k := 1) (by omega)) dL_law_436 ?_
  refine lv_aload_n C.1 C.2.1 dL_law_437 rfl (lv_at hl 0 rfl) ?_
  refine lv_iload_n C.1 C.2.1 dL_law_438 rfl (lv_at hl 3 rfl) ?_
  refine lv_iconst (v := nI 2) C.1 C.2.1 dL_law_439 (by decide) ?_
  refine lv_iadd C.1 C.2.1 dL_law_440 ?_
  refine va_sld C.1 C.2.1 hX hbl hbA S.2.2 (lc_in hL (k := 2) (by omega)) dL_law_441 ?_
  refine lv_aload_n C.1 C.2.1 dL_law_442 rfl (lv_at hl 0 rfl) ?_
  refine lv_iload_n C.1 C.2.1 dL_law_443 rfl (lv_at hl 3 rfl) ?_
  refine lv_iconst (v := nI 3) C.1 C.2.1 dL_law_444 (by decide) ?_
  refine lv_iadd C.1 C.2.1 dL_law_445 ?_
  refine va_sld C.1 C.2.1 hX hbl hbA S.2.2 (lc_in hL (k := 3) (by omega)) dL_law_446 ?_
  refine k_call (g := g) (M := M1) (μ' := mX7_way) (o := 25) (n := 3) (ci := 7) (As := [.int (xs (nI i + nI 1).toNatClampNeg), .int (xs (nI i + nI 2).toNatClampNeg), .int (xs (nI i + nI 3).toNatClampNeg)]) (rest := [.int v]) C S hE hT (fun _ h => h) dL_law_447 rfl mlL_63 cfX7_way ⟨Nat.le_of_ble_eq_true rfl, Nat.le_of_ble_eq_true rfl⟩ (Nat.le_of_ble_eq_true rfl) (Nat.le_of_ble_eq_true rfl) hs2 (Nat.le_of_ble_eq_true rfl) rfl rfl rfl rfl rfl hl.1 (Nat.le_of_ble_eq_true rfl) (fun r M2 H locs hq S2 => ?_)
  obtain ⟨rfl, hR2⟩ := hq
  have S := S2
  refine lv_icmp_eq (tgt := 726) C.1 C.2.1 dL_law_450 (by decide) (fun _ => ?_) (fun h => absurd rfl h)
  exact hnext M2 _ _ hR2 S

set_option maxHeartbeats 4000000 in
set_option maxRecDepth 100000 in
theorem law_stones {p : Program} {g : GG} {e : Env} {s : State} {m : MethodId} {args : Array Value} {below : List Frame} {meth : Method} {c : Code} {b L i : Nat} {xs : Nat → Int32} {Q : State → Prop} {Rel : Mem → Prop} {M : Mem} {H : Heap} {locs : List Loc} {ls : Array Slot} (C0 : LC g p s m args c b L xs) (hi : i + 4 ≤ L) (hl : lv_has ls 4 [(0, .ref b), (1, ob g 0), (2, ob g 25), (3, .int (nI i))]) (hp : ∀ a b : Int32, PairI g Rel mX6_stones mX7_stones [.int a, .int b]) (hR : Rel M) (S : KS (LA s) (g_D g) s (world g M) H locs)
    (hnext : ∀ (M2 : Mem) (H2 : Heap) (locs2 : List Loc), Rel M2 → KS (LA s) (g_D g) s (world g M2) H2 locs2 → W p (g_l g) e room_1 s m args below meth c H2 locs2 38 1738 Q (F0 m 726 ls [])) : W p (g_l g) e room_1 s m args below meth c H locs 38 1738 Q (F0 m 455 ls []) := by
  obtain ⟨C, hE, hT, hX, hbl, hL⟩ := C0
  have hbA : ¬ LA s b := Nat.not_le.mpr hbl
  refine lv_aload_n C.1 C.2.1 dL_law_455 rfl (lv_at hl 1 rfl) ?_
  refine lv_aload_n C.1 C.2.1 dL_law_456 rfl (lv_at hl 0 rfl) ?_
  refine lv_iload_n C.1 C.2.1 dL_law_457 rfl (lv_at hl 3 rfl) ?_
  refine lv_iconst (v := nI 1) C.1 C.2.1 dL_law_458 (by decide) ?_
  refine lv_iadd C.1 C.2.1 dL_law_459 ?_
  refine va_sld C.1 C.2.1 hX hbl hbA S.2.2 (lc_in hL (k := 1) (by omega)) dL_law_460 ?_
  refine lv_aload_n C.1 C.2.1 dL_law_461 rfl (lv_at hl 0 rfl) ?_
  refine lv_iload_n C.1 C.2.1 dL_law_462 rfl (lv_at hl 3 rfl) ?_
  refine lv_iconst (v := nI 2) C.1 C.2.1 dL_law_463 (by decide) ?_
  refine lv_iadd C.1 C.2.1 dL_law_464 ?_
  refine va_sld C.1 C.2.1 hX hbl hbA S.2.2 (lc_in hL (k := 2) (by omega)) dL_law_465 ?_
  refine k_call (g := g) (M := M) (μ' := mX6_stones) (o := 0) (n := 2) (ci := 6) (As := [.int (xs (nI i + nI 1).toNatClampNeg), .int (xs (nI i + nI 2).toNatClampNeg)]) (rest := []) C S hE hT (fun _ h => h) dL_law_466 rfl mlL_64 cfX6_stones ⟨Nat.le_of_ble_eq_true rfl, Nat.le_of_ble_eq_true rfl⟩ (Nat.le_of_ble_eq_true rfl) (Nat.le_of_ble_eq_true rfl) (hp _ _ M hR) (Nat.le_of_ble_eq_true rfl) rfl rfl rfl rfl rfl hl.1 (Nat.le_of_ble_eq_true rfl) (fun r M1 H locs hq S1 => ?_)
  obtain ⟨v, rfl, hs2⟩ := hq
  have S := S1
  refine lv_aload_n C.1 C.2.1 dL_law_469 rfl (lv_at hl 2 rfl) ?_
  refine lv_aload_n C.1 C.2.1 dL_law_470 rfl (lv_at hl 0 rfl) ?_
  refine lv_iload_n C.1 C.2.1 dL_law_471 rfl (lv_at hl 3 rfl) ?_
  refine lv_iconst (v := nI 1) C.1 C.2.1 dL_law_472 (by decide) ?_
  refine lv_iadd C.1 C.2.1 dL_law_473 ?_
  refine va_sld C.1 C.2.1 hX hbl hbA S.2.2 (lc_in hL (k := 1) (by omega)) dL_law_474 ?_
  refine lv_aload_n C.1 C.2.1 dL_law_475 rfl (lv_at hl 0 rfl) ?_
  refine lv_iload_n C.1 C.2.1 dL_law_476 rfl (lv_at hl 3 rfl) ?_
  refine lv_iconst (v := nI 2) C.1 C.2.1 dL_law_477 (by decide) ?_
  refine lv_iadd C.1 C.2.1 dL_law_478 ?_
  refine va_sld C.1 C.2.1 hX hbl hbA S.2.2 (lc_in hL (k := 2) (by omega)) dL_law_479 ?_
  refine k_call (g := g) (M := M1) (μ' := mX7_stones) (o := 25) (n := 2) (ci := 7) (As := [.int (xs (nI i + nI 1).toNatClampNeg), .int (xs (nI i + nI 2).toNatClampNeg)]) (rest := [.int v]) C S hE hT (fun _ h => h) dL_law_480 rfl mlL_67 cfX7_stones ⟨Nat.le_of_ble_eq_true rfl, Nat.le_of_ble_eq_true rfl⟩ (Nat.le_of_ble_eq_true rfl) (Nat.le_of_ble_eq_true rfl) hs2 (Nat.le_of_ble_eq_true rfl) rfl rfl rfl rfl rfl hl.1 (Nat.le_of_ble_eq_true rfl) (fun r M2 H locs hq S2 => ?_)
  obtain ⟨rfl, hR2⟩ := hq
  have S := S2
  refine lv_icmp_eq (tgt := 726) C.1 C.2.1 dL_law_483 (by decide) (fun _ => ?_) (fun h => absurd rfl h)
  exact hnext M2 _ _ hR2 S

set_option maxHeartbeats 4000000 in
set_option maxRecDepth 100000 in
theorem law_joined {p : Program} {g : GG} {e : Env} {s : State} {m : MethodId} {args : Array Value} {below : List Frame} {meth : Method} {c : Code} {b L i : Nat} {xs : Nat → Int32} {Q : State → Prop} {Rel : Mem → Prop} {M : Mem} {H : Heap} {locs : List Loc} {ls : Array Slot} (C0 : LC g p s m args c b L xs) (hi : i + 4 ≤ L) (hl : lv_has ls 4 [(0, .ref b), (1, ob g 0), (2, ob g 25), (3, .int (nI i))]) (hp : ∀ a b : Int32, PairI g Rel mX6_joined mX7_joined [.int a, .int b]) (hR : Rel M) (S : KS (LA s) (g_D g) s (world g M) H locs)
    (hnext : ∀ (M2 : Mem) (H2 : Heap) (locs2 : List Loc), Rel M2 → KS (LA s) (g_D g) s (world g M2) H2 locs2 → W p (g_l g) e room_1 s m args below meth c H2 locs2 38 1738 Q (F0 m 726 ls [])) : W p (g_l g) e room_1 s m args below meth c H locs 38 1738 Q (F0 m 488 ls []) := by
  obtain ⟨C, hE, hT, hX, hbl, hL⟩ := C0
  have hbA : ¬ LA s b := Nat.not_le.mpr hbl
  refine lv_aload_n C.1 C.2.1 dL_law_488 rfl (lv_at hl 1 rfl) ?_
  refine lv_aload_n C.1 C.2.1 dL_law_489 rfl (lv_at hl 0 rfl) ?_
  refine lv_iload_n C.1 C.2.1 dL_law_490 rfl (lv_at hl 3 rfl) ?_
  refine lv_iconst (v := nI 1) C.1 C.2.1 dL_law_491 (by decide) ?_
  refine lv_iadd C.1 C.2.1 dL_law_492 ?_
  refine va_sld C.1 C.2.1 hX hbl hbA S.2.2 (lc_in hL (k := 1) (by omega)) dL_law_493 ?_
  refine lv_aload_n C.1 C.2.1 dL_law_494 rfl (lv_at hl 0 rfl) ?_
  refine lv_iload_n C.1 C.2.1 dL_law_495 rfl (lv_at hl 3 rfl) ?_
  refine lv_iconst (v := nI 2) C.1 C.2.1 dL_law_496 (by decide) ?_
  refine lv_iadd C.1 C.2.1 dL_law_497 ?_
  refine va_sld C.1 C.2.1 hX hbl hbA S.2.2 (lc_in hL (k := 2) (by omega)) dL_law_498 ?_
  refine k_call (g := g) (M := M) (μ' := mX6_joined) (o := 0) (n := 2) (ci := 6) (As := [.int (xs (nI i + nI 1).toNatClampNeg), .int (xs (nI i + nI 2).toNatClampNeg)]) (rest := []) C S hE hT (fun _ h => h) dL_law_499 rfl mlL_68 cfX6_joined ⟨Nat.le_of_ble_eq_true rfl, Nat.le_of_ble_eq_true rfl⟩ (Nat.le_of_ble_eq_true rfl) (Nat.le_of_ble_eq_true rfl) (hp _ _ M hR) (Nat.le_of_ble_eq_true rfl) rfl rfl rfl rfl rfl hl.1 (Nat.le_of_ble_eq_true rfl) (fun r M1 H locs hq S1 => ?_)
  obtain ⟨v, rfl, hs2⟩ := hq
  have S := S1
  refine lv_aload_n C.1 C.2.1 dL_law_502 rfl (lv_at hl 2 rfl) ?_
  refine lv_aload_n C.1 C.2.1 dL_law_503 rfl (lv_at hl 0 rfl) ?_
  refine lv_iload_n C.1 C.2.1 dL_law_504 rfl (lv_at hl 3 rfl) ?_
  refine lv_iconst (v := nI 1) C.1 C.2.1 dL_law_505 (by decide) ?_
  refine lv_iadd C.1 C.2.1 dL_law_506 ?_
  refine va_sld C.1 C.2.1 hX hbl hbA S.2.2 (lc_in hL (k := 1) (by omega)) dL_law_507 ?_
  refine lv_aload_n C.1 C.2.1 dL_law_508 rfl (lv_at hl 0 rfl) ?_
  refine lv_iload_n C.1 C.2.1 dL_law_509 rfl (lv_at hl 3 rfl) ?_
  refine lv_iconst (v := nI 2) C.1 C.2.1 dL_law_510 (by decide) ?_
  refine lv_iadd C.1 C.2.1 dL_law_511 ?_
  refine va_sld C.1 C.2.1 hX hbl hbA S.2.2 (lc_in hL (k := 2) (by omega)) dL_law_512 ?_
  refine k_call (g := g) (M := M1) (μ' := mX7_joined) (o := 25) (n := 2) (ci := 7) (As := [.int (xs (nI i + nI 1).toNatClampNeg), .int (xs (nI i + nI 2).toNatClampNeg)]) (rest := [.int v]) C S hE hT (fun _ h => h) dL_law_513 rfl mlL_71 cfX7_joined ⟨Nat.le_of_ble_eq_true rfl, Nat.le_of_ble_eq_true rfl⟩ (Nat.le_of_ble_eq_true rfl) (Nat.le_of_ble_eq_true rfl) hs2 (Nat.le_of_ble_eq_true rfl) rfl rfl rfl rfl rfl hl.1 (Nat.le_of_ble_eq_true rfl) (fun r M2 H locs hq S2 => ?_)
  obtain ⟨rfl, hR2⟩ := hq
  have S := S2
  refine lv_icmp_eq (tgt := 726) C.1 C.2.1 dL_law_516 (by decide) (fun _ => ?_) (fun h => absurd rfl h)
  exact hnext M2 _ _ hR2 S

set_option maxHeartbeats 4000000 in
set_option maxRecDepth 100000 in
theorem law_likes {p : Program} {g : GG} {e : Env} {s : State} {m : MethodId} {args : Array Value} {below : List Frame} {meth : Method} {c : Code} {b L i : Nat} {xs : Nat → Int32} {Q : State → Prop} {Rel : Mem → Prop} {M : Mem} {H : Heap} {locs : List Loc} {ls : Array Slot} (C0 : LC g p s m args c b L xs) (hi : i + 4 ≤ L) (hl : lv_has ls 4 [(0, .ref b), (1, ob g 0), (2, ob g 25), (3, .int (nI i))]) (hp : ∀ a : Int32, PairI g Rel mX6_likes mX7_likes [.int a]) (hR : Rel M) (S : KS (LA s) (g_D g) s (world g M) H locs)
    (hnext : ∀ (M2 : Mem) (H2 : Heap) (locs2 : List Loc), Rel M2 → KS (LA s) (g_D g) s (world g M2) H2 locs2 → W p (g_l g) e room_1 s m args below meth c H2 locs2 38 1738 Q (F0 m 726 ls [])) : W p (g_l g) e room_1 s m args below meth c H locs 38 1738 Q (F0 m 521 ls []) := by
  obtain ⟨C, hE, hT, hX, hbl, hL⟩ := C0
  have hbA : ¬ LA s b := Nat.not_le.mpr hbl
  refine lv_aload_n C.1 C.2.1 dL_law_521 rfl (lv_at hl 1 rfl) ?_
  refine lv_aload_n C.1 C.2.1 dL_law_522 rfl (lv_at hl 0 rfl) ?_
  refine lv_iload_n C.1 C.2.1 dL_law_523 rfl (lv_at hl 3 rfl) ?_
  refine lv_iconst (v := nI 1) C.1 C.2.1 dL_law_524 (by decide) ?_
  refine lv_iadd C.1 C.2.1 dL_law_525 ?_
  refine va_sld C.1 C.2.1 hX hbl hbA S.2.2 (lc_in hL (k := 1) (by omega)) dL_law_526 ?_
  refine k_call (g := g) (M := M) (μ' := mX6_likes) (o := 0) (n := 1) (ci := 6) (As := [.int (xs (nI i + nI 1).toNatClampNeg)]) (rest := []) C S hE hT (fun _ h => h) dL_law_527 rfl mlL_72 cfX6_likes ⟨Nat.le_of_ble_eq_true rfl, Nat.le_of_ble_eq_true rfl⟩ (Nat.le_of_ble_eq_true rfl) (Nat.le_of_ble_eq_true rfl) (hp _ M hR) (Nat.le_of_ble_eq_true rfl) rfl rfl rfl rfl rfl hl.1 (Nat.le_of_ble_eq_true rfl) (fun r M1 H locs hq S1 => ?_)
  obtain ⟨v, rfl, hs2⟩ := hq
  have S := S1
  refine lv_aload_n C.1 C.2.1 dL_law_530 rfl (lv_at hl 2 rfl) ?_
  refine lv_aload_n C.1 C.2.1 dL_law_531 rfl (lv_at hl 0 rfl) ?_
  refine lv_iload_n C.1 C.2.1 dL_law_532 rfl (lv_at hl 3 rfl) ?_
  refine lv_iconst (v := nI 1) C.1 C.2.1 dL_law_533 (by decide) ?_
  refine lv_iadd C.1 C.2.1 dL_law_534 ?_
  refine va_sld C.1 C.2.1 hX hbl hbA S.2.2 (lc_in hL (k := 1) (by omega)) dL_law_535 ?_
  refine k_call (g := g) (M := M1) (μ' := mX7_likes) (o := 25) (n := 1) (ci := 7) (As := [.int (xs (nI i + nI 1).toNatClampNeg)]) (rest := [.int v]) C S hE hT (fun _ h => h) dL_law_536 rfl mlL_75 cfX7_likes ⟨Nat.le_of_ble_eq_true rfl, Nat.le_of_ble_eq_true rfl⟩ (Nat.le_of_ble_eq_true rfl) (Nat.le_of_ble_eq_true rfl) hs2 (Nat.le_of_ble_eq_true rfl) rfl rfl rfl rfl rfl hl.1 (Nat.le_of_ble_eq_true rfl) (fun r M2 H locs hq S2 => ?_)
  obtain ⟨rfl, hR2⟩ := hq
  have S := S2
  refine lv_icmp_eq (tgt := 726) C.1 C.2.1 dL_law_539 (by decide) (fun _ => ?_) (fun h => absurd rfl h)
  exact hnext M2 _ _ hR2 S

set_option maxHeartbeats 4000000 in
set_option maxRecDepth 100000 in
theorem law_byTurns {p : Program} {g : GG} {e : Env} {s : State} {m : MethodId} {args : Array Value} {below : List Frame} {meth : Method} {c : Code} {b L i : Nat} {xs : Nat → Int32} {Q : State → Prop} {Rel : Mem → Prop} {M : Mem} {H : Heap} {locs : List Loc} {ls : Array Slot} (C0 : LC g p s m args c b L xs) (hi : i + 4 ≤ L) (hl : lv_has ls 4 [(0, .ref b), (1, ob g 0), (2, ob g 25), (3, .int (nI i))]) (hp : ∀ a b : Int32, PairI g Rel mX6_byTurns mX7_byTurns [.int a, .int b]) (hR : Rel M) (S : KS (LA s) (g_D g) s (world g M) H locs)
    (hnext : ∀ (M2 : Mem) (H2 : Heap) (locs2 : List Loc), Rel M2 → KS (LA s) (g_D g) s (world g M2) H2 locs2 → W p (g_l g) e room_1 s m args below meth c H2 locs2 38 1738 Q (F0 m 726 ls [])) : W p (g_l g) e room_1 s m args below meth c H locs 38 1738 Q (F0 m 544 ls []) := by
  obtain ⟨C, hE, hT, hX, hbl, hL⟩ := C0
  have hbA : ¬ LA s b := Nat.not_le.mpr hbl
  refine lv_aload_n C.1 C.2.1 dL_law_544 rfl (lv_at hl 1 rfl) ?_
  refine lv_aload_n C.1 C.2.1 dL_law_545 rfl (lv_at hl 0 rfl) ?_
  refine lv_iload_n C.1 C.2.1 dL_law_546 rfl (lv_at hl 3 rfl) ?_
  refine lv_iconst (v := nI 1) C.1 C.2.1 dL_law_547 (by decide) ?_
  refine lv_iadd C.1 C.2.1 dL_law_548 ?_
  refine va_sld C.1 C.2.1 hX hbl hbA S.2.2 (lc_in hL (k := 1) (by omega)) dL_law_549 ?_
  refine lv_aload_n C.1 C.2.1 dL_law_550 rfl (lv_at hl 0 rfl) ?_
  refine lv_iload_n C.1 C.2.1 dL_law_551 rfl (lv_at hl 3 rfl) ?_
  refine lv_iconst (v := nI 2) C.1 C.2.1 dL_law_552 (by decide) ?_
  refine lv_iadd C.1 C.2.1 dL_law_553 ?_
  refine va_sld C.1 C.2.1 hX hbl hbA S.2.2 (lc_in hL (k := 2) (by omega)) dL_law_554 ?_
  refine k_call (g := g) (M := M) (μ' := mX6_byTurns) (o := 0) (n := 2) (ci := 6) (As := [.int (xs (nI i + nI 1).toNatClampNeg), .int (xs (nI i + nI 2).toNatClampNeg)]) (rest := []) C S hE hT (fun _ h => h) dL_law_555 rfl mlL_76 cfX6_byTurns ⟨Nat.le_of_ble_eq_true rfl, Nat.le_of_ble_eq_true rfl⟩ (Nat.le_of_ble_eq_true rfl) (Nat.le_of_ble_eq_true rfl) (hp _ _ M hR) (Nat.le_of_ble_eq_true rfl) rfl rfl rfl rfl rfl hl.1 (Nat.le_of_ble_eq_true rfl) (fun r M1 H locs hq S1 => ?_)
  obtain ⟨v, rfl, hs2⟩ := hq
  have S := S1
  refine lv_aload_n C.1 C.2.1 dL_law_558 rfl (lv_at hl 2 rfl) ?_
  refine lv_aload_n C.1 C.2.1 dL_law_559 rfl (lv_at hl 0 rfl) ?_
  refine lv_iload_n C.1 C.2.1 dL_law_560 rfl (lv_at hl 3 rfl) ?_
  refine lv_iconst (v := nI 1) C.1 C.2.1 dL_law_561 (by decide) ?_
  refine lv_iadd C.1 C.2.1 dL_law_562 ?_
  refine va_sld C.1 C.2.1 hX hbl hbA S.2.2 (lc_in hL (k := 1) (by omega)) dL_law_563 ?_
  refine lv_aload_n C.1 C.2.1 dL_law_564 rfl (lv_at hl 0 rfl) ?_
  refine lv_iload_n C.1 C.2.1 dL_law_565 rfl (lv_at hl 3 rfl) ?_
  refine lv_iconst (v := nI 2) C.1 C.2.1 dL_law_566 (by decide) ?_
  refine lv_iadd C.1 C.2.1 dL_law_567 ?_
  refine va_sld C.1 C.2.1 hX hbl hbA S.2.2 (lc_in hL (k := 2) (by omega)) dL_law_568 ?_
  refine k_call (g := g) (M := M1) (μ' := mX7_byTurns) (o := 25) (n := 2) (ci := 7) (As := [.int (xs (nI i + nI 1).toNatClampNeg), .int (xs (nI i + nI 2).toNatClampNeg)]) (rest := [.int v]) C S hE hT (fun _ h => h) dL_law_569 rfl mlL_79 cfX7_byTurns ⟨Nat.le_of_ble_eq_true rfl, Nat.le_of_ble_eq_true rfl⟩ (Nat.le_of_ble_eq_true rfl) (Nat.le_of_ble_eq_true rfl) hs2 (Nat.le_of_ble_eq_true rfl) rfl rfl rfl rfl rfl hl.1 (Nat.le_of_ble_eq_true rfl) (fun r M2 H locs hq S2 => ?_)
  obtain ⟨rfl, hR2⟩ := hq
  have S := S2
  refine lv_icmp_eq (tgt := 726) C.1 C.2.1 dL_law_572 (by decide) (fun _ => ?_) (fun h => absurd rfl h)
  exact hnext M2 _ _ hR2 S

set_option maxHeartbeats 4000000 in
set_option maxRecDepth 100000 in
theorem law_apart {p : Program} {g : GG} {e : Env} {s : State} {m : MethodId} {args : Array Value} {below : List Frame} {meth : Method} {c : Code} {b L i : Nat} {xs : Nat → Int32} {Q : State → Prop} {Rel : Mem → Prop} {M : Mem} {H : Heap} {locs : List Loc} {ls : Array Slot} (C0 : LC g p s m args c b L xs) (hi : i + 4 ≤ L) (hl : lv_has ls 4 [(0, .ref b), (1, ob g 0), (2, ob g 25), (3, .int (nI i))]) (hp : ∀ a b : Int32, PairI g Rel mX6_apart mX7_apart [.int a, .int b]) (hR : Rel M) (S : KS (LA s) (g_D g) s (world g M) H locs)
    (hnext : ∀ (M2 : Mem) (H2 : Heap) (locs2 : List Loc), Rel M2 → KS (LA s) (g_D g) s (world g M2) H2 locs2 → W p (g_l g) e room_1 s m args below meth c H2 locs2 38 1738 Q (F0 m 726 ls [])) : W p (g_l g) e room_1 s m args below meth c H locs 38 1738 Q (F0 m 577 ls []) := by
  obtain ⟨C, hE, hT, hX, hbl, hL⟩ := C0
  have hbA : ¬ LA s b := Nat.not_le.mpr hbl
  refine lv_aload_n C.1 C.2.1 dL_law_577 rfl (lv_at hl 1 rfl) ?_
  refine lv_aload_n C.1 C.2.1 dL_law_578 rfl (lv_at hl 0 rfl) ?_
  refine lv_iload_n C.1 C.2.1 dL_law_579 rfl (lv_at hl 3 rfl) ?_
  refine lv_iconst (v := nI 1) C.1 C.2.1 dL_law_580 (by decide) ?_
  refine lv_iadd C.1 C.2.1 dL_law_581 ?_
  refine va_sld C.1 C.2.1 hX hbl hbA S.2.2 (lc_in hL (k := 1) (by omega)) dL_law_582 ?_
  refine lv_aload_n C.1 C.2.1 dL_law_583 rfl (lv_at hl 0 rfl) ?_
  refine lv_iload_n C.1 C.2.1 dL_law_584 rfl (lv_at hl 3 rfl) ?_
  refine lv_iconst (v := nI 2) C.1 C.2.1 dL_law_585 (by decide) ?_
  refine lv_iadd C.1 C.2.1 dL_law_586 ?_
  refine va_sld C.1 C.2.1 hX hbl hbA S.2.2 (lc_in hL (k := 2) (by omega)) dL_law_587 ?_
  refine k_call (g := g) (M := M) (μ' := mX6_apart) (o := 0) (n := 2) (ci := 6) (As := [.int (xs (nI i + nI 1).toNatClampNeg), .int (xs (nI i + nI 2).toNatClampNeg)]) (rest := []) C S hE hT (fun _ h => h) dL_law_588 rfl mlL_80 cfX6_apart ⟨Nat.le_of_ble_eq_true rfl, Nat.le_of_ble_eq_true rfl⟩ (Nat.le_of_ble_eq_true rfl) (Nat.le_of_ble_eq_true rfl) (hp _ _ M hR) (Nat.le_of_ble_eq_true rfl) rfl rfl rfl rfl rfl hl.1 (Nat.le_of_ble_eq_true rfl) (fun r M1 H locs hq S1 => ?_)
  obtain ⟨v, rfl, hs2⟩ := hq
  have S := S1
  refine lv_aload_n C.1 C.2.1 dL_law_591 rfl (lv_at hl 2 rfl) ?_
  refine lv_aload_n C.1 C.2.1 dL_law_592 rfl (lv_at hl 0 rfl) ?_
  refine lv_iload_n C.1 C.2.1 dL_law_593 rfl (lv_at hl 3 rfl) ?_
  refine lv_iconst (v := nI 1) C.1 C.2.1 dL_law_594 (by decide) ?_
  refine lv_iadd C.1 C.2.1 dL_law_595 ?_
  refine va_sld C.1 C.2.1 hX hbl hbA S.2.2 (lc_in hL (k := 1) (by omega)) dL_law_596 ?_
  refine lv_aload_n C.1 C.2.1 dL_law_597 rfl (lv_at hl 0 rfl) ?_
  refine lv_iload_n C.1 C.2.1 dL_law_598 rfl (lv_at hl 3 rfl) ?_
  refine lv_iconst (v := nI 2) C.1 C.2.1 dL_law_599 (by decide) ?_
  refine lv_iadd C.1 C.2.1 dL_law_600 ?_
  refine va_sld C.1 C.2.1 hX hbl hbA S.2.2 (lc_in hL (k := 2) (by omega)) dL_law_601 ?_
  refine k_call (g := g) (M := M1) (μ' := mX7_apart) (o := 25) (n := 2) (ci := 7) (As := [.int (xs (nI i + nI 1).toNatClampNeg), .int (xs (nI i + nI 2).toNatClampNeg)]) (rest := [.int v]) C S hE hT (fun _ h => h) dL_law_602 rfl mlL_83 cfX7_apart ⟨Nat.le_of_ble_eq_true rfl, Nat.le_of_ble_eq_true rfl⟩ (Nat.le_of_ble_eq_true rfl) (Nat.le_of_ble_eq_true rfl) hs2 (Nat.le_of_ble_eq_true rfl) rfl rfl rfl rfl rfl hl.1 (Nat.le_of_ble_eq_true rfl) (fun r M2 H locs hq S2 => ?_)
  obtain ⟨rfl, hR2⟩ := hq
  have S := S2
  refine lv_icmp_eq (tgt := 726) C.1 C.2.1 dL_law_605 (by decide) (fun _ => ?_) (fun h => absurd rfl h)
  exact hnext M2 _ _ hR2 S

set_option maxHeartbeats 4000000 in
set_option maxRecDepth 100000 in
theorem law_rate {p : Program} {g : GG} {e : Env} {s : State} {m : MethodId} {args : Array Value} {below : List Frame} {meth : Method} {c : Code} {b L i : Nat} {xs : Nat → Int32} {Q : State → Prop} {Rel : Mem → Prop} {M : Mem} {H : Heap} {locs : List Loc} {ls : Array Slot} (C0 : LC g p s m args c b L xs) (hi : i + 4 ≤ L) (hl : lv_has ls 4 [(0, .ref b), (1, ob g 0), (2, ob g 25), (3, .int (nI i))]) (hp : ∀ a b : Int32, PairI g Rel mX6_rate mX7_rate [.int a, .int b]) (hR : Rel M) (S : KS (LA s) (g_D g) s (world g M) H locs)
    (hnext : ∀ (M2 : Mem) (H2 : Heap) (locs2 : List Loc), Rel M2 → KS (LA s) (g_D g) s (world g M2) H2 locs2 → W p (g_l g) e room_1 s m args below meth c H2 locs2 38 1738 Q (F0 m 726 ls [])) : W p (g_l g) e room_1 s m args below meth c H locs 38 1738 Q (F0 m 610 ls []) := by
  obtain ⟨C, hE, hT, hX, hbl, hL⟩ := C0
  have hbA : ¬ LA s b := Nat.not_le.mpr hbl
  refine lv_aload_n C.1 C.2.1 dL_law_610 rfl (lv_at hl 1 rfl) ?_
  refine lv_aload_n C.1 C.2.1 dL_law_611 rfl (lv_at hl 0 rfl) ?_
  refine lv_iload_n C.1 C.2.1 dL_law_612 rfl (lv_at hl 3 rfl) ?_
  refine lv_iconst (v := nI 1) C.1 C.2.1 dL_law_613 (by decide) ?_
  refine lv_iadd C.1 C.2.1 dL_law_614 ?_
  refine va_sld C.1 C.2.1 hX hbl hbA S.2.2 (lc_in hL (k := 1) (by omega)) dL_law_615 ?_
  refine lv_aload_n C.1 C.2.1 dL_law_616 rfl (lv_at hl 0 rfl) ?_
  refine lv_iload_n C.1 C.2.1 dL_law_617 rfl (lv_at hl 3 rfl) ?_
  refine lv_iconst (v := nI 2) C.1 C.2.1 dL_law_618 (by decide) ?_
  refine lv_iadd C.1 C.2.1 dL_law_619 ?_
  refine va_sld C.1 C.2.1 hX hbl hbA S.2.2 (lc_in hL (k := 2) (by omega)) dL_law_620 ?_
  refine k_call (g := g) (M := M) (μ' := mX6_rate) (o := 0) (n := 2) (ci := 6) (As := [.int (xs (nI i + nI 1).toNatClampNeg), .int (xs (nI i + nI 2).toNatClampNeg)]) (rest := []) C S hE hT (fun _ h => h) dL_law_621 rfl mlL_84 cfX6_rate ⟨Nat.le_of_ble_eq_true rfl, Nat.le_of_ble_eq_true rfl⟩ (Nat.le_of_ble_eq_true rfl) (Nat.le_of_ble_eq_true rfl) (hp _ _ M hR) (Nat.le_of_ble_eq_true rfl) rfl rfl rfl rfl rfl hl.1 (Nat.le_of_ble_eq_true rfl) (fun r M1 H locs hq S1 => ?_)
  obtain ⟨v, rfl, hs2⟩ := hq
  have S := S1
  refine lv_aload_n C.1 C.2.1 dL_law_624 rfl (lv_at hl 2 rfl) ?_
  refine lv_aload_n C.1 C.2.1 dL_law_625 rfl (lv_at hl 0 rfl) ?_
  refine lv_iload_n C.1 C.2.1 dL_law_626 rfl (lv_at hl 3 rfl) ?_
  refine lv_iconst (v := nI 1) C.1 C.2.1 dL_law_627 (by decide) ?_
  refine lv_iadd C.1 C.2.1 dL_law_628 ?_
  refine va_sld C.1 C.2.1 hX hbl hbA S.2.2 (lc_in hL (k := 1) (by omega)) dL_law_629 ?_
  refine lv_aload_n C.1 C.2.1 dL_law_630 rfl (lv_at hl 0 rfl) ?_
  refine lv_iload_n C.1 C.2.1 dL_law_631 rfl (lv_at hl 3 rfl) ?_
  refine lv_iconst (v := nI 2) C.1 C.2.1 dL_law_632 (by decide) ?_
  refine lv_iadd C.1 C.2.1 dL_law_633 ?_
  refine va_sld C.1 C.2.1 hX hbl hbA S.2.2 (lc_in hL (k := 2) (by omega)) dL_law_634 ?_
  refine k_call (g := g) (M := M1) (μ' := mX7_rate) (o := 25) (n := 2) (ci := 7) (As := [.int (xs (nI i + nI 1).toNatClampNeg), .int (xs (nI i + nI 2).toNatClampNeg)]) (rest := [.int v]) C S hE hT (fun _ h => h) dL_law_635 rfl mlL_87 cfX7_rate ⟨Nat.le_of_ble_eq_true rfl, Nat.le_of_ble_eq_true rfl⟩ (Nat.le_of_ble_eq_true rfl) (Nat.le_of_ble_eq_true rfl) hs2 (Nat.le_of_ble_eq_true rfl) rfl rfl rfl rfl rfl hl.1 (Nat.le_of_ble_eq_true rfl) (fun r M2 H locs hq S2 => ?_)
  obtain ⟨rfl, hR2⟩ := hq
  have S := S2
  refine lv_icmp_eq (tgt := 726) C.1 C.2.1 dL_law_638 (by decide) (fun _ => ?_) (fun h => absurd rfl h)
  exact hnext M2 _ _ hR2 S

set_option maxHeartbeats 4000000 in
set_option maxRecDepth 100000 in
theorem law_keep {p : Program} {g : GG} {e : Env} {s : State} {m : MethodId} {args : Array Value} {below : List Frame} {meth : Method} {c : Code} {b L i : Nat} {xs : Nat → Int32} {Q : State → Prop} {Rel : Mem → Prop} {M : Mem} {H : Heap} {locs : List Loc} {ls : Array Slot} (C0 : LC g p s m args c b L xs) (hi : i + 4 ≤ L) (hl : lv_has ls 4 [(0, .ref b), (1, ob g 0), (2, ob g 25), (3, .int (nI i))]) (hp : ∀ a : Int32, PairI g Rel mX6_keep mX7_keep [.int a]) (hR : Rel M) (S : KS (LA s) (g_D g) s (world g M) H locs)
    (hnext : ∀ (M2 : Mem) (H2 : Heap) (locs2 : List Loc), Rel M2 → KS (LA s) (g_D g) s (world g M2) H2 locs2 → W p (g_l g) e room_1 s m args below meth c H2 locs2 38 1738 Q (F0 m 726 ls [])) : W p (g_l g) e room_1 s m args below meth c H locs 38 1738 Q (F0 m 643 ls []) := by
  obtain ⟨C, hE, hT, hX, hbl, hL⟩ := C0
  have hbA : ¬ LA s b := Nat.not_le.mpr hbl
  refine lv_aload_n C.1 C.2.1 dL_law_643 rfl (lv_at hl 1 rfl) ?_
  refine lv_aload_n C.1 C.2.1 dL_law_644 rfl (lv_at hl 0 rfl) ?_
  refine lv_iload_n C.1 C.2.1 dL_law_645 rfl (lv_at hl 3 rfl) ?_
  refine lv_iconst (v := nI 1) C.1 C.2.1 dL_law_646 (by decide) ?_
  refine lv_iadd C.1 C.2.1 dL_law_647 ?_
  refine va_sld C.1 C.2.1 hX hbl hbA S.2.2 (lc_in hL (k := 1) (by omega)) dL_law_648 ?_
  refine k_call (g := g) (M := M) (μ' := mX6_keep) (o := 0) (n := 1) (ci := 6) (As := [.int (xs (nI i + nI 1).toNatClampNeg)]) (rest := []) C S hE hT (fun _ h => h) dL_law_649 rfl mlL_88 cfX6_keep ⟨Nat.le_of_ble_eq_true rfl, Nat.le_of_ble_eq_true rfl⟩ (Nat.le_of_ble_eq_true rfl) (Nat.le_of_ble_eq_true rfl) (hp _ M hR) (Nat.le_of_ble_eq_true rfl) rfl rfl rfl rfl rfl hl.1 (Nat.le_of_ble_eq_true rfl) (fun r M1 H locs hq S1 => ?_)
  obtain ⟨v, rfl, hs2⟩ := hq
  have S := S1
  refine lv_aload_n C.1 C.2.1 dL_law_652 rfl (lv_at hl 2 rfl) ?_
  refine lv_aload_n C.1 C.2.1 dL_law_653 rfl (lv_at hl 0 rfl) ?_
  refine lv_iload_n C.1 C.2.1 dL_law_654 rfl (lv_at hl 3 rfl) ?_
  refine lv_iconst (v := nI 1) C.1 C.2.1 dL_law_655 (by decide) ?_
  refine lv_iadd C.1 C.2.1 dL_law_656 ?_
  refine va_sld C.1 C.2.1 hX hbl hbA S.2.2 (lc_in hL (k := 1) (by omega)) dL_law_657 ?_
  refine k_call (g := g) (M := M1) (μ' := mX7_keep) (o := 25) (n := 1) (ci := 7) (As := [.int (xs (nI i + nI 1).toNatClampNeg)]) (rest := [.int v]) C S hE hT (fun _ h => h) dL_law_658 rfl mlL_91 cfX7_keep ⟨Nat.le_of_ble_eq_true rfl, Nat.le_of_ble_eq_true rfl⟩ (Nat.le_of_ble_eq_true rfl) (Nat.le_of_ble_eq_true rfl) hs2 (Nat.le_of_ble_eq_true rfl) rfl rfl rfl rfl rfl hl.1 (Nat.le_of_ble_eq_true rfl) (fun r M2 H locs hq S2 => ?_)
  obtain ⟨rfl, hR2⟩ := hq
  have S := S2
  refine lv_icmp_eq (tgt := 726) C.1 C.2.1 dL_law_661 (by decide) (fun _ => ?_) (fun h => absurd rfl h)
  exact hnext M2 _ _ hR2 S

set_option maxHeartbeats 4000000 in
set_option maxRecDepth 100000 in
theorem law_back {p : Program} {g : GG} {e : Env} {s : State} {m : MethodId} {args : Array Value} {below : List Frame} {meth : Method} {c : Code} {b L i : Nat} {xs : Nat → Int32} {Q : State → Prop} {Rel : Mem → Prop} {M : Mem} {H : Heap} {locs : List Loc} {ls : Array Slot} (C0 : LC g p s m args c b L xs) (hi : i + 4 ≤ L) (hl : lv_has ls 4 [(0, .ref b), (1, ob g 0), (2, ob g 25), (3, .int (nI i))]) (hp : ∀ a : Int32, PairI g Rel mX6_back mX7_back [.int a]) (hR : Rel M) (S : KS (LA s) (g_D g) s (world g M) H locs)
    (hnext : ∀ (M2 : Mem) (H2 : Heap) (locs2 : List Loc), Rel M2 → KS (LA s) (g_D g) s (world g M2) H2 locs2 → W p (g_l g) e room_1 s m args below meth c H2 locs2 38 1738 Q (F0 m 726 ls [])) : W p (g_l g) e room_1 s m args below meth c H locs 38 1738 Q (F0 m 666 ls []) := by
  obtain ⟨C, hE, hT, hX, hbl, hL⟩ := C0
  have hbA : ¬ LA s b := Nat.not_le.mpr hbl
  refine lv_aload_n C.1 C.2.1 dL_law_666 rfl (lv_at hl 1 rfl) ?_
  refine lv_aload_n C.1 C.2.1 dL_law_667 rfl (lv_at hl 0 rfl) ?_
  refine lv_iload_n C.1 C.2.1 dL_law_668 rfl (lv_at hl 3 rfl) ?_
  refine lv_iconst (v := nI 1) C.1 C.2.1 dL_law_669 (by decide) ?_
  refine lv_iadd C.1 C.2.1 dL_law_670 ?_
  refine va_sld C.1 C.2.1 hX hbl hbA S.2.2 (lc_in hL (k := 1) (by omega)) dL_law_671 ?_
  refine k_call (g := g) (M := M) (μ' := mX6_back) (o := 0) (n := 1) (ci := 6) (As := [.int (xs (nI i + nI 1).toNatClampNeg)]) (rest := []) C S hE hT (fun _ h => h) dL_law_672 rfl mlL_92 cfX6_back ⟨Nat.le_of_ble_eq_true rfl, Nat.le_of_ble_eq_true rfl⟩ (Nat.le_of_ble_eq_true rfl) (Nat.le_of_ble_eq_true rfl) (hp _ M hR) (Nat.le_of_ble_eq_true rfl) rfl rfl rfl rfl rfl hl.1 (Nat.le_of_ble_eq_true rfl) (fun r M1 H locs hq S1 => ?_)
  obtain ⟨v, rfl, hs2⟩ := hq
  have S := S1
  refine lv_aload_n C.1 C.2.1 dL_law_675 rfl (lv_at hl 2 rfl) ?_
  refine lv_aload_n C.1 C.2.1 dL_law_676 rfl (lv_at hl 0 rfl) ?_
  refine lv_iload_n C.1 C.2.1 dL_law_677 rfl (lv_at hl 3 rfl) ?_
  refine lv_iconst (v := nI 1) C.1 C.2.1 dL_law_678 (by decide) ?_
  refine lv_iadd C.1 C.2.1 dL_law_679 ?_
  refine va_sld C.1 C.2.1 hX hbl hbA S.2.2 (lc_in hL (k := 1) (by omega)) dL_law_680 ?_
  refine k_call (g := g) (M := M1) (μ' := mX7_back) (o := 25) (n := 1) (ci := 7) (As := [.int (xs (nI i + nI 1).toNatClampNeg)]) (rest := [.int v]) C S hE hT (fun _ h => h) dL_law_681 rfl mlL_95 cfX7_back ⟨Nat.le_of_ble_eq_true rfl, Nat.le_of_ble_eq_true rfl⟩ (Nat.le_of_ble_eq_true rfl) (Nat.le_of_ble_eq_true rfl) hs2 (Nat.le_of_ble_eq_true rfl) rfl rfl rfl rfl rfl hl.1 (Nat.le_of_ble_eq_true rfl) (fun r M2 H locs hq S2 => ?_)
  obtain ⟨rfl, hR2⟩ := hq
  have S := S2
  refine lv_icmp_eq (tgt := 726) C.1 C.2.1 dL_law_684 (by decide) (fun _ => ?_) (fun h => absurd rfl h)
  exact hnext M2 _ _ hR2 S

set_option maxHeartbeats 4000000 in
set_option maxRecDepth 100000 in
theorem law_count {p : Program} {g : GG} {e : Env} {s : State} {m : MethodId} {args : Array Value} {below : List Frame} {meth : Method} {c : Code} {b L i : Nat} {xs : Nat → Int32} {Q : State → Prop} {Rel : Mem → Prop} {M : Mem} {H : Heap} {locs : List Loc} {ls : Array Slot} (C0 : LC g p s m args c b L xs) (hi : i + 4 ≤ L) (hl : lv_has ls 4 [(0, .ref b), (1, ob g 0), (2, ob g 25), (3, .int (nI i))]) (hp : ∀ a : Int32, PairI g Rel mX6_count mX7_count [.int a]) (hR : Rel M) (S : KS (LA s) (g_D g) s (world g M) H locs)
    (hnext : ∀ (M2 : Mem) (H2 : Heap) (locs2 : List Loc), Rel M2 → KS (LA s) (g_D g) s (world g M2) H2 locs2 → W p (g_l g) e room_1 s m args below meth c H2 locs2 38 1738 Q (F0 m 726 ls [])) : W p (g_l g) e room_1 s m args below meth c H locs 38 1738 Q (F0 m 689 ls []) := by
  obtain ⟨C, hE, hT, hX, hbl, hL⟩ := C0
  have hbA : ¬ LA s b := Nat.not_le.mpr hbl
  refine lv_aload_n C.1 C.2.1 dL_law_689 rfl (lv_at hl 1 rfl) ?_
  refine lv_aload_n C.1 C.2.1 dL_law_690 rfl (lv_at hl 0 rfl) ?_
  refine lv_iload_n C.1 C.2.1 dL_law_691 rfl (lv_at hl 3 rfl) ?_
  refine lv_iconst (v := nI 1) C.1 C.2.1 dL_law_692 (by decide) ?_
  refine lv_iadd C.1 C.2.1 dL_law_693 ?_
  refine va_sld C.1 C.2.1 hX hbl hbA S.2.2 (lc_in hL (k := 1) (by omega)) dL_law_694 ?_
  refine k_call (g := g) (M := M) (μ' := mX6_count) (o := 0) (n := 1) (ci := 6) (As := [.int (xs (nI i + nI 1).toNatClampNeg)]) (rest := []) C S hE hT (fun _ h => h) dL_law_695 rfl mlL_96 cfX6_count ⟨Nat.le_of_ble_eq_true rfl, Nat.le_of_ble_eq_true rfl⟩ (Nat.le_of_ble_eq_true rfl) (Nat.le_of_ble_eq_true rfl) (hp _ M hR) (Nat.le_of_ble_eq_true rfl) rfl rfl rfl rfl rfl hl.1 (Nat.le_of_ble_eq_true rfl) (fun r M1 H locs hq S1 => ?_)
  obtain ⟨v, rfl, hs2⟩ := hq
  have S := S1
  refine lv_aload_n C.1 C.2.1 dL_law_698 rfl (lv_at hl 2 rfl) ?_
  refine lv_aload_n C.1 C.2.1 dL_law_699 rfl (lv_at hl 0 rfl) ?_
  refine lv_iload_n C.1 C.2.1 dL_law_700 rfl (lv_at hl 3 rfl) ?_
  refine lv_iconst (v := nI 1) C.1 C.2.1 dL_law_701 (by decide) ?_
  refine lv_iadd C.1 C.2.1 dL_law_702 ?_
  refine va_sld C.1 C.2.1 hX hbl hbA S.2.2 (lc_in hL (k := 1) (by omega)) dL_law_703 ?_
  refine k_call (g := g) (M := M1) (μ' := mX7_count) (o := 25) (n := 1) (ci := 7) (As := [.int (xs (nI i + nI 1).toNatClampNeg)]) (rest := [.int v]) C S hE hT (fun _ h => h) dL_law_704 rfl mlL_99 cfX7_count ⟨Nat.le_of_ble_eq_true rfl, Nat.le_of_ble_eq_true rfl⟩ (Nat.le_of_ble_eq_true rfl) (Nat.le_of_ble_eq_true rfl) hs2 (Nat.le_of_ble_eq_true rfl) rfl rfl rfl rfl rfl hl.1 (Nat.le_of_ble_eq_true rfl) (fun r M2 H locs hq S2 => ?_)
  obtain ⟨rfl, hR2⟩ := hq
  have S := S2
  refine lv_icmp_eq (tgt := 726) C.1 C.2.1 dL_law_707 (by decide) (fun _ => ?_) (fun h => absurd rfl h)
  exact hnext M2 _ _ hR2 S

set_option maxHeartbeats 4000000 in
set_option maxRecDepth 100000 in
theorem law_trace {p : Program} {g : GG} {e : Env} {s : State} {m : MethodId} {args : Array Value} {below : List Frame} {meth : Method} {c : Code} {b L i : Nat} {xs : Nat → Int32} {Q : State → Prop} {Rel : Mem → Prop} {M : Mem} {H : Heap} {locs : List Loc} {ls : Array Slot} (C0 : LC g p s m args c b L xs) (hi : i + 4 ≤ L) (hl : lv_has ls 4 [(0, .ref b), (1, ob g 0), (2, ob g 25), (3, .int (nI i))]) (hp : PairL g Rel mX6_trace mX7_trace []) (hR : Rel M) (S : KS (LA s) (g_D g) s (world g M) H locs)
    (hnext : ∀ (M2 : Mem) (H2 : Heap) (locs2 : List Loc), Rel M2 → KS (LA s) (g_D g) s (world g M2) H2 locs2 → W p (g_l g) e room_1 s m args below meth c H2 locs2 38 1738 Q (F0 m 726 ls [])) : W p (g_l g) e room_1 s m args below meth c H locs 38 1738 Q (F0 m 712 ls []) := by
  obtain ⟨C, hE, hT, hX, hbl, hL⟩ := C0
  have hbA : ¬ LA s b := Nat.not_le.mpr hbl
  refine lv_aload_n C.1 C.2.1 dL_law_712 rfl (lv_at hl 1 rfl) ?_
  refine k_call (g := g) (M := M) (μ' := mX6_trace) (o := 0) (n := 0) (ci := 6) (As := []) (rest := []) C S hE hT (fun _ h => h) dL_law_713 rfl mlL_100 cfX6_trace ⟨Nat.le_of_ble_eq_true rfl, Nat.le_of_ble_eq_true rfl⟩ (Nat.le_of_ble_eq_true rfl) (Nat.le_of_ble_eq_true rfl) (hp  M hR) (Nat.le_of_ble_eq_true rfl) rfl rfl rfl rfl rfl hl.1 (Nat.le_of_ble_eq_true rfl) (fun r M1 H locs hq S1 => ?_)
  obtain ⟨v, rfl, hs2⟩ := hq
  have S := S1
  refine lv_aload_n C.1 C.2.1 dL_law_716 rfl (lv_at hl 2 rfl) ?_
  refine k_call (g := g) (M := M1) (μ' := mX7_trace) (o := 25) (n := 0) (ci := 7) (As := []) (rest := [.long v]) C S hE hT (fun _ h => h) dL_law_717 rfl mlL_104 cfX7_trace ⟨Nat.le_of_ble_eq_true rfl, Nat.le_of_ble_eq_true rfl⟩ (Nat.le_of_ble_eq_true rfl) (Nat.le_of_ble_eq_true rfl) hs2 (Nat.le_of_ble_eq_true rfl) rfl rfl rfl rfl rfl hl.1 (Nat.le_of_ble_eq_true rfl) (fun r M2 H locs hq S2 => ?_)
  obtain ⟨rfl, hR2⟩ := hq
  have S := S2
  refine W.lcmp C.1 C.2.1 dL_law_720 ?_
  rw [lcmp_same]
  refine lv_if_eq (tgt := 726) C.1 C.2.1 dL_law_721 (by decide) (fun _ => ?_) (fun h => absurd rfl h)
  exact hnext M2 _ _ hR2 S

set_option maxHeartbeats 4000000 in
set_option maxRecDepth 100000 in
theorem law_loop {p : Program} {g : GG} {e : Env} {s : State} {m : MethodId} {below : List Frame} {meth : Method} {c : Code} {b L : Nat} {xs : Nat → Int32} {Rel : Mem → Prop} (hr : meth.sig.returnType = ret) (hlocks : meth.locks = false) (C0 : LC g p s m #[Value.ref b] c b L xs) (hp : Pairs g Rel) :
    ∀ (n i : Nat), i ≤ L → L + 1 ≤ i + n → ∀ (M : Mem) (H : Heap) (locs : List Loc) (ls : Array Slot), Rel M → KS (LA s) (g_D g) s (world g M) H locs → lv_has ls 4 [(0, .ref b), (1, ob g 0), (2, ob g 25), (3, .int (nI i))] →
      W p (g_l g) e room_1 s m #[Value.ref b] below meth c H locs 38 1738 (lw_Z below #[Value.ref b] s) (F0 m 18 ls []) := by
  obtain ⟨C, hE, hT, hX, hbl, hL⟩ := id C0
  have hbA : ¬ LA s b := Nat.not_le.mpr hbl
  intro n
  induction n with
  | zero => intro i h1 h2; exact absurd h2 (by omega)
  | succ n ih =>
    intro i hi hin M H locs ls hR S hl
    refine lv_iload_n C.1 C.2.1 dL_law_18 rfl (lv_at hl 3 rfl) ?_
    refine lv_aload_n C.1 C.2.1 dL_law_19 rfl (lv_at hl 0 rfl) ?_
    refine va_slen C.1 C.2.1 hX hbl hbA S.2.2 dL_law_20 ?_
    refine lv_iconst (v := 4) C.1 C.2.1 dL_law_21 (by decide) ?_
    refine lv_isub C.1 C.2.1 dL_law_22 ?_
    refine lv_icmp_gt (tgt := 732) C.1 C.2.1 dL_law_23 (by decide) (fun _ => ?_) (fun hle => ?_)
    · refine lv_iconst (v := 1) C.1 C.2.1 dL_law_732 (by decide) ?_
      refine va_forget (fun q hq => S.2.2.2.2 q hq) ?_
      exact lw_ret C.1 C.2.1 hr hlocks dL_law_733
    have hi4 : i + 4 ≤ L := law_top hL hle hi
    refine lv_aload_n C.1 C.2.1 dL_law_26 rfl (lv_at hl 0 rfl) ?_
    refine lv_iload_n C.1 C.2.1 dL_law_27 rfl (lv_at hl 3 rfl) ?_
    refine va_sld C.1 C.2.1 hX hbl hbA S.2.2 (vp_in_nI (by omega) (by omega)) dL_law_28 ?_
    refine lv_bipush (v := 31) C.1 C.2.1 dL_law_29 (by decide) ?_
    refine lv_iand C.1 C.2.1 dL_law_31 ?_
    have hnext : ∀ (M2 : Mem) (H2 : Heap) (locs2 : List Loc), Rel M2 → KS (LA s) (g_D g) s (world g M2) H2 locs2 → W p (g_l g) e room_1 s m #[Value.ref b] below meth c H2 locs2 38 1738 (lw_Z below #[Value.ref b] s) (F0 m 726 ls []) := by
      intro M2 H2 locs2 hR2 S2
      refine lv_iinc (v := nI (i + 4)) (lv' := [(3, .int (nI (i + 4))), (0, .ref b), (1, ob g 0), (2, ob g 25)]) C.1 C.2.1 dL_law_726 hl (k := 3) rfl (nI_add i 4) (by decide) rfl (fun ls1 hl1 => ?_)
      refine lv_goto (tgt := 18) C.1 C.2.1 dL_law_729 (by decide) ?_
      exact ih (i + 4) hi4 (by omega) M2 H2 locs2 ls1 hR2 S2 (lv_sub hl1 [1, 2, 3, 0] rfl)
    generalize xs (nI i).toNatClampNeg &&& 31 = x
    rcases sw_21 x with h | h | h | h | h | h | h | h | h | h | h | h | h | h | h | h | h | h | h | h | h | h
    · exact lv_tableOut (tgt := 726) C.1 C.2.1 dL_law_32 h (by decide) (hnext M H locs hR S)
    · exact lv_tableIn (tgt := 132) (off := 100) C.1 C.2.1 dL_law_32 (by omega) (by omega) (by rw [h]; rfl) (by decide) (law_type C0 hi4 hl (hp.1) hR S hnext)
    · exact lv_tableIn (tgt := 195) (off := 163) C.1 C.2.1 dL_law_32 (by omega) (by omega) (by rw [h]; rfl) (by decide) (law_clear C0 hi4 hl (hp.2.1) hR S hnext)
    · exact lv_tableIn (tgt := 208) (off := 176) C.1 C.2.1 dL_law_32 (by omega) (by omega) (by rw [h]; rfl) (by decide) (law_moor C0 hi4 hl (hp.2.2.1) hR S hnext)
    · exact lv_tableIn (tgt := 221) (off := 189) C.1 C.2.1 dL_law_32 (by omega) (by omega) (by rw [h]; rfl) (by decide) (law_cell C0 hi4 hl (hp.2.2.2.1) hR S hnext)
    · exact lv_tableIn (tgt := 254) (off := 222) C.1 C.2.1 dL_law_32 (by omega) (by omega) (by rw [h]; rfl) (by decide) (law_walker C0 hi4 hl (hp.2.2.2.2.1) hR S hnext)
    · exact lv_tableIn (tgt := 287) (off := 255) C.1 C.2.1 dL_law_32 (by omega) (by omega) (by rw [h]; rfl) (by decide) (law_passes C0 hi4 hl (hp.2.2.2.2.2.1) hR S hnext)
    · exact lv_tableIn (tgt := 320) (off := 288) C.1 C.2.1 dL_law_32 (by omega) (by omega) (by rw [h]; rfl) (by decide) (law_days C0 hi4 hl (hp.2.2.2.2.2.2.1) hR S hnext)
    · exact lv_tableIn (tgt := 343) (off := 311) C.1 C.2.1 dL_law_32 (by omega) (by omega) (by rw [h]; rfl) (by decide) (law_now C0 hi4 hl (hp.2.2.2.2.2.2.2.1) hR S hnext)
    · exact lv_tableIn (tgt := 366) (off := 334) C.1 C.2.1 dL_law_32 (by omega) (by omega) (by rw [h]; rfl) (by decide) (law_anew C0 hi4 hl (hp.2.2.2.2.2.2.2.2.1) hR S hnext)
    · exact lv_tableIn (tgt := 379) (off := 347) C.1 C.2.1 dL_law_32 (by omega) (by omega) (by rw [h]; rfl) (by decide) (law_steps C0 hi4 hl (hp.2.2.2.2.2.2.2.2.2.1) hR S hnext)
    · exact lv_tableIn (tgt := 412) (off := 380) C.1 C.2.1 dL_law_32 (by omega) (by omega) (by rw [h]; rfl) (by decide) (law_way C0 hi4 hl (hp.2.2.2.2.2.2.2.2.2.2.1) hR S hnext)
    · exact lv_tableIn (tgt := 455) (off := 423) C.1 C.2.1 dL_law_32 (by omega) (by omega) (by rw [h]; rfl) (by decide) (law_stones C0 hi4 hl (hp.2.2.2.2.2.2.2.2.2.2.2.1) hR S hnext)
    · exact lv_tableIn (tgt := 488) (off := 456) C.1 C.2.1 dL_law_32 (by omega) (by omega) (by rw [h]; rfl) (by decide) (law_joined C0 hi4 hl (hp.2.2.2.2.2.2.2.2.2.2.2.2.1) hR S hnext)
    · exact lv_tableIn (tgt := 521) (off := 489) C.1 C.2.1 dL_law_32 (by omega) (by omega) (by rw [h]; rfl) (by decide) (law_likes C0 hi4 hl (hp.2.2.2.2.2.2.2.2.2.2.2.2.2.1) hR S hnext)
    · exact lv_tableIn (tgt := 544) (off := 512) C.1 C.2.1 dL_law_32 (by omega) (by omega) (by rw [h]; rfl) (by decide) (law_byTurns C0 hi4 hl (hp.2.2.2.2.2.2.2.2.2.2.2.2.2.2.1) hR S hnext)
    · exact lv_tableIn (tgt := 577) (off := 545) C.1 C.2.1 dL_law_32 (by omega) (by omega) (by rw [h]; rfl) (by decide) (law_apart C0 hi4 hl (hp.2.2.2.2.2.2.2.2.2.2.2.2.2.2.2.1) hR S hnext)
    · exact lv_tableIn (tgt := 610) (off := 578) C.1 C.2.1 dL_law_32 (by omega) (by omega) (by rw [h]; rfl) (by decide) (law_rate C0 hi4 hl (hp.2.2.2.2.2.2.2.2.2.2.2.2.2.2.2.2.1) hR S hnext)
    · exact lv_tableIn (tgt := 643) (off := 611) C.1 C.2.1 dL_law_32 (by omega) (by omega) (by rw [h]; rfl) (by decide) (law_keep C0 hi4 hl (hp.2.2.2.2.2.2.2.2.2.2.2.2.2.2.2.2.2.1) hR S hnext)
    · exact lv_tableIn (tgt := 666) (off := 634) C.1 C.2.1 dL_law_32 (by omega) (by omega) (by rw [h]; rfl) (by decide) (law_back C0 hi4 hl (hp.2.2.2.2.2.2.2.2.2.2.2.2.2.2.2.2.2.2.1) hR S hnext)
    · exact lv_tableIn (tgt := 689) (off := 657) C.1 C.2.1 dL_law_32 (by omega) (by omega) (by rw [h]; rfl) (by decide) (law_count C0 hi4 hl (hp.2.2.2.2.2.2.2.2.2.2.2.2.2.2.2.2.2.2.2.1) hR S hnext)
    · exact lv_tableIn (tgt := 712) (off := 680) C.1 C.2.1 dL_law_32 (by omega) (by omega) (by rw [h]; rfl) (by decide) (law_trace C0 hi4 hl (hp.2.2.2.2.2.2.2.2.2.2.2.2.2.2.2.2.2.2.2.2) hR S hnext)
