
def M0 : Mem := (fun _ _ => 0, fun _ => 0)
theorem mem_r {big : List Cond} (ws : List Cond) (ps : List Nat) (hp : ws = ps.filterMap (fun i => big[i]?)) : ∀ w ∈ ws, w ∈ big := by
  intro w hw
  rw [hp] at hw
  obtain ⟨i, -, hi⟩ := List.mem_filterMap.mp hw
  exact List.mem_of_getElem? hi
set_option maxRecDepth 100000 in
theorem NW_in : ∀ w ∈ NW, w ∈ lw_tbl := mem_r NW [88, 96, 119, 121, 123, 124, 125, 127, 130, 131, 132, 134, 136, 137, 139, 141, 177, 190, 204, 206, 208, 210, 212, 213, 171, 266, 392, 402, 419, 422, 451, 468, 503, 577, 582, 640] rfl
theorem NW_on : ∀ w ∈ NW, w.onTables = true := List.all_eq_true.mp (by decide +kernel)
def gM (l : Launch) (D : va_G) (a1 a2 aK aV : Nat → Nat) (cI cZ : ClassId) : GG := (l, D, fun o => if o < 25 then a1 o else a2 (o - 25), aK, aV, cI, cZ)
set_option maxRecDepth 100000 in
theorem gM_world (l : Launch) (D : va_G) (a1 a2 aK aV : Nat → Nat) (cI cZ : ClassId) : world (gM l D a1 a2 aK aV cI cZ) M0 = rwX6 cI cZ a1 ++ rwX7 cI cZ a2 := rfl
def rdT (i : Nat) : Term := .string "MoorStones$Reader" ([40, 49, 54].getD i 0)
set_option maxHeartbeats 4000000 in
set_option maxRecDepth 100000 in
theorem strs {b : Nat} {s : State} (hf : ∀ c ∈ flatC (Jvm.Cond.and given_1 narrow_1), c.before #[Value.ref b] s = true) : ∃ adK adV : Nat → Nat, vk_S 3 [3, 6, 4] [[114, 111, 119], [119, 97, 108, 107, 101, 114], [115, 105, 110, 107]] adK adV (LA s) s s.heap ∧ ∀ i : Nat, i < 3 → (rdT i).eval #[Value.ref b] s none [] s = some (.ref (adK i)) := by
  refine vk_Sof (tm := rdT) ?_ ?_ ?_ ?_ ?_ ?_ ?_ (fun a h => Nat.not_le.mpr h)
  · intro i hi
    match i, hi with
    | 0, _ => decide
    | 1, _ => decide
    | 2, _ => decide
  · intro i hi
    match i, hi with
    | 0, _ => exact hf _ (by decide +kernel)
    | 1, _ => exact hf _ (by decide +kernel)
    | 2, _ => exact hf _ (by decide +kernel)
  · intro i hi
    match i, hi with
    | 0, _ => exact hf _ (by decide +kernel)
    | 1, _ => exact hf _ (by decide +kernel)
    | 2, _ => exact hf _ (by decide +kernel)
  · intro i hi
    match i, hi with
    | 0, _ => exact hf _ (by decide +kernel)
    | 1, _ => exact hf _ (by decide +kernel)
    | 2, _ => exact hf _ (by decide +kernel)
  · intro i hi
    match i, hi with
    | 0, _ => exact hf _ (by decide +kernel)
    | 1, _ => exact hf _ (by decide +kernel)
    | 2, _ => exact hf _ (by decide +kernel)
  · intro i hi j hj
    match i, hi with
    | 0, _ =>
      have h9 : j < 3 := hj
      match j, h9 with
      | 0, _ => exact hf _ (by decide +kernel)
      | 1, _ => exact hf _ (by decide +kernel)
      | 2, _ => exact hf _ (by decide +kernel)
    | 1, _ =>
      have h9 : j < 6 := hj
      match j, h9 with
      | 0, _ => exact hf _ (by decide +kernel)
      | 1, _ => exact hf _ (by decide +kernel)
      | 2, _ => exact hf _ (by decide +kernel)
      | 3, _ => exact hf _ (by decide +kernel)
      | 4, _ => exact hf _ (by decide +kernel)
      | 5, _ => exact hf _ (by decide +kernel)
    | 2, _ =>
      have h9 : j < 4 := hj
      match j, h9 with
      | 0, _ => exact hf _ (by decide +kernel)
      | 1, _ => exact hf _ (by decide +kernel)
      | 2, _ => exact hf _ (by decide +kernel)
      | 3, _ => exact hf _ (by decide +kernel)
  · intro i j hi hj hij
    have h01 := hf (Cond.not (Cond.eq (rdT 0) (rdT 1))) (by decide +kernel)
    have h02 := hf (Cond.not (Cond.eq (rdT 0) (rdT 2))) (by decide +kernel)
    have h12 := hf (Cond.not (Cond.eq (rdT 1) (rdT 2))) (by decide +kernel)
    rcases (show (i = 0 ∧ j = 1) ∨ (i = 0 ∧ j = 2) ∨ (i = 1 ∧ j = 2) ∨ (i = 1 ∧ j = 0) ∨ (i = 2 ∧ j = 0) ∨ (i = 2 ∧ j = 1) by omega) with ⟨rfl, rfl⟩ | ⟨rfl, rfl⟩ | ⟨rfl, rfl⟩ | ⟨rfl, rfl⟩ | ⟨rfl, rfl⟩ | ⟨rfl, rfl⟩
    · exact Or.inl h01
    · exact Or.inl h02
    · exact Or.inl h12
    · exact Or.inr h01
    · exact Or.inr h02
    · exact Or.inr h12
theorem envC_of {b : Nat} {s : State} (hts0 : ∀ w ∈ lw_tbl, w.before #[Value.ref b] s = true) : ∃ (D : va_G) (cI cZ : ClassId), EnvC D cI cZ s := by
  have hts : ∀ w ∈ wsL_law, w.before #[Value.ref b] s = true := fun w hw => hts0 w (wsL_law_in w hw)
  obtain ⟨c0, i0, k0⟩ := u_known (C := RX0) (T := TX0) (N := 6) (n := 6) hts inlX0 (hts _ (wR2 _ (List.mem_of_getElem? (i := 5) rfl)))
  obtain ⟨c1, i1, k1⟩ := u_known (C := RX1) (T := TX1) (N := 2) (n := 2) hts inlX1 (hts _ (wR2 _ (List.mem_of_getElem? (i := 0) rfl)))
  obtain ⟨c2, i2, k2⟩ := u_known (C := RX2) (T := TX2) (N := 5) (n := 5) hts inlX2 (hts _ (wR1 _ (List.mem_of_getElem? (i := 14) rfl)))
  obtain ⟨c3, i3, k3⟩ := u_known (C := RX3) (T := TX3) (N := 2) (n := 2) hts inlX3 (hts _ (wR2 _ (List.mem_of_getElem? (i := 16) rfl)))
  obtain ⟨c4, i4, k4⟩ := u_known (C := RX4) (T := TX4) (N := 10) (n := 10) hts inlX4 (hts _ (wR1 _ (List.mem_of_getElem? (i := 19) rfl)))
  obtain ⟨c5, i5, k5⟩ := u_known (C := RX5) (T := TX5) (N := 4) (n := 4) hts inlX5 (hts _ (wR3 _ (List.mem_of_getElem? (i := 13) rfl)))
  obtain ⟨c6, i6, k6⟩ := u_known (C := RX6) (T := TX6) (N := 10) (n := 10) hts inlX6 (hts _ (wR1 _ (List.mem_of_getElem? (i := 1) rfl)))
  obtain ⟨c7, i7, k7⟩ := u_known (C := RX7) (T := TX7) (N := 27) (n := 27) hts inlX7 (hts _ (wR1 _ (List.mem_of_getElem? (i := 4) rfl)))
  obtain ⟨cI, kI, pI, a1, a2, a3⟩ := Cond.arrayClass_spec (hts _ w_arrI)
  obtain ⟨cZ, kZ, pZ, b1, b2, b3⟩ := Cond.arrayClass_spec (hts _ w_arrZ)
  refine ⟨(fun k => [c0, c1, c2, c3, c4, c5, c6, c7].getD k c0, fun k => [i0, i1, i2, i3, i4, i5, i6, i7].getD k i0), cI, cZ, ⟨fun k q hq => ?_, fun k q hq => ?_⟩, fun w hw => va_Nw.of (NW_on w hw) (hts0 w (NW_in w hw))⟩
  · match k, hq with
    | 0, hq => cases hq; exact k0
    | 1, hq => cases hq; exact k1
    | 2, hq => cases hq; exact k2
    | 3, hq => cases hq; exact k3
    | 4, hq => cases hq; exact k4
    | 5, hq => cases hq; exact k5
    | 6, hq => cases hq; exact k6
    | 7, hq => cases hq; exact k7
    | k + 8, hq => simp [vwCl] at hq
  · match k, hq with
    | 0, hq => cases hq; exact ⟨fun n z => ⟨fun k h => (by cases h), kI, a2, pI, a3⟩, a1⟩
    | 1, hq => cases hq; exact ⟨fun n z => ⟨fun k h => (by cases h), kZ, b2, pZ, b3⟩, b1⟩
    | k + 2, hq => simp at hq
set_option maxHeartbeats 4000000 in
set_option maxRecDepth 100000 in
theorem whole_of {p : Program} {e : Env} {s : State} {m : MethodId} {below : List Frame} {meth : Method} {c : Code} (l : Launch) {b L : Nat} {xs : Nat → Int32} (hL : L ≤ 256) (C0 : lw_At p s m meth c b L xs) (hG : ∀ g : GG, ∃ Rel : Mem → Prop, Pairs g Rel ∧ Rel M0) : W p l e room_1 s m #[Value.ref b] below meth c s.heap [] 0 0 (lw_Z below #[Value.ref b] s) (entryFrame m ([Value.ref b] : List Value).toArray 4) := by
  obtain ⟨hx, hb, hr, hml, hown, hts0, hX, hbl, hlocks, hgv⟩ := id C0
  have hts : ∀ w ∈ wsL_law, w.before #[Value.ref b] s = true := fun w hw => hts0 w (wsL_law_in w hw)
  have hf := flat_of_before _ hgv
  obtain ⟨D, cI, cZ, hEC⟩ := envC_of hts0
  obtain ⟨aK, aV, hvS, hvE⟩ := strs hf
  have C : KC RL cL_law 4 (LA s) D cI cZ p s m #[Value.ref b] c := ⟨hx, hb, hml, hown, hts, hEC, fun _ h => h⟩
  have S : KS (LA s) D s [] s.heap [] := ⟨fun k q h => by simp at h, ⟨fun i j p q h => by simp at h, fun k q h => by simp at h⟩, va_S.rf⟩
  have hl := lv_entry ([.ref b]) (n := 4) (Nat.le_of_ble_eq_true rfl)
  rw [lg_entry_eq]
  generalize (lg_sl ([.ref b]) ++ List.replicate (4 - (lg_sl ([.ref b])).length) Slot.unset).toArray = ls at hl ⊢
  have hl : lv_has ls 4 [(0, .ref b)] := hl
  refine k_new (cells' := 1) (slots' := 10) C S dL_law_0 rfl knL_7 rfl rfl (Nat.le_of_ble_eq_true rfl) (Nat.le_of_ble_eq_true rfl) (fun q1 H S => ?_)
  refine lv_dup hx hb dL_law_3 rfl ?_
  refine k_ctor (wr := []) (μ' := mX6_init) (cells' := 25) (slots' := 789) (rest := [.ref q1]) C S (csp_X6 l D cI cZ) dL_law_4 rfl mlL_9 cbX6_init imX6_init rfl rfl ⟨Nat.le_of_ble_eq_true rfl, Nat.le_of_ble_eq_true rfl⟩ rfl rfl (Nat.le_of_ble_eq_true rfl) (Nat.le_of_ble_eq_true rfl) hl.1 (Nat.le_of_ble_eq_true rfl) (fun a1 H locs e0 S2 => ?_)
  subst e0
  have S : KS (LA s) D s (rwX6 cI cZ a1) H locs := S2
  refine lv_astore_n (lv' := [(1, .ref (a1 0)), (0, .ref b)]) hx hb dL_law_7 rfl hl (by decide) rfl (fun ls hl => ?_)
  refine k_new (cells' := 26) (slots' := 816) C S dL_law_8 rfl knL_10 rfl rfl (Nat.le_of_ble_eq_true rfl) (Nat.le_of_ble_eq_true rfl) (fun q2 H S => ?_)
  refine lv_dup hx hb dL_law_11 rfl ?_
  refine k_ctor (wr := rwX6 cI cZ a1) (μ' := mX7_init) (cells' := 38) (slots' := 1738) (rest := [.ref q2]) C S (csp_X7 l D cI cZ) dL_law_12 rfl mlL_12 cbX7_init imX7_init rfl rfl ⟨Nat.le_of_ble_eq_true rfl, Nat.le_of_ble_eq_true rfl⟩ rfl rfl (Nat.le_of_ble_eq_true rfl) (Nat.le_of_ble_eq_true rfl) hl.1 (Nat.le_of_ble_eq_true rfl) (fun a2 H locs e0 S2 => ?_)
  subst e0
  refine lv_astore_n (lv' := [(2, .ref (a2 0)), (1, .ref (a1 0)), (0, .ref b)]) hx hb dL_law_15 rfl hl (by decide) rfl (fun ls hl => ?_)
  refine lv_iconst (v := 0) hx hb dL_law_16 (by decide) ?_
  refine lv_istore_n (lv' := [(3, .int 0), (2, .ref (a2 0)), (1, .ref (a1 0)), (0, .ref b)]) hx hb dL_law_17 rfl hl (by decide) rfl (fun ls hl => ?_)
  obtain ⟨g, hg⟩ : ∃ g, g = gM l D a1 a2 aK aV cI cZ := ⟨_, rfl⟩
  have S : KS (LA s) (g_D g) s (world g M0) H locs := by rw [hg, gM_world]; exact S2
  have hA : ∀ q, AA g q → LA s q := fun q hq => by
    obtain ⟨o1, h1, rfl⟩ := hq
    exact S.2.1.2 o1 _ (world_get g M0 h1)
  have hE : EnvG g s := by
    rw [hg]
    exact ⟨hEC.1, hEC.2, vk_R.of (hts0 _ (List.mem_of_getElem? (i := 310) rfl)) (hvE 0 (by decide)), vk_R.of (hts0 _ (List.mem_of_getElem? (i := 379) rfl)) (hvE 1 (by decide)), vk_R.of (hts0 _ (List.mem_of_getElem? (i := 393) rfl)) (hvE 2 (by decide))⟩
  have hT : Str g s s.heap := by
    refine ⟨?_, (va_Zof (A := LA s) (hts0 _ (List.mem_of_getElem? (i := 324) rfl)) (hts0 _ (List.mem_of_getElem? (i := 59) rfl)) (va_eqt (hf (Cond.eq (Term.static "java/lang/String" "COMPACT_STRINGS" "Z") (Term.int 1)) (by decide +kernel))) (fun a h => Nat.not_le.mpr h)).narrow hA, (va_Zqof (A := LA s) (hts0 _ (List.mem_of_getElem? (i := 340) rfl)) (hts0 _ (List.mem_of_getElem? (i := 61) rfl)) (hf _ (by decide +kernel)) (fun a h => Nat.not_le.mpr h)).narrow hA⟩
    have := hvS.narrow hA
    rw [hg] at this ⊢
    exact this
  obtain ⟨Rel, hp, hR0⟩ := hG g
  have hC : LC g p s m #[Value.ref b] c b L xs := by
    refine ⟨?_, hE, hT, hX, hbl, hL⟩
    rw [hg]
    exact C
  have hfin := law_loop (e := e) (below := below) hr hlocks hC hp (L + 1) 0 (Nat.zero_le L) (by omega) M0 H locs ls hR0 S (by rw [hg]; exact lv_sub hl [3, 2, 1, 0] rfl)
  have hgl : g_l g = l := by rw [hg]; rfl
  rw [hgl] at hfin
  exact hfin
