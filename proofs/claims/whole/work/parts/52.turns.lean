/-! ===== by turns ===== -/
theorem dec_eq (x : Int32) : x - 1 = ((x ^^^ (-1)) + 1) ^^^ (-1) := by
  have h := neg_not (-x)
  rw [Int32.neg_neg, neg_not x] at h
  rw [h, Int32.add_sub_cancel]
  rw [← h]
theorem dec_bit (x : Int32) {i : Nat} (hi : i < 32) : bt (x - 1) i = (bt x i ^^ allB (x ^^^ (-1)) i) := by
  rw [dec_eq, b_not _ hi, inc_bit _ hi, b_not _ hi]
  cases bt x i <;> cases allB (x ^^^ (-1)) i <;> rfl
/-- and the one before -/
theorem ch_prev {N n : Nat} {p : Nat → Nat} {bg : Nat → Int32} {b : Int32} (hp : Pl N n p bg b) (i : Nat) : (chF bg (nI (i + 1)) n 0 0 - 1) &&& b = chF bg (nI i) n 0 0 := by
  obtain ⟨p1, p2, p3, p4, p5⟩ := id hp
  refine b_ext fun c hc => ?_
  rw [b_and]
  cases hb : bt b c with
  | false =>
    rw [Bool.and_false]
    refine (Bool.eq_false_iff.mpr fun z => ?_).symm
    obtain ⟨k, k1, k2, -⟩ := (ch_sub hp _ hc).mp z
    rw [(p5 c hc).mpr ⟨k, k1, k2⟩] at hb
    cases hb
  | true =>
    obtain ⟨k, k1, rfl⟩ := (p5 c hc).mp hb
    have e : nI i = nI (i + 1) - 1 := (nI_pred i).symm
    rw [Bool.and_true, dec_bit _ hc, ch_at hp _ k1, ch_at hp _ k1, e, dec_bit _ (show k < 32 by omega)]
    congr 1
    have h1 := allB_iff (chF bg (nI (i + 1)) n 0 0 ^^^ (-1)) (p k)
    have h2 := allB_iff (nI (i + 1) ^^^ (-1)) k
    refine Bool.eq_iff_iff.mpr ?_
    rw [h1, h2]
    constructor
    · intro h j hj
      have h4 := p4 k j hj k1
      have h5 := h (p j) h4
      rw [b_not _ (by omega), ch_at hp _ (by omega)] at h5
      rw [b_not _ (by omega)]
      exact h5
    · intro h j hj
      rw [b_not _ (by omega)]
      cases h6 : bt (chF bg (nI (i + 1)) n 0 0) j with
      | false => rfl
      | true =>
        exfalso
        obtain ⟨k', k2, rfl, k3⟩ := (ch_sub hp _ (by omega)).mp h6
        have h7 : k' < k := by
          rcases Nat.lt_trichotomy k' k with z | z | z
          · exact z
          · subst z; omega
          · have := p4 k' k z k2; omega
        have := h k' h7
        rw [b_not _ (by omega), k3] at this
        cases this
theorem put_nI {M : Mem} {o n i : Nat} {x : Int32} (hn : n < 2 ^ 31) (h : i < n) : putM M o n (nI i) x = setO M o (upd (M.1 o) i x) := by
  unfold putM
  refine (if_neg (show ¬ (nI i < 0 ∨ Int32.ofNat n ≤ nI i) from not_or.mpr ⟨nI_pos (by omega), nI_ge h hn⟩)).trans ?_
  rw [nI_clamp (by omega)]
  rfl
theorem put_any (M : Mem) (o n : Nat) (i x : Int32) : ∃ f, putM M o n i x = setO M o f := by
  unfold putM
  by_cases h : i < 0 ∨ Int32.ofNat n ≤ i
  · rw [if_pos h]; exact ⟨M.1 o, (setO_self M o).symm⟩
  · rw [if_neg h]; exact ⟨_, rfl⟩
theorem lt_any (nr : Int32 → Int32) (a b bear bog : Int32) (s : Nat) : ∀ (n : Nat) (part : Int32) (M : Mem), ∃ f, ltM nr a b bear bog s n part M = setO M 12 f := by
  intro n
  induction n with
  | zero => intro part M; exact ⟨M.1 12, (setO_self M 12).symm⟩
  | succ n ih =>
    intro part M
    simp only [ltM]
    obtain ⟨f, hf⟩ := put_any M 12 256 (nI n) (ltV M nr a b bear s n part)
    rw [hf]
    obtain ⟨f2, hf2⟩ := ih ((part - 1) &&& bog) (setO M 12 f)
    exact ⟨f2, by rw [hf2, setO_setO]⟩
/-- of the sets from r on both know the same, and how much at most -/
def BtOk (n : Nat) (f wo : Nat → Int32) (r : Nat) : Prop := ∀ j, r ≤ j → j < 2 ^ n → ∃ v, f j = nI v ∧ wo j = nI v ∧ v + cnt (nI j) n ≤ n
theorem free_or {n k set : Nat} (hn : n ≤ 8) (hset : set < 2 ^ n) (hk : k < n) (hb : bt (nI set) k = false) : set ||| 2 ^ k < 2 ^ n ∧ set < set ||| 2 ^ k ∧ cnt (nI set) n < cnt (nI (set ||| 2 ^ k)) n := by
  have hp : 2 ^ k < 2 ^ n := Nat.pow_lt_pow_right (by decide) hk
  have e : nI (set ||| 2 ^ k) = nI set ||| shl 1 (nI k) := by rw [← nI_or, nI_pow k (by omega)]
  have hc : cnt (nI set) n < cnt (nI (set ||| 2 ^ k)) n := by
    rw [e]
    exact cnt_lt (fun i h => by rw [b_or, h, Bool.true_or]) (c := k) hb (by rw [b_or, b_one (by omega) (by omega), decide_eq_true rfl, Bool.or_true]) n hk
  refine ⟨Nat.or_lt_two_pow hset hp, ?_, hc⟩
  have h1 : set ≤ set ||| 2 ^ k := Nat.left_le_or
  rcases Nat.lt_or_eq_of_le h1 with z | z
  · exact z
  · rw [← z] at hc; exact absurd hc (Nat.lt_irrefl _)
section BT
variable {n set : Nat} {M : Mem} {wo : Nat → Int32} {soon : Int32}
theorem bn_skip {k : Nat} (hk : k < 32) (hb : bt (nI set) k = true) (r : Nat) (c : Int32) : bnF M (nI set) soon (r + 1) k c = bnF M (nI set) soon r (k + 1) c := by
  rw [bnF, if_neg ((has_iff1 hk).mpr hb)]
theorem bk_skip {k : Nat} (hk : k < 32) (hb : bt (nI set) k = true) (r : Nat) (m : Int32) : bkF wo set soon (r + 1) k m = bkF wo set soon r (k + 1) m := by
  rw [bkF, bit_of hk, hb]
  rw [if_pos (show (if true = true then (1 : Int32) else 0) = 1 from rfl), ite_self]
theorem bn_free {k u : Nat} (hn : n ≤ 8) (hset : set < 2 ^ n) (hk : k < n) (hb : bt (nI set) k = false) (hu : M.1 12 (set ||| 2 ^ k) = nI u) (r : Nat) (c : Int32) : bnF M (nI set) soon (r + 1) k c = bnF M (nI set) soon r (k + 1) (if soon = 0 then maxF c (nI u) else minF c (nI u)) := by
  have h8 : 2 ^ n ≤ 2 ^ 8 := Nat.pow_le_pow_right (by decide) hn
  obtain ⟨f1, f2, f3⟩ := free_or hn hset hk hb
  have e : nI set ||| shl 1 (nI k) = nI (set ||| 2 ^ k) := by rw [← nI_or, nI_pow k (by omega)]
  rw [bnF, if_pos ((has_iff (by omega)).mpr hb), e, at_nI (n := 256) (by omega) (by decide), hu]
  by_cases h : soon = 0
  · rw [if_pos h, if_pos h]
  · rw [if_neg h, if_neg h]
theorem bk_free {k u : Nat} (hk : k < 32) (hb : bt (nI set) k = false) (hu : wo (set ||| 2 ^ k) = nI u) (r : Nat) (m : Int32) : bkF wo set soon (r + 1) k m = bkF wo set soon r (k + 1) (if soon = (if nI (u + 1) < m then (1 : Int32) else 0) then nI (u + 1) else m) := by
  rw [bkF, bit_of hk, hb, hu, ← nI_succ]
  rw [if_neg (show ¬ (if false = true then (1 : Int32) else 0) = 1 by decide)]
theorem bt_step (hn : n ≤ 8) (hset : set < 2 ^ n) (hok : BtOk n (M.1 12) wo (set + 1)) (hs : soon = 0 ∨ soon = 1) : ∀ r k v, k + r = n → v + 1 + cnt (nI set) n ≤ n → ∃ v', bnF M (nI set) soon r k (nI v) = nI v' ∧ bkF wo set soon r k (nI (v + 1)) = nI (v' + 1) ∧ v' + 1 + cnt (nI set) n ≤ n := by
  intro r
  induction r with
  | zero => intro k v _ hv; exact ⟨v, rfl, rfl, hv⟩
  | succ r ih =>
    intro k v hk hv
    cases hb : bt (nI set) k with
    | true =>
      rw [bn_skip (by omega) hb, bk_skip (by omega) hb]
      exact ih (k + 1) v (by omega) hv
    | false =>
      obtain ⟨f1, f2, f3⟩ := free_or hn hset (show k < n by omega) hb
      obtain ⟨u, u1, u2, u3⟩ := hok _ f2 f1
      rw [bn_free hn hset (by omega) hb u1, bk_free (by omega) hb u2]
      unfold maxF minF
      rcases hs with rfl | rfl
      · rw [if_pos rfl]
        rcases Nat.lt_trichotomy v u with z | z | z
        · rw [if_pos (nI_lt z (by omega)), if_neg (nI_nlt (show v + 1 ≤ u + 1 by omega) (by omega)), if_pos rfl]
          exact ih (k + 1) u (by omega) (by omega)
        · subst z
          rw [if_neg (nI_nlt (Nat.le_refl v) (by omega)), if_neg (nI_nlt (Nat.le_refl (v + 1)) (by omega)), if_pos rfl]
          exact ih (k + 1) v (by omega) (by omega)
        · rw [if_neg (nI_nlt (show u ≤ v by omega) (by omega)), if_pos (nI_lt (show u + 1 < v + 1 by omega) (by omega)), if_neg (show ¬ (0 : Int32) = 1 by decide)]
          exact ih (k + 1) v (by omega) (by omega)
      · rw [if_neg (show ¬ (1 : Int32) = 0 by decide)]
        by_cases z : u < v
        · rw [if_pos (nI_lt z (by omega)), if_pos (nI_lt (show u + 1 < v + 1 by omega) (by omega)), if_pos rfl]
          exact ih (k + 1) u (by omega) (by omega)
        · rw [if_neg (nI_nlt (show v ≤ u by omega) (by omega)), if_neg (nI_nlt (show v + 1 ≤ u + 1 by omega) (by omega)), if_neg (show ¬ (1 : Int32) = 0 by decide)]
          exact ih (k + 1) v (by omega) (by omega)
theorem bt_first (hn : n ≤ 8) (hset : set < 2 ^ n) (hok : BtOk n (M.1 12) wo (set + 1)) (hs : soon = 0 ∨ soon = 1) : ∀ r k, k + r = n → (∀ i, k ≤ i → i < n → bt (nI set) i = true) ∨ ∃ v', bnF M (nI set) soon r k (if soon = 0 then 0 else 24) = nI v' ∧ bkF wo set soon r k (if soon = 0 then 0 else 99) = nI (v' + 1) ∧ v' + 1 + cnt (nI set) n ≤ n := by
  intro r
  induction r with
  | zero => intro k hk; exact Or.inl fun i h1 h2 => absurd h2 (by omega)
  | succ r ih =>
    intro k hk
    cases hb : bt (nI set) k with
    | true =>
      rw [bn_skip (by omega) hb, bk_skip (by omega) hb]
      rcases ih (k + 1) (by omega) with z | z
      · refine Or.inl fun i h1 h2 => ?_
        by_cases h9 : i = k
        · rw [h9]; exact hb
        · exact z i (by omega) h2
      · exact Or.inr z
    | false =>
      refine Or.inr ?_
      obtain ⟨f1, f2, f3⟩ := free_or hn hset (show k < n by omega) hb
      obtain ⟨u, u1, u2, u3⟩ := hok _ f2 f1
      have e1 : (if soon = 0 then maxF (if soon = 0 then 0 else 24) (nI u) else minF (if soon = 0 then 0 else 24) (nI u)) = nI u := by
        unfold maxF minF
        rcases hs with rfl | rfl
        · rw [if_pos rfl, if_pos rfl]
          by_cases z : (0 : Int32) < nI u
          · rw [if_pos z]
          · rw [if_neg z]
            rcases Nat.eq_zero_or_pos u with y | y
            · subst y; rfl
            · exact absurd (nI_lt (a := 0) y (by omega)) z
        · rw [if_neg (show ¬ (1 : Int32) = 0 by decide), if_neg (show ¬ (1 : Int32) = 0 by decide), if_pos (show nI u < (24 : Int32) from nI_lt (b := 24) (by omega) (by decide))]
      have e2 : (if soon = (if nI (u + 1) < (if soon = 0 then 0 else 99) then (1 : Int32) else 0) then nI (u + 1) else (if soon = 0 then 0 else 99)) = nI (u + 1) := by
        rcases hs with rfl | rfl
        · rw [if_pos (rfl : (0 : Int32) = 0), if_neg (nI_pos (by omega)), if_pos rfl]
        · rw [if_neg (show ¬ (1 : Int32) = 0 by decide), if_pos (show nI (u + 1) < (99 : Int32) from nI_lt (b := 99) (by omega) (by decide)), if_pos rfl]
      rw [bn_free hn hset (by omega) hb u1, bk_free (by omega) hb u2, e1, e2]
      exact bt_step hn hset hok hs r (k + 1) u (by omega) (by omega)
end BT
theorem sm_nI {n : Nat} (h : n < 2 ^ 24) : Sm 24 (nI n) := fun i hi => by
  rw [bt_tn, tn_nI (by omega)]
  exact Nat.testBit_lt_two_pow (Nat.lt_of_lt_of_le h (Nat.pow_le_pow_right (by decide) hi))
theorem soon_01 (i : Int32) : soonF i = 0 ∨ soonF i = 1 := by
  unfold soonF
  split
  · exact Or.inr rfl
  · exact Or.inl rfl
theorem soon_eq {n : Nat} (h : n < 2 ^ 24) : (if onV (nI n) - onV (nI n) / 2 * 2 = 0 then (1 : Int32) else 0) = soonF (nI n) := by
  unfold soonF
  rw [pc_on (sm_nI h)]
theorem soon_eq2 {n : Nat} (h : n < 2 ^ 24) : (if onV (nI n) - onV (nI n) / 2 * 2 = 0 then (99 : Int32) else 0) = (if soonF (nI n) = 0 then 0 else 99) := by
  rw [← soon_eq h]
  by_cases z : onV (nI n) - onV (nI n) / 2 * 2 = 0
  · rw [if_pos z, if_pos z]; rfl
  · rw [if_neg z, if_neg z]; rfl
theorem ch_all {N n : Nat} {p : Nat → Nat} {bg : Nat → Int32} {b idx : Int32} (hp : Pl N n p bg b) (h : ∀ k, k < n → bt idx k = true) : chF bg idx n 0 0 = b := by
  refine b_ext fun c hc => Bool.eq_iff_iff.mpr ?_
  rw [ch_sub hp _ hc, hp.2.2.2.2 c hc]
  constructor
  · rintro ⟨k, k1, k2, -⟩; exact ⟨k, k1, k2⟩
  · rintro ⟨k, k1, k2⟩; exact ⟨k, k1, k2, h k k1⟩
section BU
variable {N w n a b : Nat} {nf : Int32 → Int32} {nr bg : Nat → Int32} {p : Nat → Nat} {bear bog : Int32}
theorem jo_bt (hr : NrR N w nr) (hn : NearOK N w nf) (hN : N ≤ 24) (ha : a < N) (hb : b < N) {x : Int32} (hx : Sm N x) : joF nf (nI a) (nI b) x = 0 ↔ ¬ (sshr x (nI a) &&& 1 = 1 ∧ sshr (rcV nr N a x) (nI b) &&& 1 = 1) := by
  unfold joF
  rw [bit_of (by omega), bit_of (by omega), rc_sp hr hn (br_self hx) hN ha]
  have k1 := has_iff (x := x) (show a < 32 by omega)
  have k2 := has_iff (x := x) (show b < 32 by omega)
  have k3 := has_iff (x := spF nf x 24 (shl 1 (nI a))) (show b < 32 by omega)
  have hw : bt x a = true → bt (spF nf x 24 (shl 1 (nI a))) b = true → bt x b = true := fun z1 z2 => by
    rw [spF_it] at z2
    exact Wk.bear z1 24 b ((it_Wk (stp_ok hn (br_self hx)) hN ha 24 b hb).mp z2)
  cases h1 : bt x a with
  | false =>
    rw [if_pos (Or.inl (k1.mpr h1))]
    exact ⟨fun _ z => absurd z.1 (by decide), fun _ => rfl⟩
  | true =>
    cases h2 : bt (spF nf x 24 (shl 1 (nI a))) b with
    | false =>
      rw [if_pos (Or.inr (Or.inr (k3.mpr h2)))]
      exact ⟨fun _ z => absurd z.2 (by decide), fun _ => rfl⟩
    | true =>
      have h3 := hw h1 h2
      rw [if_neg (by
        rintro (z | z | z)
        · rw [k1.mp z] at h1; cases h1
        · rw [k2.mp z] at h3; cases h3
        · rw [k3.mp z] at h2; cases h2)]
      exact ⟨fun z => absurd z (by decide), fun z => absurd ⟨by decide, by decide⟩ z⟩
theorem btV_eq (nr bg : Nat → Int32) (N n a b : Nat) (mb : Int32) (wo : Nat → Int32) (set : Nat) : btV nr bg N n a b mb wo set = if sshr (mb ||| chF bg (nI set) n 0 0) (nI a) &&& 1 = 1 ∧ sshr (rcV nr N a (mb ||| chF bg (nI set) n 0 0)) (nI b) &&& 1 = 1 then 0 else bkF wo set (if onV (nI set) - onV (nI set) / 2 * 2 = 0 then 1 else 0) n 0 (if onV (nI set) - onV (nI set) / 2 * 2 = 0 then 99 else 0) := rfl
theorem bt_val (hr : NrR N w nr) (hnf : NearOK N w nf) (hN : N ≤ 24) (hp : Pl N n p bg bog) (hn : n ≤ 8) (ha : a < N) (hb : b < N) (hbe : Sm N bear) (hfull : ¬ joF nf (nI a) (nI b) (bear ||| bog) = 0) {M : Mem} {wo : Nat → Int32} {r : Nat} (hr2 : r < 2 ^ n) (hok : BtOk n (M.1 12) wo (r + 1)) : ∃ v, ltV M nf (nI a) (nI b) bear n r (chF bg (nI r) n 0 0) = nI v ∧ btV nr bg N n a b bear wo r = nI v ∧ v + cnt (nI r) n ≤ n := by
  have h8 : 2 ^ n ≤ 2 ^ 8 := Nat.pow_le_pow_right (by decide) hn
  have hx : Sm N (bear ||| chF bg (nI r) n 0 0) := hbe.or (ch_Sm hp _).1
  have hj := jo_bt hr hnf hN ha hb hx
  rw [btV_eq]
  unfold ltV
  by_cases h : joF nf (nI a) (nI b) (bear ||| chF bg (nI r) n 0 0) = 0
  · rw [if_pos h]
    rw [if_neg (hj.mp h), soon_eq (by omega), soon_eq2 (by omega)]
    rcases bt_first hn hr2 hok (soon_01 (nI r)) n 0 (by omega) with z | ⟨v, v1, v2, v3⟩
    · rw [ch_all hp (fun k hk => z k (Nat.zero_le k) hk)] at h
      exact absurd h hfull
    · refine ⟨v + 1, ?_, v2, v3⟩
      rw [v1, nI_succ, Int32.add_comm]
  · rw [if_neg h]
    rw [if_pos (Classical.not_not.mp (mt hj.mpr h))]
    exact ⟨0, rfl, rfl, by have := cnt_le (nI r) n; omega⟩
theorem bt_all (hr : NrR N w nr) (hnf : NearOK N w nf) (hN : N ≤ 24) (hp : Pl N n p bg bog) (hn : n ≤ 8) (ha : a < N) (hb : b < N) (hbe : Sm N bear) (hfull : ¬ joF nf (nI a) (nI b) (bear ||| bog) = 0) : ∀ (r : Nat), r ≤ 2 ^ n → ∀ (M : Mem) (wo : Nat → Int32) (part : Int32), (∀ i, r = i + 1 → part = chF bg (nI i) n 0 0) → BtOk n (M.1 12) wo r → BtOk n ((ltM nf (nI a) (nI b) bear bog n r part M).1 12) (btW nr bg N n a b bear r wo) 0 := by
  have h8 : 2 ^ n ≤ 2 ^ 8 := Nat.pow_le_pow_right (by decide) hn
  intro r
  induction r with
  | zero => intro _ M wo part _ h; exact h
  | succ r ih =>
    intro hr2 M wo part hpart hok
    obtain rfl := hpart r rfl
    obtain ⟨v, v1, v2, v3⟩ := bt_val hr hnf hN hp hn ha hb hbe hfull (show r < 2 ^ n by omega) hok
    simp only [ltM, btW]
    rw [v1, v2, put_nI (n := 256) (by decide) (by omega)]
    refine ih (by omega) _ _ _ (fun i hi => by subst hi; exact ch_prev hp i) fun j h1 h2 => ?_
    rw [setO_eq]
    by_cases h9 : j = r
    · subst h9
      exact ⟨v, upd_at _ _ _, upd_at _ _ _, v3⟩
    · rw [upd_off _ _ h9, upd_off _ _ h9]
      exact hok j (by omega) h2
end BU
section P10
variable {g : GG} {M : Mem} {w h W sk t : Nat} {ea eb : Nat → Nat}
theorem p_byTurns : ∀ a b : Int32, PairI g Rel mX6_byTurns mX7_byTurns [.int a, .int b] := by
  intro a b M hM
  obtain ⟨w, h, W, sk, t, ea, eb, hr⟩ := hM
  have hR : Rel (th M) := ⟨w, h, W, sk, t, ea, eb, rel_th hr⟩
  have hN := hr.1.1.le.1
  rcases cellC hr a with ⟨h1, h2⟩ | ⟨a, ha, rfl, h1, h2⟩
  · exact pair_ri (sp_byTurns_bad (Or.inl h1)) (nxt_ri (sm_byTurns_bad (Or.inl h2)) rfl hR)
  rcases cellC hr b with ⟨k1, k2⟩ | ⟨b, hb, rfl, k1, k2⟩
  · exact pair_ri (sp_byTurns_bad (Or.inr k1)) (nxt_ri (sm_byTurns_bad (Or.inr k2)) rfl hR)
  have hg : ¬ (mCellF M (nI a) = 0 ∨ mCellF M (nI b) = 0) := not_or.mpr ⟨h2, k2⟩
  have hg' : ¬ (isCellF M (nI a) = 0 ∨ isCellF M (nI b) = 0) := not_or.mpr ⟨h1, k1⟩
  have hMW := rel_MW hr (by omega)
  have ebog := rel_lbN hr
  by_cases hb8 : pcF (M.1 13 0) ≤ 8
  · have hb8' : nI (lbN M (w * h)) ≤ 8 := by rw [← ebog]; exact hb8
    obtain ⟨p, hp⟩ := rel_pl hr
    have hn8 : lbN M (w * h) ≤ 8 := (nI_leI (a := lbN M (w * h)) (b := 8) (by have := hp.1; omega) (by decide)).mp hb8'
    obtain ⟨t1, t2⟩ := full_tab (lbN M (w * h)) (by omega)
    have hpow : 2 ^ lbN M (w * h) ≤ 2 ^ 8 := Nat.pow_le_pow_right (by decide) hn8
    have hpos : 0 < 2 ^ lbN M (w * h) := Nat.pow_pos (by decide)
    obtain ⟨f, hf⟩ := lt_any (nearM M) (nI a) (nI b) (bearM M) (M.1 13 0) (lbN M (w * h)) (2 ^ lbN M (w * h)) (M.1 13 0) M
    have hr' : RelS (setO M 12 f) w h W sk t ea eb := hr
    have hnr := nb_ok (setO (th (setO M 12 f)) 35 (lbB (setO M 12 f) (w * h))) (w := w) hN
    have hbr := rel_br hr
    have hfull : ¬ joF (nearM M) (nI a) (nI b) (bearM M ||| M.1 13 0) = 0 := by
      have hbog : Sm (w * h) (M.1 13 0) := hr.2.2.2.2.2.2.2.2.1.1
      rw [jo_bt hnr (rel_near hr) hN ha hb (hbr.1.or hbog)]
      refine fun z => z ?_
      obtain ⟨z1, z2⟩ := all_join hr hnr ha (set := shl 1 (nI a) ||| shl 1 (nI b)) ((Sm.one ha (by omega)).or (Sm.one hb (by omega)))
      have y1 : bt ((bearM M ||| M.1 13 0) &&& (shl 1 (nI a) ||| shl 1 (nI b))) a = true := by rw [z1, b_or, b_one (by omega) (by omega), decide_eq_true rfl]; rfl
      have y2 : bt (rcV (nbM (setO (th (setO M 12 f)) 35 (lbB (setO M 12 f) (w * h))) (w * h) w) (w * h) a (bearM M ||| M.1 13 0) &&& (shl 1 (nI a) ||| shl 1 (nI b))) b = true := by rw [z2, b_or, b_one (c := b) (by omega) (by omega), decide_eq_true rfl, Bool.or_true]
      rw [b_and, Bool.and_eq_true] at y1 y2
      rw [bit_of (by omega), bit_of (by omega), if_pos y1.1, if_pos y2.1]
      exact ⟨rfl, rfl⟩
    have key := bt_all hnr (rel_near hr) hN hp hn8 ha hb hbr.1 hfull (2 ^ lbN M (w * h)) (Nat.le_refl _) M (M.1 37) (M.1 13 0) (fun i hi => by
      have e : i = 2 ^ lbN M (w * h) - 1 := by omega
      rw [e, ch_full hp (by omega)]) (fun j z1 z2 => absurd z2 (by omega))
    rw [hf] at key
    obtain ⟨v, v1, v2, -⟩ := key 0 (Nat.le_refl 0) hpos
    refine pair_ri (sp_byTurns (s := lbN M (w * h)) (n := 2 ^ lbN M (w * h)) (by omega) (by omega) ebog t1 hg' hb8) ?_
    rw [hf]
    refine nxt_ri (sm_byTurns (M := setO M 12 f) (N := w * h) (w := w) (rel_MW hr' (by omega)) ha hb hg hb8' hn8 (nr_sm hnr)) ?_ ⟨w, h, W, sk, t, ea, eb, hr'⟩
    rw [rel_mb hr', show (0 : Int32) = nI 0 from rfl, at_nI (n := 256) (by decide) (by decide), v1]
    exact v2
  · exact pair_ri (sp_byTurns_state hg' hb8) (nxt_ri (sm_byTurns_state hMW hg (by rw [← ebog]; exact hb8)) rfl ⟨w, h, W, sk, t, ea, eb, hr⟩)
end P10
