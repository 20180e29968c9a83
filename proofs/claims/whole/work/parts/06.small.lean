
theorem tsw_3 (x : Int32) : x = 0 ∨ x = 1 ∨ x = 2 ∨ (x.toInt < 0 ∨ 2 < x.toInt) := by
  by_cases h : x.toInt < 0 ∨ 2 < x.toInt
  · exact Or.inr (Or.inr (Or.inr h))
  · have : x.toInt = 0 ∨ x.toInt = 1 ∨ x.toInt = 2 := by omega
    rcases this with h | h | h
    · exact Or.inl (Int32.toInt_inj.mp h)
    · exact Or.inr (Or.inl (Int32.toInt_inj.mp h))
    · exact Or.inr (Or.inr (Or.inl (Int32.toInt_inj.mp h)))
theorem ri_ok {v w : Int32} {M M' : Mem} (h : w = v) (hm : M = M') : (some (Value.int w) = some (Value.int v) ∧ M = M') := ⟨by rw [h], hm⟩
theorem rv_ok {M M' : Mem} (hm : M = M') : ((none : Option Value) = none ∧ M = M') := ⟨rfl, hm⟩
def hasF (x c : Int32) : Int32 := if x &&& shl 1 c = 0 then 0 else 1
theorem in_of {i : Int32} {n : Nat} (hn : n < 2 ^ 31) (h0 : ¬ i < 0) (h1 : ¬ Int32.ofNat n ≤ i) : vp_in i n := by
  rcases pk_ix i hn with h | h | ⟨j, hj, rfl⟩
  · exact absurd h h0
  · exact absurd h h1
  · exact vp_in_nI hj hn
def atF (n : Nat) (f : Nat → Int32) (i : Int32) : Int32 := if i < 0 ∨ Int32.ofNat n ≤ i then 0 else f i.toNatClampNeg
def putM (M : Mem) (o n : Nat) (i x : Int32) : Mem := if i < 0 ∨ Int32.ofNat n ≤ i then M else upI M o i.toNatClampNeg x
def cpyF (n : Nat) (f h : Nat → Int32) : Nat → Int32 := va_cpy f h 0 0 n
theorem arr5 : ArrO 5 4 := ⟨by decide, by decide, fun _ _ _ => rfl⟩
theorem arr6 : ArrO 6 4 := ⟨by decide, by decide, fun _ _ _ => rfl⟩
theorem arr8 : ArrO 8 4 := ⟨by decide, by decide, fun _ _ _ => rfl⟩
theorem arr9 : ArrO 9 4 := ⟨by decide, by decide, fun _ _ _ => rfl⟩
theorem arr3 : ArrO 3 300 := ⟨by decide, by decide, fun _ _ _ => rfl⟩
theorem arr12 : ArrO 12 256 := ⟨by decide, by decide, fun _ _ _ => rfl⟩
theorem arr14 : ArrO 14 24 := ⟨by decide, by decide, fun _ _ _ => rfl⟩
theorem arr15 : ArrO 15 24 := ⟨by decide, by decide, fun _ _ _ => rfl⟩
theorem arr16 : ArrO 16 4 := ⟨by decide, by decide, fun _ _ _ => rfl⟩
theorem arr18 : ArrO 18 24 := ⟨by decide, by decide, fun _ _ _ => rfl⟩
theorem arr19 : ArrO 19 24 := ⟨by decide, by decide, fun _ _ _ => rfl⟩
theorem arr20 : ArrO 20 4 := ⟨by decide, by decide, fun _ _ _ => rfl⟩
theorem arr22 : ArrO 22 24 := ⟨by decide, by decide, fun _ _ _ => rfl⟩
theorem arr23 : ArrO 23 24 := ⟨by decide, by decide, fun _ _ _ => rfl⟩
theorem arr24 : ArrO 24 4 := ⟨by decide, by decide, fun _ _ _ => rfl⟩

theorem sp_at {g : GG} {M : Mem} {o n : Nat} {i : Int32} (ha : ArrO o n) : RI g mX6_at [ob g o, .int i] M (atF n (M.1 o) i) M := by
  refine spec_of_wp (ls := [some (ob g o), some (.int i)]) rfl (Nat.le_of_ble_eq_true rfl) 0 rfl ?_
  refine wp_iload_n (pc' := 1) dX6_at_0 rfl rfl ?_
  refine wp_if_lt (pc' := 4) 16 dX6_at_1 rfl (by decide) (fun h1 => ?_) (fun h1 => ?_)
  · refine wp_iconst (pc' := 17) 0 dX6_at_16 rfl (by decide) ?_
    refine wp_ireti dX6_at_17 rfl ?_
    exact ri_ok (by simp [atF, *]) rfl
  · refine wp_iload_n (pc' := 5) dX6_at_4 rfl rfl ?_
    refine wp_aload_n (pc' := 6) dX6_at_5 rfl rfl ⟨_, rfl⟩ ?_
    refine wp_alen (pc' := 7) (o := o) (n := n) (v := Int32.ofNat n) dX6_at_6 rfl ha.1 (ha.2.2 _ _ _) rfl ?_
    refine wp_icmp_ge (pc' := 10) 16 dX6_at_7 rfl (by decide) (fun h7 => ?_) (fun h7 => ?_)
    · refine wp_iconst (pc' := 17) 0 dX6_at_16 rfl (by decide) ?_
      refine wp_ireti dX6_at_17 rfl ?_
      exact ri_ok (by simp [atF, *]) rfl
    · refine wp_aload_n (pc' := 11) dX6_at_10 rfl rfl ⟨_, rfl⟩ ?_
      refine wp_iload_n (pc' := 12) dX6_at_11 rfl rfl ?_
      refine wp_iald (pc' := 13) (o := o) (n := n) dX6_at_12 rfl ha.1 (ha.2.2 _ _ _) (in_of ha.2.1 h1 h7) ?_
      refine wp_goto 17 dX6_at_13 (by decide) ?_
      refine wp_ireti dX6_at_17 rfl ?_
      exact ri_ok (by simp [atF, *]) rfl
theorem sp_put {g : GG} {M : Mem} {o n : Nat} {i x : Int32} (ha : ArrO o n) : RV g mX6_put [ob g o, .int i, .int x] M (putM M o n i x) := by
  refine spec_of_wp (ls := [some (ob g o), some (.int i), some (.int x)]) rfl (Nat.le_of_ble_eq_true rfl) 0 rfl ?_
  refine wp_iload_n (pc' := 1) dX6_put_0 rfl rfl ?_
  refine wp_if_lt (pc' := 4) 14 dX6_put_1 rfl (by decide) (fun h1 => ?_) (fun h1 => ?_)
  · refine wp_vret dX6_put_14 rfl ?_
    exact rv_ok (by simp [putM, *])
  · refine wp_iload_n (pc' := 5) dX6_put_4 rfl rfl ?_
    refine wp_aload_n (pc' := 6) dX6_put_5 rfl rfl ⟨_, rfl⟩ ?_
    refine wp_alen (pc' := 7) (o := o) (n := n) (v := Int32.ofNat n) dX6_put_6 rfl ha.1 (ha.2.2 _ _ _) rfl ?_
    refine wp_icmp_ge (pc' := 10) 14 dX6_put_7 rfl (by decide) (fun h7 => ?_) (fun h7 => ?_)
    · refine wp_vret dX6_put_14 rfl ?_
      exact rv_ok (by simp [putM, *])
    · refine wp_aload_n (pc' := 11) dX6_put_10 rfl rfl ⟨_, rfl⟩ ?_
      refine wp_iload_n (pc' := 12) dX6_put_11 rfl rfl ?_
      refine wp_iload_n (pc' := 13) dX6_put_12 rfl rfl ?_
      refine wp_iast (pc' := 14) (o := o) (n := n) dX6_put_13 rfl ha.1 (fun _ _ => ha.2.2 _ _ _) (in_of ha.2.1 h1 h7) ?_
      refine wp_vret dX6_put_14 rfl ?_
      exact rv_ok (by simp [putM, *])
theorem sp_copyRow {g : GG} {M : Mem} {o1 o2 n : Nat} (ha : ArrO o1 n) (hb : ArrO o2 n) : RV g mX6_copyRow [ob g o1, ob g o2] M (setO M o2 (cpyF n (M.1 o1) (M.1 o2))) := by
  refine spec_of_wp (ls := [some (ob g o1), some (ob g o2)]) rfl (Nat.le_of_ble_eq_true rfl) 0 rfl ?_
  refine wp_aload_n (pc' := 1) dX6_copyRow_0 rfl rfl ⟨_, rfl⟩ ?_
  refine wp_iconst (pc' := 2) 0 dX6_copyRow_1 rfl (by decide) ?_
  refine wp_aload_n (pc' := 3) dX6_copyRow_2 rfl rfl ⟨_, rfl⟩ ?_
  refine wp_iconst (pc' := 4) 0 dX6_copyRow_3 rfl (by decide) ?_
  refine wp_aload_n (pc' := 5) dX6_copyRow_4 rfl rfl ⟨_, rfl⟩ ?_
  refine wp_alen (pc' := 6) (o := o1) (n := n) (v := Int32.ofNat n) dX6_copyRow_5 rfl ha.1 (ha.2.2 _ _ _) rfl ?_
  refine wp_aload_n (pc' := 7) dX6_copyRow_6 rfl rfl ⟨_, rfl⟩ ?_
  refine wp_alen (pc' := 8) (o := o2) (n := n) (v := Int32.ofNat n) dX6_copyRow_7 rfl hb.1 (hb.2.2 _ _ _) rfl ?_
  refine wp_mmin (pc' := 11) dX6_copyRow_8 rfl mlX6_252 (Nat.le_of_ble_eq_true rfl) (Nat.le_of_ble_eq_true rfl) ?_
  rw [ite_self]
  refine wp_copy (pc' := 14) (o1 := o1) (o2 := o2) (n1 := n) (n2 := n) dX6_copyRow_11 rfl mlX6_255 ha hb (by decide) (by decide) (nI_pos (n := n) ha.2.1) (by show 0 + (nI n).toNatClampNeg ≤ n; rw [nI_clamp ha.2.1]; omega) (by show 0 + (nI n).toNatClampNeg ≤ n; rw [nI_clamp ha.2.1]; omega) (Nat.le_of_ble_eq_true rfl) (Nat.le_of_ble_eq_true rfl) ?_
  refine wp_vret dX6_copyRow_14 rfl ?_
  exact rv_ok (by show setO M o2 (va_cpy _ _ 0 0 (nI n).toNatClampNeg) = _; rw [nI_clamp ha.2.1]; rfl)
theorem sp_has {g : GG} {M : Mem} {x c : Int32} : RI g mX6_has [.int x, .int c] M (hasF x c) M := by
  refine spec_of_wp (ls := [some (.int x), some (.int c)]) rfl (Nat.le_of_ble_eq_true rfl) 0 rfl ?_
  refine wp_iload_n (pc' := 1) dX6_has_0 rfl rfl ?_
  refine wp_iconst (pc' := 2) 1 dX6_has_1 rfl (by decide) ?_
  refine wp_iload_n (pc' := 3) dX6_has_2 rfl rfl ?_
  refine wp_ishl (pc' := 4) dX6_has_3 rfl ?_
  refine wp_iand (pc' := 5) dX6_has_4 rfl ?_
  refine wp_if_eq (pc' := 8) 12 dX6_has_5 rfl (by decide) (fun h5 => ?_) (fun h5 => ?_)
  · refine wp_iconst (pc' := 13) 0 dX6_has_12 rfl (by decide) ?_
    refine wp_iretz dX6_has_13 rfl rfl ?_
    exact ri_ok (by simp [hasF, h5]) rfl
  · refine wp_iconst (pc' := 9) 1 dX6_has_8 rfl (by decide) ?_
    refine wp_goto 13 dX6_has_9 (by decide) ?_
    refine wp_iretz dX6_has_13 rfl rfl ?_
    exact ri_ok (by simp [hasF, h5]) rfl
def isCellF (M : Mem) (c : Int32) : Int32 := if c < 0 ∨ M.1 4 2 ≤ c then 0 else 1
theorem sp_isCell {g : GG} {M : Mem} {c : Int32} : RI g mX6_isCell [ob g 0, .int c] M (isCellF M c) M := by
  refine spec_of_wp (ls := [some (ob g 0), some (.int c)]) rfl (Nat.le_of_ble_eq_true rfl) 0 rfl ?_
  refine wp_iload_n (pc' := 1) dX6_isCell_0 rfl rfl ?_
  refine wp_if_lt (pc' := 4) 19 dX6_isCell_1 rfl (by decide) (fun h1 => ?_) (fun h1 => ?_)
  · refine wp_iconst (pc' := 20) 0 dX6_isCell_19 rfl (by decide) ?_
    refine wp_iretz dX6_isCell_20 rfl rfl ?_
    exact ri_ok (by simp [isCellF, *]) rfl
  · refine wp_iload_n (pc' := 5) dX6_isCell_4 rfl rfl ?_
    refine wp_aload_n (pc' := 6) dX6_isCell_5 rfl rfl ⟨_, rfl⟩ ?_
    refine wp_get (pc' := 9) (o := 0) dX6_isCell_6 rfl flX6_24 (by decide) rfl rfl ?_
    refine wp_get (pc' := 12) (o := 4) dX6_isCell_9 rfl flX6_224 (by decide) rfl rfl ?_
    refine wp_icmp_ge (pc' := 15) 19 dX6_isCell_12 rfl (by decide) (fun h12 => ?_) (fun h12 => ?_)
    · refine wp_iconst (pc' := 20) 0 dX6_isCell_19 rfl (by decide) ?_
      refine wp_iretz dX6_isCell_20 rfl rfl ?_
      exact ri_ok (by simp [isCellF, *]) rfl
    · refine wp_iconst (pc' := 16) 1 dX6_isCell_15 rfl (by decide) ?_
      refine wp_goto 20 dX6_isCell_16 (by decide) ?_
      refine wp_iretz dX6_isCell_20 rfl rfl ?_
      exact ri_ok (by simp [isCellF, *]) rfl
def isWalkerF (M : Mem) (c : Int32) : Int32 := if c < 0 ∨ M.1 4 7 ≤ c then 0 else 1
theorem sp_isWalker {g : GG} {M : Mem} {c : Int32} : RI g mX6_isWalker [ob g 0, .int c] M (isWalkerF M c) M := by
  refine spec_of_wp (ls := [some (ob g 0), some (.int c)]) rfl (Nat.le_of_ble_eq_true rfl) 0 rfl ?_
  refine wp_iload_n (pc' := 1) dX6_isWalker_0 rfl rfl ?_
  refine wp_if_lt (pc' := 4) 19 dX6_isWalker_1 rfl (by decide) (fun h1 => ?_) (fun h1 => ?_)
  · refine wp_iconst (pc' := 20) 0 dX6_isWalker_19 rfl (by decide) ?_
    refine wp_iretz dX6_isWalker_20 rfl rfl ?_
    exact ri_ok (by simp [isWalkerF, *]) rfl
  · refine wp_iload_n (pc' := 5) dX6_isWalker_4 rfl rfl ?_
    refine wp_aload_n (pc' := 6) dX6_isWalker_5 rfl rfl ⟨_, rfl⟩ ?_
    refine wp_get (pc' := 9) (o := 0) dX6_isWalker_6 rfl flX6_24 (by decide) rfl rfl ?_
    refine wp_get (pc' := 12) (o := 4) dX6_isWalker_9 rfl flX6_149 (by decide) rfl rfl ?_
    refine wp_icmp_ge (pc' := 15) 19 dX6_isWalker_12 rfl (by decide) (fun h12 => ?_) (fun h12 => ?_)
    · refine wp_iconst (pc' := 20) 0 dX6_isWalker_19 rfl (by decide) ?_
      refine wp_iretz dX6_isWalker_20 rfl rfl ?_
      exact ri_ok (by simp [isWalkerF, *]) rfl
    · refine wp_iconst (pc' := 16) 1 dX6_isWalker_15 rfl (by decide) ?_
      refine wp_goto 20 dX6_isWalker_16 (by decide) ?_
      refine wp_iretz dX6_isWalker_20 rfl rfl ?_
      exact ri_ok (by simp [isWalkerF, *]) rfl
def bearM (M : Mem) : Int32 := M.1 11 1 &&& (M.1 13 0 ^^^ (-1))
theorem sp_bearing {g : GG} {M : Mem} : RI g mX6_bearing [ob g 0] M (bearM M) M := by
  refine spec_of_wp (ls := [some (ob g 0)]) rfl (Nat.le_of_ble_eq_true rfl) 0 rfl ?_
  refine wp_aload_n (pc' := 1) dX6_bearing_0 rfl rfl ⟨_, rfl⟩ ?_
  refine wp_get (pc' := 4) (o := 0) dX6_bearing_1 rfl flX6_42 (by decide) rfl rfl ?_
  refine wp_get (pc' := 7) (o := 11) dX6_bearing_4 rfl flX6_155 (by decide) rfl rfl ?_
  refine wp_aload_n (pc' := 8) dX6_bearing_7 rfl rfl ⟨_, rfl⟩ ?_
  refine wp_get (pc' := 11) (o := 0) dX6_bearing_8 rfl flX6_46 (by decide) rfl rfl ?_
  refine wp_get (pc' := 14) (o := 13) dX6_bearing_11 rfl flX6_138 (by decide) rfl rfl ?_
  refine wp_iconst (pc' := 15) (-1) dX6_bearing_14 rfl (by decide) ?_
  refine wp_ixor (pc' := 16) dX6_bearing_15 rfl ?_
  refine wp_iand (pc' := 17) dX6_bearing_16 rfl ?_
  refine wp_ireti dX6_bearing_17 rfl ?_
  exact ri_ok rfl rfl
theorem sp_image0 {g : GG} {M : Mem} : RO g mX6_imageOf [ob g 0, .int 0] M 17 M := by
  refine spec_of_wp (ls := [some (ob g 0), some (.int 0)]) rfl (Nat.le_of_ble_eq_true rfl) 0 rfl ?_
  refine wp_iload_n (pc' := 1) dX6_imageOf_0 rfl rfl ?_
  refine wp_if_ne (pc' := 4) 11 dX6_imageOf_1 rfl (by decide) (fun hh => absurd hh (by decide)) (fun _ => ?_)
  refine wp_aload_n (pc' := 5) dX6_imageOf_4 rfl rfl ⟨_, rfl⟩ ?_
  refine wp_get (pc' := 8) (o := 0) dX6_imageOf_5 rfl flX6_50 (by decide) rfl rfl ?_
  refine wp_goto 15 dX6_imageOf_8 (by decide) ?_
  refine wp_aret dX6_imageOf_15 rfl ?_
  exact ⟨rfl, rfl⟩
theorem sp_image1 {g : GG} {M : Mem} : RO g mX6_imageOf [ob g 0, .int 1] M 21 M := by
  refine spec_of_wp (ls := [some (ob g 0), some (.int 1)]) rfl (Nat.le_of_ble_eq_true rfl) 0 rfl ?_
  refine wp_iload_n (pc' := 1) dX6_imageOf_0 rfl rfl ?_
  refine wp_if_ne (pc' := 4) 11 dX6_imageOf_1 rfl (by decide) (fun _ => ?_) (fun hh => absurd hh (by decide))
  refine wp_aload_n (pc' := 12) dX6_imageOf_11 rfl rfl ⟨_, rfl⟩ ?_
  refine wp_get (pc' := 15) (o := 0) dX6_imageOf_12 rfl flX6_53 (by decide) rfl rfl ?_
  refine wp_aret dX6_imageOf_15 rfl ?_
  exact ⟨rfl, rfl⟩

/-! Ways -/
def nearF (w al fc lc s : Int32) : Int32 :=
  let r := shl (s &&& (lc ^^^ (-1))) 1
  let l := ushr (s &&& (fc ^^^ (-1))) 1
  let d := shl s w &&& al
  let u := ushr s w
  (((r ||| l) ||| d) ||| u) ||| (((shl (r &&& (lc ^^^ (-1))) 1 ||| ushr (l &&& (fc ^^^ (-1))) 1) ||| (shl d w &&& al)) ||| ushr u w)
def nearM (M : Mem) (s : Int32) : Int32 := nearF (M.1 11 0) (M.1 11 1) (M.1 11 2) (M.1 11 3) s

theorem sp_near {g : GG} {M : Mem} {s : Int32} : RI g mX5_near [ob g 11, .int s] M (nearM M s) M := by
  refine spec_of_wp (ls := [some (ob g 11), some (.int s), none, none, none, none, none, none]) rfl (Nat.le_of_ble_eq_true rfl) 6 rfl ?_
  refine wp_iload_n (pc' := 1) dX5_near_0 rfl rfl ?_
  refine wp_aload_n (pc' := 2) dX5_near_1 rfl rfl ⟨_, rfl⟩ ?_
  refine wp_get (pc' := 5) (o := 11) dX5_near_2 rfl flX5_21 (by decide) rfl rfl ?_
  refine wp_iconst (pc' := 6) (-1) dX5_near_5 rfl (by decide) ?_
  refine wp_ixor (pc' := 7) dX5_near_6 rfl ?_
  refine wp_iand (pc' := 8) dX5_near_7 rfl ?_
  refine wp_iconst (pc' := 9) 1 dX5_near_8 rfl (by decide) ?_
  refine wp_ishl (pc' := 10) dX5_near_9 rfl ?_
  refine wp_ist2 (pc' := 11) dX5_near_10 rfl (by decide) rfl ?_
  refine wp_iload_n (pc' := 12) dX5_near_11 rfl rfl ?_
  refine wp_aload_n (pc' := 13) dX5_near_12 rfl rfl ⟨_, rfl⟩ ?_
  refine wp_get (pc' := 16) (o := 11) dX5_near_13 rfl flX5_18 (by decide) rfl rfl ?_
  refine wp_iconst (pc' := 17) (-1) dX5_near_16 rfl (by decide) ?_
  refine wp_ixor (pc' := 18) dX5_near_17 rfl ?_
  refine wp_iand (pc' := 19) dX5_near_18 rfl ?_
  refine wp_iconst (pc' := 20) 1 dX5_near_19 rfl (by decide) ?_
  refine wp_iushr (pc' := 21) dX5_near_20 rfl ?_
  refine wp_ist3 (pc' := 22) dX5_near_21 rfl (by decide) rfl ?_
  refine wp_iload_n (pc' := 23) dX5_near_22 rfl rfl ?_
  refine wp_aload_n (pc' := 24) dX5_near_23 rfl rfl ⟨_, rfl⟩ ?_
  refine wp_get (pc' := 27) (o := 11) dX5_near_24 rfl flX5_9 (by decide) rfl rfl ?_
  refine wp_ishl (pc' := 28) dX5_near_27 rfl ?_
  refine wp_aload_n (pc' := 29) dX5_near_28 rfl rfl ⟨_, rfl⟩ ?_
  refine wp_get (pc' := 32) (o := 11) dX5_near_29 rfl flX5_15 (by decide) rfl rfl ?_
  refine wp_iand (pc' := 33) dX5_near_32 rfl ?_
  refine wp_ist4 (pc' := 35) dX5_near_33 rfl (by decide) rfl ?_
  refine wp_iload_n (pc' := 36) dX5_near_35 rfl rfl ?_
  refine wp_aload_n (pc' := 37) dX5_near_36 rfl rfl ⟨_, rfl⟩ ?_
  refine wp_get (pc' := 40) (o := 11) dX5_near_37 rfl flX5_9 (by decide) rfl rfl ?_
  refine wp_iushr (pc' := 41) dX5_near_40 rfl ?_
  refine wp_ist5 (pc' := 43) dX5_near_41 rfl (by decide) rfl ?_
  refine wp_iload_n (pc' := 44) dX5_near_43 rfl rfl ?_
  refine wp_iload_n (pc' := 45) dX5_near_44 rfl rfl ?_
  refine wp_ior (pc' := 46) dX5_near_45 rfl ?_
  refine wp_iload (pc' := 48) dX5_near_46 rfl rfl ?_
  refine wp_ior (pc' := 49) dX5_near_48 rfl ?_
  refine wp_iload (pc' := 51) dX5_near_49 rfl rfl ?_
  refine wp_ior (pc' := 52) dX5_near_51 rfl ?_
  refine wp_ist6 (pc' := 54) dX5_near_52 rfl (by decide) rfl ?_
  refine wp_iload_n (pc' := 55) dX5_near_54 rfl rfl ?_
  refine wp_aload_n (pc' := 56) dX5_near_55 rfl rfl ⟨_, rfl⟩ ?_
  refine wp_get (pc' := 59) (o := 11) dX5_near_56 rfl flX5_21 (by decide) rfl rfl ?_
  refine wp_iconst (pc' := 60) (-1) dX5_near_59 rfl (by decide) ?_
  refine wp_ixor (pc' := 61) dX5_near_60 rfl ?_
  refine wp_iand (pc' := 62) dX5_near_61 rfl ?_
  refine wp_iconst (pc' := 63) 1 dX5_near_62 rfl (by decide) ?_
  refine wp_ishl (pc' := 64) dX5_near_63 rfl ?_
  refine wp_iload_n (pc' := 65) dX5_near_64 rfl rfl ?_
  refine wp_aload_n (pc' := 66) dX5_near_65 rfl rfl ⟨_, rfl⟩ ?_
  refine wp_get (pc' := 69) (o := 11) dX5_near_66 rfl flX5_18 (by decide) rfl rfl ?_
  refine wp_iconst (pc' := 70) (-1) dX5_near_69 rfl (by decide) ?_
  refine wp_ixor (pc' := 71) dX5_near_70 rfl ?_
  refine wp_iand (pc' := 72) dX5_near_71 rfl ?_
  refine wp_iconst (pc' := 73) 1 dX5_near_72 rfl (by decide) ?_
  refine wp_iushr (pc' := 74) dX5_near_73 rfl ?_
  refine wp_ior (pc' := 75) dX5_near_74 rfl ?_
  refine wp_iload (pc' := 77) dX5_near_75 rfl rfl ?_
  refine wp_aload_n (pc' := 78) dX5_near_77 rfl rfl ⟨_, rfl⟩ ?_
  refine wp_get (pc' := 81) (o := 11) dX5_near_78 rfl flX5_9 (by decide) rfl rfl ?_
  refine wp_ishl (pc' := 82) dX5_near_81 rfl ?_
  refine wp_aload_n (pc' := 83) dX5_near_82 rfl rfl ⟨_, rfl⟩ ?_
  refine wp_get (pc' := 86) (o := 11) dX5_near_83 rfl flX5_15 (by decide) rfl rfl ?_
  refine wp_iand (pc' := 87) dX5_near_86 rfl ?_
  refine wp_ior (pc' := 88) dX5_near_87 rfl ?_
  refine wp_iload (pc' := 90) dX5_near_88 rfl rfl ?_
  refine wp_aload_n (pc' := 91) dX5_near_90 rfl rfl ⟨_, rfl⟩ ?_
  refine wp_get (pc' := 94) (o := 11) dX5_near_91 rfl flX5_9 (by decide) rfl rfl ?_
  refine wp_iushr (pc' := 95) dX5_near_94 rfl ?_
  refine wp_ior (pc' := 96) dX5_near_95 rfl ?_
  refine wp_ist7 (pc' := 98) dX5_near_96 rfl (by decide) rfl ?_
  refine wp_iload (pc' := 100) dX5_near_98 rfl rfl ?_
  refine wp_iload (pc' := 102) dX5_near_100 rfl rfl ?_
  refine wp_ior (pc' := 103) dX5_near_102 rfl ?_
  refine wp_ireti dX5_near_103 rfl ?_
  exact ri_ok rfl rfl

def spF (nr : Int32 → Int32) (bear : Int32) : Nat → Int32 → Int32
  | 0, r => r
  | n + 1, r => if r ||| (nr r &&& bear) = r then r else spF nr bear n (r ||| (nr r &&& bear))

theorem lp_spread {g : GG} {M : Mem} {bear : Int32} : ∀ (n j : Nat), j + n = 24 → ∀ (s r : Int32) (x5 : Option Value), wp g mX5_spread 5 [some (ob g 11), some (.int s), some (.int bear), some (.int r), some (.int (nI j)), x5] [] M (fun q m => q = some (.int (spF (nearM M) bear n r)) ∧ m = M) := by
  intro n
  induction n with
  | zero =>
    intro j hj s r x5
    obtain rfl : j = 24 := by omega
    refine wp_iload (pc' := 7) dX5_spread_5 rfl rfl ?_
    refine wp_bipush (pc' := 9) 24 dX5_spread_7 rfl (by decide) ?_
    refine wp_icmp_ge (pc' := 12) 40 dX5_spread_9 rfl (by decide) (fun _ => ?_) (fun hh => absurd hh (by decide))
    refine wp_iload_n (pc' := 41) dX5_spread_40 rfl rfl ?_
    refine wp_ireti dX5_spread_41 rfl ?_
    exact ri_ok rfl rfl
  | succ n ih =>
    intro j hj s r x5
    refine wp_iload (pc' := 7) dX5_spread_5 rfl rfl ?_
    refine wp_bipush (pc' := 9) 24 dX5_spread_7 rfl (by decide) ?_
    refine wp_icmp_ge (pc' := 12) 40 dX5_spread_9 rfl (by decide) (fun h9 => ?_) (fun h9 => ?_)
    · refine wp_iload_n (pc' := 41) dX5_spread_40 rfl rfl ?_
      refine wp_ireti dX5_spread_41 rfl ?_
      exact absurd h9 (nI_ge (a := j) (b := 24) (by omega) (by decide))
    · refine wp_iload_n (pc' := 13) dX5_spread_12 rfl rfl ?_
      refine wp_aload_n (pc' := 14) dX5_spread_13 rfl rfl ⟨_, rfl⟩ ?_
      refine wp_iload_n (pc' := 15) dX5_spread_14 rfl rfl ?_
      refine wp_cVI (μ' := mX5_near) (pc' := 18) (o := 11) dX5_spread_15 rfl mlX5_24 cfX5_near ⟨(Nat.le_of_ble_eq_true rfl), (Nat.le_of_ble_eq_true rfl)⟩ (sp_near) (by decide) rfl rfl rfl rfl rfl (Nat.le_of_ble_eq_true rfl) ?_
      refine wp_iload_n (pc' := 19) dX5_spread_18 rfl rfl ?_
      refine wp_iand (pc' := 20) dX5_spread_19 rfl ?_
      refine wp_ior (pc' := 21) dX5_spread_20 rfl ?_
      refine wp_ist5 (pc' := 23) dX5_spread_21 rfl (by decide) rfl ?_
      refine wp_iload (pc' := 25) dX5_spread_23 rfl rfl ?_
      refine wp_iload_n (pc' := 26) dX5_spread_25 rfl rfl ?_
      refine wp_icmp_ne (pc' := 29) 31 dX5_spread_26 rfl (by decide) (fun h26 => ?_) (fun h26 => ?_)
      · refine wp_iload (pc' := 33) dX5_spread_31 rfl rfl ?_
        refine wp_ist3 (pc' := 34) dX5_spread_33 rfl (by decide) rfl ?_
        refine wp_inc4 (pc' := 37) (nI (j + 1)) dX5_spread_34 rfl (by decide) rfl (nI_1 j) ?_
        refine wp_goto 5 dX5_spread_37 (by decide) ?_
        rw [spF, if_neg h26]
        exact ih (j + 1) (by omega) _ _ _
      · refine wp_iload_n (pc' := 30) dX5_spread_29 rfl rfl ?_
        refine wp_ireti dX5_spread_30 rfl ?_
        exact ri_ok (by rw [spF, if_pos h26]) rfl
theorem sp_spread {g : GG} {M : Mem} {s bear : Int32} : RI g mX5_spread [ob g 11, .int s, .int bear] M (spF (nearM M) bear 24 s) M := by
  refine spec_of_wp (ls := [some (ob g 11), some (.int s), some (.int bear), none, none, none]) rfl (Nat.le_of_ble_eq_true rfl) 3 rfl ?_
  refine wp_iload_n (pc' := 1) dX5_spread_0 rfl rfl ?_
  refine wp_ist3 (pc' := 2) dX5_spread_1 rfl (by decide) rfl ?_
  refine wp_iconst (pc' := 3) 0 dX5_spread_2 rfl (by decide) ?_
  refine wp_ist4 (pc' := 5) dX5_spread_3 rfl (by decide) rfl ?_
  exact lp_spread 24 0 rfl _ _ _

def joF (nr : Int32 → Int32) (a b bear : Int32) : Int32 := if hasF bear a = 0 ∨ hasF bear b = 0 ∨ hasF (spF nr bear 24 (shl 1 a)) b = 0 then 0 else 1

theorem sp_joins {g : GG} {M : Mem} {a b bear : Int32} : RI g mX5_joins [ob g 11, .int a, .int b, .int bear] M (joF (nearM M) a b bear) M := by
  refine spec_of_wp (ls := [some (ob g 11), some (.int a), some (.int b), some (.int bear)]) rfl (Nat.le_of_ble_eq_true rfl) 0 rfl ?_
  refine wp_iload_n (pc' := 1) dX5_joins_0 rfl rfl ?_
  refine wp_iload_n (pc' := 2) dX5_joins_1 rfl rfl ?_
  refine wp_cSI (μ' := mX6_has) (pc' := 5) dX5_joins_2 rfl mlX5_28 cfX6_has ⟨(Nat.le_of_ble_eq_true rfl), (Nat.le_of_ble_eq_true rfl)⟩ (sp_has) rfl rfl (Nat.le_of_ble_eq_true rfl) ?_
  refine wp_if_eq (pc' := 8) 35 dX5_joins_5 rfl (by decide) (fun h5 => ?_) (fun h5 => ?_)
  · refine wp_iconst (pc' := 36) 0 dX5_joins_35 rfl (by decide) ?_
    refine wp_iretz dX5_joins_36 rfl rfl ?_
    exact ri_ok (by unfold joF; rw [if_pos (Or.inl h5)]) rfl
  · refine wp_iload_n (pc' := 9) dX5_joins_8 rfl rfl ?_
    refine wp_iload_n (pc' := 10) dX5_joins_9 rfl rfl ?_
    refine wp_cSI (μ' := mX6_has) (pc' := 13) dX5_joins_10 rfl mlX5_28 cfX6_has ⟨(Nat.le_of_ble_eq_true rfl), (Nat.le_of_ble_eq_true rfl)⟩ (sp_has) rfl rfl (Nat.le_of_ble_eq_true rfl) ?_
    refine wp_if_eq (pc' := 16) 35 dX5_joins_13 rfl (by decide) (fun h13 => ?_) (fun h13 => ?_)
    · refine wp_iconst (pc' := 36) 0 dX5_joins_35 rfl (by decide) ?_
      refine wp_iretz dX5_joins_36 rfl rfl ?_
      exact ri_ok (by unfold joF; rw [if_pos (Or.inr (Or.inl h13))]) rfl
    · refine wp_aload_n (pc' := 17) dX5_joins_16 rfl rfl ⟨_, rfl⟩ ?_
      refine wp_iconst (pc' := 18) 1 dX5_joins_17 rfl (by decide) ?_
      refine wp_iload_n (pc' := 19) dX5_joins_18 rfl rfl ?_
      refine wp_ishl (pc' := 20) dX5_joins_19 rfl ?_
      refine wp_iload_n (pc' := 21) dX5_joins_20 rfl rfl ?_
      refine wp_cVI (μ' := mX5_spread) (pc' := 24) (o := 11) dX5_joins_21 rfl mlX5_32 cfX5_spread ⟨(Nat.le_of_ble_eq_true rfl), (Nat.le_of_ble_eq_true rfl)⟩ (sp_spread) (by decide) rfl rfl rfl rfl rfl (Nat.le_of_ble_eq_true rfl) ?_
      refine wp_iload_n (pc' := 25) dX5_joins_24 rfl rfl ?_
      refine wp_cSI (μ' := mX6_has) (pc' := 28) dX5_joins_25 rfl mlX5_28 cfX6_has ⟨(Nat.le_of_ble_eq_true rfl), (Nat.le_of_ble_eq_true rfl)⟩ (sp_has) rfl rfl (Nat.le_of_ble_eq_true rfl) ?_
      refine wp_if_eq (pc' := 31) 35 dX5_joins_28 rfl (by decide) (fun h28 => ?_) (fun h28 => ?_)
      · refine wp_iconst (pc' := 36) 0 dX5_joins_35 rfl (by decide) ?_
        refine wp_iretz dX5_joins_36 rfl rfl ?_
        exact ri_ok (by unfold joF; rw [if_pos (Or.inr (Or.inr h28))]) rfl
      · refine wp_iconst (pc' := 32) 1 dX5_joins_31 rfl (by decide) ?_
        refine wp_goto 36 dX5_joins_32 (by decide) ?_
        refine wp_iretz dX5_joins_36 rfl rfl ?_
        exact ri_ok (by unfold joF; rw [if_neg (fun h => h.elim h5 (fun h => h.elim h13 h28))]) rfl

def stF (nr : Int32 → Int32) (bear b : Int32) : Nat → Nat → Int32 → Int32
  | 0, _, _ => -9
  | n + 1, k, r => if hasF r b = 0 then (if r ||| (nr r &&& bear) = r then -9 else stF nr bear b n (k + 1) (r ||| (nr r &&& bear))) else nI k
def fsF (nr : Int32 → Int32) (a b bear : Int32) : Int32 := if hasF bear a = 0 ∨ hasF bear b = 0 then -9 else stF nr bear b 24 0 (shl 1 a)

theorem lp_fewestSteps {g : GG} {M : Mem} {a b bear : Int32} : ∀ (n j : Nat), j + n = 24 → ∀ (r : Int32) (x6 : Option Value), wp g mX5_fewestSteps 27 [some (ob g 11), some (.int a), some (.int b), some (.int bear), some (.int r), some (.int (nI j)), x6] [] M (fun q m => q = some (.int (stF (nearM M) bear b n j r)) ∧ m = M) := by
  intro n
  induction n with
  | zero =>
    intro j hj r x6
    obtain rfl : j = 24 := by omega
    refine wp_iload (pc' := 29) dX5_fewestSteps_27 rfl rfl ?_
    refine wp_bipush (pc' := 31) 24 dX5_fewestSteps_29 rfl (by decide) ?_
    refine wp_icmp_ge (pc' := 34) 79 dX5_fewestSteps_31 rfl (by decide) (fun _ => ?_) (fun hh => absurd hh (by decide))
    refine wp_bipush (pc' := 81) (-9) dX5_fewestSteps_79 rfl (by decide) ?_
    refine wp_ireti dX5_fewestSteps_81 rfl ?_
    exact ri_ok rfl rfl
  | succ n ih =>
    intro j hj r x6
    refine wp_iload (pc' := 29) dX5_fewestSteps_27 rfl rfl ?_
    refine wp_bipush (pc' := 31) 24 dX5_fewestSteps_29 rfl (by decide) ?_
    refine wp_icmp_ge (pc' := 34) 79 dX5_fewestSteps_31 rfl (by decide) (fun h31 => ?_) (fun h31 => ?_)
    · refine wp_bipush (pc' := 81) (-9) dX5_fewestSteps_79 rfl (by decide) ?_
      refine wp_ireti dX5_fewestSteps_81 rfl ?_
      exact absurd h31 (nI_ge (a := j) (b := 24) (by omega) (by decide))
    · refine wp_iload (pc' := 36) dX5_fewestSteps_34 rfl rfl ?_
      refine wp_iload_n (pc' := 37) dX5_fewestSteps_36 rfl rfl ?_
      refine wp_cSI (μ' := mX6_has) (pc' := 40) dX5_fewestSteps_37 rfl mlX5_28 cfX6_has ⟨(Nat.le_of_ble_eq_true rfl), (Nat.le_of_ble_eq_true rfl)⟩ (sp_has) rfl rfl (Nat.le_of_ble_eq_true rfl) ?_
      refine wp_if_eq (pc' := 43) 46 dX5_fewestSteps_40 rfl (by decide) (fun h40 => ?_) (fun h40 => ?_)
      · refine wp_iload (pc' := 48) dX5_fewestSteps_46 rfl rfl ?_
        refine wp_aload_n (pc' := 49) dX5_fewestSteps_48 rfl rfl ⟨_, rfl⟩ ?_
        refine wp_iload (pc' := 51) dX5_fewestSteps_49 rfl rfl ?_
        refine wp_cVI (μ' := mX5_near) (pc' := 54) (o := 11) dX5_fewestSteps_51 rfl mlX5_24 cfX5_near ⟨(Nat.le_of_ble_eq_true rfl), (Nat.le_of_ble_eq_true rfl)⟩ (sp_near) (by decide) rfl rfl rfl rfl rfl (Nat.le_of_ble_eq_true rfl) ?_
        refine wp_iload_n (pc' := 55) dX5_fewestSteps_54 rfl rfl ?_
        refine wp_iand (pc' := 56) dX5_fewestSteps_55 rfl ?_
        refine wp_ior (pc' := 57) dX5_fewestSteps_56 rfl ?_
        refine wp_ist6 (pc' := 59) dX5_fewestSteps_57 rfl (by decide) rfl ?_
        refine wp_iload (pc' := 61) dX5_fewestSteps_59 rfl rfl ?_
        refine wp_iload (pc' := 63) dX5_fewestSteps_61 rfl rfl ?_
        refine wp_icmp_ne (pc' := 66) 69 dX5_fewestSteps_63 rfl (by decide) (fun h63 => ?_) (fun h63 => ?_)
        · refine wp_iload (pc' := 71) dX5_fewestSteps_69 rfl rfl ?_
          refine wp_ist4 (pc' := 73) dX5_fewestSteps_71 rfl (by decide) rfl ?_
          refine wp_inc5 (pc' := 76) (nI (j + 1)) dX5_fewestSteps_73 rfl (by decide) rfl (nI_1 j) ?_
          refine wp_goto 27 dX5_fewestSteps_76 (by decide) ?_
          rw [stF, if_pos h40, if_neg h63]
          exact ih (j + 1) (by omega) _ _
        · refine wp_bipush (pc' := 68) (-9) dX5_fewestSteps_66 rfl (by decide) ?_
          refine wp_ireti dX5_fewestSteps_68 rfl ?_
          exact ri_ok (by rw [stF, if_pos h40, if_pos h63]) rfl
      · refine wp_iload (pc' := 45) dX5_fewestSteps_43 rfl rfl ?_
        refine wp_ireti dX5_fewestSteps_45 rfl ?_
        exact ri_ok (by rw [stF, if_neg h40]) rfl
theorem sp_fewestSteps {g : GG} {M : Mem} {a b bear : Int32} : RI g mX5_fewestSteps [ob g 11, .int a, .int b, .int bear] M (fsF (nearM M) a b bear) M := by
  refine spec_of_wp (ls := [some (ob g 11), some (.int a), some (.int b), some (.int bear), none, none, none]) rfl (Nat.le_of_ble_eq_true rfl) 3 rfl ?_
  refine wp_iload_n (pc' := 1) dX5_fewestSteps_0 rfl rfl ?_
  refine wp_iload_n (pc' := 2) dX5_fewestSteps_1 rfl rfl ?_
  refine wp_cSI (μ' := mX6_has) (pc' := 5) dX5_fewestSteps_2 rfl mlX5_28 cfX6_has ⟨(Nat.le_of_ble_eq_true rfl), (Nat.le_of_ble_eq_true rfl)⟩ (sp_has) rfl rfl (Nat.le_of_ble_eq_true rfl) ?_
  refine wp_if_eq (pc' := 8) 16 dX5_fewestSteps_5 rfl (by decide) (fun h5 => ?_) (fun h5 => ?_)
  · refine wp_bipush (pc' := 18) (-9) dX5_fewestSteps_16 rfl (by decide) ?_
    refine wp_ireti dX5_fewestSteps_18 rfl ?_
    exact ri_ok (by unfold fsF; first | rw [if_pos (Or.inl h5)] | rw [if_pos (Or.inr h13)]) rfl
  · refine wp_iload_n (pc' := 9) dX5_fewestSteps_8 rfl rfl ?_
    refine wp_iload_n (pc' := 10) dX5_fewestSteps_9 rfl rfl ?_
    refine wp_cSI (μ' := mX6_has) (pc' := 13) dX5_fewestSteps_10 rfl mlX5_28 cfX6_has ⟨(Nat.le_of_ble_eq_true rfl), (Nat.le_of_ble_eq_true rfl)⟩ (sp_has) rfl rfl (Nat.le_of_ble_eq_true rfl) ?_
    refine wp_if_ne (pc' := 16) 19 dX5_fewestSteps_13 rfl (by decide) (fun h13 => ?_) (fun h13 => ?_)
    · refine wp_iconst (pc' := 20) 1 dX5_fewestSteps_19 rfl (by decide) ?_
      refine wp_iload_n (pc' := 21) dX5_fewestSteps_20 rfl rfl ?_
      refine wp_ishl (pc' := 22) dX5_fewestSteps_21 rfl ?_
      refine wp_ist4 (pc' := 24) dX5_fewestSteps_22 rfl (by decide) rfl ?_
      refine wp_iconst (pc' := 25) 0 dX5_fewestSteps_24 rfl (by decide) ?_
      refine wp_ist5 (pc' := 27) dX5_fewestSteps_25 rfl (by decide) rfl ?_
      unfold fsF
      rw [if_neg (fun h => h.elim h5 h13)]
      exact lp_fewestSteps 24 0 rfl _ _
    · refine wp_bipush (pc' := 18) (-9) dX5_fewestSteps_16 rfl (by decide) ?_
      refine wp_ireti dX5_fewestSteps_18 rfl ?_
      exact ri_ok (by unfold fsF; first | rw [if_pos (Or.inl h5)] | rw [if_pos (Or.inr h13)]) rfl

def ncF (nr : Int32 → Int32) (a b bear left nx : Int32) : Nat → Nat → Int32
  | 0, _ => a
  | n + 1, j => if hasF nx (nI j) = 0 then ncF nr a b bear left nx n (j + 1) else if fsF nr (nI j) b bear = left - 1 then nI j else ncF nr a b bear left nx n (j + 1)
def nextF (nr : Int32 → Int32) (a b bear : Int32) : Int32 := ncF nr a b bear (fsF nr a b bear) (nr (shl 1 a) &&& bear) 24 0

theorem lp_nextCell {g : GG} {M : Mem} {a b bear left nx : Int32} : ∀ (n j : Nat), j + n = 24 → wp g mX5_nextCell 23 [some (ob g 11), some (.int a), some (.int b), some (.int bear), some (.int left), some (.int nx), some (.int (nI j))] [] M (fun q m => q = some (.int (ncF (nearM M) a b bear left nx n j)) ∧ m = M) := by
  intro n
  induction n with
  | zero =>
    intro j hj
    obtain rfl : j = 24 := by omega
    refine wp_iload (pc' := 25) dX5_nextCell_23 rfl rfl ?_
    refine wp_bipush (pc' := 27) 24 dX5_nextCell_25 rfl (by decide) ?_
    refine wp_icmp_ge (pc' := 30) 64 dX5_nextCell_27 rfl (by decide) (fun _ => ?_) (fun hh => absurd hh (by decide))
    refine wp_iload_n (pc' := 65) dX5_nextCell_64 rfl rfl ?_
    refine wp_ireti dX5_nextCell_65 rfl ?_
    exact ri_ok rfl rfl
  | succ n ih =>
    intro j hj
    refine wp_iload (pc' := 25) dX5_nextCell_23 rfl rfl ?_
    refine wp_bipush (pc' := 27) 24 dX5_nextCell_25 rfl (by decide) ?_
    refine wp_icmp_ge (pc' := 30) 64 dX5_nextCell_27 rfl (by decide) (fun h27 => ?_) (fun h27 => ?_)
    · refine wp_iload_n (pc' := 65) dX5_nextCell_64 rfl rfl ?_
      refine wp_ireti dX5_nextCell_65 rfl ?_
      exact absurd h27 (nI_ge (a := j) (b := 24) (by omega) (by decide))
    · refine wp_iload (pc' := 32) dX5_nextCell_30 rfl rfl ?_
      refine wp_iload (pc' := 34) dX5_nextCell_32 rfl rfl ?_
      refine wp_cSI (μ' := mX6_has) (pc' := 37) dX5_nextCell_34 rfl mlX5_28 cfX6_has ⟨(Nat.le_of_ble_eq_true rfl), (Nat.le_of_ble_eq_true rfl)⟩ (sp_has) rfl rfl (Nat.le_of_ble_eq_true rfl) ?_
      refine wp_if_eq (pc' := 40) 58 dX5_nextCell_37 rfl (by decide) (fun h37 => ?_) (fun h37 => ?_)
      · refine wp_inc6 (pc' := 61) (nI (j + 1)) dX5_nextCell_58 rfl (by decide) rfl (nI_1 j) ?_
        refine wp_goto 23 dX5_nextCell_61 (by decide) ?_
        rw [ncF, if_pos h37]
        exact ih (j + 1) (by omega)
      · refine wp_aload_n (pc' := 41) dX5_nextCell_40 rfl rfl ⟨_, rfl⟩ ?_
        refine wp_iload (pc' := 43) dX5_nextCell_41 rfl rfl ?_
        refine wp_iload_n (pc' := 44) dX5_nextCell_43 rfl rfl ?_
        refine wp_iload_n (pc' := 45) dX5_nextCell_44 rfl rfl ?_
        refine wp_cVI (μ' := mX5_fewestSteps) (pc' := 48) (o := 11) dX5_nextCell_45 rfl mlX5_36 cfX5_fewestSteps ⟨(Nat.le_of_ble_eq_true rfl), (Nat.le_of_ble_eq_true rfl)⟩ (sp_fewestSteps) (by decide) rfl rfl rfl rfl rfl (Nat.le_of_ble_eq_true rfl) ?_
        refine wp_iload (pc' := 50) dX5_nextCell_48 rfl rfl ?_
        refine wp_iconst (pc' := 51) 1 dX5_nextCell_50 rfl (by decide) ?_
        refine wp_isub (pc' := 52) dX5_nextCell_51 rfl ?_
        refine wp_icmp_ne (pc' := 55) 58 dX5_nextCell_52 rfl (by decide) (fun h52 => ?_) (fun h52 => ?_)
        · refine wp_inc6 (pc' := 61) (nI (j + 1)) dX5_nextCell_58 rfl (by decide) rfl (nI_1 j) ?_
          refine wp_goto 23 dX5_nextCell_61 (by decide) ?_
          rw [ncF, if_neg h37, if_neg h52]
          exact ih (j + 1) (by omega)
        · refine wp_iload (pc' := 57) dX5_nextCell_55 rfl rfl ?_
          refine wp_ireti dX5_nextCell_57 rfl ?_
          exact ri_ok (by rw [ncF, if_neg h37, if_pos h52]) rfl
theorem sp_nextCell {g : GG} {M : Mem} {a b bear : Int32} : RI g mX5_nextCell [ob g 11, .int a, .int b, .int bear] M (nextF (nearM M) a b bear) M := by
  refine spec_of_wp (ls := [some (ob g 11), some (.int a), some (.int b), some (.int bear), none, none, none]) rfl (Nat.le_of_ble_eq_true rfl) 3 rfl ?_
  refine wp_aload_n (pc' := 1) dX5_nextCell_0 rfl rfl ⟨_, rfl⟩ ?_
  refine wp_iload_n (pc' := 2) dX5_nextCell_1 rfl rfl ?_
  refine wp_iload_n (pc' := 3) dX5_nextCell_2 rfl rfl ?_
  refine wp_iload_n (pc' := 4) dX5_nextCell_3 rfl rfl ?_
  refine wp_cVI (μ' := mX5_fewestSteps) (pc' := 7) (o := 11) dX5_nextCell_4 rfl mlX5_36 cfX5_fewestSteps ⟨(Nat.le_of_ble_eq_true rfl), (Nat.le_of_ble_eq_true rfl)⟩ (sp_fewestSteps) (by decide) rfl rfl rfl rfl rfl (Nat.le_of_ble_eq_true rfl) ?_
  refine wp_ist4 (pc' := 9) dX5_nextCell_7 rfl (by decide) rfl ?_
  refine wp_aload_n (pc' := 10) dX5_nextCell_9 rfl rfl ⟨_, rfl⟩ ?_
  refine wp_iconst (pc' := 11) 1 dX5_nextCell_10 rfl (by decide) ?_
  refine wp_iload_n (pc' := 12) dX5_nextCell_11 rfl rfl ?_
  refine wp_ishl (pc' := 13) dX5_nextCell_12 rfl ?_
  refine wp_cVI (μ' := mX5_near) (pc' := 16) (o := 11) dX5_nextCell_13 rfl mlX5_24 cfX5_near ⟨(Nat.le_of_ble_eq_true rfl), (Nat.le_of_ble_eq_true rfl)⟩ (sp_near) (by decide) rfl rfl rfl rfl rfl (Nat.le_of_ble_eq_true rfl) ?_
  refine wp_iload_n (pc' := 17) dX5_nextCell_16 rfl rfl ?_
  refine wp_iand (pc' := 18) dX5_nextCell_17 rfl ?_
  refine wp_ist5 (pc' := 20) dX5_nextCell_18 rfl (by decide) rfl ?_
  refine wp_iconst (pc' := 21) 0 dX5_nextCell_20 rfl (by decide) ?_
  refine wp_ist6 (pc' := 23) dX5_nextCell_21 rfl (by decide) rfl ?_
  exact lp_nextCell 24 0 rfl

def fstF (nr : Int32 → Int32) (bear b : Int32) : Nat → Nat → Int32 → Int32
  | 0, k, _ => nI k
  | n + 1, k, r => if hasF r b = 0 then fstF nr bear b n (k + 1) (spF nr bear 24 (r ||| nr r)) else nI k
def stonesF (nr : Int32 → Int32) (a b bear : Int32) : Int32 := if hasF bear a = 0 then fstF nr bear b 23 1 (spF nr bear 24 (shl 1 a)) else fstF nr bear b 24 0 (spF nr bear 24 (shl 1 a))

theorem lp_fewestStones {g : GG} {M : Mem} {a b bear : Int32} : ∀ (n j : Nat), j + n = 24 → ∀ (r : Int32), wp g mX5_fewestStones 25 [some (ob g 11), some (.int a), some (.int b), some (.int bear), some (.int (nI j)), some (.int r)] [] M (fun q m => q = some (.int (fstF (nearM M) bear b n j r)) ∧ m = M) := by
  intro n
  induction n with
  | zero =>
    intro j hj r
    obtain rfl : j = 24 := by omega
    refine wp_iload (pc' := 27) dX5_fewestStones_25 rfl rfl ?_
    refine wp_iload_n (pc' := 28) dX5_fewestStones_27 rfl rfl ?_
    refine wp_cSI (μ' := mX6_has) (pc' := 31) dX5_fewestStones_28 rfl mlX5_28 cfX6_has ⟨(Nat.le_of_ble_eq_true rfl), (Nat.le_of_ble_eq_true rfl)⟩ (sp_has) rfl rfl (Nat.le_of_ble_eq_true rfl) ?_
    refine wp_if_ne (pc' := 34) 63 dX5_fewestStones_31 rfl (by decide) (fun h31 => ?_) (fun h31 => ?_)
    · refine wp_iload (pc' := 65) dX5_fewestStones_63 rfl rfl ?_
      refine wp_ireti dX5_fewestStones_65 rfl ?_
      exact ri_ok rfl rfl
    · refine wp_iload (pc' := 36) dX5_fewestStones_34 rfl rfl ?_
      refine wp_bipush (pc' := 38) 24 dX5_fewestStones_36 rfl (by decide) ?_
      refine wp_icmp_ge (pc' := 41) 63 dX5_fewestStones_38 rfl (by decide) (fun _ => ?_) (fun hh => absurd hh (by decide))
      refine wp_iload (pc' := 65) dX5_fewestStones_63 rfl rfl ?_
      refine wp_ireti dX5_fewestStones_65 rfl ?_
      exact ri_ok rfl rfl
  | succ n ih =>
    intro j hj r
    refine wp_iload (pc' := 27) dX5_fewestStones_25 rfl rfl ?_
    refine wp_iload_n (pc' := 28) dX5_fewestStones_27 rfl rfl ?_
    refine wp_cSI (μ' := mX6_has) (pc' := 31) dX5_fewestStones_28 rfl mlX5_28 cfX6_has ⟨(Nat.le_of_ble_eq_true rfl), (Nat.le_of_ble_eq_true rfl)⟩ (sp_has) rfl rfl (Nat.le_of_ble_eq_true rfl) ?_
    refine wp_if_ne (pc' := 34) 63 dX5_fewestStones_31 rfl (by decide) (fun h31 => ?_) (fun h31 => ?_)
    · refine wp_iload (pc' := 65) dX5_fewestStones_63 rfl rfl ?_
      refine wp_ireti dX5_fewestStones_65 rfl ?_
      exact ri_ok (by rw [fstF, if_neg h31]) rfl
    · refine wp_iload (pc' := 36) dX5_fewestStones_34 rfl rfl ?_
      refine wp_bipush (pc' := 38) 24 dX5_fewestStones_36 rfl (by decide) ?_
      refine wp_icmp_ge (pc' := 41) 63 dX5_fewestStones_38 rfl (by decide) (fun h38 => ?_) (fun h38 => ?_)
      · refine wp_iload (pc' := 65) dX5_fewestStones_63 rfl rfl ?_
        refine wp_ireti dX5_fewestStones_65 rfl ?_
        exact absurd h38 (nI_ge (a := j) (b := 24) (by omega) (by decide))
      · refine wp_aload_n (pc' := 42) dX5_fewestStones_41 rfl rfl ⟨_, rfl⟩ ?_
        refine wp_iload (pc' := 44) dX5_fewestStones_42 rfl rfl ?_
        refine wp_aload_n (pc' := 45) dX5_fewestStones_44 rfl rfl ⟨_, rfl⟩ ?_
        refine wp_iload (pc' := 47) dX5_fewestStones_45 rfl rfl ?_
        refine wp_cVI (μ' := mX5_near) (pc' := 50) (o := 11) dX5_fewestStones_47 rfl mlX5_24 cfX5_near ⟨(Nat.le_of_ble_eq_true rfl), (Nat.le_of_ble_eq_true rfl)⟩ (sp_near) (by decide) rfl rfl rfl rfl rfl (Nat.le_of_ble_eq_true rfl) ?_
        refine wp_ior (pc' := 51) dX5_fewestStones_50 rfl ?_
        refine wp_iload_n (pc' := 52) dX5_fewestStones_51 rfl rfl ?_
        refine wp_cVI (μ' := mX5_spread) (pc' := 55) (o := 11) dX5_fewestStones_52 rfl mlX5_32 cfX5_spread ⟨(Nat.le_of_ble_eq_true rfl), (Nat.le_of_ble_eq_true rfl)⟩ (sp_spread) (by decide) rfl rfl rfl rfl rfl (Nat.le_of_ble_eq_true rfl) ?_
        refine wp_ist5 (pc' := 57) dX5_fewestStones_55 rfl (by decide) rfl ?_
        refine wp_inc4 (pc' := 60) (nI (j + 1)) dX5_fewestStones_57 rfl (by decide) rfl (nI_1 j) ?_
        refine wp_goto 25 dX5_fewestStones_60 (by decide) ?_
        rw [fstF, if_pos h31]
        exact ih (j + 1) (by omega) _
theorem sp_fewestStones {g : GG} {M : Mem} {a b bear : Int32} : RI g mX5_fewestStones [ob g 11, .int a, .int b, .int bear] M (stonesF (nearM M) a b bear) M := by
  refine spec_of_wp (ls := [some (ob g 11), some (.int a), some (.int b), some (.int bear), none, none]) rfl (Nat.le_of_ble_eq_true rfl) 2 rfl ?_
  refine wp_iload_n (pc' := 1) dX5_fewestStones_0 rfl rfl ?_
  refine wp_iload_n (pc' := 2) dX5_fewestStones_1 rfl rfl ?_
  refine wp_cSI (μ' := mX6_has) (pc' := 5) dX5_fewestStones_2 rfl mlX5_28 cfX6_has ⟨(Nat.le_of_ble_eq_true rfl), (Nat.le_of_ble_eq_true rfl)⟩ (sp_has) rfl rfl (Nat.le_of_ble_eq_true rfl) ?_
  refine wp_if_eq (pc' := 8) 12 dX5_fewestStones_5 rfl (by decide) (fun h5 => ?_) (fun h5 => ?_)
  · refine wp_iconst (pc' := 13) 1 dX5_fewestStones_12 rfl (by decide) ?_
    refine wp_ist4 (pc' := 15) dX5_fewestStones_13 rfl (by decide) rfl ?_
    refine wp_aload_n (pc' := 16) dX5_fewestStones_15 rfl rfl ⟨_, rfl⟩ ?_
    refine wp_iconst (pc' := 17) 1 dX5_fewestStones_16 rfl (by decide) ?_
    refine wp_iload_n (pc' := 18) dX5_fewestStones_17 rfl rfl ?_
    refine wp_ishl (pc' := 19) dX5_fewestStones_18 rfl ?_
    refine wp_iload_n (pc' := 20) dX5_fewestStones_19 rfl rfl ?_
    refine wp_cVI (μ' := mX5_spread) (pc' := 23) (o := 11) dX5_fewestStones_20 rfl mlX5_32 cfX5_spread ⟨(Nat.le_of_ble_eq_true rfl), (Nat.le_of_ble_eq_true rfl)⟩ (sp_spread) (by decide) rfl rfl rfl rfl rfl (Nat.le_of_ble_eq_true rfl) ?_
    refine wp_ist5 (pc' := 25) dX5_fewestStones_23 rfl (by decide) rfl ?_
    unfold stonesF
    rw [if_pos h5]
    exact lp_fewestStones 23 1 rfl _
  · refine wp_iconst (pc' := 9) 0 dX5_fewestStones_8 rfl (by decide) ?_
    refine wp_goto 13 dX5_fewestStones_9 (by decide) ?_
    refine wp_ist4 (pc' := 15) dX5_fewestStones_13 rfl (by decide) rfl ?_
    refine wp_aload_n (pc' := 16) dX5_fewestStones_15 rfl rfl ⟨_, rfl⟩ ?_
    refine wp_iconst (pc' := 17) 1 dX5_fewestStones_16 rfl (by decide) ?_
    refine wp_iload_n (pc' := 18) dX5_fewestStones_17 rfl rfl ?_
    refine wp_ishl (pc' := 19) dX5_fewestStones_18 rfl ?_
    refine wp_iload_n (pc' := 20) dX5_fewestStones_19 rfl rfl ?_
    refine wp_cVI (μ' := mX5_spread) (pc' := 23) (o := 11) dX5_fewestStones_20 rfl mlX5_32 cfX5_spread ⟨(Nat.le_of_ble_eq_true rfl), (Nat.le_of_ble_eq_true rfl)⟩ (sp_spread) (by decide) rfl rfl rfl rfl rfl (Nat.le_of_ble_eq_true rfl) ?_
    refine wp_ist5 (pc' := 25) dX5_fewestStones_23 rfl (by decide) rfl ?_
    unfold stonesF
    rw [if_neg h5]
    exact lp_fewestStones 24 0 rfl _
theorem sp_stepsOf {g : GG} {M : Mem} {k : Int32} : RI g mX6_stepsOf [ob g 0, .int k] M (fsF (nearM M) (atF 4 (M.1 5) k) (atF 4 (M.1 6) k) (bearM M)) M := by
  refine spec_of_wp (ls := [some (ob g 0), some (.int k)]) rfl (Nat.le_of_ble_eq_true rfl) 0 rfl ?_
  refine wp_aload_n (pc' := 1) dX6_stepsOf_0 rfl rfl ⟨_, rfl⟩ ?_
  refine wp_get (pc' := 4) (o := 0) dX6_stepsOf_1 rfl flX6_42 (by decide) rfl rfl ?_
  refine wp_aload_n (pc' := 5) dX6_stepsOf_4 rfl rfl ⟨_, rfl⟩ ?_
  refine wp_get (pc' := 8) (o := 0) dX6_stepsOf_5 rfl flX6_24 (by decide) rfl rfl ?_
  refine wp_get (pc' := 11) (o := 4) dX6_stepsOf_8 rfl flX6_123 (by decide) rfl rfl ?_
  refine wp_iload_n (pc' := 12) dX6_stepsOf_11 rfl rfl ?_
  refine wp_cSI (μ' := mX6_at) (pc' := 15) dX6_stepsOf_12 rfl mlX6_113 cfX6_at ⟨(Nat.le_of_ble_eq_true rfl), (Nat.le_of_ble_eq_true rfl)⟩ (sp_at arr5) rfl rfl (Nat.le_of_ble_eq_true rfl) ?_
  refine wp_aload_n (pc' := 16) dX6_stepsOf_15 rfl rfl ⟨_, rfl⟩ ?_
  refine wp_get (pc' := 19) (o := 0) dX6_stepsOf_16 rfl flX6_24 (by decide) rfl rfl ?_
  refine wp_get (pc' := 22) (o := 4) dX6_stepsOf_19 rfl flX6_126 (by decide) rfl rfl ?_
  refine wp_iload_n (pc' := 23) dX6_stepsOf_22 rfl rfl ?_
  refine wp_cSI (μ' := mX6_at) (pc' := 26) dX6_stepsOf_23 rfl mlX6_113 cfX6_at ⟨(Nat.le_of_ble_eq_true rfl), (Nat.le_of_ble_eq_true rfl)⟩ (sp_at arr6) rfl rfl (Nat.le_of_ble_eq_true rfl) ?_
  refine wp_aload_n (pc' := 27) dX6_stepsOf_26 rfl rfl ⟨_, rfl⟩ ?_
  refine wp_cVI (μ' := mX6_bearing) (pc' := 30) (o := 0) dX6_stepsOf_27 rfl mlX6_169 cfX6_bearing ⟨(Nat.le_of_ble_eq_true rfl), (Nat.le_of_ble_eq_true rfl)⟩ (sp_bearing) (by decide) rfl rfl rfl rfl rfl (Nat.le_of_ble_eq_true rfl) ?_
  refine wp_cVI (μ' := mX5_fewestSteps) (pc' := 33) (o := 11) dX6_stepsOf_30 rfl mlX6_172 cfX5_fewestSteps ⟨(Nat.le_of_ble_eq_true rfl), (Nat.le_of_ble_eq_true rfl)⟩ (sp_fewestSteps) (by decide) rfl rfl rfl rfl rfl (Nat.le_of_ble_eq_true rfl) ?_
  refine wp_ireti dX6_stepsOf_33 rfl ?_
  exact ri_ok rfl rfl
