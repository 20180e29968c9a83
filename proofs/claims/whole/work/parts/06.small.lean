
theorem tsw_3 (x : Int32) : x = 0 ∨ x = 1 ∨ x = 2 ∨ (x.toInt < 0 ∨ 2 < x.toInt) := by
  by_cases h : x.toInt < 0 ∨ 2 < x.toInt
  · exact Or.inr (Or.inr (Or.inr h))
  · have : x.toInt = 0 ∨ x.toInt = 1 ∨ x.toInt = 2 := by omega
    rcases this with h | h | h
    · exact Or.inl (Int32.toInt_inj.mp h)
    · exact Or.inr (Or.inl (Int32.toInt_inj.mp h))
    · exact Or.inr (Or.inr (Or.inl (Int32.toInt_inj.mp h)))
theorem ri_ok {v w : Int32} {M M' : Mem} (h : w = v) (hm : M = M') : (some (Value.int w) = some (Value.int v) ∧ M = M') := ⟨by rw [h], hm⟩
def hasF (x c : Int32) : Int32 := if x &&& ((1 : Int32) <<< (c &&& 31)) = 0 then 0 else 1

theorem sp_has {g : GG} {M : Mem} {x c : Int32} : RI g mX6_has [.int x, .int c] M (hasF x c) M := by
  refine spec_of_wp (ls := [some (.int x), some (.int c)]) rfl (Nat.le_of_ble_eq_true rfl) 0 rfl ?_
  refine wp_iload_n (pc' := 1) dX6_has_0 rfl rfl ?_
  refine wp_iconst (pc' := 2) 1 dX6_has_1 rfl (by decide) ?_
  refine wp_iload_n (pc' := 3) dX6_has_2 rfl rfl ?_
  refine wp_ishl (pc' := 4) dX6_has_3 rfl ?_
  refine wp_iand (pc' := 5) dX6_has_4 rfl ?_
  refine wp_if_eq (pc' := 8) 12 dX6_has_5 rfl (by decide) (fun h5 => ?_) (fun h5 => ?_)
  · refine wp_iconst (pc' := 13) 0 dX6_has_12 rfl (by decide) ?_
    refine wp_iretz dX6_has_13 rfl rfl ?_
    exact ri_ok (by simp [hasF, h5]) rfl
  · refine wp_iconst (pc' := 9) 1 dX6_has_8 rfl (by decide) ?_
    refine wp_goto 13 dX6_has_9 (by decide) ?_
    refine wp_iretz dX6_has_13 rfl rfl ?_
    exact ri_ok (by simp [hasF, h5]) rfl

def ushr (x y : Int32) : Int32 := (x.toUInt32 >>> (y.toUInt32 &&& Int32.toUInt32 31)).toInt32
def shl (x y : Int32) : Int32 := x <<< (y &&& 31)
def nearF (w al fc lc s : Int32) : Int32 :=
  let r := shl (s &&& (lc ^^^ (-1))) 1
  let l := ushr (s &&& (fc ^^^ (-1))) 1
  let d := shl s w &&& al
  let u := ushr s w
  (((r ||| l) ||| d) ||| u) ||| (((shl (r &&& (lc ^^^ (-1))) 1 ||| ushr (l &&& (fc ^^^ (-1))) 1) ||| (shl d w &&& al)) ||| ushr u w)
def nearM (M : Mem) (s : Int32) : Int32 := nearF (M.1 11 0) (M.1 11 1) (M.1 11 2) (M.1 11 3) s

theorem sp_near {g : GG} {M : Mem} {s : Int32} : RI g mX5_near [ob g 11, .int s] M (nearM M s) M := by
  refine spec_of_wp (ls := [some (ob g 11), some (.int s), none, none, none, none, none, none]) rfl (Nat.le_of_ble_eq_true rfl) 6 rfl ?_
  refine wp_iload_n (pc' := 1) dX5_near_0 rfl rfl ?_
  refine wp_aload_n (pc' := 2) dX5_near_1 rfl rfl ⟨_, rfl⟩ ?_
  refine wp_get (pc' := 5) (o := 11) dX5_near_2 rfl flX5_21 (by decide) rfl rfl ?_
  refine wp_iconst (pc' := 6) (-1) dX5_near_5 rfl (by decide) ?_
  refine wp_ixor (pc' := 7) dX5_near_6 rfl ?_
  refine wp_iand (pc' := 8) dX5_near_7 rfl ?_
  refine wp_iconst (pc' := 9) 1 dX5_near_8 rfl (by decide) ?_
  refine wp_ishl (pc' := 10) dX5_near_9 rfl ?_
  refine wp_ist2 (pc' := 11) dX5_near_10 rfl (by decide) rfl ?_
  refine wp_iload_n (pc' := 12) dX5_near_11 rfl rfl ?_
  refine wp_aload_n (pc' := 13) dX5_near_12 rfl rfl ⟨_, rfl⟩ ?_
  refine wp_get (pc' := 16) (o := 11) dX5_near_13 rfl flX5_18 (by decide) rfl rfl ?_
  refine wp_iconst (pc' := 17) (-1) dX5_near_16 rfl (by decide) ?_
  refine wp_ixor (pc' := 18) dX5_near_17 rfl ?_
  refine wp_iand (pc' := 19) dX5_near_18 rfl ?_
  refine wp_iconst (pc' := 20) 1 dX5_near_19 rfl (by decide) ?_
  refine wp_iushr (pc' := 21) dX5_near_20 rfl ?_
  refine wp_ist3 (pc' := 22) dX5_near_21 rfl (by decide) rfl ?_
  refine wp_iload_n (pc' := 23) dX5_near_22 rfl rfl ?_
  refine wp_aload_n (pc' := 24) dX5_near_23 rfl rfl ⟨_, rfl⟩ ?_
  refine wp_get (pc' := 27) (o := 11) dX5_near_24 rfl flX5_9 (by decide) rfl rfl ?_
  refine wp_ishl (pc' := 28) dX5_near_27 rfl ?_
  refine wp_aload_n (pc' := 29) dX5_near_28 rfl rfl ⟨_, rfl⟩ ?_
  refine wp_get (pc' := 32) (o := 11) dX5_near_29 rfl flX5_15 (by decide) rfl rfl ?_
  refine wp_iand (pc' := 33) dX5_near_32 rfl ?_
  refine wp_ist4 (pc' := 35) dX5_near_33 rfl (by decide) rfl ?_
  refine wp_iload_n (pc' := 36) dX5_near_35 rfl rfl ?_
  refine wp_aload_n (pc' := 37) dX5_near_36 rfl rfl ⟨_, rfl⟩ ?_
  refine wp_get (pc' := 40) (o := 11) dX5_near_37 rfl flX5_9 (by decide) rfl rfl ?_
  refine wp_iushr (pc' := 41) dX5_near_40 rfl ?_
  refine wp_ist5 (pc' := 43) dX5_near_41 rfl (by decide) rfl ?_
  refine wp_iload_n (pc' := 44) dX5_near_43 rfl rfl ?_
  refine wp_iload_n (pc' := 45) dX5_near_44 rfl rfl ?_
  refine wp_ior (pc' := 46) dX5_near_45 rfl ?_
  refine wp_iload (pc' := 48) dX5_near_46 rfl rfl ?_
  refine wp_ior (pc' := 49) dX5_near_48 rfl ?_
  refine wp_iload (pc' := 51) dX5_near_49 rfl rfl ?_
  refine wp_ior (pc' := 52) dX5_near_51 rfl ?_
  refine wp_ist6 (pc' := 54) dX5_near_52 rfl (by decide) rfl ?_
  refine wp_iload_n (pc' := 55) dX5_near_54 rfl rfl ?_
  refine wp_aload_n (pc' := 56) dX5_near_55 rfl rfl ⟨_, rfl⟩ ?_
  refine wp_get (pc' := 59) (o := 11) dX5_near_56 rfl flX5_21 (by decide) rfl rfl ?_
  refine wp_iconst (pc' := 60) (-1) dX5_near_59 rfl (by decide) ?_
  refine wp_ixor (pc' := 61) dX5_near_60 rfl ?_
  refine wp_iand (pc' := 62) dX5_near_61 rfl ?_
  refine wp_iconst (pc' := 63) 1 dX5_near_62 rfl (by decide) ?_
  refine wp_ishl (pc' := 64) dX5_near_63 rfl ?_
  refine wp_iload_n (pc' := 65) dX5_near_64 rfl rfl ?_
  refine wp_aload_n (pc' := 66) dX5_near_65 rfl rfl ⟨_, rfl⟩ ?_
  refine wp_get (pc' := 69) (o := 11) dX5_near_66 rfl flX5_18 (by decide) rfl rfl ?_
  refine wp_iconst (pc' := 70) (-1) dX5_near_69 rfl (by decide) ?_
  refine wp_ixor (pc' := 71) dX5_near_70 rfl ?_
  refine wp_iand (pc' := 72) dX5_near_71 rfl ?_
  refine wp_iconst (pc' := 73) 1 dX5_near_72 rfl (by decide) ?_
  refine wp_iushr (pc' := 74) dX5_near_73 rfl ?_
  refine wp_ior (pc' := 75) dX5_near_74 rfl ?_
  refine wp_iload (pc' := 77) dX5_near_75 rfl rfl ?_
  refine wp_aload_n (pc' := 78) dX5_near_77 rfl rfl ⟨_, rfl⟩ ?_
  refine wp_get (pc' := 81) (o := 11) dX5_near_78 rfl flX5_9 (by decide) rfl rfl ?_
  refine wp_ishl (pc' := 82) dX5_near_81 rfl ?_
  refine wp_aload_n (pc' := 83) dX5_near_82 rfl rfl ⟨_, rfl⟩ ?_
  refine wp_get (pc' := 86) (o := 11) dX5_near_83 rfl flX5_15 (by decide) rfl rfl ?_
  refine wp_iand (pc' := 87) dX5_near_86 rfl ?_
  refine wp_ior (pc' := 88) dX5_near_87 rfl ?_
  refine wp_iload (pc' := 90) dX5_near_88 rfl rfl ?_
  refine wp_aload_n (pc' := 91) dX5_near_90 rfl rfl ⟨_, rfl⟩ ?_
  refine wp_get (pc' := 94) (o := 11) dX5_near_91 rfl flX5_9 (by decide) rfl rfl ?_
  refine wp_iushr (pc' := 95) dX5_near_94 rfl ?_
  refine wp_ior (pc' := 96) dX5_near_95 rfl ?_
  refine wp_ist7 (pc' := 98) dX5_near_96 rfl (by decide) rfl ?_
  refine wp_iload (pc' := 100) dX5_near_98 rfl rfl ?_
  refine wp_iload (pc' := 102) dX5_near_100 rfl rfl ?_
  refine wp_ior (pc' := 103) dX5_near_102 rfl ?_
  refine wp_ireti dX5_near_103 rfl ?_
  exact ri_ok rfl rfl
