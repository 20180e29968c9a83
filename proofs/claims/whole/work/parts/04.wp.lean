/-! ===== the world: 38 cells, made by the constructors, and a logic over it (wp) that hides the machine ===== -/
abbrev GG : Type := Launch × va_G × (Nat → Nat) × (Nat → Nat) × (Nat → Nat) × ClassId × ClassId
def g_l (g : GG) : Launch := g.1
def g_D (g : GG) : va_G := g.2.1
def g_ad (g : GG) : Nat → Nat := g.2.2.1
def g_aK (g : GG) : Nat → Nat := g.2.2.2.1
def g_aV (g : GG) : Nat → Nat := g.2.2.2.2.1
def g_cI (g : GG) : ClassId := g.2.2.2.2.2.1
def g_cZ (g : GG) : ClassId := g.2.2.2.2.2.2
def ob (g : GG) (o : Nat) : Value := .ref (g_ad g o)
def sk (g : GG) (i : Nat) : Value := .ref (g_aK g i)
def sv (g : GG) (i : Nat) : Value := .ref (g_aV g i)
abbrev Mem : Type := (Nat → Nat → Int32) × (Nat → Int64)
def upI (M : Mem) (o k : Nat) (v : Int32) : Mem := (fun a => if a = o then upd (M.1 o) k v else M.1 a, M.2)
def upT (M : Mem) (o : Nat) (v : Int64) : Mem := (M.1, fun a => if a = o then v else M.2 a)
def setO (M : Mem) (o : Nat) (f : Nat → Int32) : Mem := (fun a => if a = o then f else M.1 a, M.2)
def cNow (g : GG) (f : Nat → Int32) (b : Nat) : va_E := .inr (0, [.int (f 0), .int (f 1), ob g (b + 1), ob g (b + 2), ob g (b + 3), .int (f 5)])
def cTold (g : GG) (f : Nat → Int32) (b : Nat) : va_E := .inr (4, [.int (f 0), .int (f 1), .int (f 2), .int (f 3), .int (f 4), .int (f 5), .int (f 6), .int (f 7), ob g (b + 1), ob g (b + 2)])
def cArr (g : GG) (f : Nat → Int32) (n : Nat) : va_E := .inl (g_cI g, n, .inl f)
def cell_ (g : GG) (o : Nat) (f : Nat → Int32) (t : Int64) : va_E := match o with
  | 0 => .inr (6, [ob g 1, ob g 2, ob g 4, ob g 7, ob g 10, ob g 11, ob g 13, ob g 17, ob g 21, .long t])
  | 1 => .inr (2, [ob g 2, .int (f 1), .int (f 2), .int (f 3), .int (f 4)])
  | 2 => .inr (3, [ob g 3, .int (f 1)])
  | 3 => cArr g f 300
  | 4 => cTold g f 4
  | 5 => cArr g f 4
  | 6 => cArr g f 4
  | 7 => cTold g f 7
  | 8 => cArr g f 4
  | 9 => cArr g f 4
  | 10 => .inr (1, [ob g 11, ob g 12])
  | 11 => .inr (5, [.int (f 0), .int (f 1), .int (f 2), .int (f 3)])
  | 12 => cArr g f 256
  | 13 => cNow g f 13
  | 14 => cArr g f 24
  | 15 => cArr g f 24
  | 16 => cArr g f 4
  | 17 => cNow g f 17
  | 18 => cArr g f 24
  | 19 => cArr g f 24
  | 20 => cArr g f 4
  | 21 => cNow g f 21
  | 22 => cArr g f 24
  | 23 => cArr g f 24
  | 24 => cArr g f 4
  | 25 => .inr (7, [.int (f 0), .long t, ob g 26, .int (f 3), ob g 27, ob g 28, ob g 29, ob g 30, .int (f 8), .int (f 9), .int (f 10), .int (f 11), .int (f 12), .int (f 13), .int (f 14), .int (f 15), ob g 31, ob g 32, ob g 33, .int (f 19), .int (f 20), .int (f 21), .int (f 22), ob g 34, ob g 35, ob g 36, ob g 37])
  | 26 => cArr g f 300
  | 27 => cArr g f 24
  | 28 => cArr g f 24
  | 29 => cArr g f 8
  | 30 => cArr g f 8
  | 31 => cArr g f 76
  | 32 => cArr g f 152
  | 33 => .inl (g_cZ g, 2, .inl f)
  | 34 => cArr g f 24
  | 35 => cArr g f 24
  | 36 => cArr g f 24
  | _ => cArr g f 256
def world (g : GG) (M : Mem) : va_W := (List.range 38).map fun o => (g_ad g o, cell_ g o (M.1 o) (M.2 o))
def AA (g : GG) : Nat → Prop := fun q => ∃ o, o < 38 ∧ q = g_ad g o
theorem world_get (g : GG) (M : Mem) {o : Nat} (h : o < 38) : (world g M)[o]? = some (g_ad g o, cell_ g o (M.1 o) (M.2 o)) := by
  simp [world, List.getElem?_map, List.getElem?_range h]
theorem world_set (g : GG) (M M' : Mem) {o : Nat} (h : o < 38) {e : va_E} (he : cell_ g o (M'.1 o) (M'.2 o) = e) (hn : ∀ a, a ≠ o → M'.1 a = M.1 a ∧ M'.2 a = M.2 a) : (world g M).set o (g_ad g o, e) = world g M' := by
  refine List.ext_getElem? fun k => ?_
  by_cases hk : k < 38
  · by_cases hko : k = o
    · subst hko
      rw [List.getElem?_set_self (by simp [world, hk]), world_get g M' hk, he]
    · rw [List.getElem?_set_ne (Ne.symm hko), world_get g M hk, world_get g M' hk, (hn k hko).1, (hn k hko).2]
  · rw [List.getElem?_eq_none (by simp [world]; omega), List.getElem?_eq_none (by simp [world]; omega)]
theorem upI_ne (M : Mem) (o k : Nat) (v : Int32) {a : Nat} (h : a ≠ o) : (upI M o k v).1 a = M.1 a ∧ (upI M o k v).2 a = M.2 a := ⟨if_neg h, rfl⟩
theorem upI_eq (M : Mem) (o k : Nat) (v : Int32) : (upI M o k v).1 o = upd (M.1 o) k v := if_pos rfl
theorem upT_ne (M : Mem) (o : Nat) (v : Int64) {a : Nat} (h : a ≠ o) : (upT M o v).1 a = M.1 a ∧ (upT M o v).2 a = M.2 a := ⟨rfl, if_neg h⟩
theorem upT_eq (M : Mem) (o : Nat) (v : Int64) : (upT M o v).2 o = v := if_pos rfl
theorem setO_ne (M : Mem) (o : Nat) (f : Nat → Int32) {a : Nat} (h : a ≠ o) : (setO M o f).1 a = M.1 a ∧ (setO M o f).2 a = M.2 a := ⟨if_neg h, rfl⟩
theorem setO_eq (M : Mem) (o : Nat) (f : Nat → Int32) : (setO M o f).1 o = f := if_pos rfl
theorem world_D (g : GG) (M M' : Mem) {A : Nat → Prop} (h : va_D A (world g M)) : va_D A (world g M') := by
  have key : ∀ (k : Nat) (q : Nat × va_E), (world g M')[k]? = some q → ∃ q0, (world g M)[k]? = some q0 ∧ q0.1 = q.1 := by
    intro k q hk
    by_cases h9 : k < 38
    · rw [world_get g M' h9] at hk
      cases hk
      exact ⟨_, world_get g M h9, rfl⟩
    · rw [List.getElem?_eq_none (by simp [world]; omega)] at hk
      cases hk
  refine ⟨fun i j p q hi hj hpq => ?_, fun k q hk => ?_⟩
  · obtain ⟨p0, h1, h2⟩ := key i p hi
    obtain ⟨q0, h3, h4⟩ := key j q hj
    exact h.1 i j p0 q0 h1 h3 (h2.trans (hpq.trans h4.symm))
  · obtain ⟨q0, h1, h2⟩ := key k q hk
    rw [← h2]
    exact h.2 k q0 h1
def NW : List Cond := [Cond.fieldLinkNest "MoorStones" 60 "MoorStones$Text" "length" "I" "MoorStones", Cond.fieldLinkNest "MoorStones" 16 "MoorStones$Reader" "text" "LMoorStones$Text;" "MoorStones", Cond.fieldLinkNest "MoorStones" 82 "MoorStones$Told" "wide" "I" "MoorStones", Cond.fieldLinkNest "MoorStones" 85 "MoorStones$Told" "high" "I" "MoorStones", Cond.fieldLinkNest "MoorStones$Reader" 77 "MoorStones$Told" "cells" "I" "MoorStones", Cond.fieldLinkNest "MoorStones" 224 "MoorStones$Told" "cells" "I" "MoorStones", Cond.fieldLinkNest "MoorStones$Now" 21 "MoorStones$Told" "bog" "I" "MoorStones", Cond.fieldLinkNest "MoorStones$Now" 28 "MoorStones$Told" "stones" "I" "MoorStones", Cond.fieldLinkNest "MoorStones$Now" 36 "MoorStones$Told" "sink" "I" "MoorStones", Cond.fieldLinkNest "MoorStones$Reader" 94 "MoorStones$Told" "sink" "I" "MoorStones", Cond.fieldLinkNest "MoorStones" 221 "MoorStones$Told" "sink" "I" "MoorStones", Cond.fieldLinkNest "MoorStones$Reader" 90 "MoorStones$Told" "sinkTold" "Z" "MoorStones", Cond.fieldLinkNest "MoorStones$Reader" 74 "MoorStones$Told" "walkers" "I" "MoorStones", Cond.fieldLinkNest "MoorStones" 149 "MoorStones$Told" "walkers" "I" "MoorStones", Cond.fieldLinkNest "MoorStones" 123 "MoorStones$Told" "from" "[I" "MoorStones", Cond.fieldLinkNest "MoorStones" 126 "MoorStones$Told" "to" "[I" "MoorStones", Cond.fieldLinkNest "MoorStones" 155 "MoorStones$Ways" "all" "I" "MoorStones", Cond.fieldLinkNest "MoorStones" 38 "MoorStones$Plans" "ways" "LMoorStones$Ways;" "MoorStones", Cond.fieldLinkNest "MoorStones" 138 "MoorStones$Now" "bog" "I" "MoorStones", Cond.fieldLinkNest "MoorStones" 158 "MoorStones$Now" "stones" "I" "MoorStones", Cond.fieldLinkNest "MoorStones" 109 "MoorStones$Now" "bears" "[I" "MoorStones", Cond.fieldLinkNest "MoorStones" 117 "MoorStones$Now" "layers" "[I" "MoorStones", Cond.fieldLinkNest "MoorStones" 129 "MoorStones$Now" "passed" "[I" "MoorStones", Cond.fieldLinkNest "MoorStones" 97 "MoorStones$Now" "isKept" "Z" "MoorStones", Cond.methodLinkNest "MoorStones$Plans" 11 ⟨"MoorStones$Ways", "<init>", "()V"⟩ "MoorStones", Cond.methodLinkNest "MoorStones$Text" 19 ⟨"MoorStones", "put", "([III)V"⟩ "MoorStones", Cond.methodLinkNest "MoorStones$Told" 48 ⟨"MoorStones", "put", "([III)V"⟩ "MoorStones", Cond.methodLinkNest "MoorStones$Told" 44 ⟨"MoorStones", "copyRow", "([I[I)V"⟩ "MoorStones", Cond.methodLinkNest "MoorStones$Now" 32 ⟨"MoorStones", "has", "(II)Z"⟩ "MoorStones", Cond.methodLinkNest "MoorStones$Now" 39 ⟨"MoorStones", "put", "([III)V"⟩ "MoorStones", Cond.methodLinkNest "MoorStones$Now" 47 ⟨"MoorStones", "at", "([II)I"⟩ "MoorStones", Cond.methodLinkNest "MoorStones$Ways" 28 ⟨"MoorStones", "has", "(II)Z"⟩ "MoorStones", Cond.methodLinkNest "MoorStones$Plans" 22 ⟨"MoorStones", "has", "(II)Z"⟩ "MoorStones", Cond.methodLinkNest "MoorStones$Plans" 54 ⟨"MoorStones", "at", "([II)I"⟩ "MoorStones", Cond.methodLinkNest "MoorStones$Plans" 50 ⟨"MoorStones", "put", "([III)V"⟩ "MoorStones", Cond.methodLinkNest "MoorStones$Now" 43 ⟨"MoorStones", "copyRow", "([I[I)V"⟩ "MoorStones"]
def isNest : Cond → Bool
  | .fieldLinkNest .. => true
  | .methodLinkNest .. => true
  | _ => false
theorem NW_nest : ∀ w ∈ NW, isNest w = true := List.all_eq_true.mp (by decide +kernel)
theorem nest_warm {w : Cond} (hw : isNest w = true) {s U : State} (hW : s.WarmedH U.vm) (h : va_Nw w s) : va_Nw w U := by
  cases w <;> first | exact va_Nw.warmF hW h | exact va_Nw.warmM hW h | cases hw
theorem nest_same {w : Cond} (hw : isNest w = true) {u U : State} (hv : u.vm = U.vm) (h : va_Nw w u) : va_Nw w U := by
  cases w <;> first | exact va_Nw.same rfl hv h | cases hw
def EnvG (g : GG) (U : State) : Prop := va_K (g_D g) vwCl [(g_cI g, .int), (g_cZ g, .boolean)] U ∧ (∀ w ∈ NW, va_Nw w U) ∧ vk_R "MoorStones$Reader" 40 "row" (g_aK g 0) U ∧ vk_R "MoorStones$Reader" 49 "walker" (g_aK g 1) U ∧ vk_R "MoorStones$Reader" 54 "sink" (g_aK g 2) U
def Str (g : GG) (U : State) (H : Heap) : Prop := vk_S 3 [3, 6, 4] [[114, 111, 119], [119, 97, 108, 107, 101, 114], [115, 105, 110, 107]] (g_aK g) (g_aV g) (AA g) U H ∧ va_Z "java/lang/String" "COMPACT_STRINGS" "Z" (.int 1) (AA g) U H ∧ va_Zq "jdk/internal/util/Preconditions" "SIOOBE_FORMATTER" "Ljava/util/function/BiFunction;" (AA g) U H
theorem EnvG.warm {g : GG} {s U : State} (hW : s.WarmedH U.vm) (h : EnvG g s) : EnvG g U :=
  ⟨va_K.moved hW.alike h.1, fun w hw => nest_warm (NW_nest w hw) hW (h.2.1 w hw), h.2.2.1.warm hW, h.2.2.2.1.warm hW, h.2.2.2.2.warm hW⟩
theorem EnvG.same {g : GG} {u U : State} (hv : u.vm = U.vm) (h : EnvG g u) : EnvG g U :=
  ⟨va_K.moved (by rw [hv]; exact Vm.Alike.refl U.vm) h.1, fun w hw => nest_same (NW_nest w hw) hv (h.2.1 w hw), h.2.2.1.same hv.symm, h.2.2.2.1.same hv.symm, h.2.2.2.2.same hv.symm⟩
theorem Str.moved {g : GG} {u U : State} {H : Heap} (hvm : u.vm.Alike U.vm) (h : Str g u H) : Str g U H := ⟨h.1.moved hvm, h.2.1.moved hvm, h.2.2.moved hvm⟩
theorem Str.kept {g : GG} {U : State} {H H1 : Heap} (h : Str g U H) (hq : ∀ a : Nat, a < H.size → ¬ AA g a → H1[a]? = H[a]?) : Str g U H1 := ⟨h.1.kept hq, h.2.1.kept hq, h.2.2.kept hq⟩
/-- a method: its name, code, locals, answer's type, and the frames and words that its calls need -/
abbrev MD : Type := MethodName × ByteArray × Nat × Option FieldType × Nat × Nat
def wsOf (μ : MD) : List Cond := .code μ.1 μ.2.1 μ.2.2.1 μ.2.2.2.1 :: wsL_law
def rmOf (μ : MD) : Room := { frames := μ.2.2.2.2.1, cells := 0, slots := 0, locals := μ.2.2.2.2.2 }
def PreM (g : GG) (M : Mem) (U : State) : Prop := va_P (g_D g) vwCl (world g M) U.heap ∧ EnvG g U ∧ va_D (AA g) (world g M) ∧ Str g U U.heap
def QQ (g : GG) (Q : Option Value → Mem → Prop) : Array Value → State → Outcome → State → Prop := fun _ st oc t => (∃ (r : Option Value) (M' : Mem), oc = .returned r ∧ Q r M' ∧ va_P (g_D g) vwCl (world g M') t.heap) ∧ va_F (AA g) st t
def Spec (g : GG) (μ : MD) (vs : List Value) (M : Mem) (Q : Option Value → Mem → Prop) : Prop := Met (g_l g) μ.1 (wsOf μ) (rmOf μ) (va_Pc vs (PreM g M)) (QQ g Q) 0 0 (AA g)
def Cx (g : GG) (μ : MD) (p : Program) (s : State) (m : MethodId) (args : Array Value) (meth : Method) (c : Code) : Prop :=
  p.tables.exec = Jvm.exec ∧ c.code = μ.2.1 ∧ meth.sig.returnType = μ.2.2.2.1 ∧ c.maxLocals = μ.2.2.1 ∧ s.vm.findClass μ.1.cls = some m.cls ∧ (∀ w ∈ wsL_law, w.before args s = true) ∧ meth.locks = false ∧ EnvG g s ∧ Str g s s.heap
def lh (lsA : Array Slot) (n : Nat) (ls : List (Option Value)) : Prop := lsA.size = n ∧ lv_wf lsA ∧ ∀ (i : Nat) (v : Value), ls[i]? = some (some v) → lsA[i]? = some (.val v)
/-- from the place pc of the method, with these locals and stack, over this memory, the method returns, and Q holds of its answer and the memory then -/
def wp (g : GG) (μ : MD) (pc : Nat) (ls : List (Option Value)) (st : List Value) (M : Mem) (Q : Option Value → Mem → Prop) : Prop :=
  ∀ (p : Program) (e : Env) (s : State) (m : MethodId) (args : Array Value) (below : List Frame) (meth : Method) (c : Code) (H : Heap) (locs : List Loc) (lsA : Array Slot),
    Cx g μ p s m args meth c → va_D (AA g) (world g M) → va_P (g_D g) vwCl (world g M) H → va_S (AA g) s.heap H locs → lh lsA μ.2.2.1 ls →
    W p (g_l g) e (rmOf μ) s m args below meth c H locs 0 0 (MQ below (QQ g Q) args s 0 0 (AA g)) (F0 m pc lsA st)
theorem wp_of {g : GG} {μ : MD} {pc : Nat} {ls : List (Option Value)} {st : List Value} {M : Mem} {Q : Option Value → Mem → Prop}
    (h : ∀ (p : Program) (e : Env) (s : State) (m : MethodId) (args : Array Value) (below : List Frame) (meth : Method) (c : Code) (H : Heap) (locs : List Loc) (lsA : Array Slot), Cx g μ p s m args meth c → va_D (AA g) (world g M) → va_P (g_D g) vwCl (world g M) H → va_S (AA g) s.heap H locs → lh lsA μ.2.2.1 ls →
    W p (g_l g) e (rmOf μ) s m args below meth c H locs 0 0 (MQ below (QQ g Q) args s 0 0 (AA g)) (F0 m pc lsA st)) : wp g μ pc ls st M Q := h
theorem wp_mono {g : GG} {μ : MD} {pc : Nat} {ls : List (Option Value)} {st : List Value} {M : Mem} {Q Q' : Option Value → Mem → Prop} (h : wp g μ pc ls st M Q') (hq : ∀ r M', Q' r M' → Q r M') : wp g μ pc ls st M Q := by
  intro p e s m args below meth c H locs lsA C D P S L T hT X
  obtain ⟨t, a, o, b1, b2, ⟨⟨r, M', h1, h2, h3⟩, h4⟩, h5⟩ := h p e s m args below meth c H locs lsA C D P S L T hT X
  exact ⟨t, a, o, b1, b2, ⟨⟨r, M', h1, hq r M' h2, h3⟩, h4⟩, h5⟩
/-! the locals with which a method begins -/
def entryL : List Value → List (Option Value)
  | [] => []
  | v :: vs => if v.category = 2 then some v :: none :: entryL vs else some v :: entryL vs
theorem entryL_args : ∀ (vs : List Value) (j i : Nat) (v : Value), (entryL vs)[i]? = some (some v) → (j + i, v) ∈ lv_args j vs
  | [], j, i, v, h => by simp [entryL] at h
  | w :: vs, j, i, v, h => by
    by_cases hc : w.category = 2
    · simp only [entryL, hc, if_true] at h
      simp only [lv_args, hc, if_true]
      match i, h with
      | 0, h =>
        simp at h
        subst h
        exact List.mem_cons_self
      | 1, h => simp at h
      | i + 2, h =>
        have h2 : (entryL vs)[i]? = some (some v) := by simpa using h
        have h3 := entryL_args vs (j + 2) i v h2
        refine List.mem_cons_of_mem _ ?_
        rw [show j + (i + 2) = j + 2 + i by omega]
        exact h3
    · simp only [entryL, if_neg hc] at h
      simp only [lv_args, if_neg hc]
      match i, h with
      | 0, h =>
        simp at h
        subst h
        exact List.mem_cons_self
      | i + 1, h =>
        have h2 : (entryL vs)[i]? = some (some v) := by simpa using h
        have h3 := entryL_args vs (j + 1) i v h2
        refine List.mem_cons_of_mem _ ?_
        rw [show j + (i + 1) = j + 1 + i by omega]
        exact h3
theorem lh_of {lsA : Array Slot} {n : Nat} {vs : List Value} {ls : List (Option Value)} (h : lv_has lsA n (lv_args 0 vs)) (k : Nat) (he : entryL vs ++ List.replicate k none = ls) : lh lsA n ls := by
  refine ⟨h.1, h.2.1, fun i v hi => ?_⟩
  subst he
  by_cases hl : i < (entryL vs).length
  · rw [List.getElem?_append_left hl] at hi
    have := entryL_args vs 0 i v hi
    rw [Nat.zero_add] at this
    exact h.2.2 _ this
  · rw [List.getElem?_append_right (by omega)] at hi
    rw [List.getElem?_replicate] at hi
    split at hi <;> simp at hi
theorem spec_of_wp {g : GG} {μ : MD} {vs : List Value} {M : Mem} {Q : Option Value → Mem → Prop} {ls : List (Option Value)} (hp : plainName μ.1.cls = true) (hn : (lg_sl vs).length ≤ μ.2.2.1) (k : Nat) (hls : entryL vs ++ List.replicate k none = ls) (h : wp g μ 0 ls [] M Q) : Spec g μ vs M Q := by
  refine Met.ofW (cc := μ.2.1) (maxL := μ.2.2.1) (ret := μ.2.2.2.1) hp rfl ?_
  intro p e s m args below meth c s₁ B hml hv
  obtain ⟨rfl, hP, hE, hD, hS⟩ := hv
  have hts := atoms_spec (ws := wsOf μ) B.pre
  rw [lg_entry_eq]
  exact h p e s m _ below meth c s.heap [] _ ⟨B.exec, B.bytes, B.returns, hml, findClass_of_methodNamed B.named, fun w hw => hts w (List.mem_cons_of_mem _ hw), B.notSynchronized, hE, hS⟩ hD hP va_S.rf (lh_of (lv_entry vs hn) k hls)
theorem wsL_good : ∀ w ∈ wsL_law, goodWord w = true := List.all_eq_true.mp (by decide +kernel)
theorem wsOf_good {μ : MD} (h : Cond.code μ.1 μ.2.1 μ.2.2.1 μ.2.2.2.1 ∈ wsL_law) : GoodIn wsL_law (wsOf μ) := by
  intro w hw
  rcases List.mem_cons.mp hw with rfl | hw
  · exact ⟨h, good_of_word (wsL_good _ h)⟩
  · exact ⟨hw, good_of_word (wsL_good w hw)⟩
/-- shifts as Java has them -/
def shl (x y : Int32) : Int32 := x <<< (y &&& 31)
def sshr (x y : Int32) : Int32 := x >>> (y &&& 31)
def ushr (x y : Int32) : Int32 := (x.toUInt32 >>> (y.toUInt32 &&& Int32.toUInt32 31)).toInt32

section WPR
variable {g : GG} {μ : MD} {pc pc' : Nat} {ls : List (Option Value)} {st : List Value} {M : Mem} {Q : Option Value → Mem → Prop}
theorem wp_iconst {n : Int} (v : Int32) (d : decode μ.2.1 pc = .ok (.iconst n, 1)) (hpc : pc' = pc + 1) (hv : Int32.ofInt n = v) (k : wp g μ pc' ls (.int v :: st) M Q) : wp g μ pc ls (st) M Q := by
  subst hpc
  intro p e s m args below meth c H locs lsA C D P S L
  exact lv_iconst C.1 C.2.1 d hv (k p e s m args below meth c H locs lsA C D P S L)
theorem wp_bipush {n : Int} (v : Int32) (d : decode μ.2.1 pc = .ok (.bipush n, 2)) (hpc : pc' = pc + 2) (hv : (Int8.ofInt n).toInt32 = v) (k : wp g μ pc' ls (.int v :: st) M Q) : wp g μ pc ls (st) M Q := by
  subst hpc
  intro p e s m args below meth c H locs lsA C D P S L
  exact lv_bipush C.1 C.2.1 d hv (k p e s m args below meth c H locs lsA C D P S L)
theorem wp_sipush {n : Int} (v : Int32) (d : decode μ.2.1 pc = .ok (.sipush n, 3)) (hpc : pc' = pc + 3) (hv : (Int16.ofInt n).toInt32 = v) (k : wp g μ pc' ls (.int v :: st) M Q) : wp g μ pc ls (st) M Q := by
  subst hpc
  intro p e s m args below meth c H locs lsA C D P S L
  exact lv_sipush C.1 C.2.1 d hv (k p e s m args below meth c H locs lsA C D P S L)
theorem wp_lconst {n : Fin 2} (v : Int64) (d : decode μ.2.1 pc = .ok (.lconst n, 1)) (hpc : pc' = pc + 1) (hv : Int64.ofNat n = v) (k : wp g μ pc' ls (.long v :: st) M Q) : wp g μ pc ls (st) M Q := by
  subst hpc
  intro p e s m args below meth c H locs lsA C D P S L
  exact lv_lconst C.1 C.2.1 d hv (k p e s m args below meth c H locs lsA C D P S L)
theorem wp_ldc {idx : Nat} (v : Int32) (d : decode μ.2.1 pc = .ok (.ldc idx, 2)) (hpc : pc' = pc + 2) (hm : Cond.constant μ.1.cls idx v ∈ wsL_law) (k : wp g μ pc' ls (.int v :: st) M Q) : wp g μ pc ls (st) M Q := by
  subst hpc
  intro p e s m args below meth c H locs lsA C D P S L
  exact lv_ldc C.1 C.2.1 C.2.2.2.2.1 (C.2.2.2.2.2.1 _ hm) d (k p e s m args below meth c H locs lsA C D P S L)
theorem wp_ldc2 {idx : Nat} (v : Int64) (d : decode μ.2.1 pc = .ok (.ldc2_w idx, 3)) (hpc : pc' = pc + 3) (hm : Cond.constantLong μ.1.cls idx v ∈ wsL_law) (k : wp g μ pc' ls (.long v :: st) M Q) : wp g μ pc ls (st) M Q := by
  subst hpc
  intro p e s m args below meth c H locs lsA C D P S L
  exact lv_ldc2 C.1 C.2.1 C.2.2.2.2.1 (C.2.2.2.2.2.1 _ hm) d (k p e s m args below meth c H locs lsA C D P S L)
theorem wp_iload_n {i : Fin 4} {x : Int32} (d : decode μ.2.1 pc = .ok (.iload_n i, 1)) (hpc : pc' = pc + 1) (hl : ls[(i : Nat)]? = some (some (.int x))) (k : wp g μ pc' ls (.int x :: st) M Q) : wp g μ pc ls (st) M Q := by
  subst hpc
  intro p e s m args below meth c H locs lsA C D P S L
  exact lv_iload_n C.1 C.2.1 d rfl (L.2.2 _ _ hl) (k p e s m args below meth c H locs lsA C D P S L)
theorem wp_iload {i : Nat} {x : Int32} (d : decode μ.2.1 pc = .ok (.iload i, 2)) (hpc : pc' = pc + 2) (hl : ls[i]? = some (some (.int x))) (k : wp g μ pc' ls (.int x :: st) M Q) : wp g μ pc ls (st) M Q := by
  subst hpc
  intro p e s m args below meth c H locs lsA C D P S L
  exact lv_iload C.1 C.2.1 d (L.2.2 _ _ hl) (k p e s m args below meth c H locs lsA C D P S L)
theorem wp_lload_n {i : Fin 4} {x : Int64} (d : decode μ.2.1 pc = .ok (.lload_n i, 1)) (hpc : pc' = pc + 1) (hl : ls[(i : Nat)]? = some (some (.long x))) (k : wp g μ pc' ls (.long x :: st) M Q) : wp g μ pc ls (st) M Q := by
  subst hpc
  intro p e s m args below meth c H locs lsA C D P S L
  exact lv_lload_n C.1 C.2.1 d rfl (L.2.2 _ _ hl) (k p e s m args below meth c H locs lsA C D P S L)
theorem wp_aload_n {i : Fin 4} {v : Value} (d : decode μ.2.1 pc = .ok (.aload_n i, 1)) (hpc : pc' = pc + 1) (hl : ls[(i : Nat)]? = some (some v)) (hr : ∃ a : Nat, v = .ref a) (k : wp g μ pc' ls (v :: st) M Q) : wp g μ pc ls st M Q := by
  obtain ⟨a, rfl⟩ := hr
  subst hpc
  intro p e s m args below meth c H locs lsA C D P S L
  exact lv_aload_n C.1 C.2.1 d rfl (L.2.2 _ _ hl) (k p e s m args below meth c H locs lsA C D P S L)
theorem wp_aload {i : Nat} {v : Value} (d : decode μ.2.1 pc = .ok (.aload i, 2)) (hpc : pc' = pc + 2) (hl : ls[i]? = some (some v)) (hr : ∃ a : Nat, v = .ref a) (k : wp g μ pc' ls (v :: st) M Q) : wp g μ pc ls st M Q := by
  obtain ⟨a, rfl⟩ := hr
  subst hpc
  intro p e s m args below meth c H locs lsA C D P S L
  exact lv_aload C.1 C.2.1 d (L.2.2 _ _ hl) (k p e s m args below meth c H locs lsA C D P S L)
theorem wp_iadd {x y : Int32} (d : decode μ.2.1 pc = .ok (.iadd, 1)) (hpc : pc' = pc + 1)  (k : wp g μ pc' ls (.int (x + y) :: st) M Q) : wp g μ pc ls (.int y :: .int x :: st) M Q := by
  subst hpc
  intro p e s m args below meth c H locs lsA C D P S L
  exact lv_iadd C.1 C.2.1 d (k p e s m args below meth c H locs lsA C D P S L)
theorem wp_isub {x y : Int32} (d : decode μ.2.1 pc = .ok (.isub, 1)) (hpc : pc' = pc + 1)  (k : wp g μ pc' ls (.int (x - y) :: st) M Q) : wp g μ pc ls (.int y :: .int x :: st) M Q := by
  subst hpc
  intro p e s m args below meth c H locs lsA C D P S L
  exact lv_isub C.1 C.2.1 d (k p e s m args below meth c H locs lsA C D P S L)
theorem wp_imul {x y : Int32} (d : decode μ.2.1 pc = .ok (.imul, 1)) (hpc : pc' = pc + 1)  (k : wp g μ pc' ls (.int (x * y) :: st) M Q) : wp g μ pc ls (.int y :: .int x :: st) M Q := by
  subst hpc
  intro p e s m args below meth c H locs lsA C D P S L
  exact lv_imul C.1 C.2.1 d (k p e s m args below meth c H locs lsA C D P S L)
theorem wp_iand {x y : Int32} (d : decode μ.2.1 pc = .ok (.iand, 1)) (hpc : pc' = pc + 1)  (k : wp g μ pc' ls (.int (x &&& y) :: st) M Q) : wp g μ pc ls (.int y :: .int x :: st) M Q := by
  subst hpc
  intro p e s m args below meth c H locs lsA C D P S L
  exact lv_iand C.1 C.2.1 d (k p e s m args below meth c H locs lsA C D P S L)
theorem wp_ior {x y : Int32} (d : decode μ.2.1 pc = .ok (.ior, 1)) (hpc : pc' = pc + 1)  (k : wp g μ pc' ls (.int (x ||| y) :: st) M Q) : wp g μ pc ls (.int y :: .int x :: st) M Q := by
  subst hpc
  intro p e s m args below meth c H locs lsA C D P S L
  exact lv_ior C.1 C.2.1 d (k p e s m args below meth c H locs lsA C D P S L)
theorem wp_ixor {x y : Int32} (d : decode μ.2.1 pc = .ok (.ixor, 1)) (hpc : pc' = pc + 1)  (k : wp g μ pc' ls (.int (x ^^^ y) :: st) M Q) : wp g μ pc ls (.int y :: .int x :: st) M Q := by
  subst hpc
  intro p e s m args below meth c H locs lsA C D P S L
  exact lv_ixor C.1 C.2.1 d (k p e s m args below meth c H locs lsA C D P S L)
theorem wp_ishl {x y : Int32} (d : decode μ.2.1 pc = .ok (.ishl, 1)) (hpc : pc' = pc + 1)  (k : wp g μ pc' ls (.int (shl x y) :: st) M Q) : wp g μ pc ls (.int y :: .int x :: st) M Q := by
  subst hpc
  intro p e s m args below meth c H locs lsA C D P S L
  exact lv_ishl C.1 C.2.1 d (k p e s m args below meth c H locs lsA C D P S L)
theorem wp_ishr {x y : Int32} (d : decode μ.2.1 pc = .ok (.ishr, 1)) (hpc : pc' = pc + 1)  (k : wp g μ pc' ls (.int (sshr x y) :: st) M Q) : wp g μ pc ls (.int y :: .int x :: st) M Q := by
  subst hpc
  intro p e s m args below meth c H locs lsA C D P S L
  exact lv_ishr C.1 C.2.1 d (k p e s m args below meth c H locs lsA C D P S L)
theorem wp_idiv {x y : Int32} (d : decode μ.2.1 pc = .ok (.idiv, 1)) (hpc : pc' = pc + 1) (hne : ¬ y = 0) (k : wp g μ pc' ls (.int (x / y) :: st) M Q) : wp g μ pc ls (.int y :: .int x :: st) M Q := by
  subst hpc
  intro p e s m args below meth c H locs lsA C D P S L
  exact lv_idiv C.1 C.2.1 d hne (k p e s m args below meth c H locs lsA C D P S L)
theorem wp_irem {x y : Int32} (d : decode μ.2.1 pc = .ok (.irem, 1)) (hpc : pc' = pc + 1) (hne : ¬ y = 0) (k : wp g μ pc' ls (.int (x - x / y * y) :: st) M Q) : wp g μ pc ls (.int y :: .int x :: st) M Q := by
  subst hpc
  intro p e s m args below meth c H locs lsA C D P S L
  exact lv_irem C.1 C.2.1 d hne (k p e s m args below meth c H locs lsA C D P S L)
theorem wp_iushr {x y : Int32} (d : decode μ.2.1 pc = .ok (.iushr, 1)) (hpc : pc' = pc + 1)  (k : wp g μ pc' ls (.int (ushr x y) :: st) M Q) : wp g μ pc ls (.int y :: .int x :: st) M Q := by
  subst hpc
  intro p e s m args below meth c H locs lsA C D P S L
  exact lv_iushr C.1 C.2.1 d rfl (k p e s m args below meth c H locs lsA C D P S L)
theorem wp_ineg {x : Int32} (d : decode μ.2.1 pc = .ok (.ineg, 1)) (hpc : pc' = pc + 1)  (k : wp g μ pc' ls (.int (-x) :: st) M Q) : wp g μ pc ls (.int x :: st) M Q := by
  subst hpc
  intro p e s m args below meth c H locs lsA C D P S L
  exact lv_ineg C.1 C.2.1 d (k p e s m args below meth c H locs lsA C D P S L)
theorem wp_ladd {x y : Int64} (d : decode μ.2.1 pc = .ok (.ladd, 1)) (hpc : pc' = pc + 1)  (k : wp g μ pc' ls (.long (x + y) :: st) M Q) : wp g μ pc ls (.long y :: .long x :: st) M Q := by
  subst hpc
  intro p e s m args below meth c H locs lsA C D P S L
  exact lv_ladd C.1 C.2.1 d (k p e s m args below meth c H locs lsA C D P S L)
theorem wp_lmul {x y : Int64} (d : decode μ.2.1 pc = .ok (.lmul, 1)) (hpc : pc' = pc + 1)  (k : wp g μ pc' ls (.long (x * y) :: st) M Q) : wp g μ pc ls (.long y :: .long x :: st) M Q := by
  subst hpc
  intro p e s m args below meth c H locs lsA C D P S L
  exact lv_lmul C.1 C.2.1 d (k p e s m args below meth c H locs lsA C D P S L)
theorem wp_land {x y : Int64} (d : decode μ.2.1 pc = .ok (.land, 1)) (hpc : pc' = pc + 1)  (k : wp g μ pc' ls (.long (x &&& y) :: st) M Q) : wp g μ pc ls (.long y :: .long x :: st) M Q := by
  subst hpc
  intro p e s m args below meth c H locs lsA C D P S L
  exact lv_land C.1 C.2.1 d (k p e s m args below meth c H locs lsA C D P S L)
theorem wp_lor {x y : Int64} (d : decode μ.2.1 pc = .ok (.lor, 1)) (hpc : pc' = pc + 1)  (k : wp g μ pc' ls (.long (x ||| y) :: st) M Q) : wp g μ pc ls (.long y :: .long x :: st) M Q := by
  subst hpc
  intro p e s m args below meth c H locs lsA C D P S L
  exact lv_lor C.1 C.2.1 d (k p e s m args below meth c H locs lsA C D P S L)
theorem wp_lushr {x : Int64} {y : Int32} (d : decode μ.2.1 pc = .ok (.lushr, 1)) (hpc : pc' = pc + 1)  (k : wp g μ pc' ls (.long ((x.toUInt64 >>> (y.toInt64.toUInt64 &&& Int64.toUInt64 63)).toInt64) :: st) M Q) : wp g μ pc ls (.int y :: .long x :: st) M Q := by
  subst hpc
  intro p e s m args below meth c H locs lsA C D P S L
  exact lv_lushr C.1 C.2.1 d rfl (k p e s m args below meth c H locs lsA C D P S L)
theorem wp_lshr {x : Int64} {y : Int32} (d : decode μ.2.1 pc = .ok (.lshr, 1)) (hpc : pc' = pc + 1)  (k : wp g μ pc' ls (.long (x >>> (y.toInt64 &&& 63)) :: st) M Q) : wp g μ pc ls (.int y :: .long x :: st) M Q := by
  subst hpc
  intro p e s m args below meth c H locs lsA C D P S L
  exact lv_lshr C.1 C.2.1 d rfl (k p e s m args below meth c H locs lsA C D P S L)
theorem wp_lshl {x : Int64} {y : Int32} (d : decode μ.2.1 pc = .ok (.lshl, 1)) (hpc : pc' = pc + 1)  (k : wp g μ pc' ls (.long (x <<< (y.toInt64 &&& 63)) :: st) M Q) : wp g μ pc ls (.int y :: .long x :: st) M Q := by
  subst hpc
  intro p e s m args below meth c H locs lsA C D P S L
  exact lv_lshl C.1 C.2.1 d rfl (k p e s m args below meth c H locs lsA C D P S L)
theorem wp_i2l {x : Int32} (d : decode μ.2.1 pc = .ok (.i2l, 1)) (hpc : pc' = pc + 1)  (k : wp g μ pc' ls (.long x.toInt64 :: st) M Q) : wp g μ pc ls (.int x :: st) M Q := by
  subst hpc
  intro p e s m args below meth c H locs lsA C D P S L
  exact lv_i2l C.1 C.2.1 d rfl (k p e s m args below meth c H locs lsA C D P S L)
theorem wp_l2i {x : Int64} (d : decode μ.2.1 pc = .ok (.l2i, 1)) (hpc : pc' = pc + 1)  (k : wp g μ pc' ls (.int x.toInt32 :: st) M Q) : wp g μ pc ls (.long x :: st) M Q := by
  subst hpc
  intro p e s m args below meth c H locs lsA C D P S L
  exact lv_l2i C.1 C.2.1 d rfl (k p e s m args below meth c H locs lsA C D P S L)
theorem wp_lcmp {x y : Int64} (d : decode μ.2.1 pc = .ok (.lcmp, 1)) (hpc : pc' = pc + 1)  (k : wp g μ pc' ls (.int (lg_cmp x y) :: st) M Q) : wp g μ pc ls (.long y :: .long x :: st) M Q := by
  subst hpc
  intro p e s m args below meth c H locs lsA C D P S L
  exact W.lcmp C.1 C.2.1 d (k p e s m args below meth c H locs lsA C D P S L)
theorem wp_dup {v : Value} (d : decode μ.2.1 pc = .ok (.dup, 1)) (hpc : pc' = pc + 1) (hc : v.category = 1) (k : wp g μ pc' ls (v :: v :: st) M Q) : wp g μ pc ls (v :: st) M Q := by
  subst hpc
  intro p e s m args below meth c H locs lsA C D P S L
  exact lv_dup C.1 C.2.1 d hc (k p e s m args below meth c H locs lsA C D P S L)
theorem wp_dup2 {v w : Value} (d : decode μ.2.1 pc = .ok (.dup2, 1)) (hpc : pc' = pc + 1) (hc : v.category = 1) (hc2 : w.category = 1) (k : wp g μ pc' ls (v :: w :: v :: w :: st) M Q) : wp g μ pc ls (v :: w :: st) M Q := by
  subst hpc
  intro p e s m args below meth c H locs lsA C D P S L
  exact lv_dup2_11 C.1 C.2.1 d hc hc2 (k p e s m args below meth c H locs lsA C D P S L)
theorem wp_pop {v : Value} (d : decode μ.2.1 pc = .ok (.pop, 1)) (hpc : pc' = pc + 1) (hc : v.category = 1) (k : wp g μ pc' ls (st) M Q) : wp g μ pc ls (v :: st) M Q := by
  subst hpc
  intro p e s m args below meth c H locs lsA C D P S L
  exact lv_pop C.1 C.2.1 d hc (k p e s m args below meth c H locs lsA C D P S L)
def okst (ls : List (Option Value)) (i : Nat) : Bool := match i with
  | 0 => true
  | j + 1 => match ls[j]? with
    | some (some v) => v.category != 2
    | _ => true
theorem lh_set {lsA ls' : Array Slot} {n i : Nat} {ls : List (Option Value)} {v : Value} (L : lh lsA n ls) (hs : storeLocals lsA i v = some ls') (hc : v.category = 1) (hi : i < n) (ho : okst ls i = true) : lh ls' n (ls.set i (some v)) := by
  have h0 : lv_has lsA n (ls.zipIdx.filterMap (fun q => q.1.map (fun w => (q.2, w)))) := by
    refine ⟨L.1, L.2.1, fun q hq => ?_⟩
    obtain ⟨⟨a, j⟩, h1, h2⟩ := List.mem_filterMap.mp hq
    have h3 := List.mem_zipIdx_iff_getElem?.mp h1
    cases a with
    | none => simp at h2
    | some w =>
      simp at h2
      subst h2
      exact L.2.2 _ _ h3
  obtain ⟨ls2, e1, e2⟩ := lv_store1 h0 hi hc
  rw [hs] at e1
  cases e1
  refine ⟨e2.1, e2.2.1, fun j w hj => ?_⟩
  by_cases hji : j = i
  · subst hji
    rw [List.getElem?_set] at hj
    split at hj
    · split at hj
      · cases hj
        exact e2.2.2 _ List.mem_cons_self
      · cases hj
    · rename_i h9; exact absurd rfl h9
  · rw [List.getElem?_set_ne (Ne.symm hji)] at hj
    refine e2.2.2 (j, w) (List.mem_cons_of_mem _ (List.mem_filter.mpr ⟨List.mem_filterMap.mpr ⟨(some w, j), List.mem_zipIdx_iff_getElem?.mpr hj, rfl⟩, ?_⟩))
    have : ¬ (j + 1 = i ∧ w.category = 2) := by
      rintro ⟨h8, h9⟩
      subst h8
      simp [okst, hj, h9] at ho
    by_cases h7 : j + 1 = i
    · have h6 : w.category ≠ 2 := fun h => this ⟨h7, h⟩
      simp [hji, h7, h6]
    · simp [hji, h7]
theorem lh_list {lsA : Array Slot} {n : Nat} {ls : List (Option Value)} (L : lh lsA n ls) : lv_has lsA n (ls.zipIdx.filterMap (fun q => q.1.map (fun w => (q.2, w)))) := by
  refine ⟨L.1, L.2.1, fun q hq => ?_⟩
  obtain ⟨⟨a, j⟩, h1, h2⟩ := List.mem_filterMap.mp hq
  have h3 := List.mem_zipIdx_iff_getElem?.mp h1
  cases a with
  | none => simp at h2
  | some w =>
    simp at h2
    subst h2
    exact L.2.2 _ _ h3
theorem lh_fil {lsA ls' : Array Slot} {n i : Nat} {ls : List (Option Value)} {v : Value} (h : lv_has ls' n ((i, v) :: (ls.zipIdx.filterMap (fun q => q.1.map (fun w => (q.2, w)))).filter (fun q => !(q.1 == i) && !(q.1 + 1 == i && q.2.category == 2)))) (ho : okst ls i = true) : lh ls' n (ls.set i (some v)) := by
  refine ⟨h.1, h.2.1, fun j w hj => ?_⟩
  by_cases hji : j = i
  · subst hji
    rw [List.getElem?_set] at hj
    split at hj
    · split at hj
      · cases hj
        exact h.2.2 _ List.mem_cons_self
      · cases hj
    · rename_i h9; exact absurd rfl h9
  · rw [List.getElem?_set_ne (Ne.symm hji)] at hj
    refine h.2.2 (j, w) (List.mem_cons_of_mem _ (List.mem_filter.mpr ⟨List.mem_filterMap.mpr ⟨(some w, j), List.mem_zipIdx_iff_getElem?.mpr hj, rfl⟩, ?_⟩))
    have : ¬ (j + 1 = i ∧ w.category = 2) := by
      rintro ⟨h8, h9⟩
      subst h8
      simp [okst, hj, h9] at ho
    by_cases h7 : j + 1 = i
    · have h6 : w.category ≠ 2 := fun h => this ⟨h7, h⟩
      simp [hji, h7, h6]
    · simp [hji, h7]
theorem wp_istore_n {i : Fin 4} {x : Int32} (d : decode μ.2.1 pc = .ok (.istore_n i, 1)) (hpc : pc' = pc + 1) (hi : (i : Nat) < μ.2.2.1) (ho : okst ls (i : Nat) = true) (k : wp g μ pc' (ls.set (i : Nat) (some (.int x))) st M Q) : wp g μ pc ls (.int x :: st) M Q := by
  subst hpc
  intro p e s m args below meth c H locs lsA C D P S L
  exact lv_istore_n C.1 C.2.1 d rfl (lh_list L) hi rfl (fun ls' h => k p e s m args below meth c H locs ls' C D P S (lh_fil (lsA := lsA) h ho))
theorem wp_istore {i : Nat} {x : Int32} (d : decode μ.2.1 pc = .ok (.istore i, 2)) (hpc : pc' = pc + 2) (hi : i < μ.2.2.1) (ho : okst ls i = true) (k : wp g μ pc' (ls.set i (some (.int x))) st M Q) : wp g μ pc ls (.int x :: st) M Q := by
  subst hpc
  intro p e s m args below meth c H locs lsA C D P S L
  exact lv_istore C.1 C.2.1 d (lh_list L) hi rfl (fun ls' h => k p e s m args below meth c H locs ls' C D P S (lh_fil (lsA := lsA) h ho))
theorem wp_astore_n {i : Fin 4} {x : Nat} (d : decode μ.2.1 pc = .ok (.astore_n i, 1)) (hpc : pc' = pc + 1) (hi : (i : Nat) < μ.2.2.1) (ho : okst ls (i : Nat) = true) (k : wp g μ pc' (ls.set (i : Nat) (some (.ref x))) st M Q) : wp g μ pc ls (.ref x :: st) M Q := by
  subst hpc
  intro p e s m args below meth c H locs lsA C D P S L
  exact lv_astore_n C.1 C.2.1 d rfl (lh_list L) hi rfl (fun ls' h => k p e s m args below meth c H locs ls' C D P S (lh_fil (lsA := lsA) h ho))
theorem wp_astore {i : Nat} {x : Nat} (d : decode μ.2.1 pc = .ok (.astore i, 2)) (hpc : pc' = pc + 2) (hi : i < μ.2.2.1) (ho : okst ls i = true) (k : wp g μ pc' (ls.set i (some (.ref x))) st M Q) : wp g μ pc ls (.ref x :: st) M Q := by
  subst hpc
  intro p e s m args below meth c H locs lsA C D P S L
  exact lv_astore C.1 C.2.1 d (lh_list L) hi rfl (fun ls' h => k p e s m args below meth c H locs ls' C D P S (lh_fil (lsA := lsA) h ho))
theorem wp_iinc {i : Nat} {n : Int} {x : Int32} (v : Int32) (d : decode μ.2.1 pc = .ok (.iinc i n, 3)) (hpc : pc' = pc + 3) (hi : i < μ.2.2.1) (ho : okst ls i = true) (hl : ls[i]? = some (some (.int x))) (hv : x + Int32.ofInt n = v) (k : wp g μ pc' (ls.set i (some (.int v))) st M Q) : wp g μ pc ls st M Q := by
  subst hpc
  intro p e s m args below meth c H locs lsA C D P S L
  obtain ⟨q, hq⟩ := List.getElem?_of_mem (List.mem_filterMap.mpr ⟨(some (Value.int x), i), List.mem_zipIdx_iff_getElem?.mpr hl, rfl⟩ : (i, Value.int x) ∈ ls.zipIdx.filterMap (fun q => q.1.map (fun w => (q.2, w))))
  exact lv_iinc C.1 C.2.1 d (lh_list L) hq hv hi rfl (fun ls' h => k p e s m args below meth c H locs ls' C D P S (lh_fil (lsA := lsA) h ho))
theorem wp_ist0 {a0 : Option Value} {x : Int32} (d : decode μ.2.1 pc = .ok (.istore_n 0, 1)) (hpc : pc' = pc + 1) (hi : 0 < μ.2.2.1) (ho : okst (a0 :: ls) 0 = true) (k : wp g μ pc' (some (.int x) :: ls) st M Q) : wp g μ pc (a0 :: ls) (.int x :: st) M Q := wp_istore_n d hpc hi ho k
theorem wp_ast0 {a0 : Option Value} {v : Value} (d : decode μ.2.1 pc = .ok (.astore_n 0, 1)) (hpc : pc' = pc + 1) (hi : 0 < μ.2.2.1) (ho : okst (a0 :: ls) 0 = true) (hr : ∃ a : Nat, v = .ref a) (k : wp g μ pc' (some (v) :: ls) st M Q) : wp g μ pc (a0 :: ls) (v :: st) M Q := by
  obtain ⟨a, rfl⟩ := hr
  exact wp_astore_n d hpc hi ho k
theorem wp_inc0  {n : Int} {x : Int32} (v : Int32) (d : decode μ.2.1 pc = .ok (.iinc 0 n, 3)) (hpc : pc' = pc + 3) (hi : 0 < μ.2.2.1) (ho : okst (some (.int x) :: ls) 0 = true) (hv : x + Int32.ofInt n = v) (k : wp g μ pc' (some (.int v) :: ls) st M Q) : wp g μ pc (some (.int x) :: ls) st M Q := wp_iinc v d hpc hi ho rfl hv k
theorem wp_ist1 {a0 a1 : Option Value} {x : Int32} (d : decode μ.2.1 pc = .ok (.istore_n 1, 1)) (hpc : pc' = pc + 1) (hi : 1 < μ.2.2.1) (ho : okst (a0 :: a1 :: ls) 1 = true) (k : wp g μ pc' (a0 :: some (.int x) :: ls) st M Q) : wp g μ pc (a0 :: a1 :: ls) (.int x :: st) M Q := wp_istore_n d hpc hi ho k
theorem wp_ast1 {a0 a1 : Option Value} {v : Value} (d : decode μ.2.1 pc = .ok (.astore_n 1, 1)) (hpc : pc' = pc + 1) (hi : 1 < μ.2.2.1) (ho : okst (a0 :: a1 :: ls) 1 = true) (hr : ∃ a : Nat, v = .ref a) (k : wp g μ pc' (a0 :: some (v) :: ls) st M Q) : wp g μ pc (a0 :: a1 :: ls) (v :: st) M Q := by
  obtain ⟨a, rfl⟩ := hr
  exact wp_astore_n d hpc hi ho k
theorem wp_inc1 {a0 : Option Value} {n : Int} {x : Int32} (v : Int32) (d : decode μ.2.1 pc = .ok (.iinc 1 n, 3)) (hpc : pc' = pc + 3) (hi : 1 < μ.2.2.1) (ho : okst (a0 :: some (.int x) :: ls) 1 = true) (hv : x + Int32.ofInt n = v) (k : wp g μ pc' (a0 :: some (.int v) :: ls) st M Q) : wp g μ pc (a0 :: some (.int x) :: ls) st M Q := wp_iinc v d hpc hi ho rfl hv k
theorem wp_ist2 {a0 a1 a2 : Option Value} {x : Int32} (d : decode μ.2.1 pc = .ok (.istore_n 2, 1)) (hpc : pc' = pc + 1) (hi : 2 < μ.2.2.1) (ho : okst (a0 :: a1 :: a2 :: ls) 2 = true) (k : wp g μ pc' (a0 :: a1 :: some (.int x) :: ls) st M Q) : wp g μ pc (a0 :: a1 :: a2 :: ls) (.int x :: st) M Q := wp_istore_n d hpc hi ho k
theorem wp_ast2 {a0 a1 a2 : Option Value} {v : Value} (d : decode μ.2.1 pc = .ok (.astore_n 2, 1)) (hpc : pc' = pc + 1) (hi : 2 < μ.2.2.1) (ho : okst (a0 :: a1 :: a2 :: ls) 2 = true) (hr : ∃ a : Nat, v = .ref a) (k : wp g μ pc' (a0 :: a1 :: some (v) :: ls) st M Q) : wp g μ pc (a0 :: a1 :: a2 :: ls) (v :: st) M Q := by
  obtain ⟨a, rfl⟩ := hr
  exact wp_astore_n d hpc hi ho k
theorem wp_inc2 {a0 a1 : Option Value} {n : Int} {x : Int32} (v : Int32) (d : decode μ.2.1 pc = .ok (.iinc 2 n, 3)) (hpc : pc' = pc + 3) (hi : 2 < μ.2.2.1) (ho : okst (a0 :: a1 :: some (.int x) :: ls) 2 = true) (hv : x + Int32.ofInt n = v) (k : wp g μ pc' (a0 :: a1 :: some (.int v) :: ls) st M Q) : wp g μ pc (a0 :: a1 :: some (.int x) :: ls) st M Q := wp_iinc v d hpc hi ho rfl hv k
theorem wp_ist3 {a0 a1 a2 a3 : Option Value} {x : Int32} (d : decode μ.2.1 pc = .ok (.istore_n 3, 1)) (hpc : pc' = pc + 1) (hi : 3 < μ.2.2.1) (ho : okst (a0 :: a1 :: a2 :: a3 :: ls) 3 = true) (k : wp g μ pc' (a0 :: a1 :: a2 :: some (.int x) :: ls) st M Q) : wp g μ pc (a0 :: a1 :: a2 :: a3 :: ls) (.int x :: st) M Q := wp_istore_n d hpc hi ho k
theorem wp_ast3 {a0 a1 a2 a3 : Option Value} {v : Value} (d : decode μ.2.1 pc = .ok (.astore_n 3, 1)) (hpc : pc' = pc + 1) (hi : 3 < μ.2.2.1) (ho : okst (a0 :: a1 :: a2 :: a3 :: ls) 3 = true) (hr : ∃ a : Nat, v = .ref a) (k : wp g μ pc' (a0 :: a1 :: a2 :: some (v) :: ls) st M Q) : wp g μ pc (a0 :: a1 :: a2 :: a3 :: ls) (v :: st) M Q := by
  obtain ⟨a, rfl⟩ := hr
  exact wp_astore_n d hpc hi ho k
theorem wp_inc3 {a0 a1 a2 : Option Value} {n : Int} {x : Int32} (v : Int32) (d : decode μ.2.1 pc = .ok (.iinc 3 n, 3)) (hpc : pc' = pc + 3) (hi : 3 < μ.2.2.1) (ho : okst (a0 :: a1 :: a2 :: some (.int x) :: ls) 3 = true) (hv : x + Int32.ofInt n = v) (k : wp g μ pc' (a0 :: a1 :: a2 :: some (.int v) :: ls) st M Q) : wp g μ pc (a0 :: a1 :: a2 :: some (.int x) :: ls) st M Q := wp_iinc v d hpc hi ho rfl hv k
theorem wp_ist4 {a0 a1 a2 a3 a4 : Option Value} {x : Int32} (d : decode μ.2.1 pc = .ok (.istore 4, 2)) (hpc : pc' = pc + 2) (hi : 4 < μ.2.2.1) (ho : okst (a0 :: a1 :: a2 :: a3 :: a4 :: ls) 4 = true) (k : wp g μ pc' (a0 :: a1 :: a2 :: a3 :: some (.int x) :: ls) st M Q) : wp g μ pc (a0 :: a1 :: a2 :: a3 :: a4 :: ls) (.int x :: st) M Q := wp_istore d hpc hi ho k
theorem wp_ast4 {a0 a1 a2 a3 a4 : Option Value} {v : Value} (d : decode μ.2.1 pc = .ok (.astore 4, 2)) (hpc : pc' = pc + 2) (hi : 4 < μ.2.2.1) (ho : okst (a0 :: a1 :: a2 :: a3 :: a4 :: ls) 4 = true) (hr : ∃ a : Nat, v = .ref a) (k : wp g μ pc' (a0 :: a1 :: a2 :: a3 :: some (v) :: ls) st M Q) : wp g μ pc (a0 :: a1 :: a2 :: a3 :: a4 :: ls) (v :: st) M Q := by
  obtain ⟨a, rfl⟩ := hr
  exact wp_astore d hpc hi ho k
theorem wp_inc4 {a0 a1 a2 a3 : Option Value} {n : Int} {x : Int32} (v : Int32) (d : decode μ.2.1 pc = .ok (.iinc 4 n, 3)) (hpc : pc' = pc + 3) (hi : 4 < μ.2.2.1) (ho : okst (a0 :: a1 :: a2 :: a3 :: some (.int x) :: ls) 4 = true) (hv : x + Int32.ofInt n = v) (k : wp g μ pc' (a0 :: a1 :: a2 :: a3 :: some (.int v) :: ls) st M Q) : wp g μ pc (a0 :: a1 :: a2 :: a3 :: some (.int x) :: ls) st M Q := wp_iinc v d hpc hi ho rfl hv k
theorem wp_ist5 {a0 a1 a2 a3 a4 a5 : Option Value} {x : Int32} (d : decode μ.2.1 pc = .ok (.istore 5, 2)) (hpc : pc' = pc + 2) (hi : 5 < μ.2.2.1) (ho : okst (a0 :: a1 :: a2 :: a3 :: a4 :: a5 :: ls) 5 = true) (k : wp g μ pc' (a0 :: a1 :: a2 :: a3 :: a4 :: some (.int x) :: ls) st M Q) : wp g μ pc (a0 :: a1 :: a2 :: a3 :: a4 :: a5 :: ls) (.int x :: st) M Q := wp_istore d hpc hi ho k
theorem wp_ast5 {a0 a1 a2 a3 a4 a5 : Option Value} {v : Value} (d : decode μ.2.1 pc = .ok (.astore 5, 2)) (hpc : pc' = pc + 2) (hi : 5 < μ.2.2.1) (ho : okst (a0 :: a1 :: a2 :: a3 :: a4 :: a5 :: ls) 5 = true) (hr : ∃ a : Nat, v = .ref a) (k : wp g μ pc' (a0 :: a1 :: a2 :: a3 :: a4 :: some (v) :: ls) st M Q) : wp g μ pc (a0 :: a1 :: a2 :: a3 :: a4 :: a5 :: ls) (v :: st) M Q := by
  obtain ⟨a, rfl⟩ := hr
  exact wp_astore d hpc hi ho k
theorem wp_inc5 {a0 a1 a2 a3 a4 : Option Value} {n : Int} {x : Int32} (v : Int32) (d : decode μ.2.1 pc = .ok (.iinc 5 n, 3)) (hpc : pc' = pc + 3) (hi : 5 < μ.2.2.1) (ho : okst (a0 :: a1 :: a2 :: a3 :: a4 :: some (.int x) :: ls) 5 = true) (hv : x + Int32.ofInt n = v) (k : wp g μ pc' (a0 :: a1 :: a2 :: a3 :: a4 :: some (.int v) :: ls) st M Q) : wp g μ pc (a0 :: a1 :: a2 :: a3 :: a4 :: some (.int x) :: ls) st M Q := wp_iinc v d hpc hi ho rfl hv k
theorem wp_ist6 {a0 a1 a2 a3 a4 a5 a6 : Option Value} {x : Int32} (d : decode μ.2.1 pc = .ok (.istore 6, 2)) (hpc : pc' = pc + 2) (hi : 6 < μ.2.2.1) (ho : okst (a0 :: a1 :: a2 :: a3 :: a4 :: a5 :: a6 :: ls) 6 = true) (k : wp g μ pc' (a0 :: a1 :: a2 :: a3 :: a4 :: a5 :: some (.int x) :: ls) st M Q) : wp g μ pc (a0 :: a1 :: a2 :: a3 :: a4 :: a5 :: a6 :: ls) (.int x :: st) M Q := wp_istore d hpc hi ho k
theorem wp_ast6 {a0 a1 a2 a3 a4 a5 a6 : Option Value} {v : Value} (d : decode μ.2.1 pc = .ok (.astore 6, 2)) (hpc : pc' = pc + 2) (hi : 6 < μ.2.2.1) (ho : okst (a0 :: a1 :: a2 :: a3 :: a4 :: a5 :: a6 :: ls) 6 = true) (hr : ∃ a : Nat, v = .ref a) (k : wp g μ pc' (a0 :: a1 :: a2 :: a3 :: a4 :: a5 :: some (v) :: ls) st M Q) : wp g μ pc (a0 :: a1 :: a2 :: a3 :: a4 :: a5 :: a6 :: ls) (v :: st) M Q := by
  obtain ⟨a, rfl⟩ := hr
  exact wp_astore d hpc hi ho k
theorem wp_inc6 {a0 a1 a2 a3 a4 a5 : Option Value} {n : Int} {x : Int32} (v : Int32) (d : decode μ.2.1 pc = .ok (.iinc 6 n, 3)) (hpc : pc' = pc + 3) (hi : 6 < μ.2.2.1) (ho : okst (a0 :: a1 :: a2 :: a3 :: a4 :: a5 :: some (.int x) :: ls) 6 = true) (hv : x + Int32.ofInt n = v) (k : wp g μ pc' (a0 :: a1 :: a2 :: a3 :: a4 :: a5 :: some (.int v) :: ls) st M Q) : wp g μ pc (a0 :: a1 :: a2 :: a3 :: a4 :: a5 :: some (.int x) :: ls) st M Q := wp_iinc v d hpc hi ho rfl hv k
theorem wp_ist7 {a0 a1 a2 a3 a4 a5 a6 a7 : Option Value} {x : Int32} (d : decode μ.2.1 pc = .ok (.istore 7, 2)) (hpc : pc' = pc + 2) (hi : 7 < μ.2.2.1) (ho : okst (a0 :: a1 :: a2 :: a3 :: a4 :: a5 :: a6 :: a7 :: ls) 7 = true) (k : wp g μ pc' (a0 :: a1 :: a2 :: a3 :: a4 :: a5 :: a6 :: some (.int x) :: ls) st M Q) : wp g μ pc (a0 :: a1 :: a2 :: a3 :: a4 :: a5 :: a6 :: a7 :: ls) (.int x :: st) M Q := wp_istore d hpc hi ho k
theorem wp_ast7 {a0 a1 a2 a3 a4 a5 a6 a7 : Option Value} {v : Value} (d : decode μ.2.1 pc = .ok (.astore 7, 2)) (hpc : pc' = pc + 2) (hi : 7 < μ.2.2.1) (ho : okst (a0 :: a1 :: a2 :: a3 :: a4 :: a5 :: a6 :: a7 :: ls) 7 = true) (hr : ∃ a : Nat, v = .ref a) (k : wp g μ pc' (a0 :: a1 :: a2 :: a3 :: a4 :: a5 :: a6 :: some (v) :: ls) st M Q) : wp g μ pc (a0 :: a1 :: a2 :: a3 :: a4 :: a5 :: a6 :: a7 :: ls) (v :: st) M Q := by
  obtain ⟨a, rfl⟩ := hr
  exact wp_astore d hpc hi ho k
theorem wp_inc7 {a0 a1 a2 a3 a4 a5 a6 : Option Value} {n : Int} {x : Int32} (v : Int32) (d : decode μ.2.1 pc = .ok (.iinc 7 n, 3)) (hpc : pc' = pc + 3) (hi : 7 < μ.2.2.1) (ho : okst (a0 :: a1 :: a2 :: a3 :: a4 :: a5 :: a6 :: some (.int x) :: ls) 7 = true) (hv : x + Int32.ofInt n = v) (k : wp g μ pc' (a0 :: a1 :: a2 :: a3 :: a4 :: a5 :: a6 :: some (.int v) :: ls) st M Q) : wp g μ pc (a0 :: a1 :: a2 :: a3 :: a4 :: a5 :: a6 :: some (.int x) :: ls) st M Q := wp_iinc v d hpc hi ho rfl hv k
theorem wp_ist8 {a0 a1 a2 a3 a4 a5 a6 a7 a8 : Option Value} {x : Int32} (d : decode μ.2.1 pc = .ok (.istore 8, 2)) (hpc : pc' = pc + 2) (hi : 8 < μ.2.2.1) (ho : okst (a0 :: a1 :: a2 :: a3 :: a4 :: a5 :: a6 :: a7 :: a8 :: ls) 8 = true) (k : wp g μ pc' (a0 :: a1 :: a2 :: a3 :: a4 :: a5 :: a6 :: a7 :: some (.int x) :: ls) st M Q) : wp g μ pc (a0 :: a1 :: a2 :: a3 :: a4 :: a5 :: a6 :: a7 :: a8 :: ls) (.int x :: st) M Q := wp_istore d hpc hi ho k
theorem wp_ast8 {a0 a1 a2 a3 a4 a5 a6 a7 a8 : Option Value} {v : Value} (d : decode μ.2.1 pc = .ok (.astore 8, 2)) (hpc : pc' = pc + 2) (hi : 8 < μ.2.2.1) (ho : okst (a0 :: a1 :: a2 :: a3 :: a4 :: a5 :: a6 :: a7 :: a8 :: ls) 8 = true) (hr : ∃ a : Nat, v = .ref a) (k : wp g μ pc' (a0 :: a1 :: a2 :: a3 :: a4 :: a5 :: a6 :: a7 :: some (v) :: ls) st M Q) : wp g μ pc (a0 :: a1 :: a2 :: a3 :: a4 :: a5 :: a6 :: a7 :: a8 :: ls) (v :: st) M Q := by
  obtain ⟨a, rfl⟩ := hr
  exact wp_astore d hpc hi ho k
theorem wp_inc8 {a0 a1 a2 a3 a4 a5 a6 a7 : Option Value} {n : Int} {x : Int32} (v : Int32) (d : decode μ.2.1 pc = .ok (.iinc 8 n, 3)) (hpc : pc' = pc + 3) (hi : 8 < μ.2.2.1) (ho : okst (a0 :: a1 :: a2 :: a3 :: a4 :: a5 :: a6 :: a7 :: some (.int x) :: ls) 8 = true) (hv : x + Int32.ofInt n = v) (k : wp g μ pc' (a0 :: a1 :: a2 :: a3 :: a4 :: a5 :: a6 :: a7 :: some (.int v) :: ls) st M Q) : wp g μ pc (a0 :: a1 :: a2 :: a3 :: a4 :: a5 :: a6 :: a7 :: some (.int x) :: ls) st M Q := wp_iinc v d hpc hi ho rfl hv k
theorem wp_ist9 {a0 a1 a2 a3 a4 a5 a6 a7 a8 a9 : Option Value} {x : Int32} (d : decode μ.2.1 pc = .ok (.istore 9, 2)) (hpc : pc' = pc + 2) (hi : 9 < μ.2.2.1) (ho : okst (a0 :: a1 :: a2 :: a3 :: a4 :: a5 :: a6 :: a7 :: a8 :: a9 :: ls) 9 = true) (k : wp g μ pc' (a0 :: a1 :: a2 :: a3 :: a4 :: a5 :: a6 :: a7 :: a8 :: some (.int x) :: ls) st M Q) : wp g μ pc (a0 :: a1 :: a2 :: a3 :: a4 :: a5 :: a6 :: a7 :: a8 :: a9 :: ls) (.int x :: st) M Q := wp_istore d hpc hi ho k
theorem wp_ast9 {a0 a1 a2 a3 a4 a5 a6 a7 a8 a9 : Option Value} {v : Value} (d : decode μ.2.1 pc = .ok (.astore 9, 2)) (hpc : pc' = pc + 2) (hi : 9 < μ.2.2.1) (ho : okst (a0 :: a1 :: a2 :: a3 :: a4 :: a5 :: a6 :: a7 :: a8 :: a9 :: ls) 9 = true) (hr : ∃ a : Nat, v = .ref a) (k : wp g μ pc' (a0 :: a1 :: a2 :: a3 :: a4 :: a5 :: a6 :: a7 :: a8 :: some (v) :: ls) st M Q) : wp g μ pc (a0 :: a1 :: a2 :: a3 :: a4 :: a5 :: a6 :: a7 :: a8 :: a9 :: ls) (v :: st) M Q := by
  obtain ⟨a, rfl⟩ := hr
  exact wp_astore d hpc hi ho k
theorem wp_inc9 {a0 a1 a2 a3 a4 a5 a6 a7 a8 : Option Value} {n : Int} {x : Int32} (v : Int32) (d : decode μ.2.1 pc = .ok (.iinc 9 n, 3)) (hpc : pc' = pc + 3) (hi : 9 < μ.2.2.1) (ho : okst (a0 :: a1 :: a2 :: a3 :: a4 :: a5 :: a6 :: a7 :: a8 :: some (.int x) :: ls) 9 = true) (hv : x + Int32.ofInt n = v) (k : wp g μ pc' (a0 :: a1 :: a2 :: a3 :: a4 :: a5 :: a6 :: a7 :: a8 :: some (.int v) :: ls) st M Q) : wp g μ pc (a0 :: a1 :: a2 :: a3 :: a4 :: a5 :: a6 :: a7 :: a8 :: some (.int x) :: ls) st M Q := wp_iinc v d hpc hi ho rfl hv k
theorem wp_ist10 {a0 a1 a2 a3 a4 a5 a6 a7 a8 a9 a10 : Option Value} {x : Int32} (d : decode μ.2.1 pc = .ok (.istore 10, 2)) (hpc : pc' = pc + 2) (hi : 10 < μ.2.2.1) (ho : okst (a0 :: a1 :: a2 :: a3 :: a4 :: a5 :: a6 :: a7 :: a8 :: a9 :: a10 :: ls) 10 = true) (k : wp g μ pc' (a0 :: a1 :: a2 :: a3 :: a4 :: a5 :: a6 :: a7 :: a8 :: a9 :: some (.int x) :: ls) st M Q) : wp g μ pc (a0 :: a1 :: a2 :: a3 :: a4 :: a5 :: a6 :: a7 :: a8 :: a9 :: a10 :: ls) (.int x :: st) M Q := wp_istore d hpc hi ho k
theorem wp_ast10 {a0 a1 a2 a3 a4 a5 a6 a7 a8 a9 a10 : Option Value} {v : Value} (d : decode μ.2.1 pc = .ok (.astore 10, 2)) (hpc : pc' = pc + 2) (hi : 10 < μ.2.2.1) (ho : okst (a0 :: a1 :: a2 :: a3 :: a4 :: a5 :: a6 :: a7 :: a8 :: a9 :: a10 :: ls) 10 = true) (hr : ∃ a : Nat, v = .ref a) (k : wp g μ pc' (a0 :: a1 :: a2 :: a3 :: a4 :: a5 :: a6 :: a7 :: a8 :: a9 :: some (v) :: ls) st M Q) : wp g μ pc (a0 :: a1 :: a2 :: a3 :: a4 :: a5 :: a6 :: a7 :: a8 :: a9 :: a10 :: ls) (v :: st) M Q := by
  obtain ⟨a, rfl⟩ := hr
  exact wp_astore d hpc hi ho k
theorem wp_inc10 {a0 a1 a2 a3 a4 a5 a6 a7 a8 a9 : Option Value} {n : Int} {x : Int32} (v : Int32) (d : decode μ.2.1 pc = .ok (.iinc 10 n, 3)) (hpc : pc' = pc + 3) (hi : 10 < μ.2.2.1) (ho : okst (a0 :: a1 :: a2 :: a3 :: a4 :: a5 :: a6 :: a7 :: a8 :: a9 :: some (.int x) :: ls) 10 = true) (hv : x + Int32.ofInt n = v) (k : wp g μ pc' (a0 :: a1 :: a2 :: a3 :: a4 :: a5 :: a6 :: a7 :: a8 :: a9 :: some (.int v) :: ls) st M Q) : wp g μ pc (a0 :: a1 :: a2 :: a3 :: a4 :: a5 :: a6 :: a7 :: a8 :: a9 :: some (.int x) :: ls) st M Q := wp_iinc v d hpc hi ho rfl hv k
theorem wp_icmp_eq {x y : Int32} {off : Int} (tgt : Nat) (d : decode μ.2.1 pc = .ok (.if_icmp .eq off, 3)) (hpc : pc' = pc + 3) (ht : (pc : Int) + off = (tgt : Int)) (kt : x = y → wp g μ tgt ls st M Q) (kf : ¬ x = y → wp g μ pc' ls st M Q) : wp g μ pc ls (.int y :: .int x :: st) M Q := by
  subst hpc
  intro p e s m args below meth c H locs lsA C D P S L
  exact lv_icmp_eq C.1 C.2.1 d ht (fun h => kt h p e s m args below meth c H locs lsA C D P S L) (fun h => kf h p e s m args below meth c H locs lsA C D P S L)
theorem wp_if_eq {x : Int32} {off : Int} (tgt : Nat) (d : decode μ.2.1 pc = .ok (.ifCond .eq off, 3)) (hpc : pc' = pc + 3) (ht : (pc : Int) + off = (tgt : Int)) (kt : x = 0 → wp g μ tgt ls st M Q) (kf : ¬ x = 0 → wp g μ pc' ls st M Q) : wp g μ pc ls (.int x :: st) M Q := by
  subst hpc
  intro p e s m args below meth c H locs lsA C D P S L
  exact lv_if_eq C.1 C.2.1 d ht (fun h => kt h p e s m args below meth c H locs lsA C D P S L) (fun h => kf h p e s m args below meth c H locs lsA C D P S L)
theorem wp_icmp_ne {x y : Int32} {off : Int} (tgt : Nat) (d : decode μ.2.1 pc = .ok (.if_icmp .ne off, 3)) (hpc : pc' = pc + 3) (ht : (pc : Int) + off = (tgt : Int)) (kt : ¬ x = y → wp g μ tgt ls st M Q) (kf : x = y → wp g μ pc' ls st M Q) : wp g μ pc ls (.int y :: .int x :: st) M Q := by
  subst hpc
  intro p e s m args below meth c H locs lsA C D P S L
  exact lv_icmp_ne C.1 C.2.1 d ht (fun h => kt h p e s m args below meth c H locs lsA C D P S L) (fun h => kf h p e s m args below meth c H locs lsA C D P S L)
theorem wp_if_ne {x : Int32} {off : Int} (tgt : Nat) (d : decode μ.2.1 pc = .ok (.ifCond .ne off, 3)) (hpc : pc' = pc + 3) (ht : (pc : Int) + off = (tgt : Int)) (kt : ¬ x = 0 → wp g μ tgt ls st M Q) (kf : x = 0 → wp g μ pc' ls st M Q) : wp g μ pc ls (.int x :: st) M Q := by
  subst hpc
  intro p e s m args below meth c H locs lsA C D P S L
  exact lv_if_ne C.1 C.2.1 d ht (fun h => kt h p e s m args below meth c H locs lsA C D P S L) (fun h => kf h p e s m args below meth c H locs lsA C D P S L)
theorem wp_icmp_lt {x y : Int32} {off : Int} (tgt : Nat) (d : decode μ.2.1 pc = .ok (.if_icmp .lt off, 3)) (hpc : pc' = pc + 3) (ht : (pc : Int) + off = (tgt : Int)) (kt : x < y → wp g μ tgt ls st M Q) (kf : ¬ x < y → wp g μ pc' ls st M Q) : wp g μ pc ls (.int y :: .int x :: st) M Q := by
  subst hpc
  intro p e s m args below meth c H locs lsA C D P S L
  exact lv_icmp_lt C.1 C.2.1 d ht (fun h => kt h p e s m args below meth c H locs lsA C D P S L) (fun h => kf h p e s m args below meth c H locs lsA C D P S L)
theorem wp_if_lt {x : Int32} {off : Int} (tgt : Nat) (d : decode μ.2.1 pc = .ok (.ifCond .lt off, 3)) (hpc : pc' = pc + 3) (ht : (pc : Int) + off = (tgt : Int)) (kt : x < 0 → wp g μ tgt ls st M Q) (kf : ¬ x < 0 → wp g μ pc' ls st M Q) : wp g μ pc ls (.int x :: st) M Q := by
  subst hpc
  intro p e s m args below meth c H locs lsA C D P S L
  exact lv_if_lt C.1 C.2.1 d ht (fun h => kt h p e s m args below meth c H locs lsA C D P S L) (fun h => kf h p e s m args below meth c H locs lsA C D P S L)
theorem wp_icmp_ge {x y : Int32} {off : Int} (tgt : Nat) (d : decode μ.2.1 pc = .ok (.if_icmp .ge off, 3)) (hpc : pc' = pc + 3) (ht : (pc : Int) + off = (tgt : Int)) (kt : y ≤ x → wp g μ tgt ls st M Q) (kf : ¬ y ≤ x → wp g μ pc' ls st M Q) : wp g μ pc ls (.int y :: .int x :: st) M Q := by
  subst hpc
  intro p e s m args below meth c H locs lsA C D P S L
  exact lv_icmp_ge C.1 C.2.1 d ht (fun h => kt h p e s m args below meth c H locs lsA C D P S L) (fun h => kf h p e s m args below meth c H locs lsA C D P S L)
theorem wp_if_ge {x : Int32} {off : Int} (tgt : Nat) (d : decode μ.2.1 pc = .ok (.ifCond .ge off, 3)) (hpc : pc' = pc + 3) (ht : (pc : Int) + off = (tgt : Int)) (kt : 0 ≤ x → wp g μ tgt ls st M Q) (kf : ¬ 0 ≤ x → wp g μ pc' ls st M Q) : wp g μ pc ls (.int x :: st) M Q := by
  subst hpc
  intro p e s m args below meth c H locs lsA C D P S L
  exact lv_if_ge C.1 C.2.1 d ht (fun h => kt h p e s m args below meth c H locs lsA C D P S L) (fun h => kf h p e s m args below meth c H locs lsA C D P S L)
theorem wp_icmp_gt {x y : Int32} {off : Int} (tgt : Nat) (d : decode μ.2.1 pc = .ok (.if_icmp .gt off, 3)) (hpc : pc' = pc + 3) (ht : (pc : Int) + off = (tgt : Int)) (kt : y < x → wp g μ tgt ls st M Q) (kf : ¬ y < x → wp g μ pc' ls st M Q) : wp g μ pc ls (.int y :: .int x :: st) M Q := by
  subst hpc
  intro p e s m args below meth c H locs lsA C D P S L
  exact lv_icmp_gt C.1 C.2.1 d ht (fun h => kt h p e s m args below meth c H locs lsA C D P S L) (fun h => kf h p e s m args below meth c H locs lsA C D P S L)
theorem wp_if_gt {x : Int32} {off : Int} (tgt : Nat) (d : decode μ.2.1 pc = .ok (.ifCond .gt off, 3)) (hpc : pc' = pc + 3) (ht : (pc : Int) + off = (tgt : Int)) (kt : 0 < x → wp g μ tgt ls st M Q) (kf : ¬ 0 < x → wp g μ pc' ls st M Q) : wp g μ pc ls (.int x :: st) M Q := by
  subst hpc
  intro p e s m args below meth c H locs lsA C D P S L
  exact lv_if_gt C.1 C.2.1 d ht (fun h => kt h p e s m args below meth c H locs lsA C D P S L) (fun h => kf h p e s m args below meth c H locs lsA C D P S L)
theorem wp_icmp_le {x y : Int32} {off : Int} (tgt : Nat) (d : decode μ.2.1 pc = .ok (.if_icmp .le off, 3)) (hpc : pc' = pc + 3) (ht : (pc : Int) + off = (tgt : Int)) (kt : x ≤ y → wp g μ tgt ls st M Q) (kf : ¬ x ≤ y → wp g μ pc' ls st M Q) : wp g μ pc ls (.int y :: .int x :: st) M Q := by
  subst hpc
  intro p e s m args below meth c H locs lsA C D P S L
  exact lv_icmp_le C.1 C.2.1 d ht (fun h => kt h p e s m args below meth c H locs lsA C D P S L) (fun h => kf h p e s m args below meth c H locs lsA C D P S L)
theorem wp_if_le {x : Int32} {off : Int} (tgt : Nat) (d : decode μ.2.1 pc = .ok (.ifCond .le off, 3)) (hpc : pc' = pc + 3) (ht : (pc : Int) + off = (tgt : Int)) (kt : x ≤ 0 → wp g μ tgt ls st M Q) (kf : ¬ x ≤ 0 → wp g μ pc' ls st M Q) : wp g μ pc ls (.int x :: st) M Q := by
  subst hpc
  intro p e s m args below meth c H locs lsA C D P S L
  exact lv_if_le C.1 C.2.1 d ht (fun h => kt h p e s m args below meth c H locs lsA C D P S L) (fun h => kf h p e s m args below meth c H locs lsA C D P S L)
theorem wp_goto {off : Int} (tgt : Nat) (d : decode μ.2.1 pc = .ok (.goto off, 3)) (ht : (pc : Int) + off = (tgt : Int)) (k : wp g μ tgt ls st M Q) : wp g μ pc ls st M Q := by
  intro p e s m args below meth c H locs lsA C D P S L
  exact lv_goto C.1 C.2.1 d ht (k p e s m args below meth c H locs lsA C D P S L)
theorem wp_tin {dflt lo hi : Int} {offs : Array Int} {len : Nat} {x : Int32} {off : Int} (tgt : Nat) (d : decode μ.2.1 pc = .ok (.tableswitch dflt lo hi offs, len)) (h1 : ¬ x.toInt < lo) (h2 : ¬ hi < x.toInt) (ho : offs[(x.toInt - lo).toNat]? = some off) (ht : (pc : Int) + off = (tgt : Int)) (k : wp g μ tgt ls st M Q) : wp g μ pc ls (.int x :: st) M Q := by
  intro p e s m args below meth c H locs lsA C D P S L
  exact lv_tableIn C.1 C.2.1 d h1 h2 ho ht (k p e s m args below meth c H locs lsA C D P S L)
theorem wp_tout {dflt lo hi : Int} {offs : Array Int} {len : Nat} {x : Int32} (tgt : Nat) (d : decode μ.2.1 pc = .ok (.tableswitch dflt lo hi offs, len)) (h : x.toInt < lo ∨ hi < x.toInt) (ht : (pc : Int) + dflt = (tgt : Int)) (k : wp g μ tgt ls st M Q) : wp g μ pc ls (.int x :: st) M Q := by
  intro p e s m args below meth c H locs lsA C D P S L
  exact lv_tableOut C.1 C.2.1 d h ht (k p e s m args below meth c H locs lsA C D P S L)
/-! returns -/
theorem wp_ireti {v : Int32} (d : decode μ.2.1 pc = .ok (.ireturn, 1)) (hr : μ.2.2.2.1 = some .int) (k : Q (some (.int v)) M) : wp g μ pc ls [.int v] M Q := by
  intro p e s m args below meth c H locs lsA C D P S L
  exact W.iret (v := v) C.1 C.2.1 (C.2.2.1.trans hr) (fun t ht hW => ⟨⟨_, M, rfl, k, by rw [ht]; exact P⟩, S.F ht⟩) S.2.2 d C.2.2.2.2.2.2.1
theorem wp_iretz {v : Int32} {ty : FieldType} (d : decode μ.2.1 pc = .ok (.ireturn, 1)) (hr : μ.2.2.2.1 = some ty) (hn : narrow ty (.int v) = .int v) (k : Q (some (.int v)) M) : wp g μ pc ls [.int v] M Q := by
  intro p e s m args below meth c H locs lsA C D P S L
  exact W.zret (v := v) (ty := ty) C.1 C.2.1 (C.2.2.1.trans hr) hn (fun t ht hW => ⟨⟨_, M, rfl, k, by rw [ht]; exact P⟩, S.F ht⟩) S.2.2 d C.2.2.2.2.2.2.1
theorem wp_vret (d : decode μ.2.1 pc = .ok (.return_, 1)) (hr : μ.2.2.2.1 = none) (k : Q none M) : wp g μ pc ls [] M Q := by
  intro p e s m args below meth c H locs lsA C D P S L
  exact W.vret C.1 C.2.1 (C.2.2.1.trans hr) (fun t ht hW => ⟨⟨_, M, rfl, k, by rw [ht]; exact P⟩, S.F ht⟩) S.2.2 d C.2.2.2.2.2.2.1
theorem wp_lret {v : Int64} (d : decode μ.2.1 pc = .ok (.lreturn, 1)) (hr : μ.2.2.2.1 = some .long) (k : Q (some (.long v)) M) : wp g μ pc ls [.long v] M Q := by
  intro p e s m args below meth c H locs lsA C D P S L
  exact W.lret (v := v) C.1 C.2.1 (C.2.2.1.trans hr) (fun t ht hW => ⟨⟨_, M, rfl, k, by rw [ht]; exact P⟩, S.F ht⟩) S.2.2 d C.2.2.2.2.2.2.1
theorem wp_aret {o : Nat} {n : String} (d : decode μ.2.1 pc = .ok (.areturn, 1)) (hr : μ.2.2.2.1 = some (.object n)) (k : Q (some (ob g o)) M) : wp g μ pc ls [ob g o] M Q := by
  intro p e s m args below meth c H locs lsA C D P S L
  exact W.aret (v := ob g o) C.1 C.2.1 (C.2.2.1.trans hr) (Or.inl ⟨_, rfl⟩) (Or.inr ⟨_, rfl⟩) (fun t ht hW => ⟨⟨_, M, rfl, k, by rw [ht]; exact P⟩, S.F ht⟩) S.2.2 d C.2.2.2.2.2.2.1
/-! fields -/
def FL (own : String) (idx ci k : Nat) : Prop := ∃ (C : String) (T : u_T) (N : Nat), vwCl[ci]? = some (C, T, N) ∧ k < N ∧ (∀ w ∈ u_ws C T N, w ∈ wsL_law) ∧ (Cond.fieldLink own idx (T k).1 (T k).2.1 (T k).2.2.1 ∈ wsL_law ∨ Cond.fieldLinkNest own idx (T k).1 (T k).2.1 (T k).2.2.1 "MoorStones" ∈ NW)
def FP (own : String) (idx ci k : Nat) (ty : FieldType) : Prop := ∃ (C : String) (T : u_T) (N : Nat) (ty0 : Nat → FieldType), vwCl[ci]? = some (C, T, N) ∧ k < N ∧ (∀ w ∈ u_ws C T N, w ∈ wsL_law) ∧ (Cond.fieldLink own idx (T k).1 (T k).2.1 (T k).2.2.1 ∈ wsL_law ∨ Cond.fieldLinkNest own idx (T k).1 (T k).2.1 (T k).2.2.1 "MoorStones" ∈ NW) ∧ (∀ k, k < N → parseFieldDescriptor (T k).2.2.1 = some (ty0 k)) ∧ (∀ a, a < N → ∀ b, b < N → a ≠ b → (T a).2.1 ≠ (T b).2.1) ∧ (T k).2.2.2 = false ∧ parseFieldDescriptor (T k).2.2.1 = some ty
theorem wp_get {o ci k idx : Nat} {v : Value} {fs : List Value} (d : decode μ.2.1 pc = .ok (.getfield idx, 3)) (hpc : pc' = pc + 3) (fl : FL μ.1.cls idx ci k) (ho : o < 38) (hc : cell_ g o (M.1 o) (M.2 o) = .inr (ci, fs)) (hv : fs[k]? = some v) (kk : wp g μ pc' ls (v :: st) M Q) : wp g μ pc ls (ob g o :: st) M Q := by
  subst hpc
  intro p e s m args below meth c H locs lsA C D P S L
  obtain ⟨CN, T, N, h1, h2, h3, h4⟩ := fl
  have he := world_get g M ho
  rw [hc] at he
  rcases h4 with h4 | h4
  · exact va_get C.1 C.2.1 (fun w hw => C.2.2.2.2.2.1 w (h3 w hw)) (fun _ h => h) C.2.2.2.2.1 C.2.2.2.2.2.2.2.1.1 P o he h1 k h2 (C.2.2.2.2.2.1 _ h4) (fun _ h => h) hv d (kk p e s m args below meth c H locs lsA C D P S L)
  · exact va_getN C.1 C.2.1 (fun w hw => C.2.2.2.2.2.1 w (h3 w hw)) (fun _ h => h) C.2.2.2.2.1 C.2.2.2.2.2.2.2.1.1 P o he h1 k h2 ((C.2.2.2.2.2.2.2.1.2.1 _ h4).use rfl) (fun _ h => h) hv d (kk p e s m args below meth c H locs lsA C D P S L)
theorem wp_putG {o ci k idx : Nat} {v : Value} {fs : List Value} {ty : FieldType} {M' : Mem} (d : decode μ.2.1 pc = .ok (.putfield idx, 3)) (hpc : pc' = pc + 3) (fl : FP μ.1.cls idx ci k ty) (ho : o < 38) (hc : cell_ g o (M.1 o) (M.2 o) = .inr (ci, fs)) (hk : k < fs.length) (hset : cell_ g o (M'.1 o) (M'.2 o) = .inr (ci, fs.set k v)) (hne : ∀ a, a ≠ o → M'.1 a = M.1 a ∧ M'.2 a = M.2 a) (hn : narrow ty v = v) (hf : fits ty v = true) (kk : wp g μ pc' ls st M' Q) : wp g μ pc ls (v :: ob g o :: st) M Q := by
  subst hpc
  intro p e s m args below meth c H locs lsA C D P S L
  obtain ⟨CN, T, N, ty0, h1, h2, h3, h4, h5, h6, h7, h8⟩ := fl
  have he := world_get g M ho
  rw [hc] at he
  rcases h4 with h4 | h4
  · exact va_put C.1 C.2.1 (fun w hw => C.2.2.2.2.2.1 w (h3 w hw)) (fun _ h => h) ty0 h5 h6 C.2.2.2.2.1 C.2.2.2.2.2.2.2.1.1 P D S o he h1 k h2 (C.2.2.2.2.2.1 _ h4) (fun _ h => h) h7 h8 hn hf hk d (fun H1 locs1 P1 D1 S1 => by
      rw [world_set g M M' ho hset hne] at P1
      exact kk p e s m args below meth c H1 locs1 lsA C (world_D g M M' D) P1 S1 L)
  · exact va_putN C.1 C.2.1 (fun w hw => C.2.2.2.2.2.1 w (h3 w hw)) (fun _ h => h) ty0 h5 h6 C.2.2.2.2.1 C.2.2.2.2.2.2.2.1.1 P D S o he h1 k h2 ((C.2.2.2.2.2.2.2.1.2.1 _ h4).use rfl) (fun _ h => h) h7 h8 hn hf hk d (fun H1 locs1 P1 D1 S1 => by
      rw [world_set g M M' ho hset hne] at P1
      exact kk p e s m args below meth c H1 locs1 lsA C (world_D g M M' D) P1 S1 L)
theorem wp_put {o ci k idx : Nat} {x : Int32} {fs : List Value} (d : decode μ.2.1 pc = .ok (.putfield idx, 3)) (hpc : pc' = pc + 3) (fl : FP μ.1.cls idx ci k .int) (ho : o < 38) (hc : cell_ g o (M.1 o) (M.2 o) = .inr (ci, fs)) (hk : k < fs.length) (hset : cell_ g o (upd (M.1 o) k x) (M.2 o) = .inr (ci, fs.set k (.int x))) (kk : wp g μ pc' ls st (upI M o k x) Q) : wp g μ pc ls (.int x :: ob g o :: st) M Q :=
  wp_putG d hpc fl ho hc hk (by rw [upI_eq]; exact hset) (fun a h => upI_ne M o k x h) rfl rfl kk
theorem wp_putz {o ci k idx : Nat} {x : Int32} {fs : List Value} (d : decode μ.2.1 pc = .ok (.putfield idx, 3)) (hpc : pc' = pc + 3) (fl : FP μ.1.cls idx ci k .boolean) (ho : o < 38) (hc : cell_ g o (M.1 o) (M.2 o) = .inr (ci, fs)) (hk : k < fs.length) (hset : cell_ g o (upd (M.1 o) k x) (M.2 o) = .inr (ci, fs.set k (.int x))) (hn : narrow .boolean (.int x) = .int x) (hf : fits .boolean (.int x) = true) (kk : wp g μ pc' ls st (upI M o k x) Q) : wp g μ pc ls (.int x :: ob g o :: st) M Q :=
  wp_putG d hpc fl ho hc hk (by rw [upI_eq]; exact hset) (fun a h => upI_ne M o k x h) hn hf kk
theorem wp_putl {o ci k idx : Nat} {x : Int64} {fs : List Value} (d : decode μ.2.1 pc = .ok (.putfield idx, 3)) (hpc : pc' = pc + 3) (fl : FP μ.1.cls idx ci k .long) (ho : o < 38) (hc : cell_ g o (M.1 o) (M.2 o) = .inr (ci, fs)) (hk : k < fs.length) (hset : cell_ g o (M.1 o) x = .inr (ci, fs.set k (.long x))) (kk : wp g μ pc' ls st (upT M o x) Q) : wp g μ pc ls (.long x :: ob g o :: st) M Q :=
  wp_putG d hpc fl ho hc hk (by rw [upT_eq]; exact hset) (fun a h => upT_ne M o x h) rfl rfl kk
/-! arrays -/
theorem wp_iald {o n : Nat} {i : Int32} (d : decode μ.2.1 pc = .ok (.iaload, 1)) (hpc : pc' = pc + 1) (ho : o < 38) (hc : cell_ g o (M.1 o) (M.2 o) = .inl (g_cI g, n, .inl (M.1 o))) (hin : vp_in i n) (kk : wp g μ pc' ls (.int (M.1 o i.toNatClampNeg) :: st) M Q) : wp g μ pc ls (.int i :: ob g o :: st) M Q := by
  subst hpc
  intro p e s m args below meth c H locs lsA C D P S L
  have he := world_get g M ho
  rw [hc] at he
  exact va_iald C.1 C.2.1 C.2.2.2.2.2.2.2.1.1 P o 0 he rfl hin d (kk p e s m args below meth c H locs lsA C D P S L)
theorem wp_zald {o n : Nat} {i : Int32} (d : decode μ.2.1 pc = .ok (.baload, 1)) (hpc : pc' = pc + 1) (ho : o < 38) (hc : cell_ g o (M.1 o) (M.2 o) = .inl (g_cZ g, n, .inl (M.1 o))) (hin : vp_in i n) (kk : wp g μ pc' ls (.int (M.1 o i.toNatClampNeg) :: st) M Q) : wp g μ pc ls (.int i :: ob g o :: st) M Q := by
  subst hpc
  intro p e s m args below meth c H locs lsA C D P S L
  have he := world_get g M ho
  rw [hc] at he
  exact va_zald C.1 C.2.1 C.2.2.2.2.2.2.2.1.1 P o 1 he rfl hin d (kk p e s m args below meth c H locs lsA C D P S L)
theorem wp_iast {o n : Nat} {i x : Int32} (d : decode μ.2.1 pc = .ok (.iastore, 1)) (hpc : pc' = pc + 1) (ho : o < 38) (hc : ∀ (f : Nat → Int32) (t : Int64), cell_ g o f t = .inl (g_cI g, n, .inl f)) (hin : vp_in i n) (kk : wp g μ pc' ls st (upI M o i.toNatClampNeg x) Q) : wp g μ pc ls (.int x :: .int i :: ob g o :: st) M Q := by
  subst hpc
  intro p e s m args below meth c H locs lsA C D P S L
  have he := world_get g M ho
  rw [hc] at he
  exact va_iast C.1 C.2.1 C.2.2.2.2.2.2.2.1.1 P D S o 0 he rfl hin d (fun H1 locs1 P1 D1 S1 => by
    rw [world_set g M (upI M o i.toNatClampNeg x) ho (by rw [hc, upI_eq]) (fun a h => upI_ne M o _ x h)] at P1
    exact kk p e s m args below meth c H1 locs1 lsA C (world_D g M _ D) P1 S1 L)
theorem wp_zast {o n : Nat} {i x : Int32} (d : decode μ.2.1 pc = .ok (.bastore, 1)) (hpc : pc' = pc + 1) (ho : o < 38) (hc : ∀ (f : Nat → Int32) (t : Int64), cell_ g o f t = .inl (g_cZ g, n, .inl f)) (hin : vp_in i n) (hx : vp_nar .boolean x = x) (kk : wp g μ pc' ls st (upI M o i.toNatClampNeg x) Q) : wp g μ pc ls (.int x :: .int i :: ob g o :: st) M Q := by
  subst hpc
  intro p e s m args below meth c H locs lsA C D P S L
  have he := world_get g M ho
  rw [hc] at he
  exact va_zast C.1 C.2.1 C.2.2.2.2.2.2.2.1.1 P D S o 1 he rfl hin d (fun H1 locs1 P1 D1 S1 => by
    rw [hx] at P1
    rw [world_set g M (upI M o i.toNatClampNeg x) ho (by rw [hc, upI_eq]) (fun a h => upI_ne M o _ x h)] at P1
    exact kk p e s m args below meth c H1 locs1 lsA C (world_D g M _ D) P1 S1 L)
theorem wp_alen {o n : Nat} {v : Int32} (d : decode μ.2.1 pc = .ok (.arraylength, 1)) (hpc : pc' = pc + 1) (ho : o < 38) (hc : cell_ g o (M.1 o) (M.2 o) = .inl (g_cI g, n, .inl (M.1 o))) (hv : Int32.ofNat n = v) (kk : wp g μ pc' ls (.int v :: st) M Q) : wp g μ pc ls (ob g o :: st) M Q := by
  subst hpc
  intro p e s m args below meth c H locs lsA C D P S L
  have he := world_get g M ho
  rw [hc] at he
  exact va_alen C.1 C.2.1 C.2.2.2.2.2.2.2.1.1 P o 0 he (ty := .int) rfl hv d (kk p e s m args below meth c H locs lsA C D P S L)
/-! calls -/
def CB (μ' : MD) (n : Nat) : Prop := Cond.code μ'.1 μ'.2.1 μ'.2.2.1 μ'.2.2.2.1 ∈ wsL_law ∧ Cond.initialized μ'.1.cls ∈ wsL_law ∧ (μ'.1.cls ≠ "java/lang/invoke/MethodHandle" ∧ μ'.1.cls ≠ "java/lang/invoke/VarHandle" ∧ (parseMethodDescriptor μ'.1.desc).map (fun d => d.parameters.length) = some n)
def CFV (μ' : MD) (n : Nat) : Prop := CB μ' n ∧ Cond.instanceMethod μ'.1 ∈ wsL_law ∧ Cond.selects μ'.1.cls μ'.1 μ'.1 ∈ wsL_law
def CFS (μ' : MD) (n : Nat) : Prop := CB μ' n ∧ Cond.static μ'.1 ∈ wsL_law
def ML (own : String) (idx : Nat) (y : MethodName) : Prop := Cond.methodLink own idx y ∈ wsL_law ∨ Cond.methodLinkNest own idx y "MoorStones" ∈ NW
def RM (μ μ' : MD) : Prop := μ'.2.2.2.2.1 + 1 ≤ μ.2.2.2.2.1 ∧ 8 + (μ'.2.2.1 + 11) + μ'.2.2.2.2.2 ≤ μ.2.2.2.2.2
theorem blindP (g : GG) (M : Mem) (vs : List Value) : FrameBlind (va_Pc vs (PreM g M)) := fun a U gg mk ⟨h1, h2, h3, h4, h5⟩ =>
  ⟨h1, h2, EnvG.same (u := U) (U := U.calling gg mk a) rfl h3, h4, Str.moved (u := U) (U := U.calling gg mk a) (Vm.Alike.refl U.vm) h5⟩
theorem preP {g : GG} {M : Mem} {vs : List Value} {s : State} {H : Heap} {locs : List Loc} (hE : EnvG g s) (hT : Str g s s.heap) (D : va_D (AA g) (world g M)) (P : va_P (g_D g) vwCl (world g M) H) (S : va_S (AA g) s.heap H locs) : ∀ U : State, U.heap = H → s.WarmedH U.vm → va_Pc vs (PreM g M) vs.toArray U := fun U hU hW =>
  ⟨rfl, by rw [hU]; exact P, hE.warm hW, D, by rw [hU]; exact (hT.moved hW.alike).kept S.2.1⟩
theorem W_run {p : Program} {l : Launch} {e : Env} {R : Room} {s : State} {m : MethodId} {args : Array Value} {below : List Frame} {meth : Method} {c : Code} {H : Heap} {locs : List Loc} {lsA : Array Slot} {st0 rest : List Value} {QW : State → Prop} {Q' : Option Value → Mem → Prop} {a : Array Value}
    (hr : va_Run p l e R s m args below meth c H locs 0 0 0 0 (F0 m pc lsA st0) rest (QQ g Q' a) (AA g)) (S : va_S (AA g) s.heap H locs)
    (kk : ∀ (r : Option Value) (M' : Mem), Q' r M' → ∀ (H1 : Heap) (locs1 : List Loc), va_P (g_D g) vwCl (world g M') H1 → va_S (AA g) s.heap H1 locs1 → W p l e R s m args below meth c H1 locs1 0 0 QW (F0 m (pc + 3) lsA (r.toList ++ rest))) : W p l e R s m args below meth c H locs 0 0 QW (F0 m pc lsA st0) := by
  intro T hT X
  obtain ⟨v, st₀, t, T', L, h0, X', hL, e1, e2, ⟨⟨r, M', hv, hp, hb⟩, hz, hk⟩, st⟩ := hr T hT X
  cases hv
  rw [h0] at hz hk
  obtain ⟨t2, a1, b1⟩ := kk v M' hp T'.heap (locs ++ L) (by rw [e1]; exact hb)
    ⟨Nat.le_trans S.1 (by rw [e1]; exact hz), fun q h1 h2 => by rw [e1, hk q (Nat.lt_of_lt_of_le h1 S.1) h2]; exact S.2.1 q h1 h2, fun q hq => by
      rcases List.mem_append.mp hq with h | h
      · exact S.2.2 q h
      · exact hL q h⟩ T' rfl X'
  exact ⟨t2, st t2 a1, b1⟩
theorem wp_callV {μ' : MD} {idx n o ci : Nat} {fs As rest : List Value} {Q' : Option Value → Mem → Prop} {q : vw_C} (d : decode μ.2.1 pc = .ok (.invokevirtual idx, 3)) (hpc : pc' = pc + 3) (ml : ML μ.1.cls idx μ'.1) (cf : CFV μ' n) (rm : RM μ μ') (hs : Spec g μ' (ob g o :: As) M Q') (ho : o < 38) (hc : cell_ g o (M.1 o) (M.2 o) = .inr (ci, fs)) (hq : vwCl[ci]? = some q) (hcl : q.1 = μ'.1.cls) (hn : As.length = n) (hst : st = As.reverse ++ ob g o :: rest) (hW : (rest.map fun v => v.category).sum ≤ 8)
    (k : ∀ r M', Q' r M' → wp g μ pc' ls (r.toList ++ rest) M' Q) : wp g μ pc ls st M Q := by
  subst hpc
  intro p e s m args below meth c H locs lsA C D P S L
  obtain ⟨⟨f1, f2, f3⟩, f4, f5⟩ := cf
  have hts := C.2.2.2.2.2.1
  have he := world_get g M ho
  rw [hc] at he
  refine W_run (rest := rest) (a := (ob g o :: As).toArray) (Q' := Q') ?_ S (fun r M' h H1 locs1 P1 S1 => k r M' h p e s m args below meth c H1 locs1 lsA C (world_D g M M' D) P1 S1 L)
  rcases ml with ml | ml
  · exact va_runV (C := μ'.1.cls) (b := g_ad g o) (As := As) (rest := rest) ⟨C.1, C.2.1, C.2.2.2.1, C.2.2.2.2.1, hts⟩ hs ⟨callB_of (ws' := wsL_law) n hts (wsOf_good f1) rfl rfl rfl (hts _ f2) (hts _ ml) f3 rm, hts _ f4, hts _ f5⟩
      ⟨blindP g M _, by rw [← hcl]; exact va_recv C.2.2.2.2.2.2.2.1.1 P hq he, preP C.2.2.2.2.2.2.2.1 C.2.2.2.2.2.2.2.2 D P S⟩ rfl hn L.1 hst (lv_room hW) d ⟨Nat.le_refl 0, Nat.le_refl 0⟩
  · exact va_runVN (host := "MoorStones") (C := μ'.1.cls) (b := g_ad g o) (As := As) (rest := rest) ⟨C.1, C.2.1, C.2.2.2.1, C.2.2.2.2.1, hts⟩ hs ⟨va_cnB (ws' := wsL_law) n hts (wsOf_good f1) rfl rfl rfl (C.2.2.2.2.2.2.2.1.2.1 _ ml) (hts _ f2) f3 rm, hts _ f4, hts _ f5⟩
      ⟨blindP g M _, by rw [← hcl]; exact va_recv C.2.2.2.2.2.2.2.1.1 P hq he, preP C.2.2.2.2.2.2.2.1 C.2.2.2.2.2.2.2.2 D P S⟩ rfl hn L.1 hst (lv_room hW) d ⟨Nat.le_refl 0, Nat.le_refl 0⟩
theorem wp_callS {μ' : MD} {idx n : Nat} {As rest : List Value} {Q' : Option Value → Mem → Prop} (d : decode μ.2.1 pc = .ok (.invokestatic idx, 3)) (hpc : pc' = pc + 3) (ml : ML μ.1.cls idx μ'.1) (cf : CFS μ' n) (rm : RM μ μ') (hs : Spec g μ' As M Q') (hn : As.length = n) (hst : st = As.reverse ++ rest) (hW : (rest.map fun v => v.category).sum ≤ 8)
    (k : ∀ r M', Q' r M' → wp g μ pc' ls (r.toList ++ rest) M' Q) : wp g μ pc ls st M Q := by
  subst hpc
  intro p e s m args below meth c H locs lsA C D P S L
  obtain ⟨⟨f1, f2, f3⟩, f4⟩ := cf
  have hts := C.2.2.2.2.2.1
  refine W_run (rest := rest) (a := As.toArray) (Q' := Q') ?_ S (fun r M' h H1 locs1 P1 S1 => k r M' h p e s m args below meth c H1 locs1 lsA C (world_D g M M' D) P1 S1 L)
  rcases ml with ml | ml
  · exact va_runS (As := As) (rest := rest) ⟨C.1, C.2.1, C.2.2.2.1, C.2.2.2.2.1, hts⟩ hs ⟨callB_of (ws' := wsL_law) n hts (wsOf_good f1) rfl rfl rfl (hts _ f2) (hts _ ml) f3 rm, hts _ f4⟩
      ⟨blindP g M _, preP C.2.2.2.2.2.2.2.1 C.2.2.2.2.2.2.2.2 D P S⟩ rfl hn L.1 hst (lv_room hW) d ⟨Nat.le_refl 0, Nat.le_refl 0⟩
  · exact va_runSN (host := "MoorStones") (As := As) (rest := rest) ⟨C.1, C.2.1, C.2.2.2.1, C.2.2.2.2.1, hts⟩ hs ⟨va_cnB (ws' := wsL_law) n hts (wsOf_good f1) rfl rfl rfl (C.2.2.2.2.2.2.2.1.2.1 _ ml) (hts _ f2) f3 rm, hts _ f4, trivial⟩
      ⟨blindP g M _, preP C.2.2.2.2.2.2.2.1 C.2.2.2.2.2.2.2.2 D P S⟩ rfl hn L.1 hst (lv_room hW) d ⟨Nat.le_refl 0, Nat.le_refl 0⟩
/-! answers that are told -/
def RI (g : GG) (μ : MD) (vs : List Value) (M : Mem) (v : Int32) (M' : Mem) : Prop := Spec g μ vs M (fun r m => r = some (.int v) ∧ m = M')
def RV (g : GG) (μ : MD) (vs : List Value) (M : Mem) (M' : Mem) : Prop := Spec g μ vs M (fun r m => r = none ∧ m = M')
def RO (g : GG) (μ : MD) (vs : List Value) (M : Mem) (o : Nat) (M' : Mem) : Prop := Spec g μ vs M (fun r m => r = some (ob g o) ∧ m = M')
def RL_ (g : GG) (μ : MD) (vs : List Value) (M : Mem) (v : Int64) (M' : Mem) : Prop := Spec g μ vs M (fun r m => r = some (.long v) ∧ m = M')
def SI (g : GG) (μ : MD) (vs : List Value) (M : Mem) (Qi : Int32 → Mem → Prop) : Prop := Spec g μ vs M (fun r m => ∃ x : Int32, r = some (.int x) ∧ Qi x m)
def SV (g : GG) (μ : MD) (vs : List Value) (M : Mem) (Qi : Mem → Prop) : Prop := Spec g μ vs M (fun r m => r = none ∧ Qi m)
theorem wp_cVI {μ' : MD} {idx n o ci : Nat} {fs As rest : List Value} {v : Int32} {M' : Mem} {q : vw_C} (d : decode μ.2.1 pc = .ok (.invokevirtual idx, 3)) (hpc : pc' = pc + 3) (ml : ML μ.1.cls idx μ'.1) (cf : CFV μ' n) (rm : RM μ μ') (hs : RI g μ' (ob g o :: As) M v M') (ho : o < 38) (hc : cell_ g o (M.1 o) (M.2 o) = .inr (ci, fs)) (hq : vwCl[ci]? = some q) (hcl : q.1 = μ'.1.cls) (hn : As.length = n) (hst : st = As.reverse ++ ob g o :: rest) (hW : (rest.map fun v => v.category).sum ≤ 8)
    (k : wp g μ pc' ls (.int v :: rest) M' Q) : wp g μ pc ls st M Q :=
  wp_callV d hpc ml cf rm hs ho hc hq hcl hn hst hW (fun r m h => by rw [h.1, h.2]; exact k)
theorem wp_cVL {μ' : MD} {idx n o ci : Nat} {fs As rest : List Value} {v : Int64} {M' : Mem} {q : vw_C} (d : decode μ.2.1 pc = .ok (.invokevirtual idx, 3)) (hpc : pc' = pc + 3) (ml : ML μ.1.cls idx μ'.1) (cf : CFV μ' n) (rm : RM μ μ') (hs : RL_ g μ' (ob g o :: As) M v M') (ho : o < 38) (hc : cell_ g o (M.1 o) (M.2 o) = .inr (ci, fs)) (hq : vwCl[ci]? = some q) (hcl : q.1 = μ'.1.cls) (hn : As.length = n) (hst : st = As.reverse ++ ob g o :: rest) (hW : (rest.map fun v => v.category).sum ≤ 8)
    (k : wp g μ pc' ls (.long v :: rest) M' Q) : wp g μ pc ls st M Q :=
  wp_callV d hpc ml cf rm hs ho hc hq hcl hn hst hW (fun r m h => by rw [h.1, h.2]; exact k)
theorem wp_cVO {μ' : MD} {idx n o ci o2 : Nat} {fs As rest : List Value} {M' : Mem} {q : vw_C} (d : decode μ.2.1 pc = .ok (.invokevirtual idx, 3)) (hpc : pc' = pc + 3) (ml : ML μ.1.cls idx μ'.1) (cf : CFV μ' n) (rm : RM μ μ') (hs : RO g μ' (ob g o :: As) M o2 M') (ho : o < 38) (hc : cell_ g o (M.1 o) (M.2 o) = .inr (ci, fs)) (hq : vwCl[ci]? = some q) (hcl : q.1 = μ'.1.cls) (hn : As.length = n) (hst : st = As.reverse ++ ob g o :: rest) (hW : (rest.map fun v => v.category).sum ≤ 8)
    (k : wp g μ pc' ls (ob g o2 :: rest) M' Q) : wp g μ pc ls st M Q :=
  wp_callV d hpc ml cf rm hs ho hc hq hcl hn hst hW (fun r m h => by rw [h.1, h.2]; exact k)
theorem wp_cVV {μ' : MD} {idx n o ci : Nat} {fs As rest : List Value} {M' : Mem} {q : vw_C} (d : decode μ.2.1 pc = .ok (.invokevirtual idx, 3)) (hpc : pc' = pc + 3) (ml : ML μ.1.cls idx μ'.1) (cf : CFV μ' n) (rm : RM μ μ') (hs : RV g μ' (ob g o :: As) M M') (ho : o < 38) (hc : cell_ g o (M.1 o) (M.2 o) = .inr (ci, fs)) (hq : vwCl[ci]? = some q) (hcl : q.1 = μ'.1.cls) (hn : As.length = n) (hst : st = As.reverse ++ ob g o :: rest) (hW : (rest.map fun v => v.category).sum ≤ 8)
    (k : wp g μ pc' ls rest M' Q) : wp g μ pc ls st M Q :=
  wp_callV d hpc ml cf rm hs ho hc hq hcl hn hst hW (fun r m h => by rw [h.1, h.2]; exact k)
theorem wp_sVI {μ' : MD} {idx n o ci : Nat} {fs As rest : List Value} {Qi : Int32 → Mem → Prop} {q : vw_C} (d : decode μ.2.1 pc = .ok (.invokevirtual idx, 3)) (hpc : pc' = pc + 3) (ml : ML μ.1.cls idx μ'.1) (cf : CFV μ' n) (rm : RM μ μ') (hs : SI g μ' (ob g o :: As) M Qi) (ho : o < 38) (hc : cell_ g o (M.1 o) (M.2 o) = .inr (ci, fs)) (hq : vwCl[ci]? = some q) (hcl : q.1 = μ'.1.cls) (hn : As.length = n) (hst : st = As.reverse ++ ob g o :: rest) (hW : (rest.map fun v => v.category).sum ≤ 8)
    (k : ∀ (x : Int32) (M' : Mem), Qi x M' → wp g μ pc' ls (.int x :: rest) M' Q) : wp g μ pc ls st M Q :=
  wp_callV d hpc ml cf rm hs ho hc hq hcl hn hst hW (fun r m ⟨x, h1, h2⟩ => by rw [h1]; exact k x m h2)
theorem wp_sVV {μ' : MD} {idx n o ci : Nat} {fs As rest : List Value} {Qi : Mem → Prop} {q : vw_C} (d : decode μ.2.1 pc = .ok (.invokevirtual idx, 3)) (hpc : pc' = pc + 3) (ml : ML μ.1.cls idx μ'.1) (cf : CFV μ' n) (rm : RM μ μ') (hs : SV g μ' (ob g o :: As) M Qi) (ho : o < 38) (hc : cell_ g o (M.1 o) (M.2 o) = .inr (ci, fs)) (hq : vwCl[ci]? = some q) (hcl : q.1 = μ'.1.cls) (hn : As.length = n) (hst : st = As.reverse ++ ob g o :: rest) (hW : (rest.map fun v => v.category).sum ≤ 8)
    (k : ∀ (M' : Mem), Qi M' → wp g μ pc' ls rest M' Q) : wp g μ pc ls st M Q :=
  wp_callV d hpc ml cf rm hs ho hc hq hcl hn hst hW (fun r m ⟨h1, h2⟩ => by rw [h1]; exact k m h2)
theorem wp_cSI {μ' : MD} {idx n : Nat} {As rest : List Value} {v : Int32} {M' : Mem} (d : decode μ.2.1 pc = .ok (.invokestatic idx, 3)) (hpc : pc' = pc + 3) (ml : ML μ.1.cls idx μ'.1) (cf : CFS μ' n) (rm : RM μ μ') (hs : RI g μ' As M v M') (hn : As.length = n) (hst : st = As.reverse ++ rest) (hW : (rest.map fun v => v.category).sum ≤ 8)
    (k : wp g μ pc' ls (.int v :: rest) M' Q) : wp g μ pc ls st M Q :=
  wp_callS d hpc ml cf rm hs hn hst hW (fun r m h => by rw [h.1, h.2]; exact k)
theorem wp_cSV {μ' : MD} {idx n : Nat} {As rest : List Value} {M' : Mem} (d : decode μ.2.1 pc = .ok (.invokestatic idx, 3)) (hpc : pc' = pc + 3) (ml : ML μ.1.cls idx μ'.1) (cf : CFS μ' n) (rm : RM μ μ') (hs : RV g μ' As M M') (hn : As.length = n) (hst : st = As.reverse ++ rest) (hW : (rest.map fun v => v.category).sum ≤ 8)
    (k : wp g μ pc' ls rest M' Q) : wp g μ pc ls st M Q :=
  wp_callS d hpc ml cf rm hs hn hst hW (fun r m h => by rw [h.1, h.2]; exact k)
/-! Math.max, Math.min, System.arraycopy -/
theorem mm_max : Cond.static Lib.Math.max.name ∈ wsL_law ∧ Cond.code Lib.Math.max.name Lib.Math.max.code 2 (some .int) ∈ wsL_law := ⟨List.mem_of_getElem? (i := 618) (by decide +kernel), List.mem_of_getElem? (i := 619) (by decide +kernel)⟩
theorem mm_min : Cond.static Lib.Math.min.name ∈ wsL_law ∧ Cond.code Lib.Math.min.name Lib.Math.min.code 2 (some .int) ∈ wsL_law := ⟨List.mem_of_getElem? (i := 261) (by decide +kernel), List.mem_of_getElem? (i := 263) (by decide +kernel)⟩
theorem mm_ini : Cond.initialized "java/lang/Math" ∈ wsL_law := List.mem_of_getElem? (i := 262) (by decide +kernel)
theorem mm_sys : Cond.native arraycopyName ∈ wsL_law ∧ Cond.static arraycopyName ∈ wsL_law ∧ Cond.initialized "java/lang/System" ∈ wsL_law := ⟨List.mem_of_getElem? (i := 265) (by decide +kernel), List.mem_of_getElem? (i := 266) (by decide +kernel), List.mem_of_getElem? (i := 267) (by decide +kernel)⟩
theorem wp_mmax {idx : Nat} {x y : Int32} (d : decode μ.2.1 pc = .ok (.invokestatic idx, 3)) (hpc : pc' = pc + 3) (ml : Cond.methodLink μ.1.cls idx Lib.Math.max.name ∈ wsL_law) (hf : 1 ≤ μ.2.2.2.2.1) (hlo : (st.map fun v => v.category).sum + 13 ≤ μ.2.2.2.2.2) (k : wp g μ pc' ls (.int (if x < y then y else x) :: st) M Q) : wp g μ pc ls (.int y :: .int x :: st) M Q := by
  subst hpc
  intro p e s m args below meth c H locs lsA C D P S L
  have hts := C.2.2.2.2.2.1
  exact va_mmax C.1 C.2.1 (C.2.2.2.1.trans L.1.symm) C.2.2.2.2.1 (hts _ ml) (hts _ mm_max.1) (hts _ mm_ini) (hts _ mm_max.2) hf hlo (Nat.le_refl 0) (Nat.le_refl 0) d (k p e s m args below meth c H locs lsA C D P S L)
theorem wp_mmin {idx : Nat} {x y : Int32} (d : decode μ.2.1 pc = .ok (.invokestatic idx, 3)) (hpc : pc' = pc + 3) (ml : Cond.methodLink μ.1.cls idx Lib.Math.min.name ∈ wsL_law) (hf : 1 ≤ μ.2.2.2.2.1) (hlo : (st.map fun v => v.category).sum + 13 ≤ μ.2.2.2.2.2) (k : wp g μ pc' ls (.int (if y < x then y else x) :: st) M Q) : wp g μ pc ls (.int y :: .int x :: st) M Q := by
  subst hpc
  intro p e s m args below meth c H locs lsA C D P S L
  have hts := C.2.2.2.2.2.1
  exact va_mmin C.1 C.2.1 (C.2.2.2.1.trans L.1.symm) C.2.2.2.2.1 (hts _ ml) (hts _ mm_min.1) (hts _ mm_ini) (hts _ mm_min.2) hf hlo (Nat.le_refl 0) (Nat.le_refl 0) d (k p e s m args below meth c H locs lsA C D P S L)
def ArrO (o n : Nat) : Prop := o < 38 ∧ n < 2 ^ 31 ∧ ∀ (g : GG) (f : Nat → Int32) (t : Int64), cell_ g o f t = .inl (g_cI g, n, .inl f)
theorem wp_copy {idx o1 o2 n1 n2 : Nat} {sp dp n : Int32} (d : decode μ.2.1 pc = .ok (.invokestatic idx, 3)) (hpc : pc' = pc + 3) (ml : Cond.methodLink μ.1.cls idx arraycopyName ∈ wsL_law) (A1 : ArrO o1 n1) (A2 : ArrO o2 n2) (h1 : ¬ sp < 0) (h2 : ¬ dp < 0) (h3 : ¬ n < 0) (h4 : sp.toNatClampNeg + n.toNatClampNeg ≤ n1) (h5 : dp.toNatClampNeg + n.toNatClampNeg ≤ n2) (hf : 1 ≤ μ.2.2.2.2.1) (hlo : (st.map fun v => v.category).sum + (nativeFrameWords "java/lang/System" "arraycopy" 5 + 11) ≤ μ.2.2.2.2.2) (k : wp g μ pc' ls st (setO M o2 (va_cpy (M.1 o1) (M.1 o2) sp.toNatClampNeg dp.toNatClampNeg n.toNatClampNeg)) Q) : wp g μ pc ls (.int n :: .int dp :: ob g o2 :: .int sp :: ob g o1 :: st) M Q := by
  subst hpc
  intro p e s m args below meth c H locs lsA C D P S L
  have hts := C.2.2.2.2.2.1
  have e1 := world_get g M A1.1
  have e2 := world_get g M A2.1
  rw [A1.2.2] at e1
  rw [A2.2.2] at e2
  exact va_copyi C.1 C.2.1 (C.2.2.2.1.trans L.1.symm) C.2.2.2.2.1 (hts _ ml) (hts _ mm_sys.1) (hts _ mm_sys.2.1) (hts _ mm_sys.2.2) C.2.2.2.2.2.2.2.1.1 P D S o1 o2 0 0 (ty := .int) e1 e2 rfl rfl rfl h1 h2 h3 h4 h5 (fun _ _ => rfl) hf hlo d (fun H1 locs1 P1 D1 S1 => by
    rw [world_set g M (setO M o2 (va_cpy (M.1 o1) (M.1 o2) sp.toNatClampNeg dp.toNatClampNeg n.toNatClampNeg)) A2.1 (by rw [A2.2.2, setO_eq]) (fun a h => setO_ne M o2 _ h)] at P1
    exact k p e s m args below meth c H1 locs1 lsA C (world_D g M _ D) P1 S1 L)
/-! String constants -/
def strLen : List Nat := [3, 6, 4]
def strB : List (List Int32) := [[114, 111, 119], [119, 97, 108, 107, 101, 114], [115, 105, 110, 107]]
theorem wp_ldcw {idx : Nat} (v : Int32) (d : decode μ.2.1 pc = .ok (.ldc_w idx, 3)) (hpc : pc' = pc + 3) (hm : Cond.constant μ.1.cls idx v ∈ wsL_law) (k : wp g μ pc' ls (.int v :: st) M Q) : wp g μ pc ls st M Q := by
  subst hpc
  intro p e s m args below meth c H locs lsA C D P S L
  exact lv_ldcw C.1 C.2.1 C.2.2.2.2.1 (C.2.2.2.2.2.1 _ hm) d (k p e s m args below meth c H locs lsA C D P S L)
theorem wp_i2c {x : Int32} (d : decode μ.2.1 pc = .ok (.i2c, 1)) (hpc : pc' = pc + 1) (k : wp g μ pc' ls (.int ((x.toUInt32 % 65536).toInt32) :: st) M Q) : wp g μ pc ls (.int x :: st) M Q := by
  subst hpc
  intro p e s m args below meth c H locs lsA C D P S L
  exact lv_i2c C.1 C.2.1 d rfl (k p e s m args below meth c H locs lsA C D P S L)
theorem wp_ldcs {idx i : Nat} {tx : String} (d : decode μ.2.1 pc = .ok (.ldc idx, 2)) (hpc : pc' = pc + 2) (hr : ∀ s, EnvG g s → vk_R μ.1.cls idx tx (g_aK g i) s) (k : wp g μ pc' ls (sk g i :: st) M Q) : wp g μ pc ls st M Q := by
  subst hpc
  intro p e s m args below meth c H locs lsA C D P S L
  exact va_ldcS C.1 C.2.1 C.2.2.2.2.1 (hr s C.2.2.2.2.2.2.2.1) d (k p e s m args below meth c H locs lsA C D P S L)
theorem wp_kval {idx i : Nat} (d : decode μ.2.1 pc = .ok (.getfield idx, 3)) (hpc : pc' = pc + 3) (hm : Cond.fieldLink μ.1.cls idx "java/lang/String" "value" "[B" ∈ wsL_law) (hi : i < 3) (k : wp g μ pc' ls (sv g i :: st) M Q) : wp g μ pc ls (sk g i :: st) M Q := by
  subst hpc
  intro p e s m args below meth c H locs lsA C D P S L
  exact vk_getf C.1 C.2.1 (C.2.2.2.2.2.2.2.2.1.1 i hi).2.2.1 S C.2.2.2.2.1 (C.2.2.2.2.2.1 _ hm) (fun _ h => h) d (k p e s m args below meth c H locs lsA C D P S L)
theorem wp_kcod {idx i : Nat} (d : decode μ.2.1 pc = .ok (.getfield idx, 3)) (hpc : pc' = pc + 3) (hm : Cond.fieldLink μ.1.cls idx "java/lang/String" "coder" "B" ∈ wsL_law) (hi : i < 3) (k : wp g μ pc' ls (.int 0 :: st) M Q) : wp g μ pc ls (sk g i :: st) M Q := by
  subst hpc
  intro p e s m args below meth c H locs lsA C D P S L
  exact vk_getf C.1 C.2.1 (C.2.2.2.2.2.2.2.2.1.1 i hi).2.1 S C.2.2.2.2.1 (C.2.2.2.2.2.1 _ hm) (fun _ h => h) d (k p e s m args below meth c H locs lsA C D P S L)
theorem wp_klen {i : Nat} {v : Int32} (d : decode μ.2.1 pc = .ok (.arraylength, 1)) (hpc : pc' = pc + 1) (hi : i < 3) (hv : Int32.ofNat (strLen.getD i 0) = v) (k : wp g μ pc' ls (.int v :: st) M Q) : wp g μ pc ls (sv g i :: st) M Q := by
  subst hpc
  intro p e s m args below meth c H locs lsA C D P S L
  exact va_tlen C.1 C.2.1 (C.2.2.2.2.2.2.2.2.1.1 i hi).2.2.2 S hv d (k p e s m args below meth c H locs lsA C D P S L)
theorem wp_kbald {i : Nat} {j v : Int32} (d : decode μ.2.1 pc = .ok (.baload, 1)) (hpc : pc' = pc + 1) (hi : i < 3) (hin : vp_in j (strLen.getD i 0)) (hv : (strB.getD i []).getD j.toNatClampNeg 0 = v) (k : wp g μ pc' ls (.int v :: st) M Q) : wp g μ pc ls (.int j :: sv g i :: st) M Q := by
  subst hpc
  intro p e s m args below meth c H locs lsA C D P S L
  exact va_tb C.1 C.2.1 (C.2.2.2.2.2.2.2.2.1.1 i hi).2.2.2 S hin (v := .int v) (by show Value.int ((strB.getD i []).getD j.toNatClampNeg 0) = _; rw [hv]) d (k p e s m args below meth c H locs lsA C D P S L)
theorem wp_gcomp {idx : Nat} (d : decode μ.2.1 pc = .ok (.getstatic idx, 3)) (hpc : pc' = pc + 3) (hm : Cond.fieldLink μ.1.cls idx "java/lang/String" "COMPACT_STRINGS" "Z" ∈ wsL_law) (k : wp g μ pc' ls (.int 1 :: st) M Q) : wp g μ pc ls st M Q := by
  subst hpc
  intro p e s m args below meth c H locs lsA C D P S L
  exact va_gets C.1 C.2.1 C.2.2.2.2.2.2.2.2.2.1 S C.2.2.2.2.1 (C.2.2.2.2.2.1 _ hm) (fun _ h => h) d (k p e s m args below meth c H locs lsA C D P S L)
theorem wp_gsio {idx : Nat} (d : decode μ.2.1 pc = .ok (.getstatic idx, 3)) (hpc : pc' = pc + 3) (hm : Cond.fieldLink μ.1.cls idx "jdk/internal/util/Preconditions" "SIOOBE_FORMATTER" "Ljava/util/function/BiFunction;" ∈ wsL_law) (k : ∀ v : Value, (v = .null ∨ ∃ t : Nat, v = .ref t) → wp g μ pc' ls (v :: st) M Q) : wp g μ pc ls st M Q := by
  subst hpc
  intro p e s m args below meth c H locs lsA C D P S L
  rcases C.2.2.2.2.2.2.2.2.2.2 with h | ⟨t, h⟩
  · exact va_gets C.1 C.2.1 h S C.2.2.2.2.1 (C.2.2.2.2.2.1 _ hm) (fun _ h => h) d (k _ (Or.inl rfl) p e s m args below meth c H locs lsA C D P S L)
  · exact va_gets C.1 C.2.1 h S C.2.2.2.2.1 (C.2.2.2.2.2.1 _ hm) (fun _ h => h) d (k _ (Or.inr ⟨t, rfl⟩) p e s m args below meth c H locs lsA C D P S L)
theorem wp_callK {μ' : MD} {idx n i : Nat} {As rest : List Value} {v : Int32} (d : decode μ.2.1 pc = .ok (.invokevirtual idx, 3)) (hpc : pc' = pc + 3) (ml : ML μ.1.cls idx μ'.1) (cf : CFV μ' n) (rm : RM μ μ') (hs : RI g μ' (sk g i :: As) M v M) (hi : i < 3) (hcl : "java/lang/String" = μ'.1.cls) (hn : As.length = n) (hst : st = As.reverse ++ sk g i :: rest) (hW : (rest.map fun v => v.category).sum ≤ 8)
    (k : wp g μ pc' ls (.int v :: rest) M Q) : wp g μ pc ls st M Q := by
  subst hpc
  intro p e s m args below meth c H locs lsA C D P S L
  obtain ⟨⟨f1, f2, f3⟩, f4, f5⟩ := cf
  have hts := C.2.2.2.2.2.1
  refine W_run (rest := rest) (a := (sk g i :: As).toArray) (Q' := fun r m => r = some (.int v) ∧ m = M) ?_ S (fun r M' h H1 locs1 P1 S1 => by
    obtain ⟨rfl, rfl⟩ := h
    exact k p e s m args below meth c H1 locs1 lsA C D P1 S1 L)
  have hrec : ∃ cell : Cell, H[g_aK g i]? = some cell ∧ cell.vm.isStatics = false ∧ s.vm.findClass μ'.1.cls = some cell.cls := by
    rw [← hcl]
    exact vk_recv C.2.2.2.2.2.2.2.2.1 hi S
  rcases ml with ml | ml
  · exact va_runV (C := μ'.1.cls) (b := g_aK g i) (As := As) (rest := rest) ⟨C.1, C.2.1, C.2.2.2.1, C.2.2.2.2.1, hts⟩ hs ⟨callB_of (ws' := wsL_law) n hts (wsOf_good f1) rfl rfl rfl (hts _ f2) (hts _ ml) f3 rm, hts _ f4, hts _ f5⟩
      ⟨blindP g M _, hrec, preP C.2.2.2.2.2.2.2.1 C.2.2.2.2.2.2.2.2 D P S⟩ rfl hn L.1 hst (lv_room hW) d ⟨Nat.le_refl 0, Nat.le_refl 0⟩
  · exact va_runVN (host := "MoorStones") (C := μ'.1.cls) (b := g_aK g i) (As := As) (rest := rest) ⟨C.1, C.2.1, C.2.2.2.1, C.2.2.2.2.1, hts⟩ hs ⟨va_cnB (ws' := wsL_law) n hts (wsOf_good f1) rfl rfl rfl (C.2.2.2.2.2.2.2.1.2.1 _ ml) (hts _ f2) f3 rm, hts _ f4, hts _ f5⟩
      ⟨blindP g M _, hrec, preP C.2.2.2.2.2.2.2.1 C.2.2.2.2.2.2.2.2 D P S⟩ rfl hn L.1 hst (lv_room hW) d ⟨Nat.le_refl 0, Nat.le_refl 0⟩
theorem wp_top {x v : Int32} (h : x = v) (k : wp g μ pc ls (.int v :: st) M Q) : wp g μ pc ls (.int x :: st) M Q := by
  rw [h]
  exact k
theorem wp_mem {M' : Mem} (h : M = M') (k : wp g μ pc ls st M' Q) : wp g μ pc ls st M Q := by
  rw [h]
  exact k
theorem wp_ialdN {o n : Nat} {i : Int32} (j : Nat) (d : decode μ.2.1 pc = .ok (.iaload, 1)) (hpc : pc' = pc + 1) (ho : o < 38) (hc : cell_ g o (M.1 o) (M.2 o) = .inl (g_cI g, n, .inl (M.1 o))) (hi : i = nI j) (hj : j < n) (hn : n < 2 ^ 31) (kk : wp g μ pc' ls (.int (M.1 o j) :: st) M Q) : wp g μ pc ls (.int i :: ob g o :: st) M Q := by
  subst hi
  refine wp_iald d hpc ho hc (vp_in_nI hj hn) ?_
  rw [nI_clamp (Nat.lt_trans hj hn)]
  exact kk
theorem wp_iastN {o n : Nat} {i x : Int32} (j : Nat) (d : decode μ.2.1 pc = .ok (.iastore, 1)) (hpc : pc' = pc + 1) (ho : o < 38) (hc : ∀ (f : Nat → Int32) (t : Int64), cell_ g o f t = .inl (g_cI g, n, .inl f)) (hi : i = nI j) (hj : j < n) (hn : n < 2 ^ 31) (kk : wp g μ pc' ls st (upI M o j x) Q) : wp g μ pc ls (.int x :: .int i :: ob g o :: st) M Q := by
  subst hi
  refine wp_iast d hpc ho hc (vp_in_nI hj hn) ?_
  rw [nI_clamp (Nat.lt_trans hj hn)]
  exact kk

end WPR
