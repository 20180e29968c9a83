theorem w_arrI : Cond.arrayClass .int ∈ wsL_law := (wR2 _ (List.mem_of_getElem? (i := 23) rfl))
theorem w_arrZ : Cond.arrayClass .boolean ∈ wsL_law := (wR4 _ (List.mem_of_getElem? (i := 14) rfl))
theorem w_objI : Cond.instanceMethod objectInit ∈ wsL_law := (wR1 _ (List.mem_of_getElem? (i := 11) rfl))
theorem w_objC : Cond.code objectInit ⟨#[0xb1]⟩ 1 none ∈ wsL_law := (wR1 _ (List.mem_of_getElem? (i := 12) rfl))

/-! ===== constructors: a world that grows ===== -/
def EnvC (D : va_G) (cI cZ : ClassId) (U : State) : Prop := va_K D vwCl [(cI, .int), (cZ, .boolean)] U ∧ ∀ w ∈ NW, va_Nw w U
theorem EnvC.warm {D : va_G} {cI cZ : ClassId} {s U : State} (hW : s.WarmedH U.vm) (h : EnvC D cI cZ s) : EnvC D cI cZ U := ⟨va_K.moved hW.alike h.1, fun w hw => nest_warm (NW_nest w hw) hW (h.2 w hw)⟩
theorem EnvC.same {D : va_G} {cI cZ : ClassId} {u U : State} (hv : u.vm = U.vm) (h : EnvC D cI cZ u) : EnvC D cI cZ U := ⟨va_K.moved (by rw [hv]; exact Vm.Alike.refl U.vm) h.1, fun w hw => nest_same (NW_nest w hw) hv (h.2 w hw)⟩
def KC (own : String) (cc : ByteArray) (nL : Nat) (A : Nat → Prop) (D : va_G) (cI cZ : ClassId) (p : Program) (s : State) (m : MethodId) (args : Array Value) (c : Code) : Prop := p.tables.exec = Jvm.exec ∧ c.code = cc ∧ c.maxLocals = nL ∧ s.vm.findClass own = some m.cls ∧ (∀ w ∈ wsL_law, w.before args s = true) ∧ EnvC D cI cZ s ∧ (∀ q : Nat, s.heap.size ≤ q → A q)
def KS (A : Nat → Prop) (D : va_G) (s : State) (ws : va_W) (H : Heap) (locs : List Loc) : Prop := va_P D vwCl ws H ∧ va_D A ws ∧ va_S A s.heap H locs
def KN (own : String) (idx ci n : Nat) (fs : List Value) : Prop := ∃ (C : String) (T : u_T) (ty : Nat → FieldType), vwCl[ci]? = some (C, T, n) ∧ (∀ w ∈ u_ws C T n, w ∈ wsL_law) ∧ (∀ k, k < n → parseFieldDescriptor (T k).2.2.1 = some (ty k)) ∧ Cond.classLink own idx C ∈ wsL_law ∧ Cond.instantiable C n ∈ wsL_law ∧ Cond.initialized C ∈ wsL_law ∧ ∀ j, j < n → defaultValue (ty j) = vp_V fs j
def FF (own : String) (idx ci k : Nat) (ty : FieldType) : Prop := ∃ (C : String) (T : u_T) (N : Nat) (ty0 : Nat → FieldType), vwCl[ci]? = some (C, T, N) ∧ k < N ∧ (∀ w ∈ u_ws C T N, w ∈ wsL_law) ∧ Cond.fieldLink own idx (T k).1 (T k).2.1 (T k).2.2.1 ∈ wsL_law ∧ (∀ k, k < N → parseFieldDescriptor (T k).2.2.1 = some (ty0 k)) ∧ (∀ a, a < N → ∀ b, b < N → a ≠ b → (T a).2.1 ≠ (T b).2.1) ∧ (T k).2.2.2 = true ∧ (T k).1 = own ∧ parseFieldDescriptor (T k).2.2.1 = some ty
section KW
variable {p : Program} {l : Launch} {e : Env} {R : Room} {s : State} {m : MethodId} {args : Array Value} {below : List Frame} {meth : Method} {c : Code} {H : Heap} {locs : List Loc} {cells slots cells' slots' : Nat} {Q : State → Prop} {own : String} {cc : ByteArray} {nL : Nat} {A : Nat → Prop} {D : va_G} {cI cZ : ClassId} {ws ws' : va_W} {pc pc' : Nat} {ls : Array Slot} {rest : List Value}
theorem k_new {idx ci n : Nat} {fs : List Value} (C : KC own cc nL A D cI cZ p s m args c) (S : KS A D s ws H locs) (d : decode cc pc = .ok (.new idx, 3)) (hpc : pc + 3 = pc') (kn : KN own idx ci n fs) (e1 : cells + 1 = cells') (e2 : slots + n = slots') (hc : cells' ≤ R.cells) (hs : slots' ≤ R.slots)
    (kk : ∀ (q : Nat) (H1 : Heap), KS A D s (ws ++ [(q, .inr (ci, fs))]) H1 locs → W p l e R s m args below meth c H1 locs cells' slots' Q (F0 m pc' ls (.ref q :: rest))) : W p l e R s m args below meth c H locs cells slots Q (F0 m pc ls rest) := by
  subst e1 e2 hpc
  obtain ⟨CN, T, ty, h1, h2, h3, h4, h5, h6, h7⟩ := kn
  obtain ⟨P, Dd, S⟩ := S
  exact va_new (ci := ci) (fs := fs) C.1 C.2.1 (fun w hw => C.2.2.2.2.1 w (h2 w hw)) (fun _ h => h) ty h3 C.2.2.2.1 (C.2.2.2.2.1 _ h4) (C.2.2.2.2.1 _ h5) (C.2.2.2.2.1 _ h6) C.2.2.2.2.2.1.1 P Dd S C.2.2.2.2.2.2 h1 h7 hc hs d (fun q H1 P1 D1 S1 => kk q H1 ⟨P1, D1, S1⟩)
theorem k_newI {N : Nat} {n : Int32} (C : KC own cc nL A D cI cZ p s m args c) (S : KS A D s ws H locs) (d : decode cc pc = .ok (.newarray .int, 2)) (hpc : pc + 2 = pc') (hn : ¬ n < 0) (hN : n.toNatClampNeg = N) (hb : N * componentBytes .int ≤ 536870912) (e1 : cells + 1 = cells') (e2 : slots + N = slots') (hc : cells' ≤ R.cells) (hs : slots' ≤ R.slots)
    (kk : ∀ (q : Nat) (H1 : Heap), KS A D s (ws ++ [(q, .inl (cI, N, .inl (fun _ => 0)))]) H1 locs → W p l e R s m args below meth c H1 locs cells' slots' Q (F0 m pc' ls (.ref q :: rest))) : W p l e R s m args below meth c H locs cells slots Q (F0 m pc ls (.int n :: rest)) := by
  subst e1 e2 hpc
  obtain ⟨P, Dd, S⟩ := S
  refine va_newa (atype := .int) (ty := .int) (N' := N) (a0 := (N, .inl (fun _ => 0))) C.1 C.2.1 (C.2.2.2.2.1 _ w_arrI) rfl C.2.2.2.2.2.1.1 P Dd S C.2.2.2.2.2.2 (fun _ => rfl) hn hN hb hc hs d (fun q cA H1 K1 P1 D1 S1 => ?_)
  have e : cA = cI := Option.some.inj ((K1.2 2 (cA, .int) rfl).2.symm.trans (K1.2 0 (cI, .int) rfl).2)
  subst e
  exact kk q H1 ⟨P1, D1, S1⟩
theorem k_newZ {N : Nat} {n : Int32} (C : KC own cc nL A D cI cZ p s m args c) (S : KS A D s ws H locs) (d : decode cc pc = .ok (.newarray .boolean, 2)) (hpc : pc + 2 = pc') (hn : ¬ n < 0) (hN : n.toNatClampNeg = N) (hb : N * componentBytes .boolean ≤ 536870912) (e1 : cells + 1 = cells') (e2 : slots + N = slots') (hc : cells' ≤ R.cells) (hs : slots' ≤ R.slots)
    (kk : ∀ (q : Nat) (H1 : Heap), KS A D s (ws ++ [(q, .inl (cZ, N, .inl (fun _ => 0)))]) H1 locs → W p l e R s m args below meth c H1 locs cells' slots' Q (F0 m pc' ls (.ref q :: rest))) : W p l e R s m args below meth c H locs cells slots Q (F0 m pc ls (.int n :: rest)) := by
  subst e1 e2 hpc
  obtain ⟨P, Dd, S⟩ := S
  refine va_newa (atype := .boolean) (ty := .boolean) (N' := N) (a0 := (N, .inl (fun _ => 0))) C.1 C.2.1 (C.2.2.2.2.1 _ w_arrZ) rfl C.2.2.2.2.2.1.1 P Dd S C.2.2.2.2.2.2 (fun _ => rfl) hn hN hb hc hs d (fun q cA H1 K1 P1 D1 S1 => ?_)
  have e : cA = cZ := Option.some.inj ((K1.2 2 (cA, .boolean) rfl).2.symm.trans (K1.2 1 (cZ, .boolean) rfl).2)
  subst e
  exact kk q H1 ⟨P1, D1, S1⟩
theorem k_putF {a idx ci k : Nat} {fs : List Value} {v : Value} {ty : FieldType} (C : KC own cc nL A D cI cZ p s m args c) (S : KS A D s ws H locs) (d : decode cc pc = .ok (.putfield idx, 3)) (hpc : pc + 3 = pc') (ff : FF own idx ci k ty) (hin : meth.name = "<init>") (q0 : Nat) (he : ws[q0]? = some (a, .inr (ci, fs))) (hk : k < fs.length) (hn : narrow ty v = v) (hf : fits ty v = true) (hws : ws.set q0 (a, .inr (ci, fs.set k v)) = ws')
    (kk : ∀ (H1 : Heap) (locs1 : List Loc), KS A D s ws' H1 locs1 → W p l e R s m args below meth c H1 locs1 cells slots Q (F0 m pc' ls rest)) : W p l e R s m args below meth c H locs cells slots Q (F0 m pc ls (v :: .ref a :: rest)) := by
  subst hpc hws
  obtain ⟨P, Dd, S⟩ := S
  obtain ⟨CN, T, N, ty0, h1, h2, h3, h4, h5, h6, h7, h8, h9⟩ := ff
  exact va_putF C.1 C.2.1 (fun w hw => C.2.2.2.2.1 w (h3 w hw)) (fun _ h => h) ty0 h5 h6 C.2.2.2.1 C.2.2.2.2.2.1.1 P Dd S q0 he h1 k h2 (C.2.2.2.2.1 _ h4) (fun _ h => h) h7 hin h8 h9 hn hf hk d (fun H1 locs1 P1 D1 S1 => kk H1 locs1 ⟨P1, D1, S1⟩)
theorem k_put {a idx ci k : Nat} {fs : List Value} {v : Value} {ty : FieldType} (C : KC own cc nL A D cI cZ p s m args c) (S : KS A D s ws H locs) (d : decode cc pc = .ok (.putfield idx, 3)) (hpc : pc + 3 = pc') (fl : FP own idx ci k ty) (q0 : Nat) (he : ws[q0]? = some (a, .inr (ci, fs))) (hk : k < fs.length) (hn : narrow ty v = v) (hf : fits ty v = true) (hws : ws.set q0 (a, .inr (ci, fs.set k v)) = ws')
    (kk : ∀ (H1 : Heap) (locs1 : List Loc), KS A D s ws' H1 locs1 → W p l e R s m args below meth c H1 locs1 cells slots Q (F0 m pc' ls rest)) : W p l e R s m args below meth c H locs cells slots Q (F0 m pc ls (v :: .ref a :: rest)) := by
  subst hpc hws
  obtain ⟨P, Dd, S⟩ := S
  obtain ⟨CN, T, N, ty0, h1, h2, h3, h4, h5, h6, h7, h8⟩ := fl
  rcases h4 with h4 | h4
  · exact va_put C.1 C.2.1 (fun w hw => C.2.2.2.2.1 w (h3 w hw)) (fun _ h => h) ty0 h5 h6 C.2.2.2.1 C.2.2.2.2.2.1.1 P Dd S q0 he h1 k h2 (C.2.2.2.2.1 _ h4) (fun _ h => h) h7 h8 hn hf hk d (fun H1 locs1 P1 D1 S1 => kk H1 locs1 ⟨P1, D1, S1⟩)
  · exact va_putN C.1 C.2.1 (fun w hw => C.2.2.2.2.1 w (h3 w hw)) (fun _ h => h) ty0 h5 h6 C.2.2.2.1 C.2.2.2.2.2.1.1 P Dd S q0 he h1 k h2 ((C.2.2.2.2.2.1.2 _ h4).use rfl) (fun _ h => h) h7 h8 hn hf hk d (fun H1 locs1 P1 D1 S1 => kk H1 locs1 ⟨P1, D1, S1⟩)
theorem k_get {a idx ci k : Nat} {fs : List Value} {v : Value} (C : KC own cc nL A D cI cZ p s m args c) (S : KS A D s ws H locs) (d : decode cc pc = .ok (.getfield idx, 3)) (hpc : pc + 3 = pc') (fl : FL own idx ci k) (q0 : Nat) (he : ws[q0]? = some (a, .inr (ci, fs))) (hv : fs[k]? = some v)
    (kk : W p l e R s m args below meth c H locs cells slots Q (F0 m pc' ls (v :: rest))) : W p l e R s m args below meth c H locs cells slots Q (F0 m pc ls (.ref a :: rest)) := by
  subst hpc
  obtain ⟨P, Dd, S⟩ := S
  obtain ⟨CN, T, N, h1, h2, h3, h4⟩ := fl
  rcases h4 with h4 | h4
  · exact va_get C.1 C.2.1 (fun w hw => C.2.2.2.2.1 w (h3 w hw)) (fun _ h => h) C.2.2.2.1 C.2.2.2.2.2.1.1 P q0 he h1 k h2 (C.2.2.2.2.1 _ h4) (fun _ h => h) hv d kk
  · exact va_getN C.1 C.2.1 (fun w hw => C.2.2.2.2.1 w (h3 w hw)) (fun _ h => h) C.2.2.2.1 C.2.2.2.2.2.1.1 P q0 he h1 k h2 ((C.2.2.2.2.2.1.2 _ h4).use rfl) (fun _ h => h) hv d kk
theorem k_obj {a idx : Nat} (C : KC own cc nL A D cI cZ p s m args c) (d : decode cc pc = .ok (.invokespecial idx, 3)) (hpc : pc + 3 = pc') (hl : ls.size = nL) (hm : Cond.methodLink own idx objectInit ∈ wsL_law) (hf : 1 ≤ R.frames) (hr : 12 ≤ R.locals)
    (kk : W p l e R s m args below meth c H locs cells slots Q (F0 m pc' ls [])) : W p l e R s m args below meth c H locs cells slots Q (F0 m pc ls [.ref a]) := by
  subst hpc
  refine W.objInit C.1 C.2.1 C.2.2.2.1 (C.2.2.2.2.1 _ hm) (C.2.2.2.2.1 _ w_objI) (C.2.2.2.2.1 _ w_objC) rfl (by rw [C.2.2.1]; exact hl) rfl d hf hr ?_
  exact W.eq (g2 := F0 m (pc + 3) ls []) rfl kk
def rmC (μ : MD) (mc ms : Nat) : Room := { frames := μ.2.2.2.2.1, cells := mc, slots := ms, locals := μ.2.2.2.2.2 }
/-- a constructor: out of its fresh cell it makes the world Rw -/
def CSp (l : Launch) (D : va_G) (cI cZ : ClassId) (μ : MD) (mc ms ci : Nat) (fs : List Value) (Rw : (Nat → Nat) → va_W) : Prop := ∀ (h0 sz : Nat), Met l μ.1 (wsOf μ) (rmC μ mc ms) (va_Pc [.ref h0] (fun U => U.heap.size = sz ∧ va_P D vwCl [(h0, .inr (ci, fs))] U.heap ∧ EnvC D cI cZ U ∧ va_D (fun _ => True) [(h0, .inr (ci, fs))])) (va_Qv (fun _ : Unit => True) (fun _ t => ∃ ad : Nat → Nat, ad 0 = h0 ∧ va_P D vwCl (Rw ad) t.heap ∧ va_D (va_A [(h0, .inr (ci, fs))] sz) (Rw ad)) (va_A [(h0, .inr (ci, fs))] sz)) mc ms (va_A [(h0, .inr (ci, fs))] sz)
theorem range_nd (n : Nat) : va_nd (List.range n) = true := by
  have key : ∀ l : List Nat, l.Nodup → va_nd l = true := by
    intro l
    induction l with
    | nil => intro _; rfl
    | cons a l ih =>
      intro h
      obtain ⟨h1, h2⟩ := List.nodup_cons.mp h
      simp only [va_nd, Bool.and_eq_true, decide_eq_true_eq]
      exact ⟨h1, ih h2⟩
  exact key _ List.nodup_range
theorem k_ctor {μ' : MD} {q idx mc ms ci : Nat} {fs : List Value} {wr : va_W} {Rw : (Nat → Nat) → va_W} (C : KC own cc nL A D cI cZ p s m args c) (S : KS A D s (wr ++ [(q, .inr (ci, fs))]) H locs) (hs : CSp l D cI cZ μ' mc ms ci fs Rw) (d : decode cc pc = .ok (.invokespecial idx, 3)) (hpc : pc + 3 = pc') (ml : ML own idx μ'.1) (cf : CB μ' 0) (hin : Cond.instanceMethod μ'.1 ∈ wsL_law) (hnm : μ'.1.name = "<init>") (hret : μ'.2.2.2.1 = none) (rm : μ'.2.2.2.2.1 + 1 ≤ R.frames ∧ 8 + (μ'.2.2.1 + 11) + μ'.2.2.2.2.2 ≤ R.locals) (e1 : cells + mc = cells') (e2 : slots + ms = slots') (hc1 : cells' ≤ R.cells) (hs1 : slots' ≤ R.slots) (hl : ls.size = nL) (hW : (rest.map fun v => v.category).sum ≤ 8)
    (kk : ∀ (ad : Nat → Nat) (H1 : Heap) (locs1 : List Loc), ad 0 = q → KS A D s (wr ++ Rw ad) H1 locs1 → W p l e R s m args below meth c H1 locs1 cells' slots' Q (F0 m pc' ls rest)) : W p l e R s m args below meth c H locs cells slots Q (F0 m pc ls (.ref q :: rest)) := by
  subst e1 e2 hpc
  obtain ⟨y, cc', mL, ret, fr, lo⟩ := μ'
  dsimp only at hret
  subst hret
  obtain ⟨P, Dd, S⟩ := S
  have hts := C.2.2.2.2.1
  obtain ⟨f1, f2, f3⟩ := cf
  have hC : [wr.length].map (fun i => (wr ++ [(q, (.inr (ci, fs) : va_E))])[i]?) = ([(q, (.inr (ci, fs) : va_E))] : va_W).map some := by simp
  have hR : (List.range wr.length).map (fun i => (wr ++ [(q, (.inr (ci, fs) : va_E))])[i]?) = wr.map some := by
    refine List.ext_getElem? fun k => ?_
    by_cases hk : k < wr.length
    · simp [List.getElem?_map, List.getElem?_range hk, List.getElem?_append_left hk, hk]
    · rw [List.getElem?_eq_none (by simp; omega), List.getElem?_eq_none (by simp; omega)]
  have hPc : va_P D vwCl [(q, (.inr (ci, fs) : va_E))] H := P.sub (ws' := [(q, (.inr (ci, fs) : va_E))]) [wr.length] (by simp)
  have hDc : va_D A [(q, (.inr (ci, fs) : va_E))] := Dd.sub (ws' := [(q, (.inr (ci, fs) : va_E))]) [wr.length] (by simp [va_nd]) (by simp)
  have hFc := va_free (wc := [(q, (.inr (ci, fs) : va_E))]) Dd S C.2.2.2.2.2.2 [wr.length] hC
  have hpre : PreS s H (va_Pc [.ref q] (fun U => U.heap.size = H.size ∧ va_P D vwCl [(q, .inr (ci, fs))] U.heap ∧ EnvC D cI cZ U ∧ va_D (fun _ => True) [(q, .inr (ci, fs))])) [.ref q] :=
    ⟨fun a U g mk z => by obtain ⟨z0, z1, zP, zK, zD⟩ := z; exact ⟨z0, z1, zP, EnvC.same (u := U) (U := U.calling g mk a) rfl zK, zD⟩, fun U hU hW => ⟨rfl, by rw [hU], by rw [hU]; exact hPc, C.2.2.2.2.2.1.warm hW, hDc.weaken (fun _ _ _ _ => trivial)⟩⟩
  have hrun : va_Run p l e R s m args below meth c H locs cells slots mc ms (F0 m pc ls (.ref q :: rest)) rest (va_Qv (fun _ : Unit => True) (fun _ t => ∃ ad : Nat → Nat, ad 0 = q ∧ va_P D vwCl (Rw ad) t.heap ∧ va_D (va_A [(q, .inr (ci, fs))] H.size) (Rw ad)) (va_A [(q, .inr (ci, fs))] H.size) (Value.ref q :: []).toArray) (va_A [(q, .inr (ci, fs))] H.size) := by
    rcases ml with ml | ml
    · exact va_runI (As := []) (rest := rest) ⟨C.1, C.2.1, C.2.2.1, C.2.2.2.1, hts⟩ (hs q H.size) ⟨callB_of (ws' := wsL_law) 0 hts (wsOf_good f1) rfl rfl rfl (hts _ f2) (hts _ ml) f3 rm, hnm, hts _ hin⟩ hpre rfl rfl hl rfl (lv_room hW) d ⟨hc1, hs1⟩
    · exact va_runIN (host := "MoorStones") (As := []) (rest := rest) ⟨C.1, C.2.1, C.2.2.1, C.2.2.2.1, hts⟩ (hs q H.size) ⟨va_cnB (ws' := wsL_law) 0 hts (wsOf_good f1) rfl rfl rfl (C.2.2.2.2.2.1.2 _ ml) (hts _ f2) f3 rm, hnm, hts _ hin⟩ hpre rfl rfl hl rfl (lv_room hW) d ⟨hc1, hs1⟩
  refine va_callv hrun S (fun x _ h => hFc x h) hFc (fun u t H1 locs1 ht hvm hw hB hz1 hk1 S1 => ?_)
  obtain ⟨ad, h0, hP1, hD1⟩ := hB
  rw [ht] at hP1
  obtain ⟨P2, D2⟩ := va_join (wr := wr) (w1 := Rw ad) P Dd [wr.length] (List.range wr.length) hC hR (range_nd _) (fun i hi => by have := List.mem_range.mp hi; simp; omega) hk1 hFc hP1 hD1
  exact kk ad H1 locs1 h0 ⟨P2, D2, S1⟩
end KW
theorem csp_of {l : Launch} {D : va_G} {cI cZ : ClassId} {μ : MD} {mc ms ci : Nat} {fs : List Value} {Rw : (Nat → Nat) → va_W} (hp : plainName μ.1.cls = true) (hret : μ.2.2.2.1 = none) (hinit : μ.1.name = "<init>") (hL : μ.2.2.1 = 1)
    (h : ∀ (p : Program) (e : Env) (s : State) (m : MethodId) (args : Array Value) (below : List Frame) (meth : Method) (c : Code) (h0 : Nat) (A : Nat → Prop) (ls : Array Slot) (Q : State → Prop), meth.name = "<init>" → KC μ.1.cls μ.2.1 1 A D cI cZ p s m args c → KS A D s [(h0, .inr (ci, fs))] s.heap [] → lv_has ls 1 [(0, .ref h0)] →
      (∀ (H : Heap) (locs : List Loc) (ad : Nat → Nat) (pc : Nat), decode μ.2.1 pc = .ok (.return_, 1) → ad 0 = h0 → KS A D s (Rw ad) H locs → W p l e (rmC μ mc ms) s m args below meth c H locs mc ms Q (F0 m pc ls [])) → W p l e (rmC μ mc ms) s m args below meth c s.heap [] 0 0 Q (F0 m 0 ls [])) : CSp l D cI cZ μ mc ms ci fs Rw := by
  intro h0 sz
  refine Met.ofW (cc := μ.2.1) (maxL := μ.2.2.1) (ret := μ.2.2.2.1) hp rfl ?_
  intro p e s m args below meth c s₁ B hml hv
  obtain ⟨rfl, hsz, hP, hK, hD0⟩ := hv
  have hts := atoms_spec (ws := wsOf μ) B.pre
  have hin : meth.name = "<init>" := (name_of_methodNamed B.named B.method).1.trans hinit
  subst hsz
  have hD := hD0.self (sz := s.heap.size)
  have hl := lv_entry ([.ref h0]) (n := 1) (Nat.le_of_ble_eq_true rfl)
  rw [lg_entry_eq, hL]
  refine h p e s m _ below meth c h0 (va_A [(h0, .inr (ci, fs))] s.heap.size) _ _ hin ⟨B.exec, B.bytes, hml.trans hL, findClass_of_methodNamed B.named, fun w hw => hts w (List.mem_cons_of_mem _ hw), hK, fun q h => Or.inr h⟩ ⟨hP, hD, va_S.rf⟩ hl ?_
  intro H locs ad pc d e0 S
  exact W.vret B.exec B.bytes (B.returns.trans hret) (fun t ht hW => ⟨⟨(), rfl, trivial, ad, e0, by rw [ht]; exact S.1, S.2.1⟩, S.2.2.F ht⟩) S.2.2.2.2 d B.notSynchronized
theorem cbX0_init : CB mX0_init 0 := ⟨(wR3 _ (List.mem_of_getElem? (i := 22) rfl)), (wR2 _ (List.mem_of_getElem? (i := 6) rfl)), by decide +kernel, by decide +kernel, by decide +kernel⟩
theorem imX0_init : Cond.instanceMethod mX0_init.1 ∈ wsL_law := (wR3 _ (List.mem_of_getElem? (i := 21) rfl))
theorem cbX1_init : CB mX1_init 0 := ⟨(wR3 _ (List.mem_of_getElem? (i := 10) rfl)), (wR2 _ (List.mem_of_getElem? (i := 1) rfl)), by decide +kernel, by decide +kernel, by decide +kernel⟩
theorem imX1_init : Cond.instanceMethod mX1_init.1 ∈ wsL_law := (wR3 _ (List.mem_of_getElem? (i := 9) rfl))
theorem cbX2_init : CB mX2_init 0 := ⟨(wR2 _ (List.mem_of_getElem? (i := 13) rfl)), (wR1 _ (List.mem_of_getElem? (i := 15) rfl)), by decide +kernel, by decide +kernel, by decide +kernel⟩
theorem imX2_init : Cond.instanceMethod mX2_init.1 ∈ wsL_law := (wR2 _ (List.mem_of_getElem? (i := 12) rfl))
theorem cbX3_init : CB mX3_init 0 := ⟨(wR2 _ (List.mem_of_getElem? (i := 21) rfl)), (wR2 _ (List.mem_of_getElem? (i := 17) rfl)), by decide +kernel, by decide +kernel, by decide +kernel⟩
theorem imX3_init : Cond.instanceMethod mX3_init.1 ∈ wsL_law := (wR2 _ (List.mem_of_getElem? (i := 20) rfl))
theorem cbX4_init : CB mX4_init 0 := ⟨(wR3 _ (List.mem_of_getElem? (i := 4) rfl)), (wR1 _ (List.mem_of_getElem? (i := 20) rfl)), by decide +kernel, by decide +kernel, by decide +kernel⟩
theorem imX4_init : Cond.instanceMethod mX4_init.1 ∈ wsL_law := (wR3 _ (List.mem_of_getElem? (i := 3) rfl))
theorem cbX5_init : CB mX5_init 0 := ⟨(wR3 _ (List.mem_of_getElem? (i := 18) rfl)), (wR3 _ (List.mem_of_getElem? (i := 14) rfl)), by decide +kernel, by decide +kernel, by decide +kernel⟩
theorem imX5_init : Cond.instanceMethod mX5_init.1 ∈ wsL_law := (wR3 _ (List.mem_of_getElem? (i := 17) rfl))
theorem ffX0_15 : FF RX0 15 0 3 (.array .int) := ⟨RX0, TX0, 6, tyX0, rfl, by decide, inlX0, (wR4 _ (List.mem_of_getElem? (i := 1) rfl)), tyX0_ok, nmX0, rfl, rfl, by decide +kernel⟩
theorem ffX0_18 : FF RX0 18 0 4 (.array .int) := ⟨RX0, TX0, 6, tyX0, rfl, by decide, inlX0, (wR4 _ (List.mem_of_getElem? (i := 2) rfl)), tyX0_ok, nmX0, rfl, rfl, by decide +kernel⟩
theorem ffX0_9 : FF RX0 9 0 2 (.array .int) := ⟨RX0, TX0, 6, tyX0, rfl, by decide, inlX0, (wR4 _ (List.mem_of_getElem? (i := 0) rfl)), tyX0_ok, nmX0, rfl, rfl, by decide +kernel⟩
theorem ffX1_12 : FF RX1 12 1 0 (.object "MoorStones$Ways") := ⟨RX1, TX1, 2, tyX1, rfl, by decide, inlX1, (wR3 _ (List.mem_of_getElem? (i := 15) rfl)), tyX1_ok, nmX1, rfl, rfl, by decide +kernel⟩
theorem ffX1_18 : FF RX1 18 1 1 (.array .int) := ⟨RX1, TX1, 2, tyX1, rfl, by decide, inlX1, (wR3 _ (List.mem_of_getElem? (i := 16) rfl)), tyX1_ok, nmX1, rfl, rfl, by decide +kernel⟩
theorem ffX2_12 : FF RX2 12 2 0 (.object "MoorStones$Text") := ⟨RX2, TX2, 5, tyX2, rfl, by decide, inlX2, (wR2 _ (List.mem_of_getElem? (i := 18) rfl)), tyX2_ok, nmX2, rfl, rfl, by decide +kernel⟩
theorem ffX3_9 : FF RX3 9 3 0 (.array .int) := ⟨RX3, TX3, 2, tyX3, rfl, by decide, inlX3, (wR3 _ (List.mem_of_getElem? (i := 0) rfl)), tyX3_ok, nmX3, rfl, rfl, by decide +kernel⟩
theorem ffX4_15 : FF RX4 15 4 9 (.array .int) := ⟨RX4, TX4, 10, tyX4, rfl, by decide, inlX4, (wR3 _ (List.mem_of_getElem? (i := 7) rfl)), tyX4_ok, nmX4, rfl, rfl, by decide +kernel⟩
theorem ffX4_9 : FF RX4 9 4 8 (.array .int) := ⟨RX4, TX4, 10, tyX4, rfl, by decide, inlX4, (wR3 _ (List.mem_of_getElem? (i := 6) rfl)), tyX4_ok, nmX4, rfl, rfl, by decide +kernel⟩
theorem ffX6_10 : FF RX6 10 6 0 (.object "MoorStones$Reader") := ⟨RX6, TX6, 10, tyX6, rfl, by decide, inlX6, (wR1 _ (List.mem_of_getElem? (i := 16) rfl)), tyX6_ok, nmX6, rfl, rfl, by decide +kernel⟩
theorem ffX6_20 : FF RX6 20 6 1 (.object "MoorStones$Text") := ⟨RX6, TX6, 10, tyX6, rfl, by decide, inlX6, (wR1 _ (List.mem_of_getElem? (i := 17) rfl)), tyX6_ok, nmX6, rfl, rfl, by decide +kernel⟩
theorem ffX6_24 : FF RX6 24 6 2 (.object "MoorStones$Told") := ⟨RX6, TX6, 10, tyX6, rfl, by decide, inlX6, (wR1 _ (List.mem_of_getElem? (i := 21) rfl)), tyX6_ok, nmX6, rfl, rfl, by decide +kernel⟩
theorem ffX6_28 : FF RX6 28 6 3 (.object "MoorStones$Told") := ⟨RX6, TX6, 10, tyX6, rfl, by decide, inlX6, (wR1 _ (List.mem_of_getElem? (i := 22) rfl)), tyX6_ok, nmX6, rfl, rfl, by decide +kernel⟩
theorem ffX6_34 : FF RX6 34 6 4 (.object "MoorStones$Plans") := ⟨RX6, TX6, 10, tyX6, rfl, by decide, inlX6, (wR2 _ (List.mem_of_getElem? (i := 2) rfl)), tyX6_ok, nmX6, rfl, rfl, by decide +kernel⟩
theorem ffX6_42 : FF RX6 42 6 5 (.object "MoorStones$Ways") := ⟨RX6, TX6, 10, tyX6, rfl, by decide, inlX6, (wR2 _ (List.mem_of_getElem? (i := 3) rfl)), tyX6_ok, nmX6, rfl, rfl, by decide +kernel⟩
theorem ffX6_46 : FF RX6 46 6 6 (.object "MoorStones$Now") := ⟨RX6, TX6, 10, tyX6, rfl, by decide, inlX6, (wR2 _ (List.mem_of_getElem? (i := 7) rfl)), tyX6_ok, nmX6, rfl, rfl, by decide +kernel⟩
theorem ffX6_50 : FF RX6 50 6 7 (.object "MoorStones$Now") := ⟨RX6, TX6, 10, tyX6, rfl, by decide, inlX6, (wR2 _ (List.mem_of_getElem? (i := 8) rfl)), tyX6_ok, nmX6, rfl, rfl, by decide +kernel⟩
theorem ffX6_53 : FF RX6 53 6 8 (.object "MoorStones$Now") := ⟨RX6, TX6, 10, tyX6, rfl, by decide, inlX6, (wR2 _ (List.mem_of_getElem? (i := 9) rfl)), tyX6_ok, nmX6, rfl, rfl, by decide +kernel⟩
theorem ffX7_13 : FF RX7 13 7 4 (.array .int) := ⟨RX7, TX7, 27, tyX7, rfl, by decide, inlX7, (wR4 _ (List.mem_of_getElem? (i := 8) rfl)), tyX7_ok, nmX7, rfl, rfl, by decide +kernel⟩
theorem ffX7_16 : FF RX7 16 7 5 (.array .int) := ⟨RX7, TX7, 27, tyX7, rfl, by decide, inlX7, (wR4 _ (List.mem_of_getElem? (i := 9) rfl)), tyX7_ok, nmX7, rfl, rfl, by decide +kernel⟩
theorem ffX7_19 : FF RX7 19 7 6 (.array .int) := ⟨RX7, TX7, 27, tyX7, rfl, by decide, inlX7, (wR4 _ (List.mem_of_getElem? (i := 10) rfl)), tyX7_ok, nmX7, rfl, rfl, by decide +kernel⟩
theorem ffX7_22 : FF RX7 22 7 7 (.array .int) := ⟨RX7, TX7, 27, tyX7, rfl, by decide, inlX7, (wR4 _ (List.mem_of_getElem? (i := 11) rfl)), tyX7_ok, nmX7, rfl, rfl, by decide +kernel⟩
theorem ffX7_25 : FF RX7 25 7 16 (.array .int) := ⟨RX7, TX7, 27, tyX7, rfl, by decide, inlX7, (wR4 _ (List.mem_of_getElem? (i := 12) rfl)), tyX7_ok, nmX7, rfl, rfl, by decide +kernel⟩
theorem ffX7_28 : FF RX7 28 7 17 (.array .int) := ⟨RX7, TX7, 27, tyX7, rfl, by decide, inlX7, (wR4 _ (List.mem_of_getElem? (i := 13) rfl)), tyX7_ok, nmX7, rfl, rfl, by decide +kernel⟩
theorem ffX7_31 : FF RX7 31 7 18 (.array .boolean) := ⟨RX7, TX7, 27, tyX7, rfl, by decide, inlX7, (wR4 _ (List.mem_of_getElem? (i := 15) rfl)), tyX7_ok, nmX7, rfl, rfl, by decide +kernel⟩
theorem ffX7_35 : FF RX7 35 7 23 (.array .int) := ⟨RX7, TX7, 27, tyX7, rfl, by decide, inlX7, (wR4 _ (List.mem_of_getElem? (i := 16) rfl)), tyX7_ok, nmX7, rfl, rfl, by decide +kernel⟩
theorem ffX7_38 : FF RX7 38 7 24 (.array .int) := ⟨RX7, TX7, 27, tyX7, rfl, by decide, inlX7, (wR4 _ (List.mem_of_getElem? (i := 17) rfl)), tyX7_ok, nmX7, rfl, rfl, by decide +kernel⟩
theorem ffX7_41 : FF RX7 41 7 25 (.array .int) := ⟨RX7, TX7, 27, tyX7, rfl, by decide, inlX7, (wR4 _ (List.mem_of_getElem? (i := 18) rfl)), tyX7_ok, nmX7, rfl, rfl, by decide +kernel⟩
theorem ffX7_44 : FF RX7 44 7 26 (.array .int) := ⟨RX7, TX7, 27, tyX7, rfl, by decide, inlX7, (wR4 _ (List.mem_of_getElem? (i := 19) rfl)), tyX7_ok, nmX7, rfl, rfl, by decide +kernel⟩
theorem ffX7_7 : FF RX7 7 7 2 (.array .int) := ⟨RX7, TX7, 27, tyX7, rfl, by decide, inlX7, (wR4 _ (List.mem_of_getElem? (i := 7) rfl)), tyX7_ok, nmX7, rfl, rfl, by decide +kernel⟩
theorem knX1_9 : KN RX1 9 5 4 [.int 0, .int 0, .int 0, .int 0] := ⟨RX5, TX5, tyX5, rfl, inlX5, tyX5_ok, (wR3 _ (List.mem_of_getElem? (i := 12) rfl)), (wR3 _ (List.mem_of_getElem? (i := 13) rfl)), (wR3 _ (List.mem_of_getElem? (i := 14) rfl)), fun j hj => by
  rcases (show j = 0 ∨ j = 1 ∨ j = 2 ∨ j = 3 by omega) with rfl | rfl | rfl | rfl <;> rfl⟩
theorem knX2_9 : KN RX2 9 3 2 [.null, .int 0] := ⟨RX3, TX3, tyX3, rfl, inlX3, tyX3_ok, (wR2 _ (List.mem_of_getElem? (i := 15) rfl)), (wR2 _ (List.mem_of_getElem? (i := 16) rfl)), (wR2 _ (List.mem_of_getElem? (i := 17) rfl)), fun j hj => by
  rcases (show j = 0 ∨ j = 1 by omega) with rfl | rfl <;> rfl⟩
theorem knX6_21 : KN RX6 21 4 10 [.int 0, .int 0, .int 0, .int 0, .int 0, .int 0, .int 0, .int 0, .null, .null] := ⟨RX4, TX4, tyX4, rfl, inlX4, tyX4_ok, (wR1 _ (List.mem_of_getElem? (i := 18) rfl)), (wR1 _ (List.mem_of_getElem? (i := 19) rfl)), (wR1 _ (List.mem_of_getElem? (i := 20) rfl)), fun j hj => by
  rcases (show j = 0 ∨ j = 1 ∨ j = 2 ∨ j = 3 ∨ j = 4 ∨ j = 5 ∨ j = 6 ∨ j = 7 ∨ j = 8 ∨ j = 9 by omega) with rfl | rfl | rfl | rfl | rfl | rfl | rfl | rfl | rfl | rfl <;> rfl⟩
theorem knX6_31 : KN RX6 31 1 2 [.null, .null] := ⟨RX1, TX1, tyX1, rfl, inlX1, tyX1_ok, (wR1 _ (List.mem_of_getElem? (i := 23) rfl)), (wR2 _ (List.mem_of_getElem? (i := 0) rfl)), (wR2 _ (List.mem_of_getElem? (i := 1) rfl)), fun j hj => by
  rcases (show j = 0 ∨ j = 1 by omega) with rfl | rfl <;> rfl⟩
theorem knX6_43 : KN RX6 43 0 6 [.int 0, .int 0, .null, .null, .null, .int 0] := ⟨RX0, TX0, tyX0, rfl, inlX0, tyX0_ok, (wR2 _ (List.mem_of_getElem? (i := 4) rfl)), (wR2 _ (List.mem_of_getElem? (i := 5) rfl)), (wR2 _ (List.mem_of_getElem? (i := 6) rfl)), fun j hj => by
  rcases (show j = 0 ∨ j = 1 ∨ j = 2 ∨ j = 3 ∨ j = 4 ∨ j = 5 by omega) with rfl | rfl | rfl | rfl | rfl | rfl <;> rfl⟩
theorem knX6_7 : KN RX6 7 2 5 [.null, .int 0, .int 0, .int 0, .int 0] := ⟨RX2, TX2, tyX2, rfl, inlX2, tyX2_ok, (wR1 _ (List.mem_of_getElem? (i := 13) rfl)), (wR1 _ (List.mem_of_getElem? (i := 14) rfl)), (wR1 _ (List.mem_of_getElem? (i := 15) rfl)), fun j hj => by
  rcases (show j = 0 ∨ j = 1 ∨ j = 2 ∨ j = 3 ∨ j = 4 by omega) with rfl | rfl | rfl | rfl | rfl <;> rfl⟩
theorem obX0_3 : Cond.methodLink RX0 3 objectInit ∈ wsL_law := (wR3 _ (List.mem_of_getElem? (i := 23) rfl))
theorem obX1_3 : Cond.methodLink RX1 3 objectInit ∈ wsL_law := (wR3 _ (List.mem_of_getElem? (i := 11) rfl))
theorem obX2_3 : Cond.methodLink RX2 3 objectInit ∈ wsL_law := (wR2 _ (List.mem_of_getElem? (i := 14) rfl))
theorem obX3_3 : Cond.methodLink RX3 3 objectInit ∈ wsL_law := (wR2 _ (List.mem_of_getElem? (i := 22) rfl))
theorem obX4_3 : Cond.methodLink RX4 3 objectInit ∈ wsL_law := (wR3 _ (List.mem_of_getElem? (i := 5) rfl))
theorem obX5_3 : Cond.methodLink RX5 3 objectInit ∈ wsL_law := (wR3 _ (List.mem_of_getElem? (i := 19) rfl))
theorem obX6_1 : Cond.methodLink RX6 1 objectInit ∈ wsL_law := (wR1 _ (List.mem_of_getElem? (i := 10) rfl))
theorem obX7_1 : Cond.methodLink RX7 1 objectInit ∈ wsL_law := (wR4 _ (List.mem_of_getElem? (i := 6) rfl))
theorem knL_7 : KN RL 7 6 10 [.null, .null, .null, .null, .null, .null, .null, .null, .null, .long 0] := ⟨RX6, TX6, tyX6, rfl, inlX6, tyX6_ok, (wR1 _ (List.mem_of_getElem? (i := 0) rfl)), (wR1 _ (List.mem_of_getElem? (i := 1) rfl)), (wR1 _ (List.mem_of_getElem? (i := 2) rfl)), fun j hj => by
  rcases (show j = 0 ∨ j = 1 ∨ j = 2 ∨ j = 3 ∨ j = 4 ∨ j = 5 ∨ j = 6 ∨ j = 7 ∨ j = 8 ∨ j = 9 by omega) with rfl | rfl | rfl | rfl | rfl | rfl | rfl | rfl | rfl | rfl <;> rfl⟩
theorem cbX6_init : CB mX6_init 0 := ⟨(wR1 _ (List.mem_of_getElem? (i := 9) rfl)), (wR1 _ (List.mem_of_getElem? (i := 2) rfl)), by decide +kernel, by decide +kernel, by decide +kernel⟩
theorem imX6_init : Cond.instanceMethod mX6_init.1 ∈ wsL_law := (wR1 _ (List.mem_of_getElem? (i := 8) rfl))
theorem knL_10 : KN RL 10 7 27 [.int 0, .long 0, .null, .int 0, .null, .null, .null, .null, .int 0, .int 0, .int 0, .int 0, .int 0, .int 0, .int 0, .int 0, .null, .null, .null, .int 0, .int 0, .int 0, .int 0, .null, .null, .null, .null] := ⟨RX7, TX7, tyX7, rfl, inlX7, tyX7_ok, (wR1 _ (List.mem_of_getElem? (i := 3) rfl)), (wR1 _ (List.mem_of_getElem? (i := 4) rfl)), (wR1 _ (List.mem_of_getElem? (i := 5) rfl)), fun j hj => by
  rcases (show j = 0 ∨ j = 1 ∨ j = 2 ∨ j = 3 ∨ j = 4 ∨ j = 5 ∨ j = 6 ∨ j = 7 ∨ j = 8 ∨ j = 9 ∨ j = 10 ∨ j = 11 ∨ j = 12 ∨ j = 13 ∨ j = 14 ∨ j = 15 ∨ j = 16 ∨ j = 17 ∨ j = 18 ∨ j = 19 ∨ j = 20 ∨ j = 21 ∨ j = 22 ∨ j = 23 ∨ j = 24 ∨ j = 25 ∨ j = 26 by omega) with rfl | rfl | rfl | rfl | rfl | rfl | rfl | rfl | rfl | rfl | rfl | rfl | rfl | rfl | rfl | rfl | rfl | rfl | rfl | rfl | rfl | rfl | rfl | rfl | rfl | rfl | rfl <;> rfl⟩
theorem cbX7_init : CB mX7_init 0 := ⟨(wR4 _ (List.mem_of_getElem? (i := 5) rfl)), (wR1 _ (List.mem_of_getElem? (i := 5) rfl)), by decide +kernel, by decide +kernel, by decide +kernel⟩
theorem imX7_init : Cond.instanceMethod mX7_init.1 ∈ wsL_law := (wR4 _ (List.mem_of_getElem? (i := 4) rfl))
theorem mlL_9 : ML RL 9 yX6_init := Or.inl (wR1 _ (List.mem_of_getElem? (i := 7) rfl))
theorem mlL_12 : ML RL 12 yX7_init := Or.inl (wR4 _ (List.mem_of_getElem? (i := 3) rfl))
def rwX3 (cI cZ : ClassId) (ad : Nat → Nat) : va_W := [((ad 0), .inr (3, [.ref (ad 1), .int 0])), ((ad 1), .inl (cI, 300, .inl (fun _ => 0)))]
set_option maxRecDepth 100000 in
set_option maxHeartbeats 4000000 in
theorem csp_X3 (l : Launch) (D : va_G) (cI cZ : ClassId) : CSp l D cI cZ mX3_init 1 300 3 [.null, .int 0] (rwX3 cI cZ) := by
  refine csp_of (by decide +kernel) rfl rfl rfl ?_
  intro p e s m args below meth c h0 A ls Q hin C S hl kret
  have C : KC RX3 cX3_init 1 A D cI cZ p s m args c := C
  refine lv_aload_n C.1 C.2.1 dX3_init_0 rfl (lv_at hl 0 rfl) ?_
  refine k_obj C dX3_init_1 rfl hl.1 obX3_3 (Nat.le_of_ble_eq_true rfl) (Nat.le_of_ble_eq_true rfl) ?_
  refine lv_aload_n C.1 C.2.1 dX3_init_4 rfl (lv_at hl 0 rfl) ?_
  refine lv_sipush (v := 300) C.1 C.2.1 dX3_init_5 (by decide) ?_
  refine k_newI (N := 300) (cells' := 1) (slots' := 300) C S dX3_init_8 rfl (by decide) (by decide) (Nat.le_of_ble_eq_true rfl) rfl rfl (Nat.le_of_ble_eq_true rfl) (Nat.le_of_ble_eq_true rfl) (fun q1 H S => ?_)
  have S : KS A D s [(h0, .inr (3, [.null, .int 0])), (q1, .inl (cI, 300, .inl (fun _ => 0)))] H _ := S
  refine k_putF (v := .ref q1) (ws' := [(h0, .inr (3, [.ref q1, .int 0])), (q1, .inl (cI, 300, .inl (fun _ => 0)))]) C S dX3_init_10 rfl ffX3_9 hin 0 rfl (Nat.le_of_ble_eq_true rfl) rfl rfl rfl (fun H locs S => ?_)
  refine lv_aload_n C.1 C.2.1 dX3_init_13 rfl (lv_at hl 0 rfl) ?_
  refine lv_iconst (v := 0) C.1 C.2.1 dX3_init_14 (by decide) ?_
  refine k_put (v := .int 0) (ws' := [(h0, .inr (3, [.ref q1, .int 0])), (q1, .inl (cI, 300, .inl (fun _ => 0)))]) C S dX3_init_15 rfl fpX3_15 0 rfl (Nat.le_of_ble_eq_true rfl) rfl rfl rfl (fun H locs S => ?_)
  exact kret _ _ (fun i => ([h0, q1] : List Nat).getD i 0) 18 dX3_init_18 rfl S

def rwX4 (cI cZ : ClassId) (ad : Nat → Nat) : va_W := [((ad 0), .inr (4, [.int 0, .int 0, .int 0, .int 0, .int 0, .int 0, .int 0, .int 0, .ref (ad 1), .ref (ad 2)])), ((ad 1), .inl (cI, 4, .inl (fun _ => 0))), ((ad 2), .inl (cI, 4, .inl (fun _ => 0)))]
set_option maxRecDepth 100000 in
set_option maxHeartbeats 4000000 in
theorem csp_X4 (l : Launch) (D : va_G) (cI cZ : ClassId) : CSp l D cI cZ mX4_init 2 8 4 [.int 0, .int 0, .int 0, .int 0, .int 0, .int 0, .int 0, .int 0, .null, .null] (rwX4 cI cZ) := by
  refine csp_of (by decide +kernel) rfl rfl rfl ?_
  intro p e s m args below meth c h0 A ls Q hin C S hl kret
  have C : KC RX4 cX4_init 1 A D cI cZ p s m args c := C
  refine lv_aload_n C.1 C.2.1 dX4_init_0 rfl (lv_at hl 0 rfl) ?_
  refine k_obj C dX4_init_1 rfl hl.1 obX4_3 (Nat.le_of_ble_eq_true rfl) (Nat.le_of_ble_eq_true rfl) ?_
  refine lv_aload_n C.1 C.2.1 dX4_init_4 rfl (lv_at hl 0 rfl) ?_
  refine lv_iconst (v := 4) C.1 C.2.1 dX4_init_5 (by decide) ?_
  refine k_newI (N := 4) (cells' := 1) (slots' := 4) C S dX4_init_6 rfl (by decide) (by decide) (Nat.le_of_ble_eq_true rfl) rfl rfl (Nat.le_of_ble_eq_true rfl) (Nat.le_of_ble_eq_true rfl) (fun q1 H S => ?_)
  have S : KS A D s [(h0, .inr (4, [.int 0, .int 0, .int 0, .int 0, .int 0, .int 0, .int 0, .int 0, .null, .null])), (q1, .inl (cI, 4, .inl (fun _ => 0)))] H _ := S
  refine k_putF (v := .ref q1) (ws' := [(h0, .inr (4, [.int 0, .int 0, .int 0, .int 0, .int 0, .int 0, .int 0, .int 0, .ref q1, .null])), (q1, .inl (cI, 4, .inl (fun _ => 0)))]) C S dX4_init_8 rfl ffX4_9 hin 0 rfl (Nat.le_of_ble_eq_true rfl) rfl rfl rfl (fun H locs S => ?_)
  refine lv_aload_n C.1 C.2.1 dX4_init_11 rfl (lv_at hl 0 rfl) ?_
  refine lv_iconst (v := 4) C.1 C.2.1 dX4_init_12 (by decide) ?_
  refine k_newI (N := 4) (cells' := 2) (slots' := 8) C S dX4_init_13 rfl (by decide) (by decide) (Nat.le_of_ble_eq_true rfl) rfl rfl (Nat.le_of_ble_eq_true rfl) (Nat.le_of_ble_eq_true rfl) (fun q2 H S => ?_)
  have S : KS A D s [(h0, .inr (4, [.int 0, .int 0, .int 0, .int 0, .int 0, .int 0, .int 0, .int 0, .ref q1, .null])), (q1, .inl (cI, 4, .inl (fun _ => 0))), (q2, .inl (cI, 4, .inl (fun _ => 0)))] H _ := S
  refine k_putF (v := .ref q2) (ws' := [(h0, .inr (4, [.int 0, .int 0, .int 0, .int 0, .int 0, .int 0, .int 0, .int 0, .ref q1, .ref q2])), (q1, .inl (cI, 4, .inl (fun _ => 0))), (q2, .inl (cI, 4, .inl (fun _ => 0)))]) C S dX4_init_15 rfl ffX4_15 hin 0 rfl (Nat.le_of_ble_eq_true rfl) rfl rfl rfl (fun H locs S => ?_)
  exact kret _ _ (fun i => ([h0, q1, q2] : List Nat).getD i 0) 18 dX4_init_18 rfl S

def rwX2 (cI cZ : ClassId) (ad : Nat → Nat) : va_W := [((ad 0), .inr (2, [.ref (ad 1), .int 0, .int 0, .int 0, .int 0])), ((ad 1), .inr (3, [.ref (ad 2), .int 0])), ((ad 2), .inl (cI, 300, .inl (fun _ => 0)))]
set_option maxRecDepth 100000 in
set_option maxHeartbeats 4000000 in
theorem csp_X2 (l : Launch) (D : va_G) (cI cZ : ClassId) : CSp l D cI cZ mX2_init 2 302 2 [.null, .int 0, .int 0, .int 0, .int 0] (rwX2 cI cZ) := by
  refine csp_of (by decide +kernel) rfl rfl rfl ?_
  intro p e s m args below meth c h0 A ls Q hin C S hl kret
  have C : KC RX2 cX2_init 1 A D cI cZ p s m args c := C
  refine lv_aload_n C.1 C.2.1 dX2_init_0 rfl (lv_at hl 0 rfl) ?_
  refine k_obj C dX2_init_1 rfl hl.1 obX2_3 (Nat.le_of_ble_eq_true rfl) (Nat.le_of_ble_eq_true rfl) ?_
  refine lv_aload_n C.1 C.2.1 dX2_init_4 rfl (lv_at hl 0 rfl) ?_
  refine k_new (cells' := 1) (slots' := 2) C S dX2_init_5 rfl knX2_9 rfl rfl (Nat.le_of_ble_eq_true rfl) (Nat.le_of_ble_eq_true rfl) (fun q1 H S => ?_)
  have S : KS A D s ([(h0, .inr (2, [.null, .int 0, .int 0, .int 0, .int 0]))] ++ [(q1, .inr (3, [.null, .int 0]))]) H _ := S
  refine lv_dup C.1 C.2.1 dX2_init_8 rfl ?_
  refine k_ctor (μ' := mX3_init) (cells' := 2) (slots' := 302) (rest := [.ref q1, .ref h0]) C S (csp_X3 l D cI cZ) dX2_init_9 rfl mlX2_11 cbX3_init (imX3_init) rfl rfl ⟨Nat.le_of_ble_eq_true rfl, Nat.le_of_ble_eq_true rfl⟩ rfl rfl (Nat.le_of_ble_eq_true rfl) (Nat.le_of_ble_eq_true rfl) hl.1 (Nat.le_of_ble_eq_true rfl) (fun a1 H locs e0 S2 => ?_)
  subst e0
  have S : KS A D s [(h0, .inr (2, [.null, .int 0, .int 0, .int 0, .int 0])), ((a1 0), .inr (3, [.ref (a1 1), .int 0])), ((a1 1), .inl (cI, 300, .inl (fun _ => 0)))] H _ := S2
  refine k_putF (v := .ref (a1 0)) (ws' := [(h0, .inr (2, [.ref (a1 0), .int 0, .int 0, .int 0, .int 0])), ((a1 0), .inr (3, [.ref (a1 1), .int 0])), ((a1 1), .inl (cI, 300, .inl (fun _ => 0)))]) C S dX2_init_12 rfl ffX2_12 hin 0 rfl (Nat.le_of_ble_eq_true rfl) rfl rfl rfl (fun H locs S => ?_)
  exact kret _ _ (fun i => ([h0, (a1 0), (a1 1)] : List Nat).getD i 0) 15 dX2_init_15 rfl S

def rwX5 (cI cZ : ClassId) (ad : Nat → Nat) : va_W := [((ad 0), .inr (5, [.int 0, .int 0, .int 0, .int 0]))]
set_option maxRecDepth 100000 in
set_option maxHeartbeats 4000000 in
theorem csp_X5 (l : Launch) (D : va_G) (cI cZ : ClassId) : CSp l D cI cZ mX5_init 0 0 5 [.int 0, .int 0, .int 0, .int 0] (rwX5 cI cZ) := by
  refine csp_of (by decide +kernel) rfl rfl rfl ?_
  intro p e s m args below meth c h0 A ls Q hin C S hl kret
  have C : KC RX5 cX5_init 1 A D cI cZ p s m args c := C
  refine lv_aload_n C.1 C.2.1 dX5_init_0 rfl (lv_at hl 0 rfl) ?_
  refine k_obj C dX5_init_1 rfl hl.1 obX5_3 (Nat.le_of_ble_eq_true rfl) (Nat.le_of_ble_eq_true rfl) ?_
  exact kret _ _ (fun i => ([h0] : List Nat).getD i 0) 4 dX5_init_4 rfl S

def rwX1 (cI cZ : ClassId) (ad : Nat → Nat) : va_W := [((ad 0), .inr (1, [.ref (ad 1), .ref (ad 2)])), ((ad 1), .inr (5, [.int 0, .int 0, .int 0, .int 0])), ((ad 2), .inl (cI, 256, .inl (fun _ => 0)))]
set_option maxRecDepth 100000 in
set_option maxHeartbeats 4000000 in
theorem csp_X1 (l : Launch) (D : va_G) (cI cZ : ClassId) : CSp l D cI cZ mX1_init 2 260 1 [.null, .null] (rwX1 cI cZ) := by
  refine csp_of (by decide +kernel) rfl rfl rfl ?_
  intro p e s m args below meth c h0 A ls Q hin C S hl kret
  have C : KC RX1 cX1_init 1 A D cI cZ p s m args c := C
  refine lv_aload_n C.1 C.2.1 dX1_init_0 rfl (lv_at hl 0 rfl) ?_
  refine k_obj C dX1_init_1 rfl hl.1 obX1_3 (Nat.le_of_ble_eq_true rfl) (Nat.le_of_ble_eq_true rfl) ?_
  refine lv_aload_n C.1 C.2.1 dX1_init_4 rfl (lv_at hl 0 rfl) ?_
  refine k_new (cells' := 1) (slots' := 4) C S dX1_init_5 rfl knX1_9 rfl rfl (Nat.le_of_ble_eq_true rfl) (Nat.le_of_ble_eq_true rfl) (fun q1 H S => ?_)
  have S : KS A D s ([(h0, .inr (1, [.null, .null]))] ++ [(q1, .inr (5, [.int 0, .int 0, .int 0, .int 0]))]) H _ := S
  refine lv_dup C.1 C.2.1 dX1_init_8 rfl ?_
  refine k_ctor (μ' := mX5_init) (cells' := 1) (slots' := 4) (rest := [.ref q1, .ref h0]) C S (csp_X5 l D cI cZ) dX1_init_9 rfl mlX1_11 cbX5_init (imX5_init) rfl rfl ⟨Nat.le_of_ble_eq_true rfl, Nat.le_of_ble_eq_true rfl⟩ rfl rfl (Nat.le_of_ble_eq_true rfl) (Nat.le_of_ble_eq_true rfl) hl.1 (Nat.le_of_ble_eq_true rfl) (fun a1 H locs e0 S2 => ?_)
  subst e0
  have S : KS A D s [(h0, .inr (1, [.null, .null])), ((a1 0), .inr (5, [.int 0, .int 0, .int 0, .int 0]))] H _ := S2
  refine k_putF (v := .ref (a1 0)) (ws' := [(h0, .inr (1, [.ref (a1 0), .null])), ((a1 0), .inr (5, [.int 0, .int 0, .int 0, .int 0]))]) C S dX1_init_12 rfl ffX1_12 hin 0 rfl (Nat.le_of_ble_eq_true rfl) rfl rfl rfl (fun H locs S => ?_)
  refine lv_aload_n C.1 C.2.1 dX1_init_15 rfl (lv_at hl 0 rfl) ?_
  refine lv_sipush (v := 256) C.1 C.2.1 dX1_init_16 (by decide) ?_
  refine k_newI (N := 256) (cells' := 2) (slots' := 260) C S dX1_init_19 rfl (by decide) (by decide) (Nat.le_of_ble_eq_true rfl) rfl rfl (Nat.le_of_ble_eq_true rfl) (Nat.le_of_ble_eq_true rfl) (fun q2 H S => ?_)
  have S : KS A D s [(h0, .inr (1, [.ref (a1 0), .null])), ((a1 0), .inr (5, [.int 0, .int 0, .int 0, .int 0])), (q2, .inl (cI, 256, .inl (fun _ => 0)))] H _ := S
  refine k_putF (v := .ref q2) (ws' := [(h0, .inr (1, [.ref (a1 0), .ref q2])), ((a1 0), .inr (5, [.int 0, .int 0, .int 0, .int 0])), (q2, .inl (cI, 256, .inl (fun _ => 0)))]) C S dX1_init_21 rfl ffX1_18 hin 0 rfl (Nat.le_of_ble_eq_true rfl) rfl rfl rfl (fun H locs S => ?_)
  exact kret _ _ (fun i => ([h0, (a1 0), q2] : List Nat).getD i 0) 24 dX1_init_24 rfl S

def rwX0 (cI cZ : ClassId) (ad : Nat → Nat) : va_W := [((ad 0), .inr (0, [.int 0, .int 0, .ref (ad 1), .ref (ad 2), .ref (ad 3), .int 0])), ((ad 1), .inl (cI, 24, .inl (fun _ => 0))), ((ad 2), .inl (cI, 24, .inl (fun _ => 0))), ((ad 3), .inl (cI, 4, .inl (fun _ => 0)))]
set_option maxRecDepth 100000 in
set_option maxHeartbeats 4000000 in
theorem csp_X0 (l : Launch) (D : va_G) (cI cZ : ClassId) : CSp l D cI cZ mX0_init 3 52 0 [.int 0, .int 0, .null, .null, .null, .int 0] (rwX0 cI cZ) := by
  refine csp_of (by decide +kernel) rfl rfl rfl ?_
  intro p e s m args below meth c h0 A ls Q hin C S hl kret
  have C : KC RX0 cX0_init 1 A D cI cZ p s m args c := C
  refine lv_aload_n C.1 C.2.1 dX0_init_0 rfl (lv_at hl 0 rfl) ?_
  refine k_obj C dX0_init_1 rfl hl.1 obX0_3 (Nat.le_of_ble_eq_true rfl) (Nat.le_of_ble_eq_true rfl) ?_
  refine lv_aload_n C.1 C.2.1 dX0_init_4 rfl (lv_at hl 0 rfl) ?_
  refine lv_bipush (v := 24) C.1 C.2.1 dX0_init_5 (by decide) ?_
  refine k_newI (N := 24) (cells' := 1) (slots' := 24) C S dX0_init_7 rfl (by decide) (by decide) (Nat.le_of_ble_eq_true rfl) rfl rfl (Nat.le_of_ble_eq_true rfl) (Nat.le_of_ble_eq_true rfl) (fun q1 H S => ?_)
  have S : KS A D s [(h0, .inr (0, [.int 0, .int 0, .null, .null, .null, .int 0])), (q1, .inl (cI, 24, .inl (fun _ => 0)))] H _ := S
  refine k_putF (v := .ref q1) (ws' := [(h0, .inr (0, [.int 0, .int 0, .ref q1, .null, .null, .int 0])), (q1, .inl (cI, 24, .inl (fun _ => 0)))]) C S dX0_init_9 rfl ffX0_9 hin 0 rfl (Nat.le_of_ble_eq_true rfl) rfl rfl rfl (fun H locs S => ?_)
  refine lv_aload_n C.1 C.2.1 dX0_init_12 rfl (lv_at hl 0 rfl) ?_
  refine lv_bipush (v := 24) C.1 C.2.1 dX0_init_13 (by decide) ?_
  refine k_newI (N := 24) (cells' := 2) (slots' := 48) C S dX0_init_15 rfl (by decide) (by decide) (Nat.le_of_ble_eq_true rfl) rfl rfl (Nat.le_of_ble_eq_true rfl) (Nat.le_of_ble_eq_true rfl) (fun q2 H S => ?_)
  have S : KS A D s [(h0, .inr (0, [.int 0, .int 0, .ref q1, .null, .null, .int 0])), (q1, .inl (cI, 24, .inl (fun _ => 0))), (q2, .inl (cI, 24, .inl (fun _ => 0)))] H _ := S
  refine k_putF (v := .ref q2) (ws' := [(h0, .inr (0, [.int 0, .int 0, .ref q1, .ref q2, .null, .int 0])), (q1, .inl (cI, 24, .inl (fun _ => 0))), (q2, .inl (cI, 24, .inl (fun _ => 0)))]) C S dX0_init_17 rfl ffX0_15 hin 0 rfl (Nat.le_of_ble_eq_true rfl) rfl rfl rfl (fun H locs S => ?_)
  refine lv_aload_n C.1 C.2.1 dX0_init_20 rfl (lv_at hl 0 rfl) ?_
  refine lv_iconst (v := 4) C.1 C.2.1 dX0_init_21 (by decide) ?_
  refine k_newI (N := 4) (cells' := 3) (slots' := 52) C S dX0_init_22 rfl (by decide) (by decide) (Nat.le_of_ble_eq_true rfl) rfl rfl (Nat.le_of_ble_eq_true rfl) (Nat.le_of_ble_eq_true rfl) (fun q3 H S => ?_)
  have S : KS A D s [(h0, .inr (0, [.int 0, .int 0, .ref q1, .ref q2, .null, .int 0])), (q1, .inl (cI, 24, .inl (fun _ => 0))), (q2, .inl (cI, 24, .inl (fun _ => 0))), (q3, .inl (cI, 4, .inl (fun _ => 0)))] H _ := S
  refine k_putF (v := .ref q3) (ws' := [(h0, .inr (0, [.int 0, .int 0, .ref q1, .ref q2, .ref q3, .int 0])), (q1, .inl (cI, 24, .inl (fun _ => 0))), (q2, .inl (cI, 24, .inl (fun _ => 0))), (q3, .inl (cI, 4, .inl (fun _ => 0)))]) C S dX0_init_24 rfl ffX0_18 hin 0 rfl (Nat.le_of_ble_eq_true rfl) rfl rfl rfl (fun H locs S => ?_)
  exact kret _ _ (fun i => ([h0, q1, q2, q3] : List Nat).getD i 0) 27 dX0_init_27 rfl S

def rwX6 (cI cZ : ClassId) (ad : Nat → Nat) : va_W := [((ad 0), .inr (6, [.ref (ad 1), .ref (ad 2), .ref (ad 4), .ref (ad 7), .ref (ad 10), .ref (ad 11), .ref (ad 13), .ref (ad 17), .ref (ad 21), .long 0])), ((ad 1), .inr (2, [.ref (ad 2), .int 0, .int 0, .int 0, .int 0])), ((ad 2), .inr (3, [.ref (ad 3), .int 0])), ((ad 3), .inl (cI, 300, .inl (fun _ => 0))), ((ad 4), .inr (4, [.int 0, .int 0, .int 0, .int 0, .int 0, .int 0, .int 0, .int 0, .ref (ad 5), .ref (ad 6)])), ((ad 5), .inl (cI, 4, .inl (fun _ => 0))), ((ad 6), .inl (cI, 4, .inl (fun _ => 0))), ((ad 7), .inr (4, [.int 0, .int 0, .int 0, .int 0, .int 0, .int 0, .int 0, .int 0, .ref (ad 8), .ref (ad 9)])), ((ad 8), .inl (cI, 4, .inl (fun _ => 0))), ((ad 9), .inl (cI, 4, .inl (fun _ => 0))), ((ad 10), .inr (1, [.ref (ad 11), .ref (ad 12)])), ((ad 11), .inr (5, [.int 0, .int 0, .int 0, .int 0])), ((ad 12), .inl (cI, 256, .inl (fun _ => 0))), ((ad 13), .inr (0, [.int 0, .int 0, .ref (ad 14), .ref (ad 15), .ref (ad 16), .int 0])), ((ad 14), .inl (cI, 24, .inl (fun _ => 0))), ((ad 15), .inl (cI, 24, .inl (fun _ => 0))), ((ad 16), .inl (cI, 4, .inl (fun _ => 0))), ((ad 17), .inr (0, [.int 0, .int 0, .ref (ad 18), .ref (ad 19), .ref (ad 20), .int 0])), ((ad 18), .inl (cI, 24, .inl (fun _ => 0))), ((ad 19), .inl (cI, 24, .inl (fun _ => 0))), ((ad 20), .inl (cI, 4, .inl (fun _ => 0))), ((ad 21), .inr (0, [.int 0, .int 0, .ref (ad 22), .ref (ad 23), .ref (ad 24), .int 0])), ((ad 22), .inl (cI, 24, .inl (fun _ => 0))), ((ad 23), .inl (cI, 24, .inl (fun _ => 0))), ((ad 24), .inl (cI, 4, .inl (fun _ => 0)))]
set_option maxRecDepth 100000 in
set_option maxHeartbeats 4000000 in
theorem csp_X6 (l : Launch) (D : va_G) (cI cZ : ClassId) : CSp l D cI cZ mX6_init 24 779 6 [.null, .null, .null, .null, .null, .null, .null, .null, .null, .long 0] (rwX6 cI cZ) := by
  refine csp_of (by decide +kernel) rfl rfl rfl ?_
  intro p e s m args below meth c h0 A ls Q hin C S hl kret
  have C : KC RX6 cX6_init 1 A D cI cZ p s m args c := C
  refine lv_aload_n C.1 C.2.1 dX6_init_0 rfl (lv_at hl 0 rfl) ?_
  refine k_obj C dX6_init_1 rfl hl.1 obX6_1 (Nat.le_of_ble_eq_true rfl) (Nat.le_of_ble_eq_true rfl) ?_
  refine lv_aload_n C.1 C.2.1 dX6_init_4 rfl (lv_at hl 0 rfl) ?_
  refine k_new (cells' := 1) (slots' := 5) C S dX6_init_5 rfl knX6_7 rfl rfl (Nat.le_of_ble_eq_true rfl) (Nat.le_of_ble_eq_true rfl) (fun q1 H S => ?_)
  have S : KS A D s ([(h0, .inr (6, [.null, .null, .null, .null, .null, .null, .null, .null, .null, .long 0]))] ++ [(q1, .inr (2, [.null, .int 0, .int 0, .int 0, .int 0]))]) H _ := S
  refine lv_dup C.1 C.2.1 dX6_init_8 rfl ?_
  refine k_ctor (μ' := mX2_init) (cells' := 3) (slots' := 307) (rest := [.ref q1, .ref h0]) C S (csp_X2 l D cI cZ) dX6_init_9 rfl mlX6_9 cbX2_init (imX2_init) rfl rfl ⟨Nat.le_of_ble_eq_true rfl, Nat.le_of_ble_eq_true rfl⟩ rfl rfl (Nat.le_of_ble_eq_true rfl) (Nat.le_of_ble_eq_true rfl) hl.1 (Nat.le_of_ble_eq_true rfl) (fun a1 H locs e0 S2 => ?_)
  subst e0
  have S : KS A D s [(h0, .inr (6, [.null, .null, .null, .null, .null, .null, .null, .null, .null, .long 0])), ((a1 0), .inr (2, [.ref (a1 1), .int 0, .int 0, .int 0, .int 0])), ((a1 1), .inr (3, [.ref (a1 2), .int 0])), ((a1 2), .inl (cI, 300, .inl (fun _ => 0)))] H _ := S2
  refine k_putF (v := .ref (a1 0)) (ws' := [(h0, .inr (6, [.ref (a1 0), .null, .null, .null, .null, .null, .null, .null, .null, .long 0])), ((a1 0), .inr (2, [.ref (a1 1), .int 0, .int 0, .int 0, .int 0])), ((a1 1), .inr (3, [.ref (a1 2), .int 0])), ((a1 2), .inl (cI, 300, .inl (fun _ => 0)))]) C S dX6_init_12 rfl ffX6_10 hin 0 rfl (Nat.le_of_ble_eq_true rfl) rfl rfl rfl (fun H locs S => ?_)
  refine lv_aload_n C.1 C.2.1 dX6_init_15 rfl (lv_at hl 0 rfl) ?_
  refine lv_aload_n C.1 C.2.1 dX6_init_16 rfl (lv_at hl 0 rfl) ?_
  refine k_get (v := .ref (a1 0)) C S dX6_init_17 rfl flX6_10 0 rfl rfl ?_
  refine k_get (v := .ref (a1 1)) C S dX6_init_20 rfl flX6_16 1 rfl rfl ?_
  refine k_putF (v := .ref (a1 1)) (ws' := [(h0, .inr (6, [.ref (a1 0), .ref (a1 1), .null, .null, .null, .null, .null, .null, .null, .long 0])), ((a1 0), .inr (2, [.ref (a1 1), .int 0, .int 0, .int 0, .int 0])), ((a1 1), .inr (3, [.ref (a1 2), .int 0])), ((a1 2), .inl (cI, 300, .inl (fun _ => 0)))]) C S dX6_init_23 rfl ffX6_20 hin 0 rfl (Nat.le_of_ble_eq_true rfl) rfl rfl rfl (fun H locs S => ?_)
  refine lv_aload_n C.1 C.2.1 dX6_init_26 rfl (lv_at hl 0 rfl) ?_
  refine k_new (cells' := 4) (slots' := 317) C S dX6_init_27 rfl knX6_21 rfl rfl (Nat.le_of_ble_eq_true rfl) (Nat.le_of_ble_eq_true rfl) (fun q2 H S => ?_)
  have S : KS A D s ([(h0, .inr (6, [.ref (a1 0), .ref (a1 1), .null, .null, .null, .null, .null, .null, .null, .long 0])), ((a1 0), .inr (2, [.ref (a1 1), .int 0, .int 0, .int 0, .int 0])), ((a1 1), .inr (3, [.ref (a1 2), .int 0])), ((a1 2), .inl (cI, 300, .inl (fun _ => 0)))] ++ [(q2, .inr (4, [.int 0, .int 0, .int 0, .int 0, .int 0, .int 0, .int 0, .int 0, .null, .null]))]) H _ := S
  refine lv_dup C.1 C.2.1 dX6_init_30 rfl ?_
  refine k_ctor (μ' := mX4_init) (cells' := 6) (slots' := 325) (rest := [.ref q2, .ref h0]) C S (csp_X4 l D cI cZ) dX6_init_31 rfl mlX6_23 cbX4_init (imX4_init) rfl rfl ⟨Nat.le_of_ble_eq_true rfl, Nat.le_of_ble_eq_true rfl⟩ rfl rfl (Nat.le_of_ble_eq_true rfl) (Nat.le_of_ble_eq_true rfl) hl.1 (Nat.le_of_ble_eq_true rfl) (fun a2 H locs e0 S2 => ?_)
  subst e0
  have S : KS A D s [(h0, .inr (6, [.ref (a1 0), .ref (a1 1), .null, .null, .null, .null, .null, .null, .null, .long 0])), ((a1 0), .inr (2, [.ref (a1 1), .int 0, .int 0, .int 0, .int 0])), ((a1 1), .inr (3, [.ref (a1 2), .int 0])), ((a1 2), .inl (cI, 300, .inl (fun _ => 0))), ((a2 0), .inr (4, [.int 0, .int 0, .int 0, .int 0, .int 0, .int 0, .int 0, .int 0, .ref (a2 1), .ref (a2 2)])), ((a2 1), .inl (cI, 4, .inl (fun _ => 0))), ((a2 2), .inl (cI, 4, .inl (fun _ => 0)))] H _ := S2
  refine k_putF (v := .ref (a2 0)) (ws' := [(h0, .inr (6, [.ref (a1 0), .ref (a1 1), .ref (a2 0), .null, .null, .null, .null, .null, .null, .long 0])), ((a1 0), .inr (2, [.ref (a1 1), .int 0, .int 0, .int 0, .int 0])), ((a1 1), .inr (3, [.ref (a1 2), .int 0])), ((a1 2), .inl (cI, 300, .inl (fun _ => 0))), ((a2 0), .inr (4, [.int 0, .int 0, .int 0, .int 0, .int 0, .int 0, .int 0, .int 0, .ref (a2 1), .ref (a2 2)])), ((a2 1), .inl (cI, 4, .inl (fun _ => 0))), ((a2 2), .inl (cI, 4, .inl (fun _ => 0)))]) C S dX6_init_34 rfl ffX6_24 hin 0 rfl (Nat.le_of_ble_eq_true rfl) rfl rfl rfl (fun H locs S => ?_)
  refine lv_aload_n C.1 C.2.1 dX6_init_37 rfl (lv_at hl 0 rfl) ?_
  refine k_new (cells' := 7) (slots' := 335) C S dX6_init_38 rfl knX6_21 rfl rfl (Nat.le_of_ble_eq_true rfl) (Nat.le_of_ble_eq_true rfl) (fun q3 H S => ?_)
  have S : KS A D s ([(h0, .inr (6, [.ref (a1 0), .ref (a1 1), .ref (a2 0), .null, .null, .null, .null, .null, .null, .long 0])), ((a1 0), .inr (2, [.ref (a1 1), .int 0, .int 0, .int 0, .int 0])), ((a1 1), .inr (3, [.ref (a1 2), .int 0])), ((a1 2), .inl (cI, 300, .inl (fun _ => 0))), ((a2 0), .inr (4, [.int 0, .int 0, .int 0, .int 0, .int 0, .int 0, .int 0, .int 0, .ref (a2 1), .ref (a2 2)])), ((a2 1), .inl (cI, 4, .inl (fun _ => 0))), ((a2 2), .inl (cI, 4, .inl (fun _ => 0)))] ++ [(q3, .inr (4, [.int 0, .int 0, .int 0, .int 0, .int 0, .int 0, .int 0, .int 0, .null, .null]))]) H _ := S
  refine lv_dup C.1 C.2.1 dX6_init_41 rfl ?_
  refine k_ctor (μ' := mX4_init) (cells' := 9) (slots' := 343) (rest := [.ref q3, .ref h0]) C S (csp_X4 l D cI cZ) dX6_init_42 rfl mlX6_23 cbX4_init (imX4_init) rfl rfl ⟨Nat.le_of_ble_eq_true rfl, Nat.le_of_ble_eq_true rfl⟩ rfl rfl (Nat.le_of_ble_eq_true rfl) (Nat.le_of_ble_eq_true rfl) hl.1 (Nat.le_of_ble_eq_true rfl) (fun a3 H locs e0 S2 => ?_)
  subst e0
  have S : KS A D s [(h0, .inr (6, [.ref (a1 0), .ref (a1 1), .ref (a2 0), .null, .null, .null, .null, .null, .null, .long 0])), ((a1 0), .inr (2, [.ref (a1 1), .int 0, .int 0, .int 0, .int 0])), ((a1 1), .inr (3, [.ref (a1 2), .int 0])), ((a1 2), .inl (cI, 300, .inl (fun _ => 0))), ((a2 0), .inr (4, [.int 0, .int 0, .int 0, .int 0, .int 0, .int 0, .int 0, .int 0, .ref (a2 1), .ref (a2 2)])), ((a2 1), .inl (cI, 4, .inl (fun _ => 0))), ((a2 2), .inl (cI, 4, .inl (fun _ => 0))), ((a3 0), .inr (4, [.int 0, .int 0, .int 0, .int 0, .int 0, .int 0, .int 0, .int 0, .ref (a3 1), .ref (a3 2)])), ((a3 1), .inl (cI, 4, .inl (fun _ => 0))), ((a3 2), .inl (cI, 4, .inl (fun _ => 0)))] H _ := S2
  refine k_putF (v := .ref (a3 0)) (ws' := [(h0, .inr (6, [.ref (a1 0), .ref (a1 1), .ref (a2 0), .ref (a3 0), .null, .null, .null, .null, .null, .long 0])), ((a1 0), .inr (2, [.ref (a1 1), .int 0, .int 0, .int 0, .int 0])), ((a1 1), .inr (3, [.ref (a1 2), .int 0])), ((a1 2), .inl (cI, 300, .inl (fun _ => 0))), ((a2 0), .inr (4, [.int 0, .int 0, .int 0, .int 0, .int 0, .int 0, .int 0, .int 0, .ref (a2 1), .ref (a2 2)])), ((a2 1), .inl (cI, 4, .inl (fun _ => 0))), ((a2 2), .inl (cI, 4, .inl (fun _ => 0))), ((a3 0), .inr (4, [.int 0, .int 0, .int 0, .int 0, .int 0, .int 0, .int 0, .int 0, .ref (a3 1), .ref (a3 2)])), ((a3 1), .inl (cI, 4, .inl (fun _ => 0))), ((a3 2), .inl (cI, 4, .inl (fun _ => 0)))]) C S dX6_init_45 rfl ffX6_28 hin 0 rfl (Nat.le_of_ble_eq_true rfl) rfl rfl rfl (fun H locs S => ?_)
  refine lv_aload_n C.1 C.2.1 dX6_init_48 rfl (lv_at hl 0 rfl) ?_
  refine k_new (cells' := 10) (slots' := 345) C S dX6_init_49 rfl knX6_31 rfl rfl (Nat.le_of_ble_eq_true rfl) (Nat.le_of_ble_eq_true rfl) (fun q4 H S => ?_)
  have S : KS A D s ([(h0, .inr (6, [.ref (a1 0), .ref (a1 1), .ref (a2 0), .ref (a3 0), .null, .null, .null, .null, .null, .long 0])), ((a1 0), .inr (2, [.ref (a1 1), .int 0, .int 0, .int 0, .int 0])), ((a1 1), .inr (3, [.ref (a1 2), .int 0])), ((a1 2), .inl (cI, 300, .inl (fun _ => 0))), ((a2 0), .inr (4, [.int 0, .int 0, .int 0, .int 0, .int 0, .int 0, .int 0, .int 0, .ref (a2 1), .ref (a2 2)])), ((a2 1), .inl (cI, 4, .inl (fun _ => 0))), ((a2 2), .inl (cI, 4, .inl (fun _ => 0))), ((a3 0), .inr (4, [.int 0, .int 0, .int 0, .int 0, .int 0, .int 0, .int 0, .int 0, .ref (a3 1), .ref (a3 2)])), ((a3 1), .inl (cI, 4, .inl (fun _ => 0))), ((a3 2), .inl (cI, 4, .inl (fun _ => 0)))] ++ [(q4, .inr (1, [.null, .null]))]) H _ := S
  refine lv_dup C.1 C.2.1 dX6_init_52 rfl ?_
  refine k_ctor (μ' := mX1_init) (cells' := 12) (slots' := 605) (rest := [.ref q4, .ref h0]) C S (csp_X1 l D cI cZ) dX6_init_53 rfl mlX6_33 cbX1_init (imX1_init) rfl rfl ⟨Nat.le_of_ble_eq_true rfl, Nat.le_of_ble_eq_true rfl⟩ rfl rfl (Nat.le_of_ble_eq_true rfl) (Nat.le_of_ble_eq_true rfl) hl.1 (Nat.le_of_ble_eq_true rfl) (fun a4 H locs e0 S2 => ?_)
  subst e0
  have S : KS A D s [(h0, .inr (6, [.ref (a1 0), .ref (a1 1), .ref (a2 0), .ref (a3 0), .null, .null, .null, .null, .null, .long 0])), ((a1 0), .inr (2, [.ref (a1 1), .int 0, .int 0, .int 0, .int 0])), ((a1 1), .inr (3, [.ref (a1 2), .int 0])), ((a1 2), .inl (cI, 300, .inl (fun _ => 0))), ((a2 0), .inr (4, [.int 0, .int 0, .int 0, .int 0, .int 0, .int 0, .int 0, .int 0, .ref (a2 1), .ref (a2 2)])), ((a2 1), .inl (cI, 4, .inl (fun _ => 0))), ((a2 2), .inl (cI, 4, .inl (fun _ => 0))), ((a3 0), .inr (4, [.int 0, .int 0, .int 0, .int 0, .int 0, .int 0, .int 0, .int 0, .ref (a3 1), .ref (a3 2)])), ((a3 1), .inl (cI, 4, .inl (fun _ => 0))), ((a3 2), .inl (cI, 4, .inl (fun _ => 0))), ((a4 0), .inr (1, [.ref (a4 1), .ref (a4 2)])), ((a4 1), .inr (5, [.int 0, .int 0, .int 0, .int 0])), ((a4 2), .inl (cI, 256, .inl (fun _ => 0)))] H _ := S2
  refine k_putF (v := .ref (a4 0)) (ws' := [(h0, .inr (6, [.ref (a1 0), .ref (a1 1), .ref (a2 0), .ref (a3 0), .ref (a4 0), .null, .null, .null, .null, .long 0])), ((a1 0), .inr (2, [.ref (a1 1), .int 0, .int 0, .int 0, .int 0])), ((a1 1), .inr (3, [.ref (a1 2), .int 0])), ((a1 2), .inl (cI, 300, .inl (fun _ => 0))), ((a2 0), .inr (4, [.int 0, .int 0, .int 0, .int 0, .int 0, .int 0, .int 0, .int 0, .ref (a2 1), .ref (a2 2)])), ((a2 1), .inl (cI, 4, .inl (fun _ => 0))), ((a2 2), .inl (cI, 4, .inl (fun _ => 0))), ((a3 0), .inr (4, [.int 0, .int 0, .int 0, .int 0, .int 0, .int 0, .int 0, .int 0, .ref (a3 1), .ref (a3 2)])), ((a3 1), .inl (cI, 4, .inl (fun _ => 0))), ((a3 2), .inl (cI, 4, .inl (fun _ => 0))), ((a4 0), .inr (1, [.ref (a4 1), .ref (a4 2)])), ((a4 1), .inr (5, [.int 0, .int 0, .int 0, .int 0])), ((a4 2), .inl (cI, 256, .inl (fun _ => 0)))]) C S dX6_init_56 rfl ffX6_34 hin 0 rfl (Nat.le_of_ble_eq_true rfl) rfl rfl rfl (fun H locs S => ?_)
  refine lv_aload_n C.1 C.2.1 dX6_init_59 rfl (lv_at hl 0 rfl) ?_
  refine lv_aload_n C.1 C.2.1 dX6_init_60 rfl (lv_at hl 0 rfl) ?_
  refine k_get (v := .ref (a4 0)) C S dX6_init_61 rfl flX6_34 0 rfl rfl ?_
  refine k_get (v := .ref (a4 1)) C S dX6_init_64 rfl flX6_38 10 rfl rfl ?_
  refine k_putF (v := .ref (a4 1)) (ws' := [(h0, .inr (6, [.ref (a1 0), .ref (a1 1), .ref (a2 0), .ref (a3 0), .ref (a4 0), .ref (a4 1), .null, .null, .null, .long 0])), ((a1 0), .inr (2, [.ref (a1 1), .int 0, .int 0, .int 0, .int 0])), ((a1 1), .inr (3, [.ref (a1 2), .int 0])), ((a1 2), .inl (cI, 300, .inl (fun _ => 0))), ((a2 0), .inr (4, [.int 0, .int 0, .int 0, .int 0, .int 0, .int 0, .int 0, .int 0, .ref (a2 1), .ref (a2 2)])), ((a2 1), .inl (cI, 4, .inl (fun _ => 0))), ((a2 2), .inl (cI, 4, .inl (fun _ => 0))), ((a3 0), .inr (4, [.int 0, .int 0, .int 0, .int 0, .int 0, .int 0, .int 0, .int 0, .ref (a3 1), .ref (a3 2)])), ((a3 1), .inl (cI, 4, .inl (fun _ => 0))), ((a3 2), .inl (cI, 4, .inl (fun _ => 0))), ((a4 0), .inr (1, [.ref (a4 1), .ref (a4 2)])), ((a4 1), .inr (5, [.int 0, .int 0, .int 0, .int 0])), ((a4 2), .inl (cI, 256, .inl (fun _ => 0)))]) C S dX6_init_67 rfl ffX6_42 hin 0 rfl (Nat.le_of_ble_eq_true rfl) rfl rfl rfl (fun H locs S => ?_)
  refine lv_aload_n C.1 C.2.1 dX6_init_70 rfl (lv_at hl 0 rfl) ?_
  refine k_new (cells' := 13) (slots' := 611) C S dX6_init_71 rfl knX6_43 rfl rfl (Nat.le_of_ble_eq_true rfl) (Nat.le_of_ble_eq_true rfl) (fun q5 H S => ?_)
  have S : KS A D s ([(h0, .inr (6, [.ref (a1 0), .ref (a1 1), .ref (a2 0), .ref (a3 0), .ref (a4 0), .ref (a4 1), .null, .null, .null, .long 0])), ((a1 0), .inr (2, [.ref (a1 1), .int 0, .int 0, .int 0, .int 0])), ((a1 1), .inr (3, [.ref (a1 2), .int 0])), ((a1 2), .inl (cI, 300, .inl (fun _ => 0))), ((a2 0), .inr (4, [.int 0, .int 0, .int 0, .int 0, .int 0, .int 0, .int 0, .int 0, .ref (a2 1), .ref (a2 2)])), ((a2 1), .inl (cI, 4, .inl (fun _ => 0))), ((a2 2), .inl (cI, 4, .inl (fun _ => 0))), ((a3 0), .inr (4, [.int 0, .int 0, .int 0, .int 0, .int 0, .int 0, .int 0, .int 0, .ref (a3 1), .ref (a3 2)])), ((a3 1), .inl (cI, 4, .inl (fun _ => 0))), ((a3 2), .inl (cI, 4, .inl (fun _ => 0))), ((a4 0), .inr (1, [.ref (a4 1), .ref (a4 2)])), ((a4 1), .inr (5, [.int 0, .int 0, .int 0, .int 0])), ((a4 2), .inl (cI, 256, .inl (fun _ => 0)))] ++ [(q5, .inr (0, [.int 0, .int 0, .null, .null, .null, .int 0]))]) H _ := S
  refine lv_dup C.1 C.2.1 dX6_init_74 rfl ?_
  refine k_ctor (μ' := mX0_init) (cells' := 16) (slots' := 663) (rest := [.ref q5, .ref h0]) C S (csp_X0 l D cI cZ) dX6_init_75 rfl mlX6_45 cbX0_init (imX0_init) rfl rfl ⟨Nat.le_of_ble_eq_true rfl, Nat.le_of_ble_eq_true rfl⟩ rfl rfl (Nat.le_of_ble_eq_true rfl) (Nat.le_of_ble_eq_true rfl) hl.1 (Nat.le_of_ble_eq_true rfl) (fun a5 H locs e0 S2 => ?_)
  subst e0
  have S : KS A D s [(h0, .inr (6, [.ref (a1 0), .ref (a1 1), .ref (a2 0), .ref (a3 0), .ref (a4 0), .ref (a4 1), .null, .null, .null, .long 0])), ((a1 0), .inr (2, [.ref (a1 1), .int 0, .int 0, .int 0, .int 0])), ((a1 1), .inr (3, [.ref (a1 2), .int 0])), ((a1 2), .inl (cI, 300, .inl (fun _ => 0))), ((a2 0), .inr (4, [.int 0, .int 0, .int 0, .int 0, .int 0, .int 0, .int 0, .int 0, .ref (a2 1), .ref (a2 2)])), ((a2 1), .inl (cI, 4, .inl (fun _ => 0))), ((a2 2), .inl (cI, 4, .inl (fun _ => 0))), ((a3 0), .inr (4, [.int 0, .int 0, .int 0, .int 0, .int 0, .int 0, .int 0, .int 0, .ref (a3 1), .ref (a3 2)])), ((a3 1), .inl (cI, 4, .inl (fun _ => 0))), ((a3 2), .inl (cI, 4, .inl (fun _ => 0))), ((a4 0), .inr (1, [.ref (a4 1), .ref (a4 2)])), ((a4 1), .inr (5, [.int 0, .int 0, .int 0, .int 0])), ((a4 2), .inl (cI, 256, .inl (fun _ => 0))), ((a5 0), .inr (0, [.int 0, .int 0, .ref (a5 1), .ref (a5 2), .ref (a5 3), .int 0])), ((a5 1), .inl (cI, 24, .inl (fun _ => 0))), ((a5 2), .inl (cI, 24, .inl (fun _ => 0))), ((a5 3), .inl (cI, 4, .inl (fun _ => 0)))] H _ := S2
  refine k_putF (v := .ref (a5 0)) (ws' := [(h0, .inr (6, [.ref (a1 0), .ref (a1 1), .ref (a2 0), .ref (a3 0), .ref (a4 0), .ref (a4 1), .ref (a5 0), .null, .null, .long 0])), ((a1 0), .inr (2, [.ref (a1 1), .int 0, .int 0, .int 0, .int 0])), ((a1 1), .inr (3, [.ref (a1 2), .int 0])), ((a1 2), .inl (cI, 300, .inl (fun _ => 0))), ((a2 0), .inr (4, [.int 0, .int 0, .int 0, .int 0, .int 0, .int 0, .int 0, .int 0, .ref (a2 1), .ref (a2 2)])), ((a2 1), .inl (cI, 4, .inl (fun _ => 0))), ((a2 2), .inl (cI, 4, .inl (fun _ => 0))), ((a3 0), .inr (4, [.int 0, .int 0, .int 0, .int 0, .int 0, .int 0, .int 0, .int 0, .ref (a3 1), .ref (a3 2)])), ((a3 1), .inl (cI, 4, .inl (fun _ => 0))), ((a3 2), .inl (cI, 4, .inl (fun _ => 0))), ((a4 0), .inr (1, [.ref (a4 1), .ref (a4 2)])), ((a4 1), .inr (5, [.int 0, .int 0, .int 0, .int 0])), ((a4 2), .inl (cI, 256, .inl (fun _ => 0))), ((a5 0), .inr (0, [.int 0, .int 0, .ref (a5 1), .ref (a5 2), .ref (a5 3), .int 0])), ((a5 1), .inl (cI, 24, .inl (fun _ => 0))), ((a5 2), .inl (cI, 24, .inl (fun _ => 0))), ((a5 3), .inl (cI, 4, .inl (fun _ => 0)))]) C S dX6_init_78 rfl ffX6_46 hin 0 rfl (Nat.le_of_ble_eq_true rfl) rfl rfl rfl (fun H locs S => ?_)
  refine lv_aload_n C.1 C.2.1 dX6_init_81 rfl (lv_at hl 0 rfl) ?_
  refine k_new (cells' := 17) (slots' := 669) C S dX6_init_82 rfl knX6_43 rfl rfl (Nat.le_of_ble_eq_true rfl) (Nat.le_of_ble_eq_true rfl) (fun q6 H S => ?_)
  have S : KS A D s ([(h0, .inr (6, [.ref (a1 0), .ref (a1 1), .ref (a2 0), .ref (a3 0), .ref (a4 0), .ref (a4 1), .ref (a5 0), .null, .null, .long 0])), ((a1 0), .inr (2, [.ref (a1 1), .int 0, .int 0, .int 0, .int 0])), ((a1 1), .inr (3, [.ref (a1 2), .int 0])), ((a1 2), .inl (cI, 300, .inl (fun _ => 0))), ((a2 0), .inr (4, [.int 0, .int 0, .int 0, .int 0, .int 0, .int 0, .int 0, .int 0, .ref (a2 1), .ref (a2 2)])), ((a2 1), .inl (cI, 4, .inl (fun _ => 0))), ((a2 2), .inl (cI, 4, .inl (fun _ => 0))), ((a3 0), .inr (4, [.int 0, .int 0, .int 0, .int 0, .int 0, .int 0, .int 0, .int 0, .ref (a3 1), .ref (a3 2)])), ((a3 1), .inl (cI, 4, .inl (fun _ => 0))), ((a3 2), .inl (cI, 4, .inl (fun _ => 0))), ((a4 0), .inr (1, [.ref (a4 1), .ref (a4 2)])), ((a4 1), .inr (5, [.int 0, .int 0, .int 0, .int 0])), ((a4 2), .inl (cI, 256, .inl (fun _ => 0))), ((a5 0), .inr (0, [.int 0, .int 0, .ref (a5 1), .ref (a5 2), .ref (a5 3), .int 0])), ((a5 1), .inl (cI, 24, .inl (fun _ => 0))), ((a5 2), .inl (cI, 24, .inl (fun _ => 0))), ((a5 3), .inl (cI, 4, .inl (fun _ => 0)))] ++ [(q6, .inr (0, [.int 0, .int 0, .null, .null, .null, .int 0]))]) H _ := S
  refine lv_dup C.1 C.2.1 dX6_init_85 rfl ?_
  refine k_ctor (μ' := mX0_init) (cells' := 20) (slots' := 721) (rest := [.ref q6, .ref h0]) C S (csp_X0 l D cI cZ) dX6_init_86 rfl mlX6_45 cbX0_init (imX0_init) rfl rfl ⟨Nat.le_of_ble_eq_true rfl, Nat.le_of_ble_eq_true rfl⟩ rfl rfl (Nat.le_of_ble_eq_true rfl) (Nat.le_of_ble_eq_true rfl) hl.1 (Nat.le_of_ble_eq_true rfl) (fun a6 H locs e0 S2 => ?_)
  subst e0
  have S : KS A D s [(h0, .inr (6, [.ref (a1 0), .ref (a1 1), .ref (a2 0), .ref (a3 0), .ref (a4 0), .ref (a4 1), .ref (a5 0), .null, .null, .long 0])), ((a1 0), .inr (2, [.ref (a1 1), .int 0, .int 0, .int 0, .int 0])), ((a1 1), .inr (3, [.ref (a1 2), .int 0])), ((a1 2), .inl (cI, 300, .inl (fun _ => 0))), ((a2 0), .inr (4, [.int 0, .int 0, .int 0, .int 0, .int 0, .int 0, .int 0, .int 0, .ref (a2 1), .ref (a2 2)])), ((a2 1), .inl (cI, 4, .inl (fun _ => 0))), ((a2 2), .inl (cI, 4, .inl (fun _ => 0))), ((a3 0), .inr (4, [.int 0, .int 0, .int 0, .int 0, .int 0, .int 0, .int 0, .int 0, .ref (a3 1), .ref (a3 2)])), ((a3 1), .inl (cI, 4, .inl (fun _ => 0))), ((a3 2), .inl (cI, 4, .inl (fun _ => 0))), ((a4 0), .inr (1, [.ref (a4 1), .ref (a4 2)])), ((a4 1), .inr (5, [.int 0, .int 0, .int 0, .int 0])), ((a4 2), .inl (cI, 256, .inl (fun _ => 0))), ((a5 0), .inr (0, [.int 0, .int 0, .ref (a5 1), .ref (a5 2), .ref (a5 3), .int 0])), ((a5 1), .inl (cI, 24, .inl (fun _ => 0))), ((a5 2), .inl (cI, 24, .inl (fun _ => 0))), ((a5 3), .inl (cI, 4, .inl (fun _ => 0))), ((a6 0), .inr (0, [.int 0, .int 0, .ref (a6 1), .ref (a6 2), .ref (a6 3), .int 0])), ((a6 1), .inl (cI, 24, .inl (fun _ => 0))), ((a6 2), .inl (cI, 24, .inl (fun _ => 0))), ((a6 3), .inl (cI, 4, .inl (fun _ => 0)))] H _ := S2
  refine k_putF (v := .ref (a6 0)) (ws' := [(h0, .inr (6, [.ref (a1 0), .ref (a1 1), .ref (a2 0), .ref (a3 0), .ref (a4 0), .ref (a4 1), .ref (a5 0), .ref (a6 0), .null, .long 0])), ((a1 0), .inr (2, [.ref (a1 1), .int 0, .int 0, .int 0, .int 0])), ((a1 1), .inr (3, [.ref (a1 2), .int 0])), ((a1 2), .inl (cI, 300, .inl (fun _ => 0))), ((a2 0), .inr (4, [.int 0, .int 0, .int 0, .int 0, .int 0, .int 0, .int 0, .int 0, .ref (a2 1), .ref (a2 2)])), ((a2 1), .inl (cI, 4, .inl (fun _ => 0))), ((a2 2), .inl (cI, 4, .inl (fun _ => 0))), ((a3 0), .inr (4, [.int 0, .int 0, .int 0, .int 0, .int 0, .int 0, .int 0, .int 0, .ref (a3 1), .ref (a3 2)])), ((a3 1), .inl (cI, 4, .inl (fun _ => 0))), ((a3 2), .inl (cI, 4, .inl (fun _ => 0))), ((a4 0), .inr (1, [.ref (a4 1), .ref (a4 2)])), ((a4 1), .inr (5, [.int 0, .int 0, .int 0, .int 0])), ((a4 2), .inl (cI, 256, .inl (fun _ => 0))), ((a5 0), .inr (0, [.int 0, .int 0, .ref (a5 1), .ref (a5 2), .ref (a5 3), .int 0])), ((a5 1), .inl (cI, 24, .inl (fun _ => 0))), ((a5 2), .inl (cI, 24, .inl (fun _ => 0))), ((a5 3), .inl (cI, 4, .inl (fun _ => 0))), ((a6 0), .inr (0, [.int 0, .int 0, .ref (a6 1), .ref (a6 2), .ref (a6 3), .int 0])), ((a6 1), .inl (cI, 24, .inl (fun _ => 0))), ((a6 2), .inl (cI, 24, .inl (fun _ => 0))), ((a6 3), .inl (cI, 4, .inl (fun _ => 0)))]) C S dX6_init_89 rfl ffX6_50 hin 0 rfl (Nat.le_of_ble_eq_true rfl) rfl rfl rfl (fun H locs S => ?_)
  refine lv_aload_n C.1 C.2.1 dX6_init_92 rfl (lv_at hl 0 rfl) ?_
  refine k_new (cells' := 21) (slots' := 727) C S dX6_init_93 rfl knX6_43 rfl rfl (Nat.le_of_ble_eq_true rfl) (Nat.le_of_ble_eq_true rfl) (fun q7 H S => ?_)
  have S : KS A D s ([(h0, .inr (6, [.ref (a1 0), .ref (a1 1), .ref (a2 0), .ref (a3 0), .ref (a4 0), .ref (a4 1), .ref (a5 0), .ref (a6 0), .null, .long 0])), ((a1 0), .inr (2, [.ref (a1 1), .int 0, .int 0, .int 0, .int 0])), ((a1 1), .inr (3, [.ref (a1 2), .int 0])), ((a1 2), .inl (cI, 300, .inl (fun _ => 0))), ((a2 0), .inr (4, [.int 0, .int 0, .int 0, .int 0, .int 0, .int 0, .int 0, .int 0, .ref (a2 1), .ref (a2 2)])), ((a2 1), .inl (cI, 4, .inl (fun _ => 0))), ((a2 2), .inl (cI, 4, .inl (fun _ => 0))), ((a3 0), .inr (4, [.int 0, .int 0, .int 0, .int 0, .int 0, .int 0, .int 0, .int 0, .ref (a3 1), .ref (a3 2)])), ((a3 1), .inl (cI, 4, .inl (fun _ => 0))), ((a3 2), .inl (cI, 4, .inl (fun _ => 0))), ((a4 0), .inr (1, [.ref (a4 1), .ref (a4 2)])), ((a4 1), .inr (5, [.int 0, .int 0, .int 0, .int 0])), ((a4 2), .inl (cI, 256, .inl (fun _ => 0))), ((a5 0), .inr (0, [.int 0, .int 0, .ref (a5 1), .ref (a5 2), .ref (a5 3), .int 0])), ((a5 1), .inl (cI, 24, .inl (fun _ => 0))), ((a5 2), .inl (cI, 24, .inl (fun _ => 0))), ((a5 3), .inl (cI, 4, .inl (fun _ => 0))), ((a6 0), .inr (0, [.int 0, .int 0, .ref (a6 1), .ref (a6 2), .ref (a6 3), .int 0])), ((a6 1), .inl (cI, 24, .inl (fun _ => 0))), ((a6 2), .inl (cI, 24, .inl (fun _ => 0))), ((a6 3), .inl (cI, 4, .inl (fun _ => 0)))] ++ [(q7, .inr (0, [.int 0, .int 0, .null, .null, .null, .int 0]))]) H _ := S
  refine lv_dup C.1 C.2.1 dX6_init_96 rfl ?_
  refine k_ctor (μ' := mX0_init) (cells' := 24) (slots' := 779) (rest := [.ref q7, .ref h0]) C S (csp_X0 l D cI cZ) dX6_init_97 rfl mlX6_45 cbX0_init (imX0_init) rfl rfl ⟨Nat.le_of_ble_eq_true rfl, Nat.le_of_ble_eq_true rfl⟩ rfl rfl (Nat.le_of_ble_eq_true rfl) (Nat.le_of_ble_eq_true rfl) hl.1 (Nat.le_of_ble_eq_true rfl) (fun a7 H locs e0 S2 => ?_)
  subst e0
  have S : KS A D s [(h0, .inr (6, [.ref (a1 0), .ref (a1 1), .ref (a2 0), .ref (a3 0), .ref (a4 0), .ref (a4 1), .ref (a5 0), .ref (a6 0), .null, .long 0])), ((a1 0), .inr (2, [.ref (a1 1), .int 0, .int 0, .int 0, .int 0])), ((a1 1), .inr (3, [.ref (a1 2), .int 0])), ((a1 2), .inl (cI, 300, .inl (fun _ => 0))), ((a2 0), .inr (4, [.int 0, .int 0, .int 0, .int 0, .int 0, .int 0, .int 0, .int 0, .ref (a2 1), .ref (a2 2)])), ((a2 1), .inl (cI, 4, .inl (fun _ => 0))), ((a2 2), .inl (cI, 4, .inl (fun _ => 0))), ((a3 0), .inr (4, [.int 0, .int 0, .int 0, .int 0, .int 0, .int 0, .int 0, .int 0, .ref (a3 1), .ref (a3 2)])), ((a3 1), .inl (cI, 4, .inl (fun _ => 0))), ((a3 2), .inl (cI, 4, .inl (fun _ => 0))), ((a4 0), .inr (1, [.ref (a4 1), .ref (a4 2)])), ((a4 1), .inr (5, [.int 0, .int 0, .int 0, .int 0])), ((a4 2), .inl (cI, 256, .inl (fun _ => 0))), ((a5 0), .inr (0, [.int 0, .int 0, .ref (a5 1), .ref (a5 2), .ref (a5 3), .int 0])), ((a5 1), .inl (cI, 24, .inl (fun _ => 0))), ((a5 2), .inl (cI, 24, .inl (fun _ => 0))), ((a5 3), .inl (cI, 4, .inl (fun _ => 0))), ((a6 0), .inr (0, [.int 0, .int 0, .ref (a6 1), .ref (a6 2), .ref (a6 3), .int 0])), ((a6 1), .inl (cI, 24, .inl (fun _ => 0))), ((a6 2), .inl (cI, 24, .inl (fun _ => 0))), ((a6 3), .inl (cI, 4, .inl (fun _ => 0))), ((a7 0), .inr (0, [.int 0, .int 0, .ref (a7 1), .ref (a7 2), .ref (a7 3), .int 0])), ((a7 1), .inl (cI, 24, .inl (fun _ => 0))), ((a7 2), .inl (cI, 24, .inl (fun _ => 0))), ((a7 3), .inl (cI, 4, .inl (fun _ => 0)))] H _ := S2
  refine k_putF (v := .ref (a7 0)) (ws' := [(h0, .inr (6, [.ref (a1 0), .ref (a1 1), .ref (a2 0), .ref (a3 0), .ref (a4 0), .ref (a4 1), .ref (a5 0), .ref (a6 0), .ref (a7 0), .long 0])), ((a1 0), .inr (2, [.ref (a1 1), .int 0, .int 0, .int 0, .int 0])), ((a1 1), .inr (3, [.ref (a1 2), .int 0])), ((a1 2), .inl (cI, 300, .inl (fun _ => 0))), ((a2 0), .inr (4, [.int 0, .int 0, .int 0, .int 0, .int 0, .int 0, .int 0, .int 0, .ref (a2 1), .ref (a2 2)])), ((a2 1), .inl (cI, 4, .inl (fun _ => 0))), ((a2 2), .inl (cI, 4, .inl (fun _ => 0))), ((a3 0), .inr (4, [.int 0, .int 0, .int 0, .int 0, .int 0, .int 0, .int 0, .int 0, .ref (a3 1), .ref (a3 2)])), ((a3 1), .inl (cI, 4, .inl (fun _ => 0))), ((a3 2), .inl (cI, 4, .inl (fun _ => 0))), ((a4 0), .inr (1, [.ref (a4 1), .ref (a4 2)])), ((a4 1), .inr (5, [.int 0, .int 0, .int 0, .int 0])), ((a4 2), .inl (cI, 256, .inl (fun _ => 0))), ((a5 0), .inr (0, [.int 0, .int 0, .ref (a5 1), .ref (a5 2), .ref (a5 3), .int 0])), ((a5 1), .inl (cI, 24, .inl (fun _ => 0))), ((a5 2), .inl (cI, 24, .inl (fun _ => 0))), ((a5 3), .inl (cI, 4, .inl (fun _ => 0))), ((a6 0), .inr (0, [.int 0, .int 0, .ref (a6 1), .ref (a6 2), .ref (a6 3), .int 0])), ((a6 1), .inl (cI, 24, .inl (fun _ => 0))), ((a6 2), .inl (cI, 24, .inl (fun _ => 0))), ((a6 3), .inl (cI, 4, .inl (fun _ => 0))), ((a7 0), .inr (0, [.int 0, .int 0, .ref (a7 1), .ref (a7 2), .ref (a7 3), .int 0])), ((a7 1), .inl (cI, 24, .inl (fun _ => 0))), ((a7 2), .inl (cI, 24, .inl (fun _ => 0))), ((a7 3), .inl (cI, 4, .inl (fun _ => 0)))]) C S dX6_init_100 rfl ffX6_53 hin 0 rfl (Nat.le_of_ble_eq_true rfl) rfl rfl rfl (fun H locs S => ?_)
  refine lv_aload_n C.1 C.2.1 dX6_init_103 rfl (lv_at hl 0 rfl) ?_
  refine lv_lconst (v := 0) C.1 C.2.1 dX6_init_104 rfl ?_
  refine k_put (v := .long 0) (ws' := [(h0, .inr (6, [.ref (a1 0), .ref (a1 1), .ref (a2 0), .ref (a3 0), .ref (a4 0), .ref (a4 1), .ref (a5 0), .ref (a6 0), .ref (a7 0), .long 0])), ((a1 0), .inr (2, [.ref (a1 1), .int 0, .int 0, .int 0, .int 0])), ((a1 1), .inr (3, [.ref (a1 2), .int 0])), ((a1 2), .inl (cI, 300, .inl (fun _ => 0))), ((a2 0), .inr (4, [.int 0, .int 0, .int 0, .int 0, .int 0, .int 0, .int 0, .int 0, .ref (a2 1), .ref (a2 2)])), ((a2 1), .inl (cI, 4, .inl (fun _ => 0))), ((a2 2), .inl (cI, 4, .inl (fun _ => 0))), ((a3 0), .inr (4, [.int 0, .int 0, .int 0, .int 0, .int 0, .int 0, .int 0, .int 0, .ref (a3 1), .ref (a3 2)])), ((a3 1), .inl (cI, 4, .inl (fun _ => 0))), ((a3 2), .inl (cI, 4, .inl (fun _ => 0))), ((a4 0), .inr (1, [.ref (a4 1), .ref (a4 2)])), ((a4 1), .inr (5, [.int 0, .int 0, .int 0, .int 0])), ((a4 2), .inl (cI, 256, .inl (fun _ => 0))), ((a5 0), .inr (0, [.int 0, .int 0, .ref (a5 1), .ref (a5 2), .ref (a5 3), .int 0])), ((a5 1), .inl (cI, 24, .inl (fun _ => 0))), ((a5 2), .inl (cI, 24, .inl (fun _ => 0))), ((a5 3), .inl (cI, 4, .inl (fun _ => 0))), ((a6 0), .inr (0, [.int 0, .int 0, .ref (a6 1), .ref (a6 2), .ref (a6 3), .int 0])), ((a6 1), .inl (cI, 24, .inl (fun _ => 0))), ((a6 2), .inl (cI, 24, .inl (fun _ => 0))), ((a6 3), .inl (cI, 4, .inl (fun _ => 0))), ((a7 0), .inr (0, [.int 0, .int 0, .ref (a7 1), .ref (a7 2), .ref (a7 3), .int 0])), ((a7 1), .inl (cI, 24, .inl (fun _ => 0))), ((a7 2), .inl (cI, 24, .inl (fun _ => 0))), ((a7 3), .inl (cI, 4, .inl (fun _ => 0)))]) C S dX6_init_105 rfl fpX6_56 0 rfl (Nat.le_of_ble_eq_true rfl) rfl rfl rfl (fun H locs S => ?_)
  exact kret _ _ (fun i => ([h0, (a1 0), (a1 1), (a1 2), (a2 0), (a2 1), (a2 2), (a3 0), (a3 1), (a3 2), (a4 0), (a4 1), (a4 2), (a5 0), (a5 1), (a5 2), (a5 3), (a6 0), (a6 1), (a6 2), (a6 3), (a7 0), (a7 1), (a7 2), (a7 3)] : List Nat).getD i 0) 108 dX6_init_108 rfl S

def rwX7 (cI cZ : ClassId) (ad : Nat → Nat) : va_W := [((ad 0), .inr (7, [.int 0, .long 0, .ref (ad 1), .int 0, .ref (ad 2), .ref (ad 3), .ref (ad 4), .ref (ad 5), .int 0, .int 0, .int 0, .int 0, .int 0, .int 0, .int 0, .int 0, .ref (ad 6), .ref (ad 7), .ref (ad 8), .int 0, .int 0, .int 0, .int 0, .ref (ad 9), .ref (ad 10), .ref (ad 11), .ref (ad 12)])), ((ad 1), .inl (cI, 300, .inl (fun _ => 0))), ((ad 2), .inl (cI, 24, .inl (fun _ => 0))), ((ad 3), .inl (cI, 24, .inl (fun _ => 0))), ((ad 4), .inl (cI, 8, .inl (fun _ => 0))), ((ad 5), .inl (cI, 8, .inl (fun _ => 0))), ((ad 6), .inl (cI, 76, .inl (fun _ => 0))), ((ad 7), .inl (cI, 152, .inl (fun _ => 0))), ((ad 8), .inl (cZ, 2, .inl (fun _ => 0))), ((ad 9), .inl (cI, 24, .inl (fun _ => 0))), ((ad 10), .inl (cI, 24, .inl (fun _ => 0))), ((ad 11), .inl (cI, 24, .inl (fun _ => 0))), ((ad 12), .inl (cI, 256, .inl (fun _ => 0)))]
set_option maxRecDepth 100000 in
set_option maxHeartbeats 4000000 in
theorem csp_X7 (l : Launch) (D : va_G) (cI cZ : ClassId) : CSp l D cI cZ mX7_init 12 922 7 [.int 0, .long 0, .null, .int 0, .null, .null, .null, .null, .int 0, .int 0, .int 0, .int 0, .int 0, .int 0, .int 0, .int 0, .null, .null, .null, .int 0, .int 0, .int 0, .int 0, .null, .null, .null, .null] (rwX7 cI cZ) := by
  refine csp_of (by decide +kernel) rfl rfl rfl ?_
  intro p e s m args below meth c h0 A ls Q hin C S hl kret
  have C : KC RX7 cX7_init 1 A D cI cZ p s m args c := C
  refine lv_aload_n C.1 C.2.1 dX7_init_0 rfl (lv_at hl 0 rfl) ?_
  refine k_obj C dX7_init_1 rfl hl.1 obX7_1 (Nat.le_of_ble_eq_true rfl) (Nat.le_of_ble_eq_true rfl) ?_
  refine lv_aload_n C.1 C.2.1 dX7_init_4 rfl (lv_at hl 0 rfl) ?_
  refine lv_sipush (v := 300) C.1 C.2.1 dX7_init_5 (by decide) ?_
  refine k_newI (N := 300) (cells' := 1) (slots' := 300) C S dX7_init_8 rfl (by decide) (by decide) (Nat.le_of_ble_eq_true rfl) rfl rfl (Nat.le_of_ble_eq_true rfl) (Nat.le_of_ble_eq_true rfl) (fun q1 H S => ?_)
  have S : KS A D s [(h0, .inr (7, [.int 0, .long 0, .null, .int 0, .null, .null, .null, .null, .int 0, .int 0, .int 0, .int 0, .int 0, .int 0, .int 0, .int 0, .null, .null, .null, .int 0, .int 0, .int 0, .int 0, .null, .null, .null, .null])), (q1, .inl (cI, 300, .inl (fun _ => 0)))] H _ := S
  refine k_putF (v := .ref q1) (ws' := [(h0, .inr (7, [.int 0, .long 0, .ref q1, .int 0, .null, .null, .null, .null, .int 0, .int 0, .int 0, .int 0, .int 0, .int 0, .int 0, .int 0, .null, .null, .null, .int 0, .int 0, .int 0, .int 0, .null, .null, .null, .null])), (q1, .inl (cI, 300, .inl (fun _ => 0)))]) C S dX7_init_10 rfl ffX7_7 hin 0 rfl (Nat.le_of_ble_eq_true rfl) rfl rfl rfl (fun H locs S => ?_)
  refine lv_aload_n C.1 C.2.1 dX7_init_13 rfl (lv_at hl 0 rfl) ?_
  refine lv_bipush (v := 24) C.1 C.2.1 dX7_init_14 (by decide) ?_
  refine k_newI (N := 24) (cells' := 2) (slots' := 324) C S dX7_init_16 rfl (by decide) (by decide) (Nat.le_of_ble_eq_true rfl) rfl rfl (Nat.le_of_ble_eq_true rfl) (Nat.le_of_ble_eq_true rfl) (fun q2 H S => ?_)
  have S : KS A D s [(h0, .inr (7, [.int 0, .long 0, .ref q1, .int 0, .null, .null, .null, .null, .int 0, .int 0, .int 0, .int 0, .int 0, .int 0, .int 0, .int 0, .null, .null, .null, .int 0, .int 0, .int 0, .int 0, .null, .null, .null, .null])), (q1, .inl (cI, 300, .inl (fun _ => 0))), (q2, .inl (cI, 24, .inl (fun _ => 0)))] H _ := S
  refine k_putF (v := .ref q2) (ws' := [(h0, .inr (7, [.int 0, .long 0, .ref q1, .int 0, .ref q2, .null, .null, .null, .int 0, .int 0, .int 0, .int 0, .int 0, .int 0, .int 0, .int 0, .null, .null, .null, .int 0, .int 0, .int 0, .int 0, .null, .null, .null, .null])), (q1, .inl (cI, 300, .inl (fun _ => 0))), (q2, .inl (cI, 24, .inl (fun _ => 0)))]) C S dX7_init_18 rfl ffX7_13 hin 0 rfl (Nat.le_of_ble_eq_true rfl) rfl rfl rfl (fun H locs S => ?_)
  refine lv_aload_n C.1 C.2.1 dX7_init_21 rfl (lv_at hl 0 rfl) ?_
  refine lv_bipush (v := 24) C.1 C.2.1 dX7_init_22 (by decide) ?_
  refine k_newI (N := 24) (cells' := 3) (slots' := 348) C S dX7_init_24 rfl (by decide) (by decide) (Nat.le_of_ble_eq_true rfl) rfl rfl (Nat.le_of_ble_eq_true rfl) (Nat.le_of_ble_eq_true rfl) (fun q3 H S => ?_)
  have S : KS A D s [(h0, .inr (7, [.int 0, .long 0, .ref q1, .int 0, .ref q2, .null, .null, .null, .int 0, .int 0, .int 0, .int 0, .int 0, .int 0, .int 0, .int 0, .null, .null, .null, .int 0, .int 0, .int 0, .int 0, .null, .null, .null, .null])), (q1, .inl (cI, 300, .inl (fun _ => 0))), (q2, .inl (cI, 24, .inl (fun _ => 0))), (q3, .inl (cI, 24, .inl (fun _ => 0)))] H _ := S
  refine k_putF (v := .ref q3) (ws' := [(h0, .inr (7, [.int 0, .long 0, .ref q1, .int 0, .ref q2, .ref q3, .null, .null, .int 0, .int 0, .int 0, .int 0, .int 0, .int 0, .int 0, .int 0, .null, .null, .null, .int 0, .int 0, .int 0, .int 0, .null, .null, .null, .null])), (q1, .inl (cI, 300, .inl (fun _ => 0))), (q2, .inl (cI, 24, .inl (fun _ => 0))), (q3, .inl (cI, 24, .inl (fun _ => 0)))]) C S dX7_init_26 rfl ffX7_16 hin 0 rfl (Nat.le_of_ble_eq_true rfl) rfl rfl rfl (fun H locs S => ?_)
  refine lv_aload_n C.1 C.2.1 dX7_init_29 rfl (lv_at hl 0 rfl) ?_
  refine lv_bipush (v := 8) C.1 C.2.1 dX7_init_30 (by decide) ?_
  refine k_newI (N := 8) (cells' := 4) (slots' := 356) C S dX7_init_32 rfl (by decide) (by decide) (Nat.le_of_ble_eq_true rfl) rfl rfl (Nat.le_of_ble_eq_true rfl) (Nat.le_of_ble_eq_true rfl) (fun q4 H S => ?_)
  have S : KS A D s [(h0, .inr (7, [.int 0, .long 0, .ref q1, .int 0, .ref q2, .ref q3, .null, .null, .int 0, .int 0, .int 0, .int 0, .int 0, .int 0, .int 0, .int 0, .null, .null, .null, .int 0, .int 0, .int 0, .int 0, .null, .null, .null, .null])), (q1, .inl (cI, 300, .inl (fun _ => 0))), (q2, .inl (cI, 24, .inl (fun _ => 0))), (q3, .inl (cI, 24, .inl (fun _ => 0))), (q4, .inl (cI, 8, .inl (fun _ => 0)))] H _ := S
  refine k_putF (v := .ref q4) (ws' := [(h0, .inr (7, [.int 0, .long 0, .ref q1, .int 0, .ref q2, .ref q3, .ref q4, .null, .int 0, .int 0, .int 0, .int 0, .int 0, .int 0, .int 0, .int 0, .null, .null, .null, .int 0, .int 0, .int 0, .int 0, .null, .null, .null, .null])), (q1, .inl (cI, 300, .inl (fun _ => 0))), (q2, .inl (cI, 24, .inl (fun _ => 0))), (q3, .inl (cI, 24, .inl (fun _ => 0))), (q4, .inl (cI, 8, .inl (fun _ => 0)))]) C S dX7_init_34 rfl ffX7_19 hin 0 rfl (Nat.le_of_ble_eq_true rfl) rfl rfl rfl (fun H locs S => ?_)
  refine lv_aload_n C.1 C.2.1 dX7_init_37 rfl (lv_at hl 0 rfl) ?_
  refine lv_bipush (v := 8) C.1 C.2.1 dX7_init_38 (by decide) ?_
  refine k_newI (N := 8) (cells' := 5) (slots' := 364) C S dX7_init_40 rfl (by decide) (by decide) (Nat.le_of_ble_eq_true rfl) rfl rfl (Nat.le_of_ble_eq_true rfl) (Nat.le_of_ble_eq_true rfl) (fun q5 H S => ?_)
  have S : KS A D s [(h0, .inr (7, [.int 0, .long 0, .ref q1, .int 0, .ref q2, .ref q3, .ref q4, .null, .int 0, .int 0, .int 0, .int 0, .int 0, .int 0, .int 0, .int 0, .null, .null, .null, .int 0, .int 0, .int 0, .int 0, .null, .null, .null, .null])), (q1, .inl (cI, 300, .inl (fun _ => 0))), (q2, .inl (cI, 24, .inl (fun _ => 0))), (q3, .inl (cI, 24, .inl (fun _ => 0))), (q4, .inl (cI, 8, .inl (fun _ => 0))), (q5, .inl (cI, 8, .inl (fun _ => 0)))] H _ := S
  refine k_putF (v := .ref q5) (ws' := [(h0, .inr (7, [.int 0, .long 0, .ref q1, .int 0, .ref q2, .ref q3, .ref q4, .ref q5, .int 0, .int 0, .int 0, .int 0, .int 0, .int 0, .int 0, .int 0, .null, .null, .null, .int 0, .int 0, .int 0, .int 0, .null, .null, .null, .null])), (q1, .inl (cI, 300, .inl (fun _ => 0))), (q2, .inl (cI, 24, .inl (fun _ => 0))), (q3, .inl (cI, 24, .inl (fun _ => 0))), (q4, .inl (cI, 8, .inl (fun _ => 0))), (q5, .inl (cI, 8, .inl (fun _ => 0)))]) C S dX7_init_42 rfl ffX7_22 hin 0 rfl (Nat.le_of_ble_eq_true rfl) rfl rfl rfl (fun H locs S => ?_)
  refine lv_aload_n C.1 C.2.1 dX7_init_45 rfl (lv_at hl 0 rfl) ?_
  refine lv_bipush (v := 76) C.1 C.2.1 dX7_init_46 (by decide) ?_
  refine k_newI (N := 76) (cells' := 6) (slots' := 440) C S dX7_init_48 rfl (by decide) (by decide) (Nat.le_of_ble_eq_true rfl) rfl rfl (Nat.le_of_ble_eq_true rfl) (Nat.le_of_ble_eq_true rfl) (fun q6 H S => ?_)
  have S : KS A D s [(h0, .inr (7, [.int 0, .long 0, .ref q1, .int 0, .ref q2, .ref q3, .ref q4, .ref q5, .int 0, .int 0, .int 0, .int 0, .int 0, .int 0, .int 0, .int 0, .null, .null, .null, .int 0, .int 0, .int 0, .int 0, .null, .null, .null, .null])), (q1, .inl (cI, 300, .inl (fun _ => 0))), (q2, .inl (cI, 24, .inl (fun _ => 0))), (q3, .inl (cI, 24, .inl (fun _ => 0))), (q4, .inl (cI, 8, .inl (fun _ => 0))), (q5, .inl (cI, 8, .inl (fun _ => 0))), (q6, .inl (cI, 76, .inl (fun _ => 0)))] H _ := S
  refine k_putF (v := .ref q6) (ws' := [(h0, .inr (7, [.int 0, .long 0, .ref q1, .int 0, .ref q2, .ref q3, .ref q4, .ref q5, .int 0, .int 0, .int 0, .int 0, .int 0, .int 0, .int 0, .int 0, .ref q6, .null, .null, .int 0, .int 0, .int 0, .int 0, .null, .null, .null, .null])), (q1, .inl (cI, 300, .inl (fun _ => 0))), (q2, .inl (cI, 24, .inl (fun _ => 0))), (q3, .inl (cI, 24, .inl (fun _ => 0))), (q4, .inl (cI, 8, .inl (fun _ => 0))), (q5, .inl (cI, 8, .inl (fun _ => 0))), (q6, .inl (cI, 76, .inl (fun _ => 0)))]) C S dX7_init_50 rfl ffX7_25 hin 0 rfl (Nat.le_of_ble_eq_true rfl) rfl rfl rfl (fun H locs S => ?_)
  refine lv_aload_n C.1 C.2.1 dX7_init_53 rfl (lv_at hl 0 rfl) ?_
  refine lv_sipush (v := 152) C.1 C.2.1 dX7_init_54 (by decide) ?_
  refine k_newI (N := 152) (cells' := 7) (slots' := 592) C S dX7_init_57 rfl (by decide) (by decide) (Nat.le_of_ble_eq_true rfl) rfl rfl (Nat.le_of_ble_eq_true rfl) (Nat.le_of_ble_eq_true rfl) (fun q7 H S => ?_)
  have S : KS A D s [(h0, .inr (7, [.int 0, .long 0, .ref q1, .int 0, .ref q2, .ref q3, .ref q4, .ref q5, .int 0, .int 0, .int 0, .int 0, .int 0, .int 0, .int 0, .int 0, .ref q6, .null, .null, .int 0, .int 0, .int 0, .int 0, .null, .null, .null, .null])), (q1, .inl (cI, 300, .inl (fun _ => 0))), (q2, .inl (cI, 24, .inl (fun _ => 0))), (q3, .inl (cI, 24, .inl (fun _ => 0))), (q4, .inl (cI, 8, .inl (fun _ => 0))), (q5, .inl (cI, 8, .inl (fun _ => 0))), (q6, .inl (cI, 76, .inl (fun _ => 0))), (q7, .inl (cI, 152, .inl (fun _ => 0)))] H _ := S
  refine k_putF (v := .ref q7) (ws' := [(h0, .inr (7, [.int 0, .long 0, .ref q1, .int 0, .ref q2, .ref q3, .ref q4, .ref q5, .int 0, .int 0, .int 0, .int 0, .int 0, .int 0, .int 0, .int 0, .ref q6, .ref q7, .null, .int 0, .int 0, .int 0, .int 0, .null, .null, .null, .null])), (q1, .inl (cI, 300, .inl (fun _ => 0))), (q2, .inl (cI, 24, .inl (fun _ => 0))), (q3, .inl (cI, 24, .inl (fun _ => 0))), (q4, .inl (cI, 8, .inl (fun _ => 0))), (q5, .inl (cI, 8, .inl (fun _ => 0))), (q6, .inl (cI, 76, .inl (fun _ => 0))), (q7, .inl (cI, 152, .inl (fun _ => 0)))]) C S dX7_init_59 rfl ffX7_28 hin 0 rfl (Nat.le_of_ble_eq_true rfl) rfl rfl rfl (fun H locs S => ?_)
  refine lv_aload_n C.1 C.2.1 dX7_init_62 rfl (lv_at hl 0 rfl) ?_
  refine lv_iconst (v := 2) C.1 C.2.1 dX7_init_63 (by decide) ?_
  refine k_newZ (N := 2) (cells' := 8) (slots' := 594) C S dX7_init_64 rfl (by decide) (by decide) (Nat.le_of_ble_eq_true rfl) rfl rfl (Nat.le_of_ble_eq_true rfl) (Nat.le_of_ble_eq_true rfl) (fun q8 H S => ?_)
  have S : KS A D s [(h0, .inr (7, [.int 0, .long 0, .ref q1, .int 0, .ref q2, .ref q3, .ref q4, .ref q5, .int 0, .int 0, .int 0, .int 0, .int 0, .int 0, .int 0, .int 0, .ref q6, .ref q7, .null, .int 0, .int 0, .int 0, .int 0, .null, .null, .null, .null])), (q1, .inl (cI, 300, .inl (fun _ => 0))), (q2, .inl (cI, 24, .inl (fun _ => 0))), (q3, .inl (cI, 24, .inl (fun _ => 0))), (q4, .inl (cI, 8, .inl (fun _ => 0))), (q5, .inl (cI, 8, .inl (fun _ => 0))), (q6, .inl (cI, 76, .inl (fun _ => 0))), (q7, .inl (cI, 152, .inl (fun _ => 0))), (q8, .inl (cZ, 2, .inl (fun _ => 0)))] H _ := S
  refine k_putF (v := .ref q8) (ws' := [(h0, .inr (7, [.int 0, .long 0, .ref q1, .int 0, .ref q2, .ref q3, .ref q4, .ref q5, .int 0, .int 0, .int 0, .int 0, .int 0, .int 0, .int 0, .int 0, .ref q6, .ref q7, .ref q8, .int 0, .int 0, .int 0, .int 0, .null, .null, .null, .null])), (q1, .inl (cI, 300, .inl (fun _ => 0))), (q2, .inl (cI, 24, .inl (fun _ => 0))), (q3, .inl (cI, 24, .inl (fun _ => 0))), (q4, .inl (cI, 8, .inl (fun _ => 0))), (q5, .inl (cI, 8, .inl (fun _ => 0))), (q6, .inl (cI, 76, .inl (fun _ => 0))), (q7, .inl (cI, 152, .inl (fun _ => 0))), (q8, .inl (cZ, 2, .inl (fun _ => 0)))]) C S dX7_init_66 rfl ffX7_31 hin 0 rfl (Nat.le_of_ble_eq_true rfl) rfl rfl rfl (fun H locs S => ?_)
  refine lv_aload_n C.1 C.2.1 dX7_init_69 rfl (lv_at hl 0 rfl) ?_
  refine lv_bipush (v := 24) C.1 C.2.1 dX7_init_70 (by decide) ?_
  refine k_newI (N := 24) (cells' := 9) (slots' := 618) C S dX7_init_72 rfl (by decide) (by decide) (Nat.le_of_ble_eq_true rfl) rfl rfl (Nat.le_of_ble_eq_true rfl) (Nat.le_of_ble_eq_true rfl) (fun q9 H S => ?_)
  have S : KS A D s [(h0, .inr (7, [.int 0, .long 0, .ref q1, .int 0, .ref q2, .ref q3, .ref q4, .ref q5, .int 0, .int 0, .int 0, .int 0, .int 0, .int 0, .int 0, .int 0, .ref q6, .ref q7, .ref q8, .int 0, .int 0, .int 0, .int 0, .null, .null, .null, .null])), (q1, .inl (cI, 300, .inl (fun _ => 0))), (q2, .inl (cI, 24, .inl (fun _ => 0))), (q3, .inl (cI, 24, .inl (fun _ => 0))), (q4, .inl (cI, 8, .inl (fun _ => 0))), (q5, .inl (cI, 8, .inl (fun _ => 0))), (q6, .inl (cI, 76, .inl (fun _ => 0))), (q7, .inl (cI, 152, .inl (fun _ => 0))), (q8, .inl (cZ, 2, .inl (fun _ => 0))), (q9, .inl (cI, 24, .inl (fun _ => 0)))] H _ := S
  refine k_putF (v := .ref q9) (ws' := [(h0, .inr (7, [.int 0, .long 0, .ref q1, .int 0, .ref q2, .ref q3, .ref q4, .ref q5, .int 0, .int 0, .int 0, .int 0, .int 0, .int 0, .int 0, .int 0, .ref q6, .ref q7, .ref q8, .int 0, .int 0, .int 0, .int 0, .ref q9, .null, .null, .null])), (q1, .inl (cI, 300, .inl (fun _ => 0))), (q2, .inl (cI, 24, .inl (fun _ => 0))), (q3, .inl (cI, 24, .inl (fun _ => 0))), (q4, .inl (cI, 8, .inl (fun _ => 0))), (q5, .inl (cI, 8, .inl (fun _ => 0))), (q6, .inl (cI, 76, .inl (fun _ => 0))), (q7, .inl (cI, 152, .inl (fun _ => 0))), (q8, .inl (cZ, 2, .inl (fun _ => 0))), (q9, .inl (cI, 24, .inl (fun _ => 0)))]) C S dX7_init_74 rfl ffX7_35 hin 0 rfl (Nat.le_of_ble_eq_true rfl) rfl rfl rfl (fun H locs S => ?_)
  refine lv_aload_n C.1 C.2.1 dX7_init_77 rfl (lv_at hl 0 rfl) ?_
  refine lv_bipush (v := 24) C.1 C.2.1 dX7_init_78 (by decide) ?_
  refine k_newI (N := 24) (cells' := 10) (slots' := 642) C S dX7_init_80 rfl (by decide) (by decide) (Nat.le_of_ble_eq_true rfl) rfl rfl (Nat.le_of_ble_eq_true rfl) (Nat.le_of_ble_eq_true rfl) (fun q10 H S => ?_)
  have S : KS A D s [(h0, .inr (7, [.int 0, .long 0, .ref q1, .int 0, .ref q2, .ref q3, .ref q4, .ref q5, .int 0, .int 0, .int 0, .int 0, .int 0, .int 0, .int 0, .int 0, .ref q6, .ref q7, .ref q8, .int 0, .int 0, .int 0, .int 0, .ref q9, .null, .null, .null])), (q1, .inl (cI, 300, .inl (fun _ => 0))), (q2, .inl (cI, 24, .inl (fun _ => 0))), (q3, .inl (cI, 24, .inl (fun _ => 0))), (q4, .inl (cI, 8, .inl (fun _ => 0))), (q5, .inl (cI, 8, .inl (fun _ => 0))), (q6, .inl (cI, 76, .inl (fun _ => 0))), (q7, .inl (cI, 152, .inl (fun _ => 0))), (q8, .inl (cZ, 2, .inl (fun _ => 0))), (q9, .inl (cI, 24, .inl (fun _ => 0))), (q10, .inl (cI, 24, .inl (fun _ => 0)))] H _ := S
  refine k_putF (v := .ref q10) (ws' := [(h0, .inr (7, [.int 0, .long 0, .ref q1, .int 0, .ref q2, .ref q3, .ref q4, .ref q5, .int 0, .int 0, .int 0, .int 0, .int 0, .int 0, .int 0, .int 0, .ref q6, .ref q7, .ref q8, .int 0, .int 0, .int 0, .int 0, .ref q9, .ref q10, .null, .null])), (q1, .inl (cI, 300, .inl (fun _ => 0))), (q2, .inl (cI, 24, .inl (fun _ => 0))), (q3, .inl (cI, 24, .inl (fun _ => 0))), (q4, .inl (cI, 8, .inl (fun _ => 0))), (q5, .inl (cI, 8, .inl (fun _ => 0))), (q6, .inl (cI, 76, .inl (fun _ => 0))), (q7, .inl (cI, 152, .inl (fun _ => 0))), (q8, .inl (cZ, 2, .inl (fun _ => 0))), (q9, .inl (cI, 24, .inl (fun _ => 0))), (q10, .inl (cI, 24, .inl (fun _ => 0)))]) C S dX7_init_82 rfl ffX7_38 hin 0 rfl (Nat.le_of_ble_eq_true rfl) rfl rfl rfl (fun H locs S => ?_)
  refine lv_aload_n C.1 C.2.1 dX7_init_85 rfl (lv_at hl 0 rfl) ?_
  refine lv_bipush (v := 24) C.1 C.2.1 dX7_init_86 (by decide) ?_
  refine k_newI (N := 24) (cells' := 11) (slots' := 666) C S dX7_init_88 rfl (by decide) (by decide) (Nat.le_of_ble_eq_true rfl) rfl rfl (Nat.le_of_ble_eq_true rfl) (Nat.le_of_ble_eq_true rfl) (fun q11 H S => ?_)
  have S : KS A D s [(h0, .inr (7, [.int 0, .long 0, .ref q1, .int 0, .ref q2, .ref q3, .ref q4, .ref q5, .int 0, .int 0, .int 0, .int 0, .int 0, .int 0, .int 0, .int 0, .ref q6, .ref q7, .ref q8, .int 0, .int 0, .int 0, .int 0, .ref q9, .ref q10, .null, .null])), (q1, .inl (cI, 300, .inl (fun _ => 0))), (q2, .inl (cI, 24, .inl (fun _ => 0))), (q3, .inl (cI, 24, .inl (fun _ => 0))), (q4, .inl (cI, 8, .inl (fun _ => 0))), (q5, .inl (cI, 8, .inl (fun _ => 0))), (q6, .inl (cI, 76, .inl (fun _ => 0))), (q7, .inl (cI, 152, .inl (fun _ => 0))), (q8, .inl (cZ, 2, .inl (fun _ => 0))), (q9, .inl (cI, 24, .inl (fun _ => 0))), (q10, .inl (cI, 24, .inl (fun _ => 0))), (q11, .inl (cI, 24, .inl (fun _ => 0)))] H _ := S
  refine k_putF (v := .ref q11) (ws' := [(h0, .inr (7, [.int 0, .long 0, .ref q1, .int 0, .ref q2, .ref q3, .ref q4, .ref q5, .int 0, .int 0, .int 0, .int 0, .int 0, .int 0, .int 0, .int 0, .ref q6, .ref q7, .ref q8, .int 0, .int 0, .int 0, .int 0, .ref q9, .ref q10, .ref q11, .null])), (q1, .inl (cI, 300, .inl (fun _ => 0))), (q2, .inl (cI, 24, .inl (fun _ => 0))), (q3, .inl (cI, 24, .inl (fun _ => 0))), (q4, .inl (cI, 8, .inl (fun _ => 0))), (q5, .inl (cI, 8, .inl (fun _ => 0))), (q6, .inl (cI, 76, .inl (fun _ => 0))), (q7, .inl (cI, 152, .inl (fun _ => 0))), (q8, .inl (cZ, 2, .inl (fun _ => 0))), (q9, .inl (cI, 24, .inl (fun _ => 0))), (q10, .inl (cI, 24, .inl (fun _ => 0))), (q11, .inl (cI, 24, .inl (fun _ => 0)))]) C S dX7_init_90 rfl ffX7_41 hin 0 rfl (Nat.le_of_ble_eq_true rfl) rfl rfl rfl (fun H locs S => ?_)
  refine lv_aload_n C.1 C.2.1 dX7_init_93 rfl (lv_at hl 0 rfl) ?_
  refine lv_sipush (v := 256) C.1 C.2.1 dX7_init_94 (by decide) ?_
  refine k_newI (N := 256) (cells' := 12) (slots' := 922) C S dX7_init_97 rfl (by decide) (by decide) (Nat.le_of_ble_eq_true rfl) rfl rfl (Nat.le_of_ble_eq_true rfl) (Nat.le_of_ble_eq_true rfl) (fun q12 H S => ?_)
  have S : KS A D s [(h0, .inr (7, [.int 0, .long 0, .ref q1, .int 0, .ref q2, .ref q3, .ref q4, .ref q5, .int 0, .int 0, .int 0, .int 0, .int 0, .int 0, .int 0, .int 0, .ref q6, .ref q7, .ref q8, .int 0, .int 0, .int 0, .int 0, .ref q9, .ref q10, .ref q11, .null])), (q1, .inl (cI, 300, .inl (fun _ => 0))), (q2, .inl (cI, 24, .inl (fun _ => 0))), (q3, .inl (cI, 24, .inl (fun _ => 0))), (q4, .inl (cI, 8, .inl (fun _ => 0))), (q5, .inl (cI, 8, .inl (fun _ => 0))), (q6, .inl (cI, 76, .inl (fun _ => 0))), (q7, .inl (cI, 152, .inl (fun _ => 0))), (q8, .inl (cZ, 2, .inl (fun _ => 0))), (q9, .inl (cI, 24, .inl (fun _ => 0))), (q10, .inl (cI, 24, .inl (fun _ => 0))), (q11, .inl (cI, 24, .inl (fun _ => 0))), (q12, .inl (cI, 256, .inl (fun _ => 0)))] H _ := S
  refine k_putF (v := .ref q12) (ws' := [(h0, .inr (7, [.int 0, .long 0, .ref q1, .int 0, .ref q2, .ref q3, .ref q4, .ref q5, .int 0, .int 0, .int 0, .int 0, .int 0, .int 0, .int 0, .int 0, .ref q6, .ref q7, .ref q8, .int 0, .int 0, .int 0, .int 0, .ref q9, .ref q10, .ref q11, .ref q12])), (q1, .inl (cI, 300, .inl (fun _ => 0))), (q2, .inl (cI, 24, .inl (fun _ => 0))), (q3, .inl (cI, 24, .inl (fun _ => 0))), (q4, .inl (cI, 8, .inl (fun _ => 0))), (q5, .inl (cI, 8, .inl (fun _ => 0))), (q6, .inl (cI, 76, .inl (fun _ => 0))), (q7, .inl (cI, 152, .inl (fun _ => 0))), (q8, .inl (cZ, 2, .inl (fun _ => 0))), (q9, .inl (cI, 24, .inl (fun _ => 0))), (q10, .inl (cI, 24, .inl (fun _ => 0))), (q11, .inl (cI, 24, .inl (fun _ => 0))), (q12, .inl (cI, 256, .inl (fun _ => 0)))]) C S dX7_init_99 rfl ffX7_44 hin 0 rfl (Nat.le_of_ble_eq_true rfl) rfl rfl rfl (fun H locs S => ?_)
  refine lv_aload_n C.1 C.2.1 dX7_init_102 rfl (lv_at hl 0 rfl) ?_
  refine lv_iconst (v := 0) C.1 C.2.1 dX7_init_103 (by decide) ?_
  refine k_put (v := .int 0) (ws' := [(h0, .inr (7, [.int 0, .long 0, .ref q1, .int 0, .ref q2, .ref q3, .ref q4, .ref q5, .int 0, .int 0, .int 0, .int 0, .int 0, .int 0, .int 0, .int 0, .ref q6, .ref q7, .ref q8, .int 0, .int 0, .int 0, .int 0, .ref q9, .ref q10, .ref q11, .ref q12])), (q1, .inl (cI, 300, .inl (fun _ => 0))), (q2, .inl (cI, 24, .inl (fun _ => 0))), (q3, .inl (cI, 24, .inl (fun _ => 0))), (q4, .inl (cI, 8, .inl (fun _ => 0))), (q5, .inl (cI, 8, .inl (fun _ => 0))), (q6, .inl (cI, 76, .inl (fun _ => 0))), (q7, .inl (cI, 152, .inl (fun _ => 0))), (q8, .inl (cZ, 2, .inl (fun _ => 0))), (q9, .inl (cI, 24, .inl (fun _ => 0))), (q10, .inl (cI, 24, .inl (fun _ => 0))), (q11, .inl (cI, 24, .inl (fun _ => 0))), (q12, .inl (cI, 256, .inl (fun _ => 0)))]) C S dX7_init_104 rfl fpX7_47 0 rfl (Nat.le_of_ble_eq_true rfl) rfl rfl rfl (fun H locs S => ?_)
  exact kret _ _ (fun i => ([h0, q1, q2, q3, q4, q5, q6, q7, q8, q9, q10, q11, q12] : List Nat).getD i 0) 107 dX7_init_107 rfl S

