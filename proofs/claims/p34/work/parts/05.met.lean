/-! contracts: of a method that writes nothing (Qp), of one that writes (Qm); their starts, ends and calls -/
def Kn : Addr → Prop := fun _ => False
def Qp (v : Value) : Array Value → State → Outcome → State → Prop := fun _ st o t => o = .returned (some v) ∧ t.heap = st.heap
def Qm (ov : Option Value) (P : Heap → Prop) (A : Nat → Prop) : Array Value → State → Outcome → State → Prop := fun _ st o t => o = .returned ov ∧ P t.heap ∧ va_F A st t
def Pc (D : va_G) (cy : Nat → ClassId) (H : Heap) (as : List Value) : Array Value → State → Prop := va_Pc as (fun U => U.heap = H ∧ KC D cy U)
theorem Pc_blind {D : va_G} {cy : Nat → ClassId} {H : Heap} {as : List Value} : FrameBlind (Pc D cy H as) := fun a U g mk h => ⟨h.1, h.2.1, va_K.moved (u := U) (U := U.calling g mk a) (Vm.Alike.refl U.vm) h.2.2⟩
abbrev rmF (f lo mc ms : Nat) : Room := { frames := f, cells := mc, slots := ms, locals := lo }
/-- what the tables say of a method: static ones, and those of an object -/
def MSt (y : MethodName) (bytes : ByteArray) (maxL : Nat) (ret : Option FieldType) (n : Nat) : Prop := Cond.code y bytes maxL ret ∈ wG ∧ Cond.static y ∈ wG ∧ Cond.initialized y.cls ∈ wG ∧ y.cls ≠ "java/lang/invoke/MethodHandle" ∧ y.cls ≠ "java/lang/invoke/VarHandle" ∧ (parseMethodDescriptor y.desc).map (fun d => d.parameters.length) = some n
def MVi (C : String) (y : MethodName) (bytes : ByteArray) (maxL : Nat) (ret : Option FieldType) (n : Nat) : Prop := Cond.code y bytes maxL ret ∈ wG ∧ Cond.instanceMethod y ∈ wG ∧ Cond.selects C y y ∈ wG ∧ Cond.initialized C ∈ wG ∧ y.cls = C ∧ y.cls ≠ "java/lang/invoke/MethodHandle" ∧ y.cls ≠ "java/lang/invoke/VarHandle" ∧ (parseMethodDescriptor y.desc).map (fun d => d.parameters.length) = some n
theorem gV0 {cd : Cond} {own C : String} {i : Nat} {y : MethodName} (h1 : Cond.methodLink own i y ∈ wG) (h2 : Cond.instanceMethod y ∈ wG) (h3 : Cond.selects C y y ∈ wG) (h4 : Cond.initialized C ∈ wG) (h5 : cd ∈ wG) : GoodIn wG (wsV own i C y (cd :: wG)) := by
  have h : ∀ w ∈ wG, w ∈ wG ∧ ((w.onTables && w.keeps) = true ∨ ∃ ty, w = .arrayClass ty) := fun w h => ⟨h, wG_good h⟩
  intro w hw
  unfold wsV at hw
  rcases List.mem_append.mp hw with hw | hw
  · simp only [List.mem_cons, List.not_mem_nil, or_false] at hw
    rcases hw with e | e | e | e <;> subst e
    · exact h _ h1
    · exact h _ h2
    · exact h _ h3
    · exact h _ h4
  · rcases List.mem_cons.mp hw with e | e
    · subst e; exact h _ h5
    · exact h _ e
theorem gS0 {cd : Cond} {own : String} {i : Nat} {y : MethodName} (h1 : Cond.methodLink own i y ∈ wG) (h2 : Cond.static y ∈ wG) (h4 : Cond.initialized y.cls ∈ wG) (h5 : cd ∈ wG) : GoodIn wG (va_wsS own i y (cd :: wG)) := by
  have h : ∀ w ∈ wG, w ∈ wG ∧ ((w.onTables && w.keeps) = true ∨ ∃ ty, w = .arrayClass ty) := fun w h => ⟨h, wG_good h⟩
  intro w hw
  unfold va_wsS at hw
  rcases List.mem_append.mp hw with hw | hw
  · simp only [List.mem_cons, List.not_mem_nil, or_false] at hw
    rcases hw with e | e | e <;> subst e
    · exact h _ h1
    · exact h _ h2
    · exact h _ h4
  · rcases List.mem_cons.mp hw with e | e
    · subst e; exact h _ h5
    · exact h _ e
/-- a contract's start: everything by names -/
theorem met_of {l : Launch} {D : va_G} {cy : Nat → ClassId} {y : MethodName} {cc : ByteArray} {maxL f lo mc ms : Nat} {ret : Option FieldType} {H : Heap} {as : List Value} {Qc : Array Value → State → Outcome → State → Prop} {free : Addr → Prop} {la : List (Nat × Value)} (hy : plainName y.cls = true) (hlen : (lg_sl as).length ≤ maxL) (hla : lv_args 0 as = la)
    (body : ∀ (p : Program) (e : Env) (R : Room) (s : State) (m : MethodId) (args : Array Value) (below : List Frame) (meth : Method) (c : Code) (ls : Array Slot), R = rmF f lo mc ms → p.tables.exec = Jvm.exec → c.code = cc → c.maxLocals = maxL → meth.sig.returnType = ret → meth.locks = false → (y.name = "<init>" → meth.name = "<init>") → s.vm.findClass y.cls = some m.cls → (∀ w ∈ wG, w.before args s = true) → s.heap = H → KC D cy s → lv_has ls maxL la →
      W p l e R s m args below meth c H [] 0 0 (MQ below Qc args s mc ms free) (F0 m 0 ls [])) :
    Met l y (Cond.code y cc maxL ret :: wG) (rmF f lo mc ms) (Pc D cy H as) Qc mc ms free := by
  refine Met.ofW (cc := cc) (maxL := maxL) (ret := ret) hy rfl ?_
  intro p e s m args below meth c s₁ B hml hv
  obtain ⟨rfl, hsH, hK⟩ := hv
  have hts := atoms_spec (ws := Cond.code y cc maxL ret :: wG) B.pre
  have hl := lv_entry as (n := maxL) hlen
  rw [lg_entry_eq]
  rw [hla] at hl
  rw [hsH]
  have hn : y.name = "<init>" → meth.name = "<init>" := fun h => (name_of_methodNamed B.named B.method).1.trans h
  exact body p e _ s m as.toArray below meth c _ rfl B.exec B.bytes hml B.returns B.notSynchronized hn (findClass_of_methodNamed B.named) (fun w hw => hts w (List.mem_cons_of_mem _ hw)) hsH hK hl
section EX
variable {p : Program} {l : Launch} {e : Env} {R : Room} {s : State} {m : MethodId} {args : Array Value} {below : List Frame} {meth : Method} {c : Code} {H H0 : Heap} {locs : List Loc} {cells slots mc ms : Nat} {Q : State → Prop}
variable {cc : ByteArray} {pc : Nat} {ls : Array Slot} {rest : List Value} {D : va_G} {cy : Nat → ClassId} {A : Nat → Prop}
/-- ends of a method that wrote nothing -/
theorem xe_i (hx : p.tables.exec = Jvm.exec) (hb : c.code = cc) (hr : meth.sig.returnType = some .int) (hlk : meth.locks = false) (hsH : s.heap = H) {a b : Int} (d : decode cc pc = .ok (.ireturn, 1)) (h : a = b) : W p l e R s m args below meth c H [] 0 0 (MQ below (Qp (.int (iI b))) args s 0 0 Kn) (F0 m pc ls [.int (iI a)]) := by
  subst h
  exact W.iret hx hb hr (fun t ht _ => ⟨rfl, by rw [ht, hsH]⟩) (fun q hq => by cases hq) d hlk
theorem xe_z (hx : p.tables.exec = Jvm.exec) (hb : c.code = cc) (hr : meth.sig.returnType = some .boolean) (hlk : meth.locks = false) (hsH : s.heap = H) {a b : Int} (d : decode cc pc = .ok (.ireturn, 1)) (hz : 0 ≤ a ∧ a ≤ 1) (h : a = b) : W p l e R s m args below meth c H [] 0 0 (MQ below (Qp (.int (iI b))) args s 0 0 Kn) (F0 m pc ls [.int (iI a)]) := by
  subst h
  exact W.zret hx hb hr (by rcases (show a = 0 ∨ a = 1 by omega) with z | z <;> subst z <;> rfl) (fun t ht _ => ⟨rfl, by rw [ht, hsH]⟩) (fun q hq => by cases hq) d hlk
theorem xe_zb (hx : p.tables.exec = Jvm.exec) (hb : c.code = cc) (hr : meth.sig.returnType = some .boolean) (hlk : meth.locks = false) (hsH : s.heap = H) {a : Int} {P : Prop} (d : decode cc pc = .ok (.ireturn, 1)) (h : (a = 1 ∧ P) ∨ (a = 0 ∧ ¬ P)) : W p l e R s m args below meth c H [] 0 0 (MQ below (Qp (.int (iI (bI P)))) args s 0 0 Kn) (F0 m pc ls [.int (iI a)]) := by
  rcases h with ⟨h, q⟩ | ⟨h, q⟩
  · exact xe_z hx hb hr hlk hsH d (by omega) (by rw [bI_t q]; exact h)
  · exact xe_z hx hb hr hlk hsH d (by omega) (by rw [bI_f q]; exact h)
theorem xe_bb (hx : p.tables.exec = Jvm.exec) (hb : c.code = cc) (hr : meth.sig.returnType = some .boolean) (hlk : meth.locks = false) (hsH : s.heap = H) {P0 P : Prop} (d : decode cc pc = .ok (.ireturn, 1)) (h : P0 ↔ P) : W p l e R s m args below meth c H [] 0 0 (MQ below (Qp (.int (iI (bI P)))) args s 0 0 Kn) (F0 m pc ls [.int (iI (bI P0))]) :=
  xe_zb hx hb hr hlk hsH d (by rcases bI_cases P0 with ⟨q, z⟩ | ⟨q, z⟩; exact Or.inl ⟨z, h.mp q⟩; exact Or.inr ⟨z, fun w => q (h.mpr w)⟩)
theorem xe_l (hx : p.tables.exec = Jvm.exec) (hb : c.code = cc) (hr : meth.sig.returnType = some .long) (hlk : meth.locks = false) (hsH : s.heap = H) {a b : Int} (d : decode cc pc = .ok (.lreturn, 1)) (h : a = b) : W p l e R s m args below meth c H [] 0 0 (MQ below (Qp (.long (lI b))) args s 0 0 Kn) (F0 m pc ls [.long (lI a)]) := by
  subst h
  exact W.lret hx hb hr (fun t ht _ => ⟨rfl, by rw [ht, hsH]⟩) (fun q hq => by cases hq) d hlk
theorem xe_a (hx : p.tables.exec = Jvm.exec) (hb : c.code = cc) {rt : String} (hr : meth.sig.returnType = some (.object rt)) (hlk : meth.locks = false) (hsH : s.heap = H) {f : Int → Nat} {v : Int} {x : Value} (d : decode cc pc = .ok (.areturn, 1)) (h : x = rv f v) : W p l e R s m args below meth c H [] 0 0 (MQ below (Qp (rv f v)) args s 0 0 Kn) (F0 m pc ls [x]) := by
  subst h
  exact W.aret hx hb hr (Or.inl ⟨_, rfl⟩) (rv_ret f v) (fun t ht _ => ⟨rfl, by rw [ht, hsH]⟩) (fun q hq => by cases hq) d hlk
/-- ends of a method that wrote -/
theorem xm_i (hx : p.tables.exec = Jvm.exec) (hb : c.code = cc) (hr : meth.sig.returnType = some .int) (hlk : meth.locks = false) {P : Heap → Prop} {a b : Int} (hS : va_S A s.heap H locs) (d : decode cc pc = .ok (.ireturn, 1)) (h : a = b) (hP : P H) : W p l e R s m args below meth c H locs cells slots (MQ below (Qm (some (.int (iI b))) P A) args s cells slots A) (F0 m pc ls [.int (iI a)]) := by
  subst h
  exact W.iret hx hb hr (fun t ht _ => ⟨rfl, by rw [ht]; exact hP, hS.F ht⟩) hS.2.2 d hlk
theorem xm_zb (hx : p.tables.exec = Jvm.exec) (hb : c.code = cc) (hr : meth.sig.returnType = some .boolean) (hlk : meth.locks = false) {P : Heap → Prop} {a : Int} {B : Prop} (hS : va_S A s.heap H locs) (d : decode cc pc = .ok (.ireturn, 1)) (h : (a = 1 ∧ B) ∨ (a = 0 ∧ ¬ B)) (hP : P H) : W p l e R s m args below meth c H locs cells slots (MQ below (Qm (some (.int (iI (bI B)))) P A) args s cells slots A) (F0 m pc ls [.int (iI a)]) := by
  have e1 : a = bI B := by
    rcases h with ⟨h, q⟩ | ⟨h, q⟩
    · rw [bI_t q]; exact h
    · rw [bI_f q]; exact h
  have hz := bI_in B
  rw [e1]
  exact W.zret hx hb hr (by rcases (show bI B = 0 ∨ bI B = 1 by omega) with z | z <;> rw [z] <;> rfl) (fun t ht _ => ⟨rfl, by rw [ht]; exact hP, hS.F ht⟩) hS.2.2 d hlk
theorem xm_l (hx : p.tables.exec = Jvm.exec) (hb : c.code = cc) (hr : meth.sig.returnType = some .long) (hlk : meth.locks = false) {P : Heap → Prop} {a b : Int} (hS : va_S A s.heap H locs) (d : decode cc pc = .ok (.lreturn, 1)) (h : a = b) (hP : P H) : W p l e R s m args below meth c H locs cells slots (MQ below (Qm (some (.long (lI b))) P A) args s cells slots A) (F0 m pc ls [.long (lI a)]) := by
  subst h
  exact W.lret hx hb hr (fun t ht _ => ⟨rfl, by rw [ht]; exact hP, hS.F ht⟩) hS.2.2 d hlk
theorem xm_v (hx : p.tables.exec = Jvm.exec) (hb : c.code = cc) (hr : meth.sig.returnType = none) (hlk : meth.locks = false) {P : Heap → Prop} (hS : va_S A s.heap H locs) (d : decode cc pc = .ok (.return_, 1)) (hP : P H) : W p l e R s m args below meth c H locs cells slots (MQ below (Qm none P A) args s cells slots A) (F0 m pc ls []) :=
  W.vret hx hb hr (fun t ht _ => ⟨rfl, by rw [ht]; exact hP, hS.F ht⟩) hS.2.2 d hlk
/-- calls of methods that write nothing: the heap is as it was -/
theorem xk_p {g : JFrame} {v : Value} {a : Array Value} (hr : va_Run p l e R s m args below meth c H locs cells slots 0 0 g rest (Qp v a) Kn) (kk : W p l e R s m args below meth c H locs cells slots Q { g with pc := g.pc + 3, stack := v :: rest }) : W p l e R s m args below meth c H locs cells slots Q g := by
  intro T hT X
  obtain ⟨v', st₀, t, T', L, h0, X', hL, e1, e2, ⟨hv, hh⟩, stp⟩ := hr T hT X
  have hL0 : L = [] := by
    cases L with
    | nil => rfl
    | cons q L => exact (hL q List.mem_cons_self).elim
  subst hL0
  rw [List.append_nil] at X'
  have hv' : v' = some v := Outcome.returned.inj hv
  subst hv'
  obtain ⟨t2, a1, b1⟩ := kk T' (by rw [e1, hh, h0]) X'
  exact ⟨t2, stp t2 a1, b1⟩
theorem xk_m {g : JFrame} {ov : Option Value} {P : Heap → Prop} {a : Array Value} (hr : va_Run p l e R s m args below meth c H locs cells slots mc ms g rest (Qm ov P A a) A) (hS : va_S A H0 H locs) (kk : ∀ (H1 : Heap) (locs1 : List Loc), P H1 → va_S A H0 H1 locs1 → H.size ≤ H1.size → (∀ q : Nat, q < H.size → ¬ A q → H1[q]? = H[q]?) → W p l e R s m args below meth c H1 locs1 (cells + mc) (slots + ms) Q { g with pc := g.pc + 3, stack := ov.toList ++ rest }) : W p l e R s m args below meth c H locs cells slots Q g := by
  intro T hT X
  obtain ⟨v', st₀, t, T', L, h0, X', hL, e1, e2, ⟨hv, hp, hz, hk⟩, stp⟩ := hr T hT X
  have hv' : v' = ov := Outcome.returned.inj hv
  subst hv'
  rw [h0, ← e1] at hz hk
  rw [← e1] at hp
  obtain ⟨t2, a1, b1⟩ := kk T'.heap (locs ++ L) hp ⟨Nat.le_trans hS.1 hz, fun q h1 h2 => by rw [hk q (Nat.lt_of_lt_of_le h1 hS.1) h2]; exact hS.2.1 q h1 h2, fun q hq => by
      rcases List.mem_append.mp hq with h | h
      · exact hS.2.2 q h
      · exact hL q h⟩ hz hk T' rfl X'
  exact ⟨t2, stp t2 a1, b1⟩
variable {own C : String} {index n maxL nL f lo : Nat} {y : MethodName} {bytes : ByteArray} {ret : Option FieldType} {Qc : Array Value → State → Outcome → State → Prop} {free : Addr → Prop}
theorem xr_S {As : List Value} {g : JFrame} (hx : p.tables.exec = Jvm.exec) (hb : c.code = cc) (hml : c.maxLocals = nL) (hown : s.vm.findClass own = some m.cls) (hts : ∀ w ∈ wG, w.before args s = true) (hK : KC D cy s) (hM : Met l y (Cond.code y bytes maxL ret :: wG) (rmF f lo mc ms) (Pc D cy H As) Qc mc ms free) (hm : MSt y bytes maxL ret n) (hk : Cond.methodLink own index y ∈ wG) (hR : f + 1 ≤ R.frames ∧ 8 + (maxL + 11) + lo ≤ R.locals) (hf : cells + mc ≤ R.cells ∧ slots + ms ≤ R.slots) (hn : As.length = n) (hg : g.method = m) (hz : g.locals.size = nL) (hs : g.stack = As.reverse ++ rest) (hW : 2 * g.monitorRoom + (rest.map fun v => v.category).sum ≤ 8) (d : decode cc g.pc = .ok (.invokestatic index, 3)) :
    va_Run p l e R s m args below meth c H locs cells slots mc ms g rest (Qc As.toArray) free := by
  obtain ⟨h5, h2, h4, h6, h7, h8⟩ := hm
  exact va_runS ⟨hx, hb, hml, hown, hts⟩ hM (va_cwS n hts (gS0 hk h2 h4 h5) rfl rfl rfl ⟨h6, h7, h8⟩ hR) ⟨Pc_blind, fun U hU hW => ⟨rfl, hU, va_K.moved hW.alike hK⟩⟩ hg hn hz hs hW d hf
theorem xr_V {As : List Value} {b : Addr} {g : JFrame} (hx : p.tables.exec = Jvm.exec) (hb : c.code = cc) (hml : c.maxLocals = nL) (hown : s.vm.findClass own = some m.cls) (hts : ∀ w ∈ wG, w.before args s = true) (hK : KC D cy s) (hM : Met l y (Cond.code y bytes maxL ret :: wG) (rmF f lo mc ms) (Pc D cy H (.ref b :: As)) Qc mc ms free) (hm : MVi C y bytes maxL ret n) (hk : Cond.methodLink own index y ∈ wG) (hrc : ∃ cellB : Cell, H[b]? = some cellB ∧ cellB.vm.isStatics = false ∧ s.vm.findClass C = some cellB.cls) (hR : f + 1 ≤ R.frames ∧ 8 + (maxL + 11) + lo ≤ R.locals) (hf : cells + mc ≤ R.cells ∧ slots + ms ≤ R.slots) (hn : As.length = n) (hg : g.method = m) (hz : g.locals.size = nL) (hs : g.stack = As.reverse ++ .ref b :: rest) (hW : 2 * g.monitorRoom + (rest.map fun v => v.category).sum ≤ 8) (d : decode cc g.pc = .ok (.invokevirtual index, 3)) :
    va_Run p l e R s m args below meth c H locs cells slots mc ms g rest (Qc (Value.ref b :: As).toArray) free := by
  obtain ⟨h5, h2, h3, h4, hC, h6, h7, h8⟩ := hm
  exact va_runV ⟨hx, hb, hml, hown, hts⟩ hM (cwV n hts (gV0 hk h2 h3 h4 h5) rfl rfl rfl ⟨hC, h6, h7, h8⟩ hR) ⟨Pc_blind, hrc, fun U hU hW => ⟨rfl, hU, va_K.moved hW.alike hK⟩⟩ hg hn hz hs hW d hf
theorem xr_I {As : List Value} {b : Addr} {g : JFrame} (hx : p.tables.exec = Jvm.exec) (hb : c.code = cc) (hml : c.maxLocals = nL) (hown : s.vm.findClass own = some m.cls) (hts : ∀ w ∈ wG, w.before args s = true) (hK : KC D cy s) (hM : Met l y (Cond.code y bytes maxL none :: wG) (rmF f lo mc ms) (Pc D cy H (.ref b :: As)) Qc mc ms free) (hcd : Cond.code y bytes maxL none ∈ wG) (hin : Cond.instanceMethod y ∈ wG) (hini : Cond.initialized y.cls ∈ wG) (hy1 : y.name = "<init>") (hd : y.cls ≠ "java/lang/invoke/MethodHandle" ∧ y.cls ≠ "java/lang/invoke/VarHandle" ∧ (parseMethodDescriptor y.desc).map (fun d => d.parameters.length) = some n) (hk : Cond.methodLink own index y ∈ wG) (hR : f + 1 ≤ R.frames ∧ 8 + (maxL + 11) + lo ≤ R.locals) (hf : cells + mc ≤ R.cells ∧ slots + ms ≤ R.slots) (hn : As.length = n) (hg : g.method = m) (hz : g.locals.size = nL) (hs : g.stack = As.reverse ++ .ref b :: rest) (hW : 2 * g.monitorRoom + (rest.map fun v => v.category).sum ≤ 8) (d : decode cc g.pc = .ok (.invokespecial index, 3)) :
    va_Run p l e R s m args below meth c H locs cells slots mc ms g rest (Qc (Value.ref b :: As).toArray) free := by
  have hG : GoodIn wG (Cond.code y bytes maxL none :: wG) := fun w hw => by
    rcases List.mem_cons.mp hw with z | z
    · subst z; exact ⟨hcd, wG_good hcd⟩
    · exact ⟨z, wG_good z⟩
  exact va_runI ⟨hx, hb, hml, hown, hts⟩ hM (cwI n hts hG rfl rfl rfl (hts _ hini) (hts _ hk) (hts _ hin) hy1 hd hR) ⟨Pc_blind, fun U hU hW => ⟨rfl, hU, va_K.moved hW.alike hK⟩⟩ hg hn hz hs hW d hf
/-- the receiver, out of a world -/
theorem wr_recv {dm : Nat → Int → Prop} {ad : Nat → Int → Nat} {cell : Nat → Int → va_E} {k : Nat} {j : Int} (hK : KC D cy s) (hR : wR D vwCl A dm ad cell H) (hd : dm k j) {ci : Nat} {fs : List Value} (he : cell k j = .inr (ci, fs)) {q : vw_C} (hc : vwCl[ci]? = some q) : ∃ cellB : Cell, H[ad k j]? = some cellB ∧ cellB.vm.isStatics = false ∧ s.vm.findClass q.1 = some cellB.cls := by
  obtain ⟨ws, q0, hP, hD, h0, -⟩ := wr_use hR hd
  rw [he] at h0
  exact va_recv hK hP hc h0
end EX
