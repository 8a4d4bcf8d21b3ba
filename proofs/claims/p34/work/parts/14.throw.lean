/-! methods of the class that may throw -/
def strsC : List (Nat × String) := [(45, "no such PLOT"), (60, "area or use out of its range"), (73, "the PLOT is not FREE, or NEEDED"), (82, "use or cents out of its range"), (95, "day out of its range"), (143, "what out of its range"), (148, "no such PLOT or PERSON"), (153, "share out of its range, or too much with the others"), (158, "too many INTERESTS, or the PLOT is not FREE"), (164, "until or profit out of its range"), (167, "debt out of its range"), (173, "no such INTEREST"), (209, "harm or rise out of its range"), (214, "too many SCHEMES"), (223, "no such SCHEME or PLOT"), (225, "part out of its range"), (228, "the SCHEME is no DRAFT, or the PLOT is not FREE, or NEEDED"), (240, "no notice can be given to it"), (246, "it cannot object"), (251, "it has no objection that can be heard"), (257, "no such SCHEME"), (262, "the SCHEME is no DRAFT, or NEEDS no FREE PLOT"), (268, "an INTEREST stops the SCHEME"), (273, "the SCHEME is DROPPED"), (285, "the PLOT cannot be entered"), (290, "not the INTEREST of an OWNER"), (292, "the PLOT cannot be TAKEN by BLIGHT"), (294, "WORKS cannot begin"), (320, "no advance can be paid to it"), (329, "it cannot be settled"), (331, "the PLOT is not OFFERED"), (344, "days out of its range"), (346, "TODAY would be above the last day")]
def exN (k : Int) : String := if k = 1 then "java/lang/IndexOutOfBoundsException" else if k = 2 then "java/lang/IllegalArgumentException" else "java/lang/IllegalStateException"
abbrev atC (ic : Nat) (E : String) : List Cond := vx_atS "Takinghall" ic E ["java/lang/RuntimeException", "java/lang/Exception"]
def wNG : List Cond := [.castable "java/lang/IndexOutOfBoundsException" "java/lang/IndexOutOfBoundsException", .castable "java/lang/IllegalArgumentException" "java/lang/IllegalArgumentException", .castable "java/lang/IllegalStateException" "java/lang/IllegalStateException", .declares (Bundle.initS "java/lang/RuntimeException"), .declares (Bundle.initS "java/lang/Exception"), .declares (Bundle.initS Bundle.tN)]
set_option maxRecDepth 100000 in
theorem xat_1 : ∀ w ∈ (atC 47 "java/lang/IndexOutOfBoundsException").filter goodWord, w ∈ wG := by decide +kernel
set_option maxRecDepth 100000 in
theorem xng_1 : ∀ w ∈ (atC 47 "java/lang/IndexOutOfBoundsException").filter (fun w => !goodWord w), w ∈ wNG := by decide +kernel
set_option maxRecDepth 100000 in
theorem xot_1 : ∀ w ∈ Cond.classLink "Takinghall" 43 "java/lang/IndexOutOfBoundsException" :: Cond.initialized "java/lang/IndexOutOfBoundsException" :: atC 47 "java/lang/IndexOutOfBoundsException", vx_ot w = true := by decide +kernel
set_option maxRecDepth 100000 in
theorem xat_2 : ∀ w ∈ (atC 62 "java/lang/IllegalArgumentException").filter goodWord, w ∈ wG := by decide +kernel
set_option maxRecDepth 100000 in
theorem xng_2 : ∀ w ∈ (atC 62 "java/lang/IllegalArgumentException").filter (fun w => !goodWord w), w ∈ wNG := by decide +kernel
set_option maxRecDepth 100000 in
theorem xot_2 : ∀ w ∈ Cond.classLink "Takinghall" 58 "java/lang/IllegalArgumentException" :: Cond.initialized "java/lang/IllegalArgumentException" :: atC 62 "java/lang/IllegalArgumentException", vx_ot w = true := by decide +kernel
set_option maxRecDepth 100000 in
theorem xat_3 : ∀ w ∈ (atC 75 "java/lang/IllegalStateException").filter goodWord, w ∈ wG := by decide +kernel
set_option maxRecDepth 100000 in
theorem xng_3 : ∀ w ∈ (atC 75 "java/lang/IllegalStateException").filter (fun w => !goodWord w), w ∈ wNG := by decide +kernel
set_option maxRecDepth 100000 in
theorem xot_3 : ∀ w ∈ Cond.classLink "Takinghall" 71 "java/lang/IllegalStateException" :: Cond.initialized "java/lang/IllegalStateException" :: atC 75 "java/lang/IllegalStateException", vx_ot w = true := by decide +kernel
theorem wNG_warm {s U : State} (hW : s.WarmedH U.vm) (h : ∀ w ∈ wNG, va_Nw w s) : ∀ w ∈ wNG, va_Nw w U := by
  intro w hw
  have h1 := h w hw
  simp only [wNG, List.mem_cons, List.not_mem_nil, or_false] at hw
  rcases hw with e | e | e | e | e | e <;> subst e
  · exact va_Nw.warmC hW h1
  · exact va_Nw.warmC hW h1
  · exact va_Nw.warmC hW h1
  · exact va_Nw.warmD hW h1
  · exact va_Nw.warmD hW h1
  · exact va_Nw.warmD hW h1
theorem wNG_same {s U : State} (hv : s.vm = U.vm) (h : ∀ w ∈ wNG, va_Nw w s) : ∀ w ∈ wNG, va_Nw w U := by
  intro w hw
  have h1 := h w hw
  simp only [wNG, List.mem_cons, List.not_mem_nil, or_false] at hw
  rcases hw with e | e | e | e | e | e <;> subst e <;> exact va_Nw.same rfl hv h1
/-- what a throw needs of the state, beside the tables: strings, two statics of Throwable -/
def XS (A : Nat → Prop) (U : State) : Prop := (∀ w ∈ wNG, va_Nw w U) ∧ (∀ q ∈ strsC, ∃ sa, vk_R "Takinghall" q.1 q.2 sa U) ∧ vx_Zq Bundle.tN "UNASSIGNED_STACK" Bundle.steD A U U.heap ∧ vx_Zq Bundle.tN "SUPPRESSED_SENTINEL" Bundle.listD A U U.heap
theorem XS.to {A B : Nat → Prop} {s U : State} {H : Heap} {locs : List Loc} (h : XS A s) (hW : s.WarmedH U.vm) (hS : va_S A s.heap H locs) (hU : U.heap = H) (hB : ∀ q, B q → A q) : XS B U := by
  obtain ⟨h1, h2, h3, h4⟩ := h
  refine ⟨wNG_warm hW h1, fun q hq => ?_, ?_, ?_⟩
  · obtain ⟨sa, z⟩ := h2 q hq
    exact ⟨sa, vk_R.warm hW z⟩
  · rw [hU]; exact ((vx_Zq.moved hW.alike h3).kept hS.2.1).narrow hB
  · rw [hU]; exact ((vx_Zq.moved hW.alike h4).kept hS.2.1).narrow hB
theorem XS.blind {A : Nat → Prop} {U : State} {g : JFrame} {mk : MethodId} {a : Array Value} (h : XS A U) : XS A (U.calling g mk a) := by
  obtain ⟨h1, h2, h3, h4⟩ := h
  refine ⟨wNG_same (s := U) (U := U.calling g mk a) rfl h1, fun q hq => ?_, ?_, ?_⟩
  · obtain ⟨sa, z⟩ := h2 q hq
    exact ⟨sa, vk_R.same (u := U) (U := U.calling g mk a) rfl z⟩
  · exact vx_Zq.moved (u := U) (U := U.calling g mk a) (Vm.Alike.refl U.vm) h3
  · exact vx_Zq.moved (u := U) (U := U.calling g mk a) (Vm.Alike.refl U.vm) h4
def PcX (A : Nat → Prop) (D : va_G) (cy : Nat → ClassId) (H : Heap) (as : List Value) : Array Value → State → Prop := va_Pc as (fun U => U.heap = H ∧ KC D cy U ∧ XS A U)
theorem PcX_blind {A : Nat → Prop} {D : va_G} {cy : Nat → ClassId} {H : Heap} {as : List Value} : FrameBlind (PcX A D cy H as) := fun a U g mk h => ⟨h.1, h.2.1, va_K.moved (u := U) (U := U.calling g mk a) (Vm.Alike.refl U.vm) h.2.2.1, XS.blind h.2.2.2⟩
/-- the ends: by return, where no condition of a throw holds; by a throw -/
def QmT (T : Prop) (ov : Option Value) (P : Heap → Prop) (A : Nat → Prop) : Array Value → State → Outcome → State → Prop := fun _ st o t => o = .returned ov ∧ T ∧ P t.heap ∧ va_F A st t
def XCx (thr : Int) (P : Heap → Prop) (A : Nat → Prop) : String → State → State → Prop := fun E st t => 1 ≤ thr ∧ thr ≤ 3 ∧ E = exN thr ∧ P t.heap ∧ va_F A st t
theorem vmet_of {l : Launch} {D : va_G} {cy : Nat → ClassId} {A : Nat → Prop} {y : MethodName} {cc : ByteArray} {maxL f lo mc ms : Nat} {ret : Option FieldType} {H : Heap} {as : List Value} {Qc : Array Value → State → Outcome → State → Prop} {XC : String → State → State → Prop} {free : Addr → Prop} {la : List (Nat × Value)} (hy : plainName y.cls = true) (hlen : (lg_sl as).length ≤ maxL) (hla : lv_args 0 as = la)
    (body : ∀ (p : Program) (e : Env) (R : Room) (s : State) (m : MethodId) (args : Array Value) (below : List Frame) (meth : Method) (c : Code) (ls : Array Slot), R = rmF f lo mc ms → p.tables.exec = Jvm.exec → c.code = cc → c.maxLocals = maxL → meth.sig.returnType = ret → meth.locks = false → (∀ x ∈ c.exceptionTable.toList, False) → s.vm.findClass y.cls = some m.cls → (∀ w ∈ wG, w.before args s = true) → s.heap = H → KC D cy s → XS A s → lv_has ls maxL la →
      W p l e R s m args below meth c H [] 0 0 (vx_MQ below Qc XC args s mc ms free) (F0 m 0 ls [])) :
    vx_Met l y (Cond.code y cc maxL ret :: wG) (rmF f lo mc ms) (PcX A D cy H as) Qc XC mc ms free := by
  refine vx_ofW (cc := cc) (maxL := maxL) (ret := ret) hy rfl ?_
  intro p e s m args below meth c s₁ B hml hxt hv
  obtain ⟨rfl, hsH, hK, hX⟩ := hv
  have hts := atoms_spec (ws := Cond.code y cc maxL ret :: wG) B.pre
  have hl := lv_entry as (n := maxL) hlen
  rw [lg_entry_eq]
  rw [hla] at hl
  rw [hsH]
  exact body p e _ s m as.toArray below meth c _ rfl B.exec B.bytes hml B.returns B.notSynchronized hxt (findClass_of_methodNamed B.named) (fun w hw => hts w (List.mem_cons_of_mem _ hw)) hsH hK hX hl
section EV
variable {p : Program} {l : Launch} {e : Env} {R : Room} {s : State} {m : MethodId} {args : Array Value} {below : List Frame} {meth : Method} {c : Code} {H : Heap} {locs : List Loc} {cells slots mc ms : Nat} {Q : State → Prop}
variable {cc : ByteArray} {pc : Nat} {ls : Array Slot} {rest : List Value} {D : va_G} {cy : Nat → ClassId} {A : Nat → Prop} {T : Prop} {P : Heap → Prop} {XC : String → State → State → Prop}
theorem xv_i (hx : p.tables.exec = Jvm.exec) (hb : c.code = cc) (hr : meth.sig.returnType = some .int) (hlk : meth.locks = false) {a b : Int} (hS : va_S A s.heap H locs) (hc : cells ≤ mc) (hs : slots ≤ ms) (d : decode cc pc = .ok (.ireturn, 1)) (hT : T) (h : a = b) (hP : P H) : W p l e R s m args below meth c H locs cells slots (vx_MQ below (QmT T (some (.int (iI b))) P A) XC args s mc ms A) (F0 m pc ls [.int (iI a)]) := by
  subst h
  refine vx_ret (W.widen (k := mc) (n := ms) hc hs ?_)
  exact W.iret hx hb hr (fun t ht _ => ⟨rfl, hT, by rw [ht]; exact hP, hS.F ht⟩) hS.2.2 d hlk
theorem xv_l (hx : p.tables.exec = Jvm.exec) (hb : c.code = cc) (hr : meth.sig.returnType = some .long) (hlk : meth.locks = false) {a b : Int} (hS : va_S A s.heap H locs) (hc : cells ≤ mc) (hs : slots ≤ ms) (d : decode cc pc = .ok (.lreturn, 1)) (hT : T) (h : a = b) (hP : P H) : W p l e R s m args below meth c H locs cells slots (vx_MQ below (QmT T (some (.long (lI b))) P A) XC args s mc ms A) (F0 m pc ls [.long (lI a)]) := by
  subst h
  refine vx_ret (W.widen (k := mc) (n := ms) hc hs ?_)
  exact W.lret hx hb hr (fun t ht _ => ⟨rfl, hT, by rw [ht]; exact hP, hS.F ht⟩) hS.2.2 d hlk
theorem xt_1 {Qc : Array Value → State → Outcome → State → Prop} {thr : Int} {is : Nat} {text : String} (hx : p.tables.exec = Jvm.exec) (hb : c.code = cc) (hl0 : l.stackTraces = false) (hown : s.vm.findClass "Takinghall" = some m.cls) (hts : ∀ w ∈ wG, w.before args s = true) (hX : XS A s) (hS : va_S A s.heap H locs) (hsz : ls.size = c.maxLocals) (hxt : ∀ x ∈ c.exceptionTable.toList, False) (hlk : meth.locks = false) (hstr : (is, text) ∈ strsC)
    (d0 : decode cc pc = .ok (.new 43, 3)) (d3 : decode cc (pc + 3) = .ok (.dup, 1)) (d4 : decode cc (pc + 4) = .ok (.ldc is, 2)) (d6 : decode cc (pc + 6) = .ok (.invokespecial 47, 3)) (d9 : decode cc (pc + 9) = .ok (.athrow, 1)) (hRf : 5 < R.frames) (hRl : (rest.map fun v => v.category).sum + 82 ≤ R.locals) (hRc : cells + 1 ≤ R.cells) (hRs : slots + 6 ≤ R.slots) (hc : cells + 1 ≤ mc) (hs : slots + 6 ≤ ms)
    (hPk : ∀ H1 : Heap, H.size ≤ H1.size → (∀ q : Nat, q < H.size → H1[q]? = H[q]?) → P H1) (hthr : thr = 1) : W p l e R s m args below meth c H locs cells slots (vx_MQ below Qc (XCx thr P A) args s mc ms A) (F0 m pc ls rest) := by
  obtain ⟨h1, h2, h3, h4⟩ := hX
  obtain ⟨sa, hsa⟩ := h2 _ hstr
  refine vx_throwS (names := ["java/lang/RuntimeException", "java/lang/Exception"]) (cls := "java/lang/IndexOutOfBoundsException") hx hb hl0 hown (by decide) (by decide) (hts _ kw_136) (hts _ kw_7) hsa (vx_hat (fun w hw => hts w (xat_1 w hw)) xng_1 (fun w hw => va_Nw.use ?_ (h1 w hw))) xot_1 h3 h4 hS hsz d0 d3 d4 d6 d9 (fun x hxx => (hxt x hxx).elim) hRf hRl hRc hRs hlk ?_ hS.2.2 hc hs
  · simp only [wNG, List.mem_cons, List.not_mem_nil, or_false] at hw
    rcases hw with e | e | e | e | e | e <;> subst e <;> rfl
  · intro t hv hz hq
    refine ⟨by omega, by omega, by rw [hthr]; rfl, hPk _ hz hq, Nat.le_trans hS.1 hz, fun q h1 h2 => ?_⟩
    rw [hq q (Nat.lt_of_lt_of_le h1 hS.1)]
    exact hS.2.1 q h1 h2
theorem xtw_1 {Qc : Array Value → State → Outcome → State → Prop} {thr : Int} {is : Nat} {text : String} (hx : p.tables.exec = Jvm.exec) (hb : c.code = cc) (hl0 : l.stackTraces = false) (hown : s.vm.findClass "Takinghall" = some m.cls) (hts : ∀ w ∈ wG, w.before args s = true) (hX : XS A s) (hS : va_S A s.heap H locs) (hsz : ls.size = c.maxLocals) (hxt : ∀ x ∈ c.exceptionTable.toList, False) (hlk : meth.locks = false) (hstr : (is, text) ∈ strsC)
    (d0 : decode cc pc = .ok (.new 43, 3)) (d3 : decode cc (pc + 3) = .ok (.dup, 1)) (d4 : decode cc (pc + 4) = .ok (.ldc_w is, 3)) (d6 : decode cc (pc + 7) = .ok (.invokespecial 47, 3)) (d9 : decode cc (pc + 10) = .ok (.athrow, 1)) (hRf : 5 < R.frames) (hRl : (rest.map fun v => v.category).sum + 82 ≤ R.locals) (hRc : cells + 1 ≤ R.cells) (hRs : slots + 6 ≤ R.slots) (hc : cells + 1 ≤ mc) (hs : slots + 6 ≤ ms)
    (hPk : ∀ H1 : Heap, H.size ≤ H1.size → (∀ q : Nat, q < H.size → H1[q]? = H[q]?) → P H1) (hthr : thr = 1) : W p l e R s m args below meth c H locs cells slots (vx_MQ below Qc (XCx thr P A) args s mc ms A) (F0 m pc ls rest) := by
  obtain ⟨h1, h2, h3, h4⟩ := hX
  obtain ⟨sa, hsa⟩ := h2 _ hstr
  refine vx_throwSW (names := ["java/lang/RuntimeException", "java/lang/Exception"]) (cls := "java/lang/IndexOutOfBoundsException") hx hb hl0 hown (by decide) (by decide) (hts _ kw_136) (hts _ kw_7) hsa (vx_hat (fun w hw => hts w (xat_1 w hw)) xng_1 (fun w hw => va_Nw.use ?_ (h1 w hw))) xot_1 h3 h4 hS hsz d0 d3 d4 d6 d9 (fun x hxx => (hxt x hxx).elim) hRf hRl hRc hRs hlk ?_ hS.2.2 hc hs
  · simp only [wNG, List.mem_cons, List.not_mem_nil, or_false] at hw
    rcases hw with e | e | e | e | e | e <;> subst e <;> rfl
  · intro t hv hz hq
    refine ⟨by omega, by omega, by rw [hthr]; rfl, hPk _ hz hq, Nat.le_trans hS.1 hz, fun q h1 h2 => ?_⟩
    rw [hq q (Nat.lt_of_lt_of_le h1 hS.1)]
    exact hS.2.1 q h1 h2
theorem xt_2 {Qc : Array Value → State → Outcome → State → Prop} {thr : Int} {is : Nat} {text : String} (hx : p.tables.exec = Jvm.exec) (hb : c.code = cc) (hl0 : l.stackTraces = false) (hown : s.vm.findClass "Takinghall" = some m.cls) (hts : ∀ w ∈ wG, w.before args s = true) (hX : XS A s) (hS : va_S A s.heap H locs) (hsz : ls.size = c.maxLocals) (hxt : ∀ x ∈ c.exceptionTable.toList, False) (hlk : meth.locks = false) (hstr : (is, text) ∈ strsC)
    (d0 : decode cc pc = .ok (.new 58, 3)) (d3 : decode cc (pc + 3) = .ok (.dup, 1)) (d4 : decode cc (pc + 4) = .ok (.ldc is, 2)) (d6 : decode cc (pc + 6) = .ok (.invokespecial 62, 3)) (d9 : decode cc (pc + 9) = .ok (.athrow, 1)) (hRf : 5 < R.frames) (hRl : (rest.map fun v => v.category).sum + 82 ≤ R.locals) (hRc : cells + 1 ≤ R.cells) (hRs : slots + 6 ≤ R.slots) (hc : cells + 1 ≤ mc) (hs : slots + 6 ≤ ms)
    (hPk : ∀ H1 : Heap, H.size ≤ H1.size → (∀ q : Nat, q < H.size → H1[q]? = H[q]?) → P H1) (hthr : thr = 2) : W p l e R s m args below meth c H locs cells slots (vx_MQ below Qc (XCx thr P A) args s mc ms A) (F0 m pc ls rest) := by
  obtain ⟨h1, h2, h3, h4⟩ := hX
  obtain ⟨sa, hsa⟩ := h2 _ hstr
  refine vx_throwS (names := ["java/lang/RuntimeException", "java/lang/Exception"]) (cls := "java/lang/IllegalArgumentException") hx hb hl0 hown (by decide) (by decide) (hts _ kw_210) (hts _ kw_8) hsa (vx_hat (fun w hw => hts w (xat_2 w hw)) xng_2 (fun w hw => va_Nw.use ?_ (h1 w hw))) xot_2 h3 h4 hS hsz d0 d3 d4 d6 d9 (fun x hxx => (hxt x hxx).elim) hRf hRl hRc hRs hlk ?_ hS.2.2 hc hs
  · simp only [wNG, List.mem_cons, List.not_mem_nil, or_false] at hw
    rcases hw with e | e | e | e | e | e <;> subst e <;> rfl
  · intro t hv hz hq
    refine ⟨by omega, by omega, by rw [hthr]; rfl, hPk _ hz hq, Nat.le_trans hS.1 hz, fun q h1 h2 => ?_⟩
    rw [hq q (Nat.lt_of_lt_of_le h1 hS.1)]
    exact hS.2.1 q h1 h2
theorem xtw_2 {Qc : Array Value → State → Outcome → State → Prop} {thr : Int} {is : Nat} {text : String} (hx : p.tables.exec = Jvm.exec) (hb : c.code = cc) (hl0 : l.stackTraces = false) (hown : s.vm.findClass "Takinghall" = some m.cls) (hts : ∀ w ∈ wG, w.before args s = true) (hX : XS A s) (hS : va_S A s.heap H locs) (hsz : ls.size = c.maxLocals) (hxt : ∀ x ∈ c.exceptionTable.toList, False) (hlk : meth.locks = false) (hstr : (is, text) ∈ strsC)
    (d0 : decode cc pc = .ok (.new 58, 3)) (d3 : decode cc (pc + 3) = .ok (.dup, 1)) (d4 : decode cc (pc + 4) = .ok (.ldc_w is, 3)) (d6 : decode cc (pc + 7) = .ok (.invokespecial 62, 3)) (d9 : decode cc (pc + 10) = .ok (.athrow, 1)) (hRf : 5 < R.frames) (hRl : (rest.map fun v => v.category).sum + 82 ≤ R.locals) (hRc : cells + 1 ≤ R.cells) (hRs : slots + 6 ≤ R.slots) (hc : cells + 1 ≤ mc) (hs : slots + 6 ≤ ms)
    (hPk : ∀ H1 : Heap, H.size ≤ H1.size → (∀ q : Nat, q < H.size → H1[q]? = H[q]?) → P H1) (hthr : thr = 2) : W p l e R s m args below meth c H locs cells slots (vx_MQ below Qc (XCx thr P A) args s mc ms A) (F0 m pc ls rest) := by
  obtain ⟨h1, h2, h3, h4⟩ := hX
  obtain ⟨sa, hsa⟩ := h2 _ hstr
  refine vx_throwSW (names := ["java/lang/RuntimeException", "java/lang/Exception"]) (cls := "java/lang/IllegalArgumentException") hx hb hl0 hown (by decide) (by decide) (hts _ kw_210) (hts _ kw_8) hsa (vx_hat (fun w hw => hts w (xat_2 w hw)) xng_2 (fun w hw => va_Nw.use ?_ (h1 w hw))) xot_2 h3 h4 hS hsz d0 d3 d4 d6 d9 (fun x hxx => (hxt x hxx).elim) hRf hRl hRc hRs hlk ?_ hS.2.2 hc hs
  · simp only [wNG, List.mem_cons, List.not_mem_nil, or_false] at hw
    rcases hw with e | e | e | e | e | e <;> subst e <;> rfl
  · intro t hv hz hq
    refine ⟨by omega, by omega, by rw [hthr]; rfl, hPk _ hz hq, Nat.le_trans hS.1 hz, fun q h1 h2 => ?_⟩
    rw [hq q (Nat.lt_of_lt_of_le h1 hS.1)]
    exact hS.2.1 q h1 h2
theorem xt_3 {Qc : Array Value → State → Outcome → State → Prop} {thr : Int} {is : Nat} {text : String} (hx : p.tables.exec = Jvm.exec) (hb : c.code = cc) (hl0 : l.stackTraces = false) (hown : s.vm.findClass "Takinghall" = some m.cls) (hts : ∀ w ∈ wG, w.before args s = true) (hX : XS A s) (hS : va_S A s.heap H locs) (hsz : ls.size = c.maxLocals) (hxt : ∀ x ∈ c.exceptionTable.toList, False) (hlk : meth.locks = false) (hstr : (is, text) ∈ strsC)
    (d0 : decode cc pc = .ok (.new 71, 3)) (d3 : decode cc (pc + 3) = .ok (.dup, 1)) (d4 : decode cc (pc + 4) = .ok (.ldc is, 2)) (d6 : decode cc (pc + 6) = .ok (.invokespecial 75, 3)) (d9 : decode cc (pc + 9) = .ok (.athrow, 1)) (hRf : 5 < R.frames) (hRl : (rest.map fun v => v.category).sum + 82 ≤ R.locals) (hRc : cells + 1 ≤ R.cells) (hRs : slots + 6 ≤ R.slots) (hc : cells + 1 ≤ mc) (hs : slots + 6 ≤ ms)
    (hPk : ∀ H1 : Heap, H.size ≤ H1.size → (∀ q : Nat, q < H.size → H1[q]? = H[q]?) → P H1) (hthr : thr = 3) : W p l e R s m args below meth c H locs cells slots (vx_MQ below Qc (XCx thr P A) args s mc ms A) (F0 m pc ls rest) := by
  obtain ⟨h1, h2, h3, h4⟩ := hX
  obtain ⟨sa, hsa⟩ := h2 _ hstr
  refine vx_throwS (names := ["java/lang/RuntimeException", "java/lang/Exception"]) (cls := "java/lang/IllegalStateException") hx hb hl0 hown (by decide) (by decide) (hts _ kw_232) (hts _ kw_9) hsa (vx_hat (fun w hw => hts w (xat_3 w hw)) xng_3 (fun w hw => va_Nw.use ?_ (h1 w hw))) xot_3 h3 h4 hS hsz d0 d3 d4 d6 d9 (fun x hxx => (hxt x hxx).elim) hRf hRl hRc hRs hlk ?_ hS.2.2 hc hs
  · simp only [wNG, List.mem_cons, List.not_mem_nil, or_false] at hw
    rcases hw with e | e | e | e | e | e <;> subst e <;> rfl
  · intro t hv hz hq
    refine ⟨by omega, by omega, by rw [hthr]; rfl, hPk _ hz hq, Nat.le_trans hS.1 hz, fun q h1 h2 => ?_⟩
    rw [hq q (Nat.lt_of_lt_of_le h1 hS.1)]
    exact hS.2.1 q h1 h2
theorem xtw_3 {Qc : Array Value → State → Outcome → State → Prop} {thr : Int} {is : Nat} {text : String} (hx : p.tables.exec = Jvm.exec) (hb : c.code = cc) (hl0 : l.stackTraces = false) (hown : s.vm.findClass "Takinghall" = some m.cls) (hts : ∀ w ∈ wG, w.before args s = true) (hX : XS A s) (hS : va_S A s.heap H locs) (hsz : ls.size = c.maxLocals) (hxt : ∀ x ∈ c.exceptionTable.toList, False) (hlk : meth.locks = false) (hstr : (is, text) ∈ strsC)
    (d0 : decode cc pc = .ok (.new 71, 3)) (d3 : decode cc (pc + 3) = .ok (.dup, 1)) (d4 : decode cc (pc + 4) = .ok (.ldc_w is, 3)) (d6 : decode cc (pc + 7) = .ok (.invokespecial 75, 3)) (d9 : decode cc (pc + 10) = .ok (.athrow, 1)) (hRf : 5 < R.frames) (hRl : (rest.map fun v => v.category).sum + 82 ≤ R.locals) (hRc : cells + 1 ≤ R.cells) (hRs : slots + 6 ≤ R.slots) (hc : cells + 1 ≤ mc) (hs : slots + 6 ≤ ms)
    (hPk : ∀ H1 : Heap, H.size ≤ H1.size → (∀ q : Nat, q < H.size → H1[q]? = H[q]?) → P H1) (hthr : thr = 3) : W p l e R s m args below meth c H locs cells slots (vx_MQ below Qc (XCx thr P A) args s mc ms A) (F0 m pc ls rest) := by
  obtain ⟨h1, h2, h3, h4⟩ := hX
  obtain ⟨sa, hsa⟩ := h2 _ hstr
  refine vx_throwSW (names := ["java/lang/RuntimeException", "java/lang/Exception"]) (cls := "java/lang/IllegalStateException") hx hb hl0 hown (by decide) (by decide) (hts _ kw_232) (hts _ kw_9) hsa (vx_hat (fun w hw => hts w (xat_3 w hw)) xng_3 (fun w hw => va_Nw.use ?_ (h1 w hw))) xot_3 h3 h4 hS hsz d0 d3 d4 d6 d9 (fun x hxx => (hxt x hxx).elim) hRf hRl hRc hRs hlk ?_ hS.2.2 hc hs
  · simp only [wNG, List.mem_cons, List.not_mem_nil, or_false] at hw
    rcases hw with e | e | e | e | e | e <;> subst e <;> rfl
  · intro t hv hz hq
    refine ⟨by omega, by omega, by rw [hthr]; rfl, hPk _ hz hq, Nat.le_trans hS.1 hz, fun q h1 h2 => ?_⟩
    rw [hq q (Nat.lt_of_lt_of_le h1 hS.1)]
    exact hS.2.1 q h1 h2
theorem wr_more {dm : Nat → Int → Prop} {ad : Nat → Int → Nat} {cell : Nat → Int → va_E} (hR : wR D vwCl A dm ad cell H) : ∀ H1 : Heap, H.size ≤ H1.size → (∀ q : Nat, q < H.size → H1[q]? = H[q]?) → wR D vwCl A dm ad cell H1 := fun H1 _ hq => wr_kept hR fun k j hd => hq _ (wr_lt hR hd).1
end EV
