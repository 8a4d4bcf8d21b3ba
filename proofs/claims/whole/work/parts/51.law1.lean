/-! the law's loop: what stands around it, what its rows share -/
def R_law : String := "TakinghallLaw"
def lw_P (b : Addr) (xs : List Int32) (args : Array Value) (s : State) : Prop := args = #[.ref b] ∧ s.IntsAt b xs ∧ xs.length ≤ 2560 ∧ (Jvm.Cond.and given_1 narrow_1).before args s = true
def lw_Q (_ : Array Value) (s : State) (o : Outcome) (t : State) : Prop := o = .returned (some (.int 1)) ∧ Framed s o t [] 601024 7293034
def lw_Z (below : List Frame) (a : Array Value) (s : State) : State → Prop := fun t => ∃ o, t.status = .running ∧ Ended t below o ∧ lw_Q a s o t
/-- what holds at the law's entry: the machine, the code, the tables' words (any of lw_tbl by 'hts w (by decide +kernel)'), the script of L ints xs at the cell b, what the Statement gives of the start (any of its parts by flat_of_before) -/
def lw_At (p : Program) (s : State) (m : MethodId) (meth : Method) (c : Code) (b L : Nat) (xs : Nat → Int32) : Prop :=
  p.tables.exec = Jvm.exec ∧ c.code = code ∧ meth.sig.returnType = ret ∧ c.maxLocals = 8 ∧ s.vm.findClass R_law = some m.cls ∧ (∀ w ∈ lw_tbl, w.before #[Value.ref b] s = true) ∧ va_X b L xs s s.heap ∧ b < s.heap.size ∧ meth.locks = false ∧ (Jvm.Cond.and given_1 narrow_1).before #[Value.ref b] s = true
/-- what stands around the loop -/
def LE (p : Program) (l : Launch) (s : State) (m : MethodId) (meth : Method) (c : Code) (b L : Nat) (xs : Nat → Int32) (D : va_G) (cy : Nat → ClassId) (A A2 : Nat → Prop) (b0 N0 : Nat) : Prop :=
  lw_At p s m meth c b L xs ∧ l.stackTraces = false ∧ KC D cy s ∧ XS (fun q : Nat => s.heap.size ≤ q) s ∧ XN s ∧ (∀ q : Nat, N0 ≤ q → A q) ∧ (∀ q : Nat, A q → s.heap.size ≤ q ∧ ¬ A2 q ∧ q ≠ b0) ∧ (∀ q : Nat, A2 q → s.heap.size ≤ q ∧ q ≠ b0) ∧ s.heap.size ≤ b0 ∧ L ≤ 2560
/-- what holds in the loop -/
def LI (D : va_G) (cy : Nat → ClassId) (A A2 : Nat → Prop) (s : State) (b0 N0 : Nat) (ad adM : Nat → Int → Nat) (sg mu : Nat → Int → Int) (H : Heap) (locs : List Loc) : Prop :=
  RC D cy A ad sg H ∧ RM D cy A2 adM mu H ∧ (∃ g : Nat → Int64, outA D cy b0 H g) ∧ Rel sg mu ∧ GC sg ∧ GM mu ∧ va_S (fun q : Nat => s.heap.size ≤ q) s.heap H locs ∧ N0 ≤ H.size
def xo (xs : Nat → Int32) (j : Nat) : Int := (xs j).toInt
theorem xo_i (xs : Nat → Int32) (j : Nat) : iI (xo xs j) = xs j := iI_self _
theorem xo_in (xs : Nat → Int32) (j : Nat) : in32 (xo xs j) := iI_in _
section LW
variable {p : Program} {l : Launch} {e : Env} {R : Room} {s : State} {m : MethodId} {args : Array Value} {below : List Frame} {meth : Method} {c : Code} {H H0 : Heap} {locs : List Loc} {cells slots mc ms : Nat} {Q : State → Prop}
variable {cc : ByteArray} {pc : Nat} {ls : Array Slot} {rest st0 : List Value} {D : va_G} {cy : Nat → ClassId} {A A0 A1 A2 : Nat → Prop} {own C : String} {index n maxL nL f lo : Nat} {y : MethodName} {bytes : ByteArray} {ret : Option FieldType} {Qc : Array Value → State → Outcome → State → Prop} {free : Addr → Prop} {hh : List (Nat × Nat × Nat × Nat)}
variable {b L i b0 N0 P : Nat} {xs : Nat → Int32} {ad adM : Nat → Int → Nat} {sg mu : Nat → Int → Int}
/-- an int of the script -/
theorem xr_arg (hx : p.tables.exec = Jvm.exec) (hb : c.code = cc) (hX : va_X b L xs s s.heap) (hbl : b < s.heap.size) (hS : va_S (fun q : Nat => s.heap.size ≤ q) s.heap H locs) (hL : L ≤ 2560) {k : Int} {j : Nat} (hk : (i : Int) + k = (j : Int)) (hj : j < L) (h0 : ls[0]? = some (.val (.ref b))) (h4 : ls[4]? = some (.val (.int (iI (i : Int)))))
    (d0 : decode cc P = .ok (.aload_n 0, 1)) (d1 : decode cc (P + 1) = .ok (.iload 4, 2)) (d3 : decode cc (P + 3) = .ok (.iconst k, 1)) (d4 : decode cc (P + 4) = .ok (.iadd, 1)) (d5 : decode cc (P + 5) = .ok (.iaload, 1))
    (kk : W p l e R s m args below meth c H locs cells slots Q (F0 m (P + 6) ls (.int (iI (xo xs j)) :: rest))) : W p l e R s m args below meth c H locs cells slots Q (F0 m P ls rest) := by
  refine lv_aload_n hx hb d0 rfl h0 ?_
  refine lv_iload hx hb d1 h4 ?_
  refine lv_iconst (v := iI k) hx hb d3 rfl ?_
  refine xr_iadd hx hb d4 ?_
  rw [hk]
  refine va_sld hx hb hX hbl (Nat.not_le.mpr hbl) hS (iI_vin (n := L) (by omega) (by omega)) d5 ?_
  rw [iI_clamp ⟨by omega, by omega⟩, Int.toNat_natCast, ← xo_i xs j]
  exact kk
/-- a static call of a wrapper -/
theorem xr_SW {As : List Value} {g : JFrame} (hx : p.tables.exec = Jvm.exec) (hb : c.code = cc) (hml : c.maxLocals = nL) (hown : s.vm.findClass own = some m.cls) (hts : ∀ w ∈ wG, w.before args s = true) (hK : KC D cy s) (hX : XS A0 s) (hN : XN s) (hS : va_S A0 s.heap H locs) (hAA : ∀ q, A q → A0 q) (hM : Met l y (Cond.codeWith y bytes maxL ret hh :: wG) (rmF f lo mc ms) (PcW A D cy H As) Qc mc ms free) (hm : Cond.codeWith y bytes maxL ret hh ∈ wG ∧ Cond.static y ∈ wG ∧ Cond.initialized y.cls ∈ wG ∧ y.cls ≠ "java/lang/invoke/MethodHandle" ∧ y.cls ≠ "java/lang/invoke/VarHandle" ∧ (parseMethodDescriptor y.desc).map (fun d => d.parameters.length) = some n) (hk : Cond.methodLink own index y ∈ wG) (hR : f + 1 ≤ R.frames ∧ 8 + (maxL + 11) + lo ≤ R.locals) (hf : cells + mc ≤ R.cells ∧ slots + ms ≤ R.slots) (hn : As.length = n) (hg : g.method = m) (hz : g.locals.size = nL) (hs : g.stack = As.reverse ++ rest) (hW : 2 * g.monitorRoom + (rest.map fun v => v.category).sum ≤ 8) (d : decode cc g.pc = .ok (.invokestatic index, 3)) :
    va_Run p l e R s m args below meth c H locs cells slots mc ms g rest (Qc As.toArray) free := by
  obtain ⟨h5, h2, h4, h6, h7, h8⟩ := hm
  exact vx_runSW ⟨hx, hb, hml, hown, hts⟩ hM (vx_cwSW n hts (gS0 hk h2 h4 h5) rfl rfl rfl ⟨h6, h7, h8⟩ hR) ⟨PcW_blind, fun U hU hW => ⟨rfl, hU, va_K.moved hW.alike hK, XS.to hX hW hS hU hAA, XN.moved hW.alike hN⟩⟩ hg hn hz hs hW d hf
/-- behind a wrapper: its answer is kept -/
theorem law_w1 (E : LE p l s m meth c b L xs D cy A A2 b0 N0) (I : LI D cy A A2 s b0 N0 ad adM sg mu H locs) {hk : List Int} {e1 e2 r rM : Int} {T : Nat → Int → Int} {a1 : Array Value} (S : SimP hk e1 e2 r rM) (hmc : mc ≤ 1) (hms : ms ≤ 15)
    (hr : va_Run p l e R s m args below meth c H locs cells slots mc ms (F0 m P ls st0) [] (Qm (some (.int (iI (kWo hk e1)))) (WP D cy A ad sg T b0 e1 r) (fun q => A q ∨ q = b0) a1) (fun q => A q ∨ q = b0))
    (hl : lv_has ls 8 [(0, .ref b), (1, .ref (ad 4 0)), (2, .ref (adM 5 0)), (3, .ref b0), (4, .int (iI (i : Int)))]) (d : decode code (P + 3) = .ok (.istore 5, 2))
    (kk : ∀ (ad' : Nat → Int → Nat) (g : Nat → Int64) (H1 : Heap) (locs1 : List Loc) (ls1 : Array Slot), RC D cy A ad' (if e1 = 0 then T else sg) H1 → RM D cy A2 adM mu H1 → outA D cy b0 H1 g → (e2 = 0 → g 0 = lI rM) → va_S (fun q : Nat => s.heap.size ≤ q) s.heap H1 locs1 → N0 ≤ H1.size → lv_has ls1 8 [(5, .int (iI e2)), (0, .ref b), (1, .ref (ad' 4 0)), (2, .ref (adM 5 0)), (3, .ref b0), (4, .int (iI (i : Int)))] → W p l e R s m args below meth c H1 locs1 (cells + 1) (slots + 15) Q (F0 m (P + 5) ls1 [])) :
    W p l e R s m args below meth c H locs cells slots Q (F0 m P ls st0) := by
  obtain ⟨⟨hx, hb, -, -, -, -, -, -, -, -⟩, -, -, -, -, -, hA, hA2, hb0, -⟩ := E
  obtain ⟨hRC, hRM, ⟨g0, hB⟩, -, hGC, -, hS, hN⟩ := I
  refine xk_m2 hr hS (fun q hq => hq.elim (fun z => (hA q z).1) (fun z => by rw [z]; exact hb0)) (fun H1 locs1 hP hS1 hz hq => ?_)
  obtain ⟨ad', g, had, hRC1, hB1, hg⟩ := hP
  have hRM1 : RM D cy A2 adM mu H1 := wr_kept hRM fun k j hd => by
    have z := wr_lt hRM hd
    exact hq _ z.1 (fun y => y.elim (fun w => (hA _ w).2.1 z.2) (fun w => (hA2 _ z.2).2 w))
  have e4 : ad' 4 0 = ad 4 0 := had 4 0 (gd_4 hGC)
  refine W.widen (k := cells + 1) (n := slots + 15) (by omega) (by omega) ?_
  rw [S.1]
  refine lv_istore (lv' := [(5, .int (iI e2)), (0, .ref b), (1, .ref (ad 4 0)), (2, .ref (adM 5 0)), (3, .ref b0), (4, .int (iI (i : Int)))]) hx hb d hl (by decide) rfl (fun ls1 hl1 => ?_)
  rw [← e4] at hl1
  refine kk ad' g H1 locs1 ls1 hRC1 hRM1 hB1 (fun z => ?_) hS1 (Nat.le_trans hN hz) hl1
  have z1 := S.2.1.mpr z
  rw [hg z1, S.2.2.1 z1]
/-- behind a call of the model -/
theorem law_w2 (E : LE p l s m meth c b L xs D cy A A2 b0 N0) {v : Value} {a2 : Array Value} {mu2 : Nat → Int → Int} {g : Nat → Int64}
    (hr : va_Run p l e R s m args below meth c H locs cells slots 0 0 (F0 m P ls st0) rest (Qm (some v) (fun H' => RM D cy A2 adM mu2 H') A2 a2) A2)
    (hRC : RC D cy A ad sg H) (hB : outA D cy b0 H g) (hS : va_S (fun q : Nat => s.heap.size ≤ q) s.heap H locs) (hN : N0 ≤ H.size)
    (kk : ∀ (H1 : Heap) (locs1 : List Loc), RC D cy A ad sg H1 → RM D cy A2 adM mu2 H1 → outA D cy b0 H1 g → va_S (fun q : Nat => s.heap.size ≤ q) s.heap H1 locs1 → N0 ≤ H1.size → W p l e R s m args below meth c H1 locs1 cells slots Q (F0 m (P + 3) ls (v :: rest))) :
    W p l e R s m args below meth c H locs cells slots Q (F0 m P ls st0) := by
  obtain ⟨-, -, -, -, -, -, hA, hA2, hb0, -⟩ := E
  refine xk_m2 hr hS (fun q hq => (hA2 q hq).1) (fun H1 locs1 hP hS1 hz hq => ?_)
  refine kk H1 locs1 (wr_kept hRC fun k j hd => ?_) hP ((hq b0 (Array.getElem?_eq_some_iff.mp hB).1 (fun z => (hA2 _ z).2 rfl)).trans hB) hS1 (Nat.le_trans hN hz)
  have z := wr_lt hRC hd
  exact hq _ z.1 (hA _ z.2).2.1
/-- the array of one long is read -/
theorem law_out (hx : p.tables.exec = Jvm.exec) (hb : c.code = cc) (hK : KC D cy s) {g : Nat → Int64} (hB : outA D cy b0 H g) (d : decode cc P = .ok (.laload, 1))
    (kk : W p l e R s m args below meth c H locs cells slots Q (F0 m (P + 1) ls (.long (g 0) :: rest))) : W p l e R s m args below meth c H locs cells slots Q (F0 m P ls (.int (iI 0) :: .ref b0 :: rest)) := by
  have hP : va_P D vwCl [(b0, .inl (cy 7, 1, .inr (.inl g)))] H := fun k q h => by
    cases k with
    | zero => cases h; exact hB
    | succ k => simp at h
  refine va_lald hx hb hK hP 0 1 rfl rfl (iI_vin (by decide) (by decide)) d ?_
  exact kk
/-- the law compares: an int -/
theorem law_ti (E : LE p l s m meth c b L xs D cy A A2 b0 N0) (hml : c.maxLocals = 8) (hown : s.vm.findClass "TakinghallLaw" = some m.cls) (hts : ∀ w ∈ wG, w.before args s = true) {q1 : Nat} {e2 rM off : Int} {g : Nat → Int64} (hRM : RM D cy A2 adM mu H) (hGM : GM mu) (hB : outA D cy b0 H g) (he : 0 ≤ e2 ∧ e2 ≤ 3) (h9 : mu 900 0 = e2) (hr : e2 = 0 → in32 rM) (hg : e2 = 0 → g 0 = lI rM) (hR : 1 ≤ R.frames ∧ 20 ≤ R.locals) (hc : cells ≤ R.cells ∧ slots ≤ R.slots)
    (hl : lv_has ls 8 [(5, .int (iI e2)), (0, .ref b), (1, .ref q1), (2, .ref (adM 5 0)), (3, .ref b0), (4, .int (iI (i : Int)))])
    (d0 : decode code P = .ok (.istore 6, 2)) (d2 : decode code (P + 2) = .ok (.aload_n 2, 1)) (d3 : decode code (P + 3) = .ok (.invokevirtual 122, 3)) (d6 : decode code (P + 6) = .ok (.iload 5, 2)) (d8 : decode code (P + 8) = .ok (.if_icmp .eq 5, 3)) (d13 : decode code (P + 13) = .ok (.iload 5, 2)) (d15 : decode code (P + 15) = .ok (.ifCond .ne 15, 3)) (d18 : decode code (P + 18) = .ok (.aload_n 3, 1)) (d19 : decode code (P + 19) = .ok (.iconst 0, 1)) (d20 : decode code (P + 20) = .ok (.laload, 1)) (d21 : decode code (P + 21) = .ok (.iload 6, 2)) (d23 : decode code (P + 23) = .ok (.i2l, 1)) (d24 : decode code (P + 24) = .ok (.lcmp, 1)) (d25 : decode code (P + 25) = .ok (.ifCond .eq 5, 3)) (d30 : decode code (P + 30) = .ok (.goto off, 3)) (ho : ((P + 30 : Nat) : Int) + off = ((2095 : Nat) : Int))
    (kk : ∀ ls1 : Array Slot, lv_has ls1 8 [(0, .ref b), (1, .ref q1), (2, .ref (adM 5 0)), (3, .ref b0), (4, .int (iI (i : Int)))] → W p l e R s m args below meth c H locs cells slots Q (F0 m 2095 ls1 [])) : W p l e R s m args below meth c H locs cells slots Q (F0 m P ls [.int (iI (mR e2 rM))]) := by
  obtain ⟨⟨hx, hb, -, -, -, -, -, -, -, -⟩, -, hK, -, -, -, -, -, -, -⟩ := E
  refine lv_istore (lv' := [(6, .int (iI (mR e2 rM))), (5, .int (iI e2)), (0, .ref b), (1, .ref q1), (2, .ref (adM 5 0)), (3, .ref b0), (4, .int (iI (i : Int)))]) hx hb d0 hl (by decide) rfl (fun ls hl => ?_)
  have hk5 := lv_sub hl [2, 3, 4, 5, 6] (l' := [(0, .ref b), (1, .ref q1), (2, .ref (adM 5 0)), (3, .ref b0), (4, .int (iI (i : Int)))]) rfl
  refine lv_aload_n hx hb d2 rfl (lv_at hl 4 rfl) ?_
  refine xk_pF (xr_V (As := []) (rest := []) hx hb hml hown hts hK (c_X5_thrown hRM hGM) ms_X5_thrown kw_857 (wr_recv hK hRM (md_5 hGM) rfl rfl) ⟨by omega, by omega⟩ hc rfl rfl hl.1 rfl (lv_room (Nat.le_of_ble_eq_true rfl)) d3) ?_
  rw [h9]
  refine lv_iload hx hb d6 (lv_at hl 1 rfl) ?_
  refine xr_icmp_eq (tgt := P + 13) hx hb d8 (by omega) ⟨by omega, by omega⟩ ⟨by omega, by omega⟩ (fun _ => ?_) (fun z => absurd rfl z)
  refine lv_iload hx hb d13 (lv_at hl 1 rfl) ?_
  refine xr_if_ne (tgt := P + 30) hx hb d15 (by omega) ⟨by omega, by omega⟩ (fun _ => ?_) (fun z => ?_)
  · exact lv_goto hx hb d30 ho (kk ls hk5)
  · refine lv_aload_n hx hb d18 rfl (lv_at hl 5 rfl) ?_
    refine lv_iconst (v := iI 0) hx hb d19 rfl ?_
    refine law_out hx hb hK hB d20 ?_
    rw [hg z]
    refine lv_iload hx hb d21 (lv_at hl 0 rfl) ?_
    rw [mR_0 z]
    refine xr_i2l hx hb d23 (hr z) ?_
    refine xr_lcmp_same hx hb d24 ?_
    refine xr_if_eq (tgt := P + 30) hx hb d25 (by omega) in32_0 (fun _ => ?_) (fun z => absurd rfl z)
    exact lv_goto hx hb d30 ho (kk ls hk5)
/-- the law compares: a long -/
theorem law_tl (E : LE p l s m meth c b L xs D cy A A2 b0 N0) (hml : c.maxLocals = 8) (hown : s.vm.findClass "TakinghallLaw" = some m.cls) (hts : ∀ w ∈ wG, w.before args s = true) {q1 : Nat} {e2 rM off : Int} {g : Nat → Int64} (hRM : RM D cy A2 adM mu H) (hGM : GM mu) (hB : outA D cy b0 H g) (he : 0 ≤ e2 ∧ e2 ≤ 3) (h9 : mu 900 0 = e2) (hg : e2 = 0 → g 0 = lI rM) (hR : 1 ≤ R.frames ∧ 20 ≤ R.locals) (hc : cells ≤ R.cells ∧ slots ≤ R.slots)
    (hl : lv_has ls 8 [(5, .int (iI e2)), (0, .ref b), (1, .ref q1), (2, .ref (adM 5 0)), (3, .ref b0), (4, .int (iI (i : Int)))])
    (d0 : decode code P = .ok (.lstore 6, 2)) (d2 : decode code (P + 2) = .ok (.aload_n 2, 1)) (d3 : decode code (P + 3) = .ok (.invokevirtual 122, 3)) (d6 : decode code (P + 6) = .ok (.iload 5, 2)) (d8 : decode code (P + 8) = .ok (.if_icmp .eq 5, 3)) (d13 : decode code (P + 13) = .ok (.iload 5, 2)) (d15 : decode code (P + 15) = .ok (.ifCond .ne 14, 3)) (d18 : decode code (P + 18) = .ok (.aload_n 3, 1)) (d19 : decode code (P + 19) = .ok (.iconst 0, 1)) (d20 : decode code (P + 20) = .ok (.laload, 1)) (d21 : decode code (P + 21) = .ok (.lload 6, 2)) (d23 : decode code (P + 23) = .ok (.lcmp, 1)) (d24 : decode code (P + 24) = .ok (.ifCond .eq 5, 3)) (d29 : decode code (P + 29) = .ok (.goto off, 3)) (ho : ((P + 29 : Nat) : Int) + off = ((2095 : Nat) : Int))
    (kk : ∀ ls1 : Array Slot, lv_has ls1 8 [(0, .ref b), (1, .ref q1), (2, .ref (adM 5 0)), (3, .ref b0), (4, .int (iI (i : Int)))] → W p l e R s m args below meth c H locs cells slots Q (F0 m 2095 ls1 [])) : W p l e R s m args below meth c H locs cells slots Q (F0 m P ls [.long (lI (mR e2 rM))]) := by
  obtain ⟨⟨hx, hb, -, -, -, -, -, -, -, -⟩, -, hK, -, -, -, -, -, -, -⟩ := E
  refine lv_lstore (lv' := [(6, .long (lI (mR e2 rM))), (5, .int (iI e2)), (0, .ref b), (1, .ref q1), (2, .ref (adM 5 0)), (3, .ref b0), (4, .int (iI (i : Int)))]) hx hb d0 hl (by decide) rfl (fun ls hl => ?_)
  have hk5 := lv_sub hl [2, 3, 4, 5, 6] (l' := [(0, .ref b), (1, .ref q1), (2, .ref (adM 5 0)), (3, .ref b0), (4, .int (iI (i : Int)))]) rfl
  refine lv_aload_n hx hb d2 rfl (lv_at hl 4 rfl) ?_
  refine xk_pF (xr_V (As := []) (rest := []) hx hb hml hown hts hK (c_X5_thrown hRM hGM) ms_X5_thrown kw_857 (wr_recv hK hRM (md_5 hGM) rfl rfl) ⟨by omega, by omega⟩ hc rfl rfl hl.1 rfl (lv_room (Nat.le_of_ble_eq_true rfl)) d3) ?_
  rw [h9]
  refine lv_iload hx hb d6 (lv_at hl 1 rfl) ?_
  refine xr_icmp_eq (tgt := P + 13) hx hb d8 (by omega) ⟨by omega, by omega⟩ ⟨by omega, by omega⟩ (fun _ => ?_) (fun z => absurd rfl z)
  refine lv_iload hx hb d13 (lv_at hl 1 rfl) ?_
  refine xr_if_ne (tgt := P + 29) hx hb d15 (by omega) ⟨by omega, by omega⟩ (fun _ => ?_) (fun z => ?_)
  · exact lv_goto hx hb d29 ho (kk ls hk5)
  · refine lv_aload_n hx hb d18 rfl (lv_at hl 5 rfl) ?_
    refine lv_iconst (v := iI 0) hx hb d19 rfl ?_
    refine law_out hx hb hK hB d20 ?_
    rw [hg z]
    refine lv_lload hx hb d21 (lv_at hl 0 rfl) ?_
    rw [mR_0 z]
    refine xr_lcmp_same hx hb d23 ?_
    refine xr_if_eq (tgt := P + 29) hx hb d24 (by omega) in32_0 (fun _ => ?_) (fun z => absurd rfl z)
    exact lv_goto hx hb d29 ho (kk ls hk5)
end LW
