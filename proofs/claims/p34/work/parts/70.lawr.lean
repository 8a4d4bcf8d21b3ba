/-! the law: up, cell, plot; what stands around its loop; its calls (the first six declarations begin with the kit's skeleton) -/
def R_law : String := "TakinghallLaw"
def lw_P (b : Addr) (xs : List Int32) (args : Array Value) (s : State) : Prop := args = #[.ref b] ∧ s.IntsAt b xs ∧ xs.length ≤ 260 ∧ (Jvm.Cond.and given_1 narrow_1).before args s = true
def lw_Q (_ : Array Value) (s : State) (o : Outcome) (t : State) : Prop := o = .returned (some (.int 1)) ∧ Framed s o t [] 600104 7301314
def lw_Z (below : List Frame) (a : Array Value) (s : State) : State → Prop := fun t => ∃ o, t.status = .running ∧ Ended t below o ∧ lw_Q a s o t
/-- the law's own end, with 1 on the stack, nothing written that was there before, its room as the claim has it -/
theorem lw_ret {p : Program} {l : Launch} {e : Env} {s : State} {m : MethodId} {below : List Frame} {meth : Method} {c : Code} {b : Nat} (hx : p.tables.exec = Jvm.exec) (hb : c.code = code) (hr : meth.sig.returnType = ret) (hlocks : meth.locks = false) {pc : Nat} {H : Heap} {ls : Array Slot} (hdg : decode code pc = .ok (.ireturn, 1)) : W p l e room_1 s m #[Value.ref b] below meth c H [] 600104 7301314 (lw_Z below #[Value.ref b] s) (F0 m pc ls [.int 1]) := by
  intro T hT X
  obtain ⟨fs, hret, hrun, hended, hW, hframe⟩ := X.leave (v := some (.int 1)) (hlocks := hlocks) (fun h => by rw [hr] at h; cases h)
  have hmeth' : T.vm.method? m = some meth := X.method'
  refine ⟨T.setFrames fs, ?_, .returned (some (.int 1)), hrun, hended, rfl, ⟨_, rfl⟩, hW, hframe⟩
  jvm_step X.here [X.here.top, hx, hb, hdg, hmeth', hr, ret, narrow_b1]
  (try refine ⟨rfl, ?_⟩); (try refine ⟨rfl, ?_⟩)
  first | (intro acts; rw [hret _ acts rfl rfl rfl]) | rw [hret _ _ rfl rfl rfl]
  exact Steps.refl _
/-- what holds at the law's entry: the machine, the code, the tables' words (any of lw_tbl by 'hts w (by decide +kernel)'), the script of L ints xs at the cell b, what the Statement gives of the start (any of its parts by flat_of_before) -/
def lw_At (p : Program) (s : State) (m : MethodId) (meth : Method) (c : Code) (b L : Nat) (xs : Nat → Int32) : Prop :=
  p.tables.exec = Jvm.exec ∧ c.code = code ∧ meth.sig.returnType = ret ∧ c.maxLocals = 37 ∧ s.vm.findClass R_law = some m.cls ∧ (∀ w ∈ lw_tbl, w.before #[Value.ref b] s = true) ∧ va_X b L xs s s.heap ∧ b < s.heap.size ∧ meth.locks = false ∧ (Jvm.Cond.and given_1 narrow_1).before #[Value.ref b] s = true

def shv (x : Int32) : Int32 := (x.toUInt32 >>> ((iI 2).toUInt32 &&& Int32.toUInt32 31)).toInt32
theorem shv_rng (x : Int32) : 0 ≤ (shv x).toInt ∧ (shv x).toInt < 2147483648 := by
  have h : (shv x).toBitVec.toNat = x.toBitVec.toNat / 2 ^ 2 := pk_ushr x (iI 2) 2 (by decide)
  have h2 := x.toBitVec.isLt
  have h3 : (shv x).toInt = ((shv x).toBitVec.toNat : Int) := by
    show (shv x).toBitVec.toInt = _
    rw [BitVec.toInt_eq_toNat_cond, if_pos (by omega)]
  omega
def upv (x : Int32) (n : Int) : Int := (shv x).toInt % n
theorem upv_rng (x : Int32) {n : Int} (h : 0 < n) : 0 ≤ upv x n ∧ upv x n < n := ⟨Int.emod_nonneg _ (by omega), Int.emod_lt_of_pos _ h⟩
theorem ms_L_up : MSt yL_up cL_up 2 (some .int) 2 := ⟨kw_428, kw_427, kw_0, by decide, by decide, by decide +kernel⟩
theorem ms_L_plot : MSt yL_plot cL_plot 1 (some .int) 1 := ⟨kw_434, kw_433, kw_0, by decide, by decide, by decide +kernel⟩
theorem ms_L_cell : MSt yL_cell cL_cell 2 (some .int) 2 := ⟨kw_431, kw_430, kw_0, by decide, by decide, by decide +kernel⟩
theorem c_L_up {l : Launch} {D : va_G} {cy : Nat → ClassId} {H : Heap} (x : Int32) (n : Int) (hn : 0 < n ∧ n < 2147483648) : Met l yL_up (Cond.code yL_up cL_up 2 (some .int) :: wG) (rmF 0 0 0 0) (Pc D cy H [.int x, .int (iI n)]) (Qp (.int (iI (upv x n)))) 0 0 Kn := by
  refine met_of (la := [(0, .int x), (1, .int (iI n))]) (by decide) (Nat.le_of_ble_eq_true rfl) rfl ?_
  intro p e R s m args below meth c ls hRm hx hb hml hr hlk hin hown hts hsH hK hl
  subst hRm
  refine lv_iload_n hx hb dL_up_0 rfl (lv_at hl 0 rfl) ?_
  refine lv_iconst (v := iI 2) hx hb dL_up_1 rfl ?_
  refine lv_iushr (v := shv x) hx hb dL_up_2 rfl ?_
  refine lv_iload_n hx hb dL_up_3 rfl (lv_at hl 1 rfl) ?_
  have g := shv_rng x
  rw [← iI_self (shv x)]
  refine xr_irem hx hb dL_up_4 g hn ?_
  exact xe_i hx hb hr hlk hsH dL_up_5 rfl
theorem c_L_plot {l : Launch} {D : va_G} {cy : Nat → ClassId} {H : Heap} (k : Int) (hk : 0 ≤ k ∧ k ≤ 3) : Met l yL_plot (Cond.code yL_plot cL_plot 1 (some .int) :: wG) (rmF 0 0 0 0) (Pc D cy H [.int (iI k)]) (Qp (.int (iI (pl k)))) 0 0 Kn := by
  refine met_of (la := [(0, .int (iI k))]) (by decide) (Nat.le_of_ble_eq_true rfl) rfl ?_
  intro p e R s m args below meth c ls hRm hx hb hml hr hlk hin hown hts hsH hK hl
  subst hRm
  refine lv_iload_n hx hb dL_plot_0 rfl (lv_at hl 0 rfl) ?_
  refine xr_if_ne (tgt := 9) hx hb dL_plot_1 (by decide) (by omega) (fun h1 => ?_) (fun h1 => ?_)
  · refine lv_iload_n hx hb dL_plot_9 rfl (lv_at hl 0 rfl) ?_
    refine lv_iconst (v := iI 1) hx hb dL_plot_10 rfl ?_
    refine xr_icmp_ne (tgt := 19) hx hb dL_plot_11 (by decide) (by omega) (by decide) (fun h2 => ?_) (fun h2 => ?_)
    · refine lv_iload_n hx hb dL_plot_19 rfl (lv_at hl 0 rfl) ?_
      refine lv_iconst (v := iI 2) hx hb dL_plot_20 rfl ?_
      refine xr_icmp_ne (tgt := 29) hx hb dL_plot_21 (by decide) (by omega) (by decide) (fun h3 => ?_) (fun h3 => ?_)
      · refine lv_bipush (v := iI 35) hx hb dL_plot_29 (by decide) ?_
        exact xe_i hx hb hr hlk hsH dL_plot_31 (by unfold pl; rw [if_neg h1, if_neg h2, if_neg h3])
      · refine lv_bipush (v := iI 20) hx hb dL_plot_24 (by decide) ?_
        refine lv_goto (tgt := 31) hx hb dL_plot_26 (by decide) ?_
        exact xe_i hx hb hr hlk hsH dL_plot_31 (by unfold pl; rw [if_neg h1, if_neg h2, if_pos h3])
    · refine lv_bipush (v := iI 15) hx hb dL_plot_14 (by decide) ?_
      refine lv_goto (tgt := 31) hx hb dL_plot_16 (by decide) ?_
      exact xe_i hx hb hr hlk hsH dL_plot_31 (by unfold pl; rw [if_neg h1, if_pos h2])
  · refine lv_bipush (v := iI 14) hx hb dL_plot_4 (by decide) ?_
    refine lv_goto (tgt := 31) hx hb dL_plot_6 (by decide) ?_
    exact xe_i hx hb hr hlk hsH dL_plot_31 (by unfold pl; rw [if_pos h1])
/-- a method that is given the script -/
def PcS (D : va_G) (cy : Nat → ClassId) (b L : Nat) (xs : Nat → Int32) (H : Heap) (as : List Value) : Array Value → State → Prop := va_Pc as (fun U => U.heap = H ∧ KC D cy U ∧ va_X b L xs U U.heap)
theorem PcS_blind {D : va_G} {cy : Nat → ClassId} {b L : Nat} {xs : Nat → Int32} {H : Heap} {as : List Value} : FrameBlind (PcS D cy b L xs H as) := fun a U g mk h => ⟨h.1, h.2.1, va_K.moved (u := U) (U := U.calling g mk a) (Vm.Alike.refl U.vm) h.2.2.1, by
  obtain ⟨scr, h1, h2, h3, h4, h5⟩ := h.2.2.2
  exact ⟨scr, h1, State.isArrayOf_alike (show U.vm.Alike (U.calling g mk a).vm from Vm.Alike.refl U.vm) h2, h3, h4, h5⟩⟩
def cellv (xs : Nat → Int32) (L : Nat) (k : Int) : Int32 := if L = 0 then 0 else xs (k % (L : Int)).toNat + iI 31 * iI k
theorem c_L_cell {l : Launch} {D : va_G} {cy : Nat → ClassId} {b L : Nat} {xs : Nat → Int32} {H : Heap} (hbl : b < H.size) (hL : L ≤ 260) (k : Int) (hk : 0 ≤ k ∧ k ≤ 100) : Met l yL_cell (Cond.code yL_cell cL_cell 2 (some .int) :: wG) (rmF 0 0 0 0) (PcS D cy b L xs H [.ref b, .int (iI k)]) (Qp (.int (cellv xs L k))) 0 0 Kn := by
  refine Met.ofW (cc := cL_cell) (maxL := 2) (ret := some .int) (by decide) rfl ?_
  intro p e s m args below meth c s₁ B hml hv
  obtain ⟨rfl, hsH, hK, hX⟩ := hv
  have hts := atoms_spec (ws := Cond.code yL_cell cL_cell 2 (some .int) :: wG) B.pre
  have hl := lv_entry ([.ref b, .int (iI k)]) (n := 2) (Nat.le_of_ble_eq_true rfl)
  rw [lg_entry_eq]
  generalize (lg_sl ([.ref b, .int (iI k)]) ++ List.replicate (2 - (lg_sl ([.ref b, .int (iI k)])).length) Slot.unset).toArray = ls at hl ⊢
  have hl : lv_has ls 2 [(0, .ref b), (1, .int (iI k))] := hl
  have hx := B.exec
  have hb := B.bytes
  have hS : va_S Kn s.heap s.heap [] := va_S.rf
  have hbl2 : b < s.heap.size := by rw [hsH]; exact hbl
  refine lv_aload_n hx hb dL_cell_0 rfl (lv_at hl 0 rfl) ?_
  refine va_slen hx hb hX hbl2 (fun h => h) hS dL_cell_1 ?_
  rw [show Int32.ofNat L = iI (L : Int) from Int32.ofInt_eq_ofNat.symm]
  refine xr_if_ne (tgt := 9) hx hb dL_cell_2 (by decide) ⟨by omega, by omega⟩ (fun h1 => ?_) (fun h1 => ?_)
  · refine lv_aload_n hx hb dL_cell_9 rfl (lv_at hl 0 rfl) ?_
    refine lv_iload_n hx hb dL_cell_10 rfl (lv_at hl 1 rfl) ?_
    refine lv_aload_n hx hb dL_cell_11 rfl (lv_at hl 0 rfl) ?_
    refine va_slen hx hb hX hbl2 (fun h => h) hS dL_cell_12 ?_
    rw [show Int32.ofNat L = iI (L : Int) from Int32.ofInt_eq_ofNat.symm]
    refine xr_irem hx hb dL_cell_13 ⟨by omega, by omega⟩ ⟨by omega, by omega⟩ ?_
    have r1 := Int.emod_nonneg k (show (L : Int) ≠ 0 by omega)
    have r2 := Int.emod_lt_of_pos k (show (0 : Int) < (L : Int) by omega)
    refine va_sld hx hb hX hbl2 (fun h => h) hS (iI_vin (n := L) ⟨r1, r2⟩ (by omega)) dL_cell_14 ?_
    rw [iI_clamp ⟨by omega, by omega⟩]
    refine lv_bipush (v := iI 31) hx hb dL_cell_15 (by decide) ?_
    refine lv_iload_n hx hb dL_cell_17 rfl (lv_at hl 1 rfl) ?_
    refine lv_imul hx hb dL_cell_18 ?_
    refine lv_iadd hx hb dL_cell_19 ?_
    refine W.iret hx hb B.returns (fun t ht _ => ⟨?_, by rw [ht]⟩) (fun q hq => by cases hq) dL_cell_20 B.notSynchronized
    unfold cellv
    rw [if_neg (by omega)]
  · refine lv_iconst (v := iI 0) hx hb dL_cell_5 rfl ?_
    refine lv_goto (tgt := 20) hx hb dL_cell_6 (by decide) ?_
    refine W.iret hx hb B.returns (fun t ht _ => ⟨?_, by rw [ht]⟩) (fun q hq => by cases hq) dL_cell_20 B.notSynchronized
    unfold cellv
    rw [if_pos (by omega)]
    rfl
/-- what stands around the loop -/
def LE (p : Program) (l : Launch) (s : State) (m : MethodId) (meth : Method) (c : Code) (b L : Nat) (xs : Nat → Int32) (D : va_G) (cy : Nat → ClassId) (A A2 : Nat → Prop) (adM : Nat → Int → Nat) : Prop :=
  lw_At p s m meth c b L xs ∧ l.stackTraces = false ∧ KC D cy s ∧ XS (fun q : Nat => s.heap.size ≤ q) s ∧ XN s ∧ (∀ q : Nat, adM 35 0 + 1 ≤ q → A q) ∧ (∀ q : Nat, A q → s.heap.size ≤ q) ∧ (∀ q : Nat, A2 q → s.heap.size ≤ q) ∧ (∀ q : Nat, A q → ¬ A2 q) ∧ L ≤ 260
/-- what holds in the loop -/
def LI (D : va_G) (cy : Nat → ClassId) (A A2 : Nat → Prop) (s : State) (hh : Nat) (ad adM : Nat → Int → Nat) (sg mu : Nat → Int → Int) (H : Heap) (locs : List Loc) : Prop :=
  RC D cy A ad sg H ∧ RM D cy A2 adM mu H ∧ ad 4 0 = hh ∧ LR sg mu ∧ Inv sg ∧ GC sg ∧ GL mu ∧ va_S (fun q : Nat => s.heap.size ≤ q) s.heap H locs
section LW
variable {p : Program} {l : Launch} {e : Env} {s : State} {m : MethodId} {args : Array Value} {below : List Frame} {meth : Method} {c : Code} {H : Heap} {locs : List Loc} {cells slots mc ms hh : Nat} {Q : State → Prop}
variable {pc : Nat} {ls : Array Slot} {rest : List Value} {D : va_G} {cy : Nat → ClassId} {A A2 : Nat → Prop} {n maxL f lo index : Nat} {y : MethodName} {bytes : ByteArray} {ret : Option FieldType}
variable {b L : Nat} {xs : Nat → Int32} {ad adM : Nat → Int → Nat} {sg mu T : Nat → Int → Int}
theorem lw_up (hx : p.tables.exec = Jvm.exec) (hb : c.code = code) (hml : c.maxLocals = 37) (hown : s.vm.findClass "TakinghallLaw" = some m.cls) (hts : ∀ w ∈ wG, w.before args s = true) (hK : KC D cy s) (hsz : ls.size = 37) (hc : cells ≤ 600104 ∧ slots ≤ 7301314) {x : Int32} {n : Int} (hn : 0 < n ∧ n < 2147483648) (hW : 2 * (F0 m pc ls (.int (iI n) :: .int x :: rest)).monitorRoom + (rest.map fun v => v.category).sum ≤ 8) (d : decode code pc = .ok (.invokestatic 91, 3)) (kk : ∀ r : Int, 0 ≤ r → r < n → W p l e room_1 s m args below meth c H locs cells slots Q (F0 m (pc + 3) ls (.int (iI r) :: rest))) : W p l e room_1 s m args below meth c H locs cells slots Q (F0 m pc ls (.int (iI n) :: .int x :: rest)) := by
  refine xk_pF (xr_S (As := [.int x, .int (iI n)]) (rest := rest) hx hb hml hown hts hK (c_L_up x n hn) ms_L_up kw_426 ⟨by decide, by decide⟩ hc rfl rfl hsz rfl hW d) ?_
  have g := upv_rng x hn.1
  exact kk _ g.1 g.2
theorem lw_plot (hx : p.tables.exec = Jvm.exec) (hb : c.code = code) (hml : c.maxLocals = 37) (hown : s.vm.findClass "TakinghallLaw" = some m.cls) (hts : ∀ w ∈ wG, w.before args s = true) (hK : KC D cy s) (hsz : ls.size = 37) (hc : cells ≤ 600104 ∧ slots ≤ 7301314) {k : Int} (hk : 0 ≤ k ∧ k ≤ 3) (hW : 2 * (F0 m pc ls (.int (iI k) :: rest)).monitorRoom + (rest.map fun v => v.category).sum ≤ 8) (d : decode code pc = .ok (.invokestatic 95, 3)) (kk : W p l e room_1 s m args below meth c H locs cells slots Q (F0 m (pc + 3) ls (.int (iI (pl k)) :: rest))) : W p l e room_1 s m args below meth c H locs cells slots Q (F0 m pc ls (.int (iI k) :: rest)) :=
  xk_pF (xr_S (As := [.int (iI k)]) (rest := rest) hx hb hml hown hts hK (c_L_plot k hk) ms_L_plot kw_432 ⟨by decide, by decide⟩ hc rfl rfl hsz rfl hW d) kk
theorem lw_cell (hx : p.tables.exec = Jvm.exec) (hb : c.code = code) (hml : c.maxLocals = 37) (hown : s.vm.findClass "TakinghallLaw" = some m.cls) (hts : ∀ w ∈ wG, w.before args s = true) (hK : KC D cy s) (hX : va_X b L xs s s.heap) (hbl : b < s.heap.size) (hL : L ≤ 260) (hS : va_S (fun q : Nat => s.heap.size ≤ q) s.heap H locs) (hsz : ls.size = 37) (hc : cells ≤ 600104 ∧ slots ≤ 7301314) {k : Int} (hk : 0 ≤ k ∧ k ≤ 100) (hW : 2 * (F0 m pc ls (.int (iI k) :: .ref b :: rest)).monitorRoom + (rest.map fun v => v.category).sum ≤ 8) (d : decode code pc = .ok (.invokestatic 87, 3)) (kk : ∀ x : Int32, W p l e room_1 s m args below meth c H locs cells slots Q (F0 m (pc + 3) ls (.int x :: rest))) : W p l e room_1 s m args below meth c H locs cells slots Q (F0 m pc ls (.int (iI k) :: .ref b :: rest)) := by
  have hbH : b < H.size := Nat.lt_of_lt_of_le hbl hS.1
  obtain ⟨h5, h2, h4, h6, h7, h8⟩ := ms_L_cell
  refine xk_p (va_runS (As := [.ref b, .int (iI k)]) (rest := rest) ⟨hx, hb, hml, hown, hts⟩ (c_L_cell (xs := xs) hbH hL k hk) (va_cwS 2 hts (gS0 kw_429 h2 h4 h5) rfl rfl rfl ⟨h6, h7, h8⟩ ⟨by decide, by decide⟩) ⟨PcS_blind, fun U hU hW => ⟨rfl, hU, va_K.moved hW.alike hK, ?_⟩⟩ rfl rfl hsz rfl hW d hc) (kk _)
  obtain ⟨scr, h1, h2, h3, h4, h5⟩ := hX
  exact ⟨scr, by rw [hU, hS.2.1 b hbl (Nat.not_le.mpr hbl)]; exact h1, State.isArrayOf_alike hW.alike h2, h3, h4, h5⟩
/-- a call of the class, which may throw -/
theorem lw_run {As : List Value} {Qc : Array Value → State → Outcome → State → Prop} {XC : String → State → State → Prop} {free : Addr → Prop} (hx : p.tables.exec = Jvm.exec) (hb : c.code = code) (hml : c.maxLocals = 37) (hown : s.vm.findClass "TakinghallLaw" = some m.cls) (hts : ∀ w ∈ wG, w.before args s = true) (hK : KC D cy s) (hXS : XS (fun q : Nat => s.heap.size ≤ q) s) (hS : va_S (fun q : Nat => s.heap.size ≤ q) s.heap H locs) (hA1 : ∀ q : Nat, A q → s.heap.size ≤ q) (hC : RC D cy A ad sg H) (hG : GC sg) (hM : vx_Met l y (Cond.code y bytes maxL ret :: wG) (rmF f lo mc ms) (PcX A D cy H (.ref (ad 4 0) :: As)) Qc XC mc ms free) (hm : MVi RX4 y bytes maxL ret n) (hk : Cond.methodLink "TakinghallLaw" index y ∈ wG) (hR : f + 1 ≤ 11 ∧ 8 + (maxL + 11) + lo ≤ 416) (hf : cells + mc ≤ 600104 ∧ slots + ms ≤ 7301314) (hn : As.length = n) (hsz : ls.size = 37) (hW : (rest.map fun v => v.category).sum ≤ 8) (d : decode code pc = .ok (.invokevirtual index, 3)) :
    vx_Run p l e room_1 s m args below meth c H locs cells slots mc ms (F0 m pc ls (As.reverse ++ .ref (ad 4 0) :: rest)) rest (Qc (Value.ref (ad 4 0) :: As).toArray) XC free := by
  obtain ⟨h5, h2, h3, h4, hCn, h6, h7, h8⟩ := hm
  exact vx_runV ⟨hx, hb, hml, hown, hts⟩ hM (cwV n hts (gV0 hk h2 h3 h4 h5) rfl rfl rfl ⟨hCn, h6, h7, h8⟩ hR) ⟨PcX_blind, wr_recv hK hC (gd_4 hG) rfl rfl, fun U hU hW => ⟨rfl, hU, va_K.moved hW.alike hK, XS.to hXS hW hS hU hA1⟩⟩ rfl hn hsz rfl (by show 2 * 0 + _ ≤ 8; omega) d hf
/-- behind a call of the class that doesn't throw -/
theorem lw_back {Tt : Prop} {v : Value} {P PX : Heap → Prop} {thr : Int} {a : Array Value} {st0 : List Value} (hr : vx_Run p l e room_1 s m args below meth c H locs cells slots mc ms (F0 m pc ls st0) rest (QmT Tt (some v) P A a) (XCx thr PX A) A) (hthr : thr = 0) (hS : va_S (fun q : Nat => s.heap.size ≤ q) s.heap H locs) (hA1 : ∀ q : Nat, A q → s.heap.size ≤ q) (hN : ∀ q : Nat, A q → ¬ A2 q) (hR : RM D cy A2 adM mu H)
    (kk : ∀ (H1 : Heap) (locs1 : List Loc), P H1 → RM D cy A2 adM mu H1 → va_S (fun q : Nat => s.heap.size ≤ q) s.heap H1 locs1 → W p l e room_1 s m args below meth c H1 locs1 (cells + mc) (slots + ms) Q (F0 m (pc + 3) ls (v :: rest))) : W p l e room_1 s m args below meth c H locs cells slots Q (F0 m pc ls st0) :=
  xk_T hr hS hA1 (fun E ce q9 H1 locs1 h1 h3 hE hP hS1 hz hq hce hcv hcl => absurd h1 (by omega)) (fun H1 locs1 hT hP hS1 hz hq => kk H1 locs1 hP (wr_kept hR fun k j hd => by
    have z := wr_lt hR hd
    exact hq _ z.1 (fun y => hN _ y z.2)) hS1)
theorem iI_ne {n : Int} (h : 0 < n ∧ n < 2147483648) : ¬ iI n = 0 := fun z => by
  have h0 : iI n = iI 0 := z
  have := (iI_inj (a := n) (b := 0) ⟨by omega, by omega⟩ ⟨by decide, by decide⟩).mp h0
  omega
theorem lw_idiv {x : Int32} {n : Int} (hx : p.tables.exec = Jvm.exec) (hb : c.code = code) (hn : 0 < n ∧ n < 2147483648) (d : decode code pc = .ok (.idiv, 1)) (kk : W p l e room_1 s m args below meth c H locs cells slots Q (F0 m (pc + 1) ls (.int (x / iI n) :: rest))) : W p l e room_1 s m args below meth c H locs cells slots Q (F0 m pc ls (.int (iI n) :: .int x :: rest)) := lv_idiv hx hb d (iI_ne hn) kk
/-- act -/
theorem lw_act {E v K qa qb qc qd : Int} (hx : p.tables.exec = Jvm.exec) (hb : c.code = code) (hml : c.maxLocals = 37) (hown : s.vm.findClass "TakinghallLaw" = some m.cls) (hts : ∀ w ∈ wG, w.before args s = true) (hK : KC D cy s) (hXS : XS (fun q : Nat => s.heap.size ≤ q) s) (hXN : XN s) (hS : va_S (fun q : Nat => s.heap.size ≤ q) s.heap H locs) (hA1 : ∀ q : Nat, A q → s.heap.size ≤ q) (hN : ∀ q : Nat, A q → ¬ A2 q) (hG : GC sg) (hR : RM D cy A2 adM mu H) (h4 : ad 4 0 = hh)
    (hM : Met l yL_act (Cond.codeWith yL_act cL_act 7 (some .long) hh_act :: wG) (rmF f lo mc ms) (PcW A D cy H [.ref (ad 4 0), .int (iI K), .int (iI qa), .int (iI qb), .int (iI qc), .int (iI qd)]) (Qm (some (.long (lI v))) (AP D cy A ad sg T E) A) mc ms A) (hRm : f + 1 ≤ 11 ∧ 26 + lo ≤ 416) (hf : cells + mc ≤ 600104 ∧ slots + ms ≤ 7301314) (hsz : ls.size = 37) (hW : (rest.map fun v => v.category).sum ≤ 8) (d : decode code pc = .ok (.invokestatic 106, 3))
    (kk : ∀ (ad' : Nat → Int → Nat) (H1 : Heap) (locs1 : List Loc), ad' 4 0 = hh → RC D cy A ad' (if E = 0 then T else sg) H1 → RM D cy A2 adM mu H1 → va_S (fun q : Nat => s.heap.size ≤ q) s.heap H1 locs1 → W p l e room_1 s m args below meth c H1 locs1 (cells + mc) (slots + ms) Q (F0 m (pc + 3) ls (.long (lI v) :: rest))) :
    W p l e room_1 s m args below meth c H locs cells slots Q (F0 m pc ls (.int (iI qd) :: .int (iI qc) :: .int (iI qb) :: .int (iI qa) :: .int (iI K) :: .ref hh :: rest)) := by
  rw [← h4]
  refine xk_m2 (xr_SW (n := 6) (As := [.ref (ad 4 0), .int (iI K), .int (iI qa), .int (iI qb), .int (iI qc), .int (iI qd)]) (rest := rest) hx hb hml hown hts hK hXS hXN hS hA1 hM ms_act kw_435 ⟨hRm.1, by show 8 + (7 + 11) + lo ≤ 416; omega⟩ hf rfl rfl hsz rfl (by show 2 * 0 + _ ≤ 8; omega) d) hS hA1 (fun H1 locs1 hP hS1 hz hq => ?_)
  obtain ⟨ad', ho, hC1⟩ := hP
  exact kk ad' H1 locs1 ((ho 4 0 (gd_4 hG)).trans h4) hC1 (wr_kept hR fun k j hd => by
    have z := wr_lt hR hd
    exact hq _ z.1 (fun y => hN _ y z.2)) hS1
theorem lw_hA (hA : ∀ q : Nat, adM 35 0 + 1 ≤ q → A q) (hR : RM D cy A2 adM mu H) : ∀ q : Nat, H.size ≤ q → A q := fun q h => hA q (by have z := (wr_lt hR md_35).1; omega)
theorem lw_leq {x y : Int} (hx : p.tables.exec = Jvm.exec) (hb : c.code = code) (d : decode code pc = .ok (.lcmp, 1)) (h : y = x) (kk : W p l e room_1 s m args below meth c H locs cells slots Q (F0 m (pc + 1) ls (.int (iI 0) :: rest))) : W p l e room_1 s m args below meth c H locs cells slots Q (F0 m pc ls (.long (lI x) :: .long (lI y) :: rest)) := by
  rw [h]
  exact xr_lcmp_same hx hb d kk
end LW
