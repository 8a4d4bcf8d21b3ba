/-! the law's wrappers: calls that may throw, and their catching -/
def XN (U : State) : Prop := va_Nc "java/lang/IllegalArgumentException" "java/lang/IndexOutOfBoundsException" U ∧ va_Nc "java/lang/IllegalStateException" "java/lang/IndexOutOfBoundsException" U ∧ va_Nc "java/lang/IllegalStateException" "java/lang/IllegalArgumentException" U
theorem XN.moved {u U : State} (hvm : u.vm.Alike U.vm) (h : XN u) : XN U := ⟨va_Nc.moved hvm h.1, va_Nc.moved hvm h.2.1, va_Nc.moved hvm h.2.2⟩
def PcW (A : Nat → Prop) (D : va_G) (cy : Nat → ClassId) (H : Heap) (as : List Value) : Array Value → State → Prop := va_Pc as (fun U => U.heap = H ∧ KC D cy U ∧ XS A U ∧ XN U)
theorem PcW_blind {A : Nat → Prop} {D : va_G} {cy : Nat → ClassId} {H : Heap} {as : List Value} : FrameBlind (PcW A D cy H as) := fun a U g mk h => ⟨h.1, h.2.1, va_K.moved (u := U) (U := U.calling g mk a) (Vm.Alike.refl U.vm) h.2.2.1, XS.blind h.2.2.2.1, XN.moved (u := U) (U := U.calling g mk a) (Vm.Alike.refl U.vm) h.2.2.2.2⟩
theorem met_ofWH {l : Launch} {y : MethodName} {Pc : Array Value → State → Prop} {Qc : Array Value → State → Outcome → State → Prop} {mc ms f lo : Nat} {free : Addr → Prop} {cc : ByteArray} {maxL : Nat} {ret : Option FieldType} {hh : List (Nat × Nat × Nat × Nat)}
    (hy : plainName y.cls = true)
    (body : ∀ p e s m args below meth c s₁, BodyLoose p l y (headSpec (Cond.codeWith y cc maxL ret hh :: wG) (rmF f lo mc ms)) cc maxL ret e s m args below meth c s₁ → c.maxLocals = maxL → Pc args s →
      W p l e (rmF f lo mc ms) s m args below meth c s.heap [] 0 0 (MQ below Qc args s mc ms free) (entryFrame m args maxL)) : Met l y (Cond.codeWith y cc maxL ret hh :: wG) (rmF f lo mc ms) Pc Qc mc ms free := by
  refine MetFree.of_bodyS (code := cc) (maxLocals := maxL) (ret := ret) hy ?_ ?_
  · intro args s m h hn
    obtain ⟨m9, meth, c, hn9, h1, h2, h3, h4, -, h5, h6, -⟩ := Cond.codeWith_spec (atoms_spec (ws := Cond.codeWith y cc maxL ret hh :: wG) h _ List.mem_cons_self)
    cases hn.symm.trans hn9
    exact ⟨meth, c, h1, h2, h3, h4, h5, h6⟩
  · intro p e s m args below meth c s₁ B hml hP _
    have hh0 : s₁.heap = s.heap := by rw [B.state]; rfl
    obtain ⟨t, a1, o, b1, b2, b3⟩ := body p e s m args below meth c s₁ B hml hP s₁ hh0 (Stand.of_body B)
    exact ⟨t, o, a1, b1, b2, b3⟩
theorem wmet_of {l : Launch} {D : va_G} {cy : Nat → ClassId} {A : Nat → Prop} {y : MethodName} {cc : ByteArray} {maxL f lo mc ms : Nat} {ret : Option FieldType} {hh : List (Nat × Nat × Nat × Nat)} {H : Heap} {as : List Value} {Qc : Array Value → State → Outcome → State → Prop} {free : Addr → Prop} {la : List (Nat × Value)} (hy : plainName y.cls = true) (hlen : (lg_sl as).length ≤ maxL) (hla : lv_args 0 as = la)
    (body : ∀ (p : Program) (e : Env) (R : Room) (s : State) (m : MethodId) (args : Array Value) (below : List Frame) (meth : Method) (c : Code) (ls : Array Slot), R = rmF f lo mc ms → p.tables.exec = Jvm.exec → c.code = cc → c.maxLocals = maxL → meth.sig.returnType = ret → meth.locks = false → c.exceptionTable.toList = tableOf hh → s.vm.findClass y.cls = some m.cls → (∀ w ∈ wG, w.before args s = true) → s.heap = H → KC D cy s → XS A s → XN s → lv_has ls maxL la →
      W p l e R s m args below meth c H [] 0 0 (MQ below Qc args s mc ms free) (F0 m 0 ls [])) :
    Met l y (Cond.codeWith y cc maxL ret hh :: wG) (rmF f lo mc ms) (PcW A D cy H as) Qc mc ms free := by
  refine met_ofWH (cc := cc) (maxL := maxL) (ret := ret) hy ?_
  intro p e s m args below meth c s₁ B hml hv
  obtain ⟨rfl, hsH, hK, hX, hN⟩ := hv
  have hts := atoms_spec (ws := Cond.codeWith y cc maxL ret hh :: wG) B.pre
  have hl := lv_entry as (n := maxL) hlen
  rw [lg_entry_eq]
  rw [hla] at hl
  rw [hsH]
  exact body p e _ s m as.toArray below meth c _ rfl B.exec B.bytes hml B.returns B.notSynchronized (vx_table (x := y) B (hts _ List.mem_cons_self)) (findClass_of_methodNamed B.named) (fun w hw => hts w (List.mem_cons_of_mem _ hw)) hsH hK hX hN hl
section WX
variable {p : Program} {l : Launch} {e : Env} {R : Room} {s : State} {m : MethodId} {args : Array Value} {below : List Frame} {meth : Method} {c : Code} {H H0 : Heap} {locs : List Loc} {cells slots mc ms : Nat} {Q : State → Prop}
variable {cc : ByteArray} {pc : Nat} {ls : Array Slot} {rest st0 : List Value} {D : va_G} {cy : Nat → ClassId} {A A0 A1 : Nat → Prop} {own C : String} {index n maxL nL f lo : Nat} {y : MethodName} {bytes : ByteArray} {ret : Option FieldType} {Qc : Array Value → State → Outcome → State → Prop} {XC : String → State → State → Prop} {free : Addr → Prop}
theorem xr_T {As : List Value} {b : Addr} {g : JFrame} (hx : p.tables.exec = Jvm.exec) (hb : c.code = cc) (hml : c.maxLocals = nL) (hown : s.vm.findClass own = some m.cls) (hts : ∀ w ∈ wG, w.before args s = true) (hK : KC D cy s) (hX : XS A s) (hS : va_S A s.heap H locs) (hM : vx_Met l y (Cond.code y bytes maxL ret :: wG) (rmF f lo mc ms) (PcX A D cy H (.ref b :: As)) Qc XC mc ms free) (hm : MVi C y bytes maxL ret n) (hk : Cond.methodLink own index y ∈ wG) (hrc : ∃ cellB : Cell, H[b]? = some cellB ∧ cellB.vm.isStatics = false ∧ s.vm.findClass C = some cellB.cls) (hR : f + 1 ≤ R.frames ∧ 8 + (maxL + 11) + lo ≤ R.locals) (hf : cells + mc ≤ R.cells ∧ slots + ms ≤ R.slots) (hn : As.length = n) (hg : g.method = m) (hz : g.locals.size = nL) (hs : g.stack = As.reverse ++ .ref b :: rest) (hW : 2 * g.monitorRoom + (rest.map fun v => v.category).sum ≤ 8) (d : decode cc g.pc = .ok (.invokevirtual index, 3)) :
    vx_Run p l e R s m args below meth c H locs cells slots mc ms g rest (Qc (Value.ref b :: As).toArray) XC free := by
  obtain ⟨h5, h2, h3, h4, hC, h6, h7, h8⟩ := hm
  exact vx_runV ⟨hx, hb, hml, hown, hts⟩ hM (cwV n hts (gV0 hk h2 h3 h4 h5) rfl rfl rfl ⟨hC, h6, h7, h8⟩ hR) ⟨PcX_blind, hrc, fun U hU hW => ⟨rfl, hU, va_K.moved hW.alike hK, XS.to hX hW hS hU (fun _ h => h)⟩⟩ hg hn hz hs hW d hf
theorem xk_T {T : Prop} {ov : Option Value} {P PX : Heap → Prop} {thr : Int} {a : Array Value} (hr : vx_Run p l e R s m args below meth c H locs cells slots mc ms (F0 m pc ls st0) rest (QmT T ov P A1 a) (XCx thr PX A1) A1) (hS : va_S A0 H0 H locs) (h1A : ∀ x, A1 x → A0 x)
    (kx : ∀ (E : String) (ce : Cell) (q9 : Addr) (H1 : Heap) (locs1 : List Loc), 1 ≤ thr → thr ≤ 3 → E = exN thr → PX H1 → va_S A0 H0 H1 locs1 → H.size ≤ H1.size → (∀ q : Nat, q < H.size → ¬ A1 q → H1[q]? = H[q]?) → H1[q9]? = some ce → ce.vm = .none → s.vm.findClass E = some ce.cls → vx_W p l e R s m args below meth c H1 locs1 (cells + mc) (slots + ms) Q (F0 m pc ls rest) q9)
    (kk : ∀ (H1 : Heap) (locs1 : List Loc), T → P H1 → va_S A0 H0 H1 locs1 → H.size ≤ H1.size → (∀ q : Nat, q < H.size → ¬ A1 q → H1[q]? = H[q]?) → W p l e R s m args below meth c H1 locs1 (cells + mc) (slots + ms) Q (F0 m (pc + 3) ls (ov.toList ++ rest))) : W p l e R s m args below meth c H locs cells slots Q (F0 m pc ls st0) := by
  intro T hT X
  rcases hr T hT X with ⟨v, st₀, t, T', L, h0, X', hL, e1, e2, ⟨hv, hTT, hp, hF⟩, st⟩ | ⟨q, st₀, t, T', L, E, ce, h0, X', hL, e1, e2, ⟨ha, hb, hE, hp, hF⟩, hce, hcv, hcl, st⟩
  · have hv' : v = ov := Outcome.returned.inj hv
    subst hv'
    obtain ⟨k1, k2, k3⟩ := vx_keep h0 e1 hS (fun q _ => h1A q) h1A hL hF
    rw [← e1] at hp
    obtain ⟨t2, a1, b1⟩ := kk T'.heap (locs ++ L) hTT hp k3 k1 k2 T' rfl X'
    exact ⟨t2, st t2 a1, b1⟩
  · obtain ⟨k1, k2, k3⟩ := vx_keep h0 e1 hS (fun q _ => h1A q) h1A hL hF
    rw [← e1] at hp
    obtain ⟨t2, a1, b1⟩ := kx E ce q T'.heap (locs ++ L) ha hb hE hp k3 k1 k2 (by rw [e1]; exact hce) hcv hcl T' rfl X'
    exact ⟨t2, st.trans a1, b1⟩
/-- a write into the array of longs beside a world -/
theorem wr_lastX {dm : Nat → Int → Prop} {ad : Nat → Int → Nat} {cell : Nat → Int → va_E} {b0 : Nat} {g : Nat → Int64} {v : Int64} (hexec : p.tables.exec = Jvm.exec) (hb : c.code = cc) (hK : KC D cy s) (hR : wR D vwCl A dm ad cell H) (hB : va_at D vwCl (b0, .inl (cy 7, 1, .inr (.inl g))) H) (hb0 : ¬ A b0) (hA : ∀ q, A q → A0 q) (hA0 : A0 b0) (hS : va_S A0 H0 H locs) (hdg : decode cc pc = .ok (.lastore, 1))
    (kk : ∀ (H1 : Heap) (locs1 : List Loc), wR D vwCl A dm ad cell H1 → (∃ g' : Nat → Int64, va_at D vwCl (b0, .inl (cy 7, 1, .inr (.inl g'))) H1 ∧ g' 0 = v) → va_S A0 H0 H1 locs1 → W p l e R s m args below meth c H1 locs1 cells slots Q (F0 m (pc + 1) ls rest)) : W p l e R s m args below meth c H locs cells slots Q (F0 m pc ls (.long v :: .int (iI 0) :: .ref b0 :: rest)) := by
  obtain ⟨dl, hn, hm, hP, hD⟩ := hR
  have h00 : ∀ (e : va_E) (i : Nat) (p : Nat × va_E), [(b0, e)][i]? = some p → i = 0 ∧ p = (b0, e) := by
    intro e i p h
    cases i with
    | zero => cases h; exact ⟨rfl, rfl⟩
    | succ i => simp at h
  have hne : ∀ i (p : Nat × va_E), (dl.map fun q => (ad q.1 q.2, cell q.1 q.2))[i]? = some p → p.1 ≠ b0 := fun i p h z => hb0 (z ▸ hD.2 i p h)
  have hlen : ∀ e : va_E, ((dl.map fun q => (ad q.1 q.2, cell q.1 q.2)) ++ [(b0, e)])[(dl.map fun q => (ad q.1 q.2, cell q.1 q.2)).length]? = some (b0, e) := by
    intro e
    rw [List.getElem?_append_right (Nat.le_refl _), Nat.sub_self]; rfl
  have hP2 : va_P D vwCl ((dl.map fun q => (ad q.1 q.2, cell q.1 q.2)) ++ [(b0, .inl (cy 7, 1, .inr (.inl g)))]) H := hP.app (fun i p hi => by rw [(h00 _ i p hi).2]; exact hB)
  have hD1 : va_D A0 (dl.map fun q => (ad q.1 q.2, cell q.1 q.2)) := ⟨hD.1, fun k q h => hA _ (hD.2 k q h)⟩
  have hD2 : va_D A0 ((dl.map fun q => (ad q.1 q.2, cell q.1 q.2)) ++ [(b0, .inl (cy 7, 1, .inr (.inl g)))]) := by
    refine hD1.app ⟨fun i i2 p p2 hi hi2 _ => ?_, fun i p hi => ?_⟩ (fun i i2 p p2 hi hi2 => ?_)
    · rw [(h00 _ i p hi).1, (h00 _ i2 p2 hi2).1]
    · rw [(h00 _ i p hi).2]; exact hA0
    · rw [(h00 _ i2 p2 hi2).2]
      exact hne i p hi
  refine va_last hexec hb hK hP2 hD2 hS _ 1 (hlen _) rfl (iI_vin (by decide) (by decide)) hdg (fun H1 locs1 h1 _ h3 => ?_)
  rw [List.set_append_right _ _ (Nat.le_refl _), Nat.sub_self] at h1
  refine kk H1 locs1 ⟨dl, hn, hm, fun i x hi => ?_, hD⟩ ⟨_, h1 _ _ (hlen _), ?_⟩ h3
  · have hi2 := (List.getElem?_eq_some_iff.mp hi).1
    exact h1 i x (by rw [List.getElem?_append_left hi2]; exact hi)
  · rfl
end WX
def outA (D : va_G) (cy : Nat → ClassId) (b0 : Nat) (H : Heap) (g : Nat → Int64) : Prop := va_at D vwCl (b0, .inl (cy 7, 1, .inr (.inl g))) H
def kWo (l : List Int) (E : Int) : Int := match l with
  | [] => 0
  | [a] => if E = a then 1 else 0
  | [a, b] => if E = a then 1 else if E = b then 2 else 0
  | a :: b :: c :: _ => if E = a then 1 else if E = b then 2 else if E = c then 3 else 0
/-- what a wrapper leaves -/
def WP (D : va_G) (cy : Nat → ClassId) (A : Nat → Prop) (ad : Nat → Int → Nat) (sg T : Nat → Int → Int) (b0 : Nat) (E r : Int) (H' : Heap) : Prop := ∃ (ad' : Nat → Int → Nat) (g : Nat → Int64), (∀ k j, dmC sg k j → ad' k j = ad k j) ∧ RC D cy A ad' (if E = 0 then T else sg) H' ∧ outA D cy b0 H' g ∧ (E = 0 → g 0 = lI r)
