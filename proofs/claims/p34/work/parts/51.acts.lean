/-! told's and act's calls -/
def aR (E r : Int) : Int := if E = 0 then r else -1000 - E
theorem aR_0 {E r : Int} (h : E = 0) : aR E r = r := if_pos h
theorem aR_n {E r : Int} (h : E ≠ 0) : aR E r = -1000 - E := if_neg h
def AP (D : va_G) (cy : Nat → ClassId) (A : Nat → Prop) (ad : Nat → Int → Nat) (sg T : Nat → Int → Int) (E : Int) (H' : Heap) : Prop := ∃ ad' : Nat → Int → Nat, (∀ k j, dmC sg k j → ad' k j = ad k j) ∧ RC D cy A ad' (if E = 0 then T else sg) H'
def hh_act : List (Nat × Nat × Nat × Nat) := [(0, 11, 12, 68), (0, 11, 18, 72), (0, 11, 24, 76)]
theorem ms_told : MSt yL_told cL_told 6 (some .long) 6 := ⟨kw_443, kw_442, kw_0, by decide, by decide, by decide +kernel⟩
theorem ms_act : Cond.codeWith yL_act cL_act 7 (some .long) hh_act ∈ wG ∧ Cond.static yL_act ∈ wG ∧ Cond.initialized yL_act.cls ∈ wG ∧ yL_act.cls ≠ "java/lang/invoke/MethodHandle" ∧ yL_act.cls ≠ "java/lang/invoke/VarHandle" ∧ (parseMethodDescriptor yL_act.desc).map (fun d => d.parameters.length) = some 6 := ⟨kw_437, kw_436, kw_0, by decide, by decide, by decide +kernel⟩
section AX
variable {p : Program} {l : Launch} {e : Env} {R : Room} {s : State} {m : MethodId} {args : Array Value} {below : List Frame} {meth : Method} {c : Code} {H H0 : Heap} {locs : List Loc} {cells slots mc ms : Nat} {Q : State → Prop}
variable {cc : ByteArray} {pc : Nat} {ls : Array Slot} {rest st0 : List Value} {D : va_G} {cy : Nat → ClassId} {A A0 A1 : Nat → Prop} {own C : String} {index n maxL nL f lo : Nat} {y : MethodName} {bytes : ByteArray} {ret : Option FieldType} {Qc : Array Value → State → Outcome → State → Prop} {XC : String → State → State → Prop} {free : Addr → Prop} {hh : List (Nat × Nat × Nat × Nat)}
theorem xr_TS {As : List Value} {g : JFrame} (hx : p.tables.exec = Jvm.exec) (hb : c.code = cc) (hml : c.maxLocals = nL) (hown : s.vm.findClass own = some m.cls) (hts : ∀ w ∈ wG, w.before args s = true) (hK : KC D cy s) (hX : XS A s) (hS : va_S A s.heap H locs) (hM : vx_Met l y (Cond.code y bytes maxL ret :: wG) (rmF f lo mc ms) (PcX A D cy H As) Qc XC mc ms free) (hm : MSt y bytes maxL ret n) (hk : Cond.methodLink own index y ∈ wG) (hR : f + 1 ≤ R.frames ∧ 8 + (maxL + 11) + lo ≤ R.locals) (hf : cells + mc ≤ R.cells ∧ slots + ms ≤ R.slots) (hn : As.length = n) (hg : g.method = m) (hz : g.locals.size = nL) (hs : g.stack = As.reverse ++ rest) (hW : 2 * g.monitorRoom + (rest.map fun v => v.category).sum ≤ 8) (d : decode cc g.pc = .ok (.invokestatic index, 3)) :
    vx_Run p l e R s m args below meth c H locs cells slots mc ms g rest (Qc As.toArray) XC free := by
  obtain ⟨h5, h2, h4, h6, h7, h8⟩ := hm
  exact vx_runS ⟨hx, hb, hml, hown, hts⟩ hM (va_cwS n hts (gS0 hk h2 h4 h5) rfl rfl rfl ⟨h6, h7, h8⟩ hR) ⟨PcX_blind, fun U hU hW => ⟨rfl, hU, va_K.moved hW.alike hK, XS.to hX hW hS hU (fun _ h => h)⟩⟩ hg hn hz hs hW d hf
/-- a static call of a method that catches -/
theorem xr_SW {As : List Value} {g : JFrame} (hx : p.tables.exec = Jvm.exec) (hb : c.code = cc) (hml : c.maxLocals = nL) (hown : s.vm.findClass own = some m.cls) (hts : ∀ w ∈ wG, w.before args s = true) (hK : KC D cy s) (hX : XS A0 s) (hN : XN s) (hS : va_S A0 s.heap H locs) (hAA : ∀ q, A q → A0 q) (hM : Met l y (Cond.codeWith y bytes maxL ret hh :: wG) (rmF f lo mc ms) (PcW A D cy H As) Qc mc ms free) (hm : Cond.codeWith y bytes maxL ret hh ∈ wG ∧ Cond.static y ∈ wG ∧ Cond.initialized y.cls ∈ wG ∧ y.cls ≠ "java/lang/invoke/MethodHandle" ∧ y.cls ≠ "java/lang/invoke/VarHandle" ∧ (parseMethodDescriptor y.desc).map (fun d => d.parameters.length) = some n) (hk : Cond.methodLink own index y ∈ wG) (hR : f + 1 ≤ R.frames ∧ 8 + (maxL + 11) + lo ≤ R.locals) (hf : cells + mc ≤ R.cells ∧ slots + ms ≤ R.slots) (hn : As.length = n) (hg : g.method = m) (hz : g.locals.size = nL) (hs : g.stack = As.reverse ++ rest) (hW : 2 * g.monitorRoom + (rest.map fun v => v.category).sum ≤ 8) (d : decode cc g.pc = .ok (.invokestatic index, 3)) :
    va_Run p l e R s m args below meth c H locs cells slots mc ms g rest (Qc As.toArray) free := by
  obtain ⟨h5, h2, h4, h6, h7, h8⟩ := hm
  exact vx_runSW ⟨hx, hb, hml, hown, hts⟩ hM (vx_cwSW n hts (gS0 hk h2 h4 h5) rfl rfl rfl ⟨h6, h7, h8⟩ hR) ⟨PcW_blind, fun U hU hW => ⟨rfl, hU, va_K.moved hW.alike hK, XS.to hX hW hS hU hAA, XN.moved hW.alike hN⟩⟩ hg hn hz hs hW d hf
end AX
set_option maxRecDepth 100000 in
set_option maxHeartbeats 4000000 in
theorem act_of {l : Launch} {D : va_G} {cy : Nat → ClassId} {A : Nat → Prop} {ad : Nat → Int → Nat} {sg T : Nat → Int → Int} {H : Heap} {K qa qb qc qd E r : Int} {P : Heap → Prop} {f lo mc ms : Nat}
    (hc : vx_Met l yL_told (Cond.code yL_told cL_told 6 (some .long) :: wG) (rmF f lo mc ms) (PcX A D cy H [.ref (ad 4 0), .int (iI K), .int (iI qa), .int (iI qb), .int (iI qc), .int (iI qd)]) (QmT (E = 0) (some (.long (lI r))) P A) (XCx E (fun H' => RC D cy A ad sg H') A) mc ms A)
    (hP : ∀ H1, P H1 → ∃ ad' : Nat → Int → Nat, (∀ k j, dmC sg k j → ad' k j = ad k j) ∧ RC D cy A ad' T H1) :
    Met l yL_act (Cond.codeWith yL_act cL_act 7 (some .long) hh_act :: wG) (rmF (f + 1) (25 + lo) mc ms) (PcW A D cy H [.ref (ad 4 0), .int (iI K), .int (iI qa), .int (iI qb), .int (iI qc), .int (iI qd)]) (Qm (some (.long (lI (aR E r)))) (AP D cy A ad sg T E) A) mc ms A := by
  refine wmet_of (la := [(0, .ref (ad 4 0)), (1, .int (iI K)), (2, .int (iI qa)), (3, .int (iI qb)), (4, .int (iI qc)), (5, .int (iI qd))]) (by decide) (Nat.le_of_ble_eq_true rfl) rfl ?_
  intro p e R s m args below meth c ls hRm hx hb hml hr hlk hxt hown hts hsH hK hX hN hl
  subst hRm
  have hown : s.vm.findClass "TakinghallLaw" = some m.cls := hown
  have hS : va_S A s.heap H [] := by rw [hsH]; exact va_S.rf
  refine lv_aload_n hx hb dL_act_0 rfl (lv_at hl 0 rfl) ?_
  refine lv_iload_n hx hb dL_act_1 rfl (lv_at hl 1 rfl) ?_
  refine lv_iload_n hx hb dL_act_2 rfl (lv_at hl 2 rfl) ?_
  refine lv_iload_n hx hb dL_act_3 rfl (lv_at hl 3 rfl) ?_
  refine lv_iload hx hb dL_act_4 (lv_at hl 4 rfl) ?_
  refine lv_iload hx hb dL_act_6 (lv_at hl 5 rfl) ?_
  refine xk_T (xr_TS (As := [.ref (ad 4 0), .int (iI K), .int (iI qa), .int (iI qb), .int (iI qc), .int (iI qd)]) (rest := []) hx hb hml hown hts hK hX hS hc ms_told kw_441 ⟨Nat.le_refl _, by show 8 + (6 + 11) + lo ≤ 25 + lo; omega⟩ ⟨by show 0 + mc ≤ mc; omega, by show 0 + ms ≤ ms; omega⟩ rfl rfl hl.1 rfl (lv_room (Nat.le_of_ble_eq_true rfl)) dL_act_8) hS (fun x hx1 => hx1) (fun E2 cE q9 H1 locs1 hth1 hth3 hE hR1 hS1 hz hq hce hcv hcl => ?_) (fun H1 locs1 hT hR1 hS1 hz hq => ?_)
  · have hne : E ≠ 0 := by omega
    rcases (show E = 1 ∨ E = 2 ∨ E = 3 by omega) with h | h | h
    · rw [h] at hE
      have hE2 : E2 = "java/lang/IndexOutOfBoundsException" := hE
      subst hE2
      refine vx_catch hown [] ⟨0, 11, 12, 68⟩ [⟨0, 11, 18, 72⟩, ⟨0, 11, 24, 76⟩] hxt (fun z hz => ?_) (by decide) (by decide) (hts _ kw_438) (va_Nw.use rfl (hX.1 _ (by simp [wNG]))) hce hcv hcl ?_
      · exact absurd hz List.not_mem_nil
      · refine lv_astore (i := 6) (lv' := [(6, .ref q9), (0, .ref (ad 4 0)), (1, .int (iI K)), (2, .int (iI qa)), (3, .int (iI qb)), (4, .int (iI qc)), (5, .int (iI qd))]) hx hb dL_act_12 hl (by decide) rfl (fun ls hl => ?_)
        refine lv_ldc2 (v := lI (-1001)) hx hb hown (hts _ kw_652) dL_act_14 ?_
        refine W.widen (k := mc) (n := ms) (by omega) (by omega) ?_
        exact xm_l hx hb hr hlk hS1 dL_act_17 (by rw [aR_n hne, h]; rfl) ⟨ad, fun _ _ _ => rfl, by rw [if_neg hne]; exact hR1⟩
    · rw [h] at hE
      have hE2 : E2 = "java/lang/IllegalArgumentException" := hE
      subst hE2
      refine vx_catch hown [⟨0, 11, 12, 68⟩] ⟨0, 11, 18, 72⟩ [⟨0, 11, 24, 76⟩] hxt (fun z hz => ?_) (by decide) (by decide) (hts _ kw_439) (va_Nw.use rfl (hX.1 _ (by simp [wNG]))) hce hcv hcl ?_
      · simp only [List.mem_cons, List.not_mem_nil, or_false] at hz
        subst hz
        exact Or.inr ⟨by decide, _, hts _ kw_438, hN.1⟩
      · refine lv_astore (i := 6) (lv' := [(6, .ref q9), (0, .ref (ad 4 0)), (1, .int (iI K)), (2, .int (iI qa)), (3, .int (iI qb)), (4, .int (iI qc)), (5, .int (iI qd))]) hx hb dL_act_18 hl (by decide) rfl (fun ls hl => ?_)
        refine lv_ldc2 (v := lI (-1002)) hx hb hown (hts _ kw_653) dL_act_20 ?_
        refine W.widen (k := mc) (n := ms) (by omega) (by omega) ?_
        exact xm_l hx hb hr hlk hS1 dL_act_23 (by rw [aR_n hne, h]; rfl) ⟨ad, fun _ _ _ => rfl, by rw [if_neg hne]; exact hR1⟩
    · rw [h] at hE
      have hE2 : E2 = "java/lang/IllegalStateException" := hE
      subst hE2
      refine vx_catch hown [⟨0, 11, 12, 68⟩, ⟨0, 11, 18, 72⟩] ⟨0, 11, 24, 76⟩ [] hxt (fun z hz => ?_) (by decide) (by decide) (hts _ kw_440) (va_Nw.use rfl (hX.1 _ (by simp [wNG]))) hce hcv hcl ?_
      · simp only [List.mem_cons, List.not_mem_nil, or_false] at hz
        rcases hz with hz | hz
        · subst hz; exact Or.inr ⟨by decide, _, hts _ kw_438, hN.2.1⟩
        · subst hz; exact Or.inr ⟨by decide, _, hts _ kw_439, hN.2.2⟩
      · refine lv_astore (i := 6) (lv' := [(6, .ref q9), (0, .ref (ad 4 0)), (1, .int (iI K)), (2, .int (iI qa)), (3, .int (iI qb)), (4, .int (iI qc)), (5, .int (iI qd))]) hx hb dL_act_24 hl (by decide) rfl (fun ls hl => ?_)
        refine lv_ldc2 (v := lI (-1003)) hx hb hown (hts _ kw_654) dL_act_26 ?_
        refine W.widen (k := mc) (n := ms) (by omega) (by omega) ?_
        exact xm_l hx hb hr hlk hS1 dL_act_29 (by rw [aR_n hne, h]; rfl) ⟨ad, fun _ _ _ => rfl, by rw [if_neg hne]; exact hR1⟩
  · obtain ⟨ad', ho, hR2⟩ := hP H1 hR1
    show W p l e _ s m args below meth c H1 locs1 _ _ _ (F0 m (8 + 3) ls [.long (lI r)])
    refine W.widen (k := mc) (n := ms) (by omega) (by omega) ?_
    exact xm_l hx hb hr hlk hS1 dL_act_11 (by rw [aR_0 hT]) ⟨ad', ho, by rw [if_pos hT]; exact hR2⟩
