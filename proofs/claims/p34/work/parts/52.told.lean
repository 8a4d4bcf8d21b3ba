/-! told and act -/
set_option maxRecDepth 100000 in
set_option maxHeartbeats 4000000 in
theorem c_told_0 {l : Launch} {D : va_G} {cy : Nat → ClassId} {A : Nat → Prop} {ad : Nat → Int → Nat} {sg : Nat → Int → Int} {H : Heap} (hR : RC D cy A ad sg H) (hG : GC sg) (hl0 : l.stackTraces = false) (hA : ∀ q : Nat, H.size ≤ q → A q) (qa qb qc qd : Int) (h0 : in32 qa) (h1 : in32 qb) (h2 : in32 qc) : vx_Met l yL_told (Cond.code yL_told cL_told 6 (some .long) :: wG) (rmF 7 117 1 15) (PcX A D cy H [.ref (ad 4 0), .int (iI (0)), .int (iI qa), .int (iI qb), .int (iI qc), .int (iI qd)]) (QmT (ownE sg qa qb qc = 0) (some (.long (lI (sg 503 0)))) (fun H' => ∃ ad' : Nat → Int → Nat, (∀ k j, dmC sg k j → ad' k j = ad k j) ∧ RC D cy A ad' (tellT sg 0 (pAt qa) qb qc 0) H') A) (XCx (ownE sg qa qb qc) (fun H' => RC D cy A ad sg H') A) 1 15 A := by
  refine vmet_of (la := [(0, .ref (ad 4 0)), (1, .int (iI (0))), (2, .int (iI qa)), (3, .int (iI qb)), (4, .int (iI qc)), (5, .int (iI qd))]) (by decide) (Nat.le_of_ble_eq_true rfl) rfl ?_
  intro p e R s m args below meth c ls hRm hx hb hml hr hlk hxt hown hts hsH hK hX hl
  subst hRm
  have hown : s.vm.findClass "TakinghallLaw" = some m.cls := hown
  have hS : va_S A s.heap H [] := by rw [hsH]; exact va_S.rf
  refine lv_iload_n hx hb dL_told_0 rfl (lv_at hl 1 rfl) ?_
  refine lv_tableIn (tgt := 76) (off := 75) hx hb dL_told_1 (by decide) (by decide) (by decide) (by decide) ?_
  refine lv_aload_n hx hb dL_told_76 rfl (lv_at hl 0 rfl) ?_
  refine lv_iload_n hx hb dL_told_77 rfl (lv_at hl 2 rfl) ?_
  refine lv_iload_n hx hb dL_told_78 rfl (lv_at hl 3 rfl) ?_
  refine lv_iload hx hb dL_told_79 (lv_at hl 4 rfl) ?_
  refine xk_T (xr_T (As := [.int (iI qa), .int (iI qb), .int (iI qc)]) (rest := []) hx hb hml hown hts hK hX hS (c_X4_own hR hG hl0 hA qa qb qc h0 h1 h2) ms_X4_own kw_444 (wr_recv hK hR (gd_4 hG) rfl rfl) ⟨by decide, by decide⟩ ⟨by decide, by decide⟩ rfl rfl hl.1 rfl (lv_room (Nat.le_of_ble_eq_true rfl)) dL_told_81) hS (fun x hx1 => hx1) (fun E cE q9 H1 locs1 hth1 hth3 hE hR1 hS1 hz hq hce hcv hcl => ?_) (fun H1 locs1 hT hR1 hS1 hz hq => ?_)
  · exact vx_out (fun x hx1 => (hxt x hx1).elim) hlk hce hcv hcl (fun t ht _ => ⟨hth1, hth3, hE, by rw [ht]; exact hR1, hS1.F ht⟩) hS1.2.2 (by decide) (by decide)
  · show W p l e _ s m args below meth c H1 locs1 _ _ _ (F0 m (81 + 3) ls [.int (iI (sg 503 0))])
    refine xr_i2l hx hb dL_told_84 (by first | omega | (have z0 := gr_503 hG 0; omega)) ?_
    exact xv_l hx hb hr hlk hS1 (by decide) (by decide) dL_told_85 hT rfl hR1
set_option maxRecDepth 100000 in
theorem c_act_0 {l : Launch} {D : va_G} {cy : Nat → ClassId} {A : Nat → Prop} {ad : Nat → Int → Nat} {sg : Nat → Int → Int} {H : Heap} (hR : RC D cy A ad sg H) (hG : GC sg) (hl0 : l.stackTraces = false) (hA : ∀ q : Nat, H.size ≤ q → A q) (qa qb qc qd : Int) (h0 : in32 qa) (h1 : in32 qb) (h2 : in32 qc) : Met l yL_act (Cond.codeWith yL_act cL_act 7 (some .long) hh_act :: wG) (rmF 8 142 1 15) (PcW A D cy H [.ref (ad 4 0), .int (iI (0)), .int (iI qa), .int (iI qb), .int (iI qc), .int (iI qd)]) (Qm (some (.long (lI (aR (ownE sg qa qb qc) (sg 503 0))))) (AP D cy A ad sg ((tellT sg 0 (pAt qa) qb qc 0)) (ownE sg qa qb qc)) A) 1 15 A :=
  act_of (f := 7) (lo := 117) (mc := 1) (ms := 15) (T := ((tellT sg 0 (pAt qa) qb qc 0))) (c_told_0 hR hG hl0 hA qa qb qc qd h0 h1 h2) (fun H1 h1 => h1)
set_option maxRecDepth 100000 in
set_option maxHeartbeats 4000000 in
theorem c_told_1 {l : Launch} {D : va_G} {cy : Nat → ClassId} {A : Nat → Prop} {ad : Nat → Int → Nat} {sg : Nat → Int → Int} {H : Heap} (hR : RC D cy A ad sg H) (hG : GC sg) (hl0 : l.stackTraces = false) (hA : ∀ q : Nat, H.size ≤ q → A q) (qa qb qc qd : Int) (h0 : in32 qa) (h1 : in32 qb) (h2 : in32 qc) (h3 : in32 qd) : vx_Met l yL_told (Cond.code yL_told cL_told 6 (some .long) :: wG) (rmF 7 118 1 15) (PcX A D cy H [.ref (ad 4 0), .int (iI (1)), .int (iI qa), .int (iI qb), .int (iI qc), .int (iI qd)]) (QmT (leaseE sg qa qb qc qd = 0) (some (.long (lI (sg 503 0)))) (fun H' => ∃ ad' : Nat → Int → Nat, (∀ k j, dmC sg k j → ad' k j = ad k j) ∧ RC D cy A ad' (tellT sg 1 (pAt qa) qb qc qd) H') A) (XCx (leaseE sg qa qb qc qd) (fun H' => RC D cy A ad sg H') A) 1 15 A := by
  refine vmet_of (la := [(0, .ref (ad 4 0)), (1, .int (iI (1))), (2, .int (iI qa)), (3, .int (iI qb)), (4, .int (iI qc)), (5, .int (iI qd))]) (by decide) (Nat.le_of_ble_eq_true rfl) rfl ?_
  intro p e R s m args below meth c ls hRm hx hb hml hr hlk hxt hown hts hsH hK hX hl
  subst hRm
  have hown : s.vm.findClass "TakinghallLaw" = some m.cls := hown
  have hS : va_S A s.heap H [] := by rw [hsH]; exact va_S.rf
  refine lv_iload_n hx hb dL_told_0 rfl (lv_at hl 1 rfl) ?_
  refine lv_tableIn (tgt := 86) (off := 85) hx hb dL_told_1 (by decide) (by decide) (by decide) (by decide) ?_
  refine lv_aload_n hx hb dL_told_86 rfl (lv_at hl 0 rfl) ?_
  refine lv_iload_n hx hb dL_told_87 rfl (lv_at hl 2 rfl) ?_
  refine lv_iload_n hx hb dL_told_88 rfl (lv_at hl 3 rfl) ?_
  refine lv_iload hx hb dL_told_89 (lv_at hl 4 rfl) ?_
  refine lv_iload hx hb dL_told_91 (lv_at hl 5 rfl) ?_
  refine xk_T (xr_T (As := [.int (iI qa), .int (iI qb), .int (iI qc), .int (iI qd)]) (rest := []) hx hb hml hown hts hK hX hS (c_X4_lease hR hG hl0 hA qa qb qc qd h0 h1 h2 h3) ms_X4_lease kw_526 (wr_recv hK hR (gd_4 hG) rfl rfl) ⟨by decide, by decide⟩ ⟨by decide, by decide⟩ rfl rfl hl.1 rfl (lv_room (Nat.le_of_ble_eq_true rfl)) dL_told_93) hS (fun x hx1 => hx1) (fun E cE q9 H1 locs1 hth1 hth3 hE hR1 hS1 hz hq hce hcv hcl => ?_) (fun H1 locs1 hT hR1 hS1 hz hq => ?_)
  · exact vx_out (fun x hx1 => (hxt x hx1).elim) hlk hce hcv hcl (fun t ht _ => ⟨hth1, hth3, hE, by rw [ht]; exact hR1, hS1.F ht⟩) hS1.2.2 (by decide) (by decide)
  · show W p l e _ s m args below meth c H1 locs1 _ _ _ (F0 m (93 + 3) ls [.int (iI (sg 503 0))])
    refine xr_i2l hx hb dL_told_96 (by first | omega | (have z0 := gr_503 hG 0; omega)) ?_
    exact xv_l hx hb hr hlk hS1 (by decide) (by decide) dL_told_97 hT rfl hR1
set_option maxRecDepth 100000 in
theorem c_act_1 {l : Launch} {D : va_G} {cy : Nat → ClassId} {A : Nat → Prop} {ad : Nat → Int → Nat} {sg : Nat → Int → Int} {H : Heap} (hR : RC D cy A ad sg H) (hG : GC sg) (hl0 : l.stackTraces = false) (hA : ∀ q : Nat, H.size ≤ q → A q) (qa qb qc qd : Int) (h0 : in32 qa) (h1 : in32 qb) (h2 : in32 qc) (h3 : in32 qd) : Met l yL_act (Cond.codeWith yL_act cL_act 7 (some .long) hh_act :: wG) (rmF 8 143 1 15) (PcW A D cy H [.ref (ad 4 0), .int (iI (1)), .int (iI qa), .int (iI qb), .int (iI qc), .int (iI qd)]) (Qm (some (.long (lI (aR (leaseE sg qa qb qc qd) (sg 503 0))))) (AP D cy A ad sg ((tellT sg 1 (pAt qa) qb qc qd)) (leaseE sg qa qb qc qd)) A) 1 15 A :=
  act_of (f := 7) (lo := 118) (mc := 1) (ms := 15) (T := ((tellT sg 1 (pAt qa) qb qc qd))) (c_told_1 hR hG hl0 hA qa qb qc qd h0 h1 h2 h3) (fun H1 h1 => h1)
set_option maxRecDepth 100000 in
set_option maxHeartbeats 4000000 in
theorem c_told_2 {l : Launch} {D : va_G} {cy : Nat → ClassId} {A : Nat → Prop} {ad : Nat → Int → Nat} {sg : Nat → Int → Int} {H : Heap} (hR : RC D cy A ad sg H) (hG : GC sg) (hl0 : l.stackTraces = false) (hA : ∀ q : Nat, H.size ≤ q → A q) (qa qb qc qd : Int) (h0 : in32 qa) (h1 : in32 qb) (h2 : in32 qc) : vx_Met l yL_told (Cond.code yL_told cL_told 6 (some .long) :: wG) (rmF 7 117 1 15) (PcX A D cy H [.ref (ad 4 0), .int (iI (2)), .int (iI qa), .int (iI qb), .int (iI qc), .int (iI qd)]) (QmT (chargeE sg qa qb qc = 0) (some (.long (lI (sg 503 0)))) (fun H' => ∃ ad' : Nat → Int → Nat, (∀ k j, dmC sg k j → ad' k j = ad k j) ∧ RC D cy A ad' (tellT sg 2 (pAt qa) qb qc 0) H') A) (XCx (chargeE sg qa qb qc) (fun H' => RC D cy A ad sg H') A) 1 15 A := by
  refine vmet_of (la := [(0, .ref (ad 4 0)), (1, .int (iI (2))), (2, .int (iI qa)), (3, .int (iI qb)), (4, .int (iI qc)), (5, .int (iI qd))]) (by decide) (Nat.le_of_ble_eq_true rfl) rfl ?_
  intro p e R s m args below meth c ls hRm hx hb hml hr hlk hxt hown hts hsH hK hX hl
  subst hRm
  have hown : s.vm.findClass "TakinghallLaw" = some m.cls := hown
  have hS : va_S A s.heap H [] := by rw [hsH]; exact va_S.rf
  refine lv_iload_n hx hb dL_told_0 rfl (lv_at hl 1 rfl) ?_
  refine lv_tableIn (tgt := 98) (off := 97) hx hb dL_told_1 (by decide) (by decide) (by decide) (by decide) ?_
  refine lv_aload_n hx hb dL_told_98 rfl (lv_at hl 0 rfl) ?_
  refine lv_iload_n hx hb dL_told_99 rfl (lv_at hl 2 rfl) ?_
  refine lv_iload_n hx hb dL_told_100 rfl (lv_at hl 3 rfl) ?_
  refine lv_iload hx hb dL_told_101 (lv_at hl 4 rfl) ?_
  refine xk_T (xr_T (As := [.int (iI qa), .int (iI qb), .int (iI qc)]) (rest := []) hx hb hml hown hts hK hX hS (c_X4_charge hR hG hl0 hA qa qb qc h0 h1 h2) ms_X4_charge kw_531 (wr_recv hK hR (gd_4 hG) rfl rfl) ⟨by decide, by decide⟩ ⟨by decide, by decide⟩ rfl rfl hl.1 rfl (lv_room (Nat.le_of_ble_eq_true rfl)) dL_told_103) hS (fun x hx1 => hx1) (fun E cE q9 H1 locs1 hth1 hth3 hE hR1 hS1 hz hq hce hcv hcl => ?_) (fun H1 locs1 hT hR1 hS1 hz hq => ?_)
  · exact vx_out (fun x hx1 => (hxt x hx1).elim) hlk hce hcv hcl (fun t ht _ => ⟨hth1, hth3, hE, by rw [ht]; exact hR1, hS1.F ht⟩) hS1.2.2 (by decide) (by decide)
  · show W p l e _ s m args below meth c H1 locs1 _ _ _ (F0 m (103 + 3) ls [.int (iI (sg 503 0))])
    refine xr_i2l hx hb dL_told_106 (by first | omega | (have z0 := gr_503 hG 0; omega)) ?_
    exact xv_l hx hb hr hlk hS1 (by decide) (by decide) dL_told_107 hT rfl hR1
set_option maxRecDepth 100000 in
theorem c_act_2 {l : Launch} {D : va_G} {cy : Nat → ClassId} {A : Nat → Prop} {ad : Nat → Int → Nat} {sg : Nat → Int → Int} {H : Heap} (hR : RC D cy A ad sg H) (hG : GC sg) (hl0 : l.stackTraces = false) (hA : ∀ q : Nat, H.size ≤ q → A q) (qa qb qc qd : Int) (h0 : in32 qa) (h1 : in32 qb) (h2 : in32 qc) : Met l yL_act (Cond.codeWith yL_act cL_act 7 (some .long) hh_act :: wG) (rmF 8 142 1 15) (PcW A D cy H [.ref (ad 4 0), .int (iI (2)), .int (iI qa), .int (iI qb), .int (iI qc), .int (iI qd)]) (Qm (some (.long (lI (aR (chargeE sg qa qb qc) (sg 503 0))))) (AP D cy A ad sg ((tellT sg 2 (pAt qa) qb qc 0)) (chargeE sg qa qb qc)) A) 1 15 A :=
  act_of (f := 7) (lo := 117) (mc := 1) (ms := 15) (T := ((tellT sg 2 (pAt qa) qb qc 0))) (c_told_2 hR hG hl0 hA qa qb qc qd h0 h1 h2) (fun H1 h1 => h1)
set_option maxRecDepth 100000 in
set_option maxHeartbeats 4000000 in
theorem c_told_3 {l : Launch} {D : va_G} {cy : Nat → ClassId} {A : Nat → Prop} {ad : Nat → Int → Nat} {sg : Nat → Int → Int} {H : Heap} (hR : RC D cy A ad sg H) (hG : GC sg) (hl0 : l.stackTraces = false) (hA : ∀ q : Nat, H.size ≤ q → A q) (qa qb qc qd : Int) (h0 : in32 qa) (h1 : in32 qb) (h2 : in32 qc) : vx_Met l yL_told (Cond.code yL_told cL_told 6 (some .long) :: wG) (rmF 7 107 1 6) (PcX A D cy H [.ref (ad 4 0), .int (iI (3)), .int (iI qa), .int (iI qb), .int (iI qc), .int (iI qd)]) (QmT (drawE sg qa qb qc = 0) (some (.long (lI (cntNeed (st (st sg 204 (pAt qb) (sAt sg qa)) 205 (pAt qb) qc) (sAt sg qa))))) (fun H' => RC D cy A ad (st (st sg 204 (pAt qb) (sAt sg qa)) 205 (pAt qb) qc) H') A) (XCx (drawE sg qa qb qc) (fun H' => RC D cy A ad sg H') A) 1 6 A := by
  refine vmet_of (la := [(0, .ref (ad 4 0)), (1, .int (iI (3))), (2, .int (iI qa)), (3, .int (iI qb)), (4, .int (iI qc)), (5, .int (iI qd))]) (by decide) (Nat.le_of_ble_eq_true rfl) rfl ?_
  intro p e R s m args below meth c ls hRm hx hb hml hr hlk hxt hown hts hsH hK hX hl
  subst hRm
  have hown : s.vm.findClass "TakinghallLaw" = some m.cls := hown
  have hS : va_S A s.heap H [] := by rw [hsH]; exact va_S.rf
  refine lv_iload_n hx hb dL_told_0 rfl (lv_at hl 1 rfl) ?_
  refine lv_tableIn (tgt := 108) (off := 107) hx hb dL_told_1 (by decide) (by decide) (by decide) (by decide) ?_
  refine lv_aload_n hx hb dL_told_108 rfl (lv_at hl 0 rfl) ?_
  refine lv_iload_n hx hb dL_told_109 rfl (lv_at hl 2 rfl) ?_
  refine lv_iload_n hx hb dL_told_110 rfl (lv_at hl 3 rfl) ?_
  refine lv_iload hx hb dL_told_111 (lv_at hl 4 rfl) ?_
  refine xk_T (xr_T (As := [.int (iI qa), .int (iI qb), .int (iI qc)]) (rest := []) hx hb hml hown hts hK hX hS (c_X4_draw hR hG hl0 hA qa qb qc h0 h1 h2) ms_X4_draw kw_537 (wr_recv hK hR (gd_4 hG) rfl rfl) ⟨by decide, by decide⟩ ⟨by decide, by decide⟩ rfl rfl hl.1 rfl (lv_room (Nat.le_of_ble_eq_true rfl)) dL_told_113) hS (fun x hx1 => hx1) (fun E cE q9 H1 locs1 hth1 hth3 hE hR1 hS1 hz hq hce hcv hcl => ?_) (fun H1 locs1 hT hR1 hS1 hz hq => ?_)
  · exact vx_out (fun x hx1 => (hxt x hx1).elim) hlk hce hcv hcl (fun t ht _ => ⟨hth1, hth3, hE, by rw [ht]; exact hR1, hS1.F ht⟩) hS1.2.2 (by decide) (by decide)
  · show W p l e _ s m args below meth c H1 locs1 _ _ _ (F0 m (113 + 3) ls [.int (iI (cntNeed (st (st sg 204 (pAt qb) (sAt sg qa)) 205 (pAt qb) qc) (sAt sg qa)))])
    refine xr_i2l hx hb dL_told_116 (by first | omega | (have z0 := cntNeed_rng (st (st sg 204 (pAt qb) (sAt sg qa)) 205 (pAt qb) qc) (sAt sg qa); omega)) ?_
    exact xv_l hx hb hr hlk hS1 (by decide) (by decide) dL_told_117 hT rfl hR1
set_option maxRecDepth 100000 in
theorem c_act_3 {l : Launch} {D : va_G} {cy : Nat → ClassId} {A : Nat → Prop} {ad : Nat → Int → Nat} {sg : Nat → Int → Int} {H : Heap} (hR : RC D cy A ad sg H) (hG : GC sg) (hl0 : l.stackTraces = false) (hA : ∀ q : Nat, H.size ≤ q → A q) (qa qb qc qd : Int) (h0 : in32 qa) (h1 : in32 qb) (h2 : in32 qc) : Met l yL_act (Cond.codeWith yL_act cL_act 7 (some .long) hh_act :: wG) (rmF 8 132 1 6) (PcW A D cy H [.ref (ad 4 0), .int (iI (3)), .int (iI qa), .int (iI qb), .int (iI qc), .int (iI qd)]) (Qm (some (.long (lI (aR (drawE sg qa qb qc) (cntNeed (st (st sg 204 (pAt qb) (sAt sg qa)) 205 (pAt qb) qc) (sAt sg qa)))))) (AP D cy A ad sg ((st (st sg 204 (pAt qb) (sAt sg qa)) 205 (pAt qb) qc)) (drawE sg qa qb qc)) A) 1 6 A :=
  act_of (f := 7) (lo := 107) (mc := 1) (ms := 6) (T := ((st (st sg 204 (pAt qb) (sAt sg qa)) 205 (pAt qb) qc))) (c_told_3 hR hG hl0 hA qa qb qc qd h0 h1 h2) (fun H1 h1 => ⟨ad, fun _ _ _ => rfl, h1⟩)
set_option maxRecDepth 100000 in
set_option maxHeartbeats 4000000 in
theorem c_told_4 {l : Launch} {D : va_G} {cy : Nat → ClassId} {A : Nat → Prop} {ad : Nat → Int → Nat} {sg : Nat → Int → Int} {H : Heap} (hR : RC D cy A ad sg H) (hG : GC sg) (hl0 : l.stackTraces = false) (hA : ∀ q : Nat, H.size ≤ q → A q) (qa qb qc qd : Int) (h0 : in32 qa) : vx_Met l yL_told (Cond.code yL_told cL_told 6 (some .long) :: wG) (rmF 7 107 1 6) (PcX A D cy H [.ref (ad 4 0), .int (iI (4)), .int (iI qa), .int (iI qb), .int (iI qc), .int (iI qd)]) (QmT (noticeE sg qa = 0) (some (.long (lI (draftO sg (sg 102 (iAt sg qa)))))) (fun H' => RC D cy A ad (st sg 107 (iAt sg qa) (sg 506 0)) H') A) (XCx (noticeE sg qa) (fun H' => RC D cy A ad sg H') A) 1 6 A := by
  refine vmet_of (la := [(0, .ref (ad 4 0)), (1, .int (iI (4))), (2, .int (iI qa)), (3, .int (iI qb)), (4, .int (iI qc)), (5, .int (iI qd))]) (by decide) (Nat.le_of_ble_eq_true rfl) rfl ?_
  intro p e R s m args below meth c ls hRm hx hb hml hr hlk hxt hown hts hsH hK hX hl
  subst hRm
  have hown : s.vm.findClass "TakinghallLaw" = some m.cls := hown
  have hS : va_S A s.heap H [] := by rw [hsH]; exact va_S.rf
  refine lv_iload_n hx hb dL_told_0 rfl (lv_at hl 1 rfl) ?_
  refine lv_tableIn (tgt := 118) (off := 117) hx hb dL_told_1 (by decide) (by decide) (by decide) (by decide) ?_
  refine lv_aload_n hx hb dL_told_118 rfl (lv_at hl 0 rfl) ?_
  refine lv_iload_n hx hb dL_told_119 rfl (lv_at hl 2 rfl) ?_
  refine xk_T (xr_T (As := [.int (iI qa)]) (rest := []) hx hb hml hown hts hK hX hS (c_X4_notice hR hG hl0 hA qa h0) ms_X4_notice kw_548 (wr_recv hK hR (gd_4 hG) rfl rfl) ⟨by decide, by decide⟩ ⟨by decide, by decide⟩ rfl rfl hl.1 rfl (lv_room (Nat.le_of_ble_eq_true rfl)) dL_told_120) hS (fun x hx1 => hx1) (fun E cE q9 H1 locs1 hth1 hth3 hE hR1 hS1 hz hq hce hcv hcl => ?_) (fun H1 locs1 hT hR1 hS1 hz hq => ?_)
  · exact vx_out (fun x hx1 => (hxt x hx1).elim) hlk hce hcv hcl (fun t ht _ => ⟨hth1, hth3, hE, by rw [ht]; exact hR1, hS1.F ht⟩) hS1.2.2 (by decide) (by decide)
  · show W p l e _ s m args below meth c H1 locs1 _ _ _ (F0 m (120 + 3) ls [.int (iI (draftO sg (sg 102 (iAt sg qa))))])
    refine xr_i2l hx hb dL_told_123 (by first | omega | (have z0 := draftO_rng hG (sg 102 (iAt sg qa)); omega)) ?_
    exact xv_l hx hb hr hlk hS1 (by decide) (by decide) dL_told_124 hT rfl hR1
set_option maxRecDepth 100000 in
theorem c_act_4 {l : Launch} {D : va_G} {cy : Nat → ClassId} {A : Nat → Prop} {ad : Nat → Int → Nat} {sg : Nat → Int → Int} {H : Heap} (hR : RC D cy A ad sg H) (hG : GC sg) (hl0 : l.stackTraces = false) (hA : ∀ q : Nat, H.size ≤ q → A q) (qa qb qc qd : Int) (h0 : in32 qa) : Met l yL_act (Cond.codeWith yL_act cL_act 7 (some .long) hh_act :: wG) (rmF 8 132 1 6) (PcW A D cy H [.ref (ad 4 0), .int (iI (4)), .int (iI qa), .int (iI qb), .int (iI qc), .int (iI qd)]) (Qm (some (.long (lI (aR (noticeE sg qa) (draftO sg (sg 102 (iAt sg qa))))))) (AP D cy A ad sg ((st sg 107 (iAt sg qa) (sg 506 0))) (noticeE sg qa)) A) 1 6 A :=
  act_of (f := 7) (lo := 107) (mc := 1) (ms := 6) (T := ((st sg 107 (iAt sg qa) (sg 506 0)))) (c_told_4 hR hG hl0 hA qa qb qc qd h0) (fun H1 h1 => ⟨ad, fun _ _ _ => rfl, h1⟩)
set_option maxRecDepth 100000 in
set_option maxHeartbeats 4000000 in
theorem c_told_5 {l : Launch} {D : va_G} {cy : Nat → ClassId} {A : Nat → Prop} {ad : Nat → Int → Nat} {sg : Nat → Int → Int} {H : Heap} (hR : RC D cy A ad sg H) (hG : GC sg) (hl0 : l.stackTraces = false) (hA : ∀ q : Nat, H.size ≤ q → A q) (qa qb qc qd : Int) (h0 : in32 qa) : vx_Met l yL_told (Cond.code yL_told cL_told 6 (some .long) :: wG) (rmF 7 112 1 6) (PcX A D cy H [.ref (ad 4 0), .int (iI (5)), .int (iI qa), .int (iI qb), .int (iI qc), .int (iI qd)]) (QmT (objectE sg qa = 0) (some (.long (lI (cntOpen (st (st sg 108 (iAt sg qa) 1) 109 (iAt sg qa) 1) (draftO sg (sg 102 (iAt sg qa))))))) (fun H' => RC D cy A ad (st (st sg 108 (iAt sg qa) 1) 109 (iAt sg qa) 1) H') A) (XCx (objectE sg qa) (fun H' => RC D cy A ad sg H') A) 1 6 A := by
  refine vmet_of (la := [(0, .ref (ad 4 0)), (1, .int (iI (5))), (2, .int (iI qa)), (3, .int (iI qb)), (4, .int (iI qc)), (5, .int (iI qd))]) (by decide) (Nat.le_of_ble_eq_true rfl) rfl ?_
  intro p e R s m args below meth c ls hRm hx hb hml hr hlk hxt hown hts hsH hK hX hl
  subst hRm
  have hown : s.vm.findClass "TakinghallLaw" = some m.cls := hown
  have hS : va_S A s.heap H [] := by rw [hsH]; exact va_S.rf
  refine lv_iload_n hx hb dL_told_0 rfl (lv_at hl 1 rfl) ?_
  refine lv_tableIn (tgt := 125) (off := 124) hx hb dL_told_1 (by decide) (by decide) (by decide) (by decide) ?_
  refine lv_aload_n hx hb dL_told_125 rfl (lv_at hl 0 rfl) ?_
  refine lv_iload_n hx hb dL_told_126 rfl (lv_at hl 2 rfl) ?_
  refine xk_T (xr_T (As := [.int (iI qa)]) (rest := []) hx hb hml hown hts hK hX hS (c_X4_object hR hG hl0 hA qa h0) ms_X4_object kw_556 (wr_recv hK hR (gd_4 hG) rfl rfl) ⟨by decide, by decide⟩ ⟨by decide, by decide⟩ rfl rfl hl.1 rfl (lv_room (Nat.le_of_ble_eq_true rfl)) dL_told_127) hS (fun x hx1 => hx1) (fun E cE q9 H1 locs1 hth1 hth3 hE hR1 hS1 hz hq hce hcv hcl => ?_) (fun H1 locs1 hT hR1 hS1 hz hq => ?_)
  · exact vx_out (fun x hx1 => (hxt x hx1).elim) hlk hce hcv hcl (fun t ht _ => ⟨hth1, hth3, hE, by rw [ht]; exact hR1, hS1.F ht⟩) hS1.2.2 (by decide) (by decide)
  · show W p l e _ s m args below meth c H1 locs1 _ _ _ (F0 m (127 + 3) ls [.int (iI (cntOpen (st (st sg 108 (iAt sg qa) 1) 109 (iAt sg qa) 1) (draftO sg (sg 102 (iAt sg qa)))))])
    refine xr_i2l hx hb dL_told_130 (by first | omega | (have z0 := cntOpen_rng (st (st sg 108 (iAt sg qa) 1) 109 (iAt sg qa) 1) (draftO sg (sg 102 (iAt sg qa))); omega)) ?_
    exact xv_l hx hb hr hlk hS1 (by decide) (by decide) dL_told_131 hT rfl hR1
set_option maxRecDepth 100000 in
theorem c_act_5 {l : Launch} {D : va_G} {cy : Nat → ClassId} {A : Nat → Prop} {ad : Nat → Int → Nat} {sg : Nat → Int → Int} {H : Heap} (hR : RC D cy A ad sg H) (hG : GC sg) (hl0 : l.stackTraces = false) (hA : ∀ q : Nat, H.size ≤ q → A q) (qa qb qc qd : Int) (h0 : in32 qa) : Met l yL_act (Cond.codeWith yL_act cL_act 7 (some .long) hh_act :: wG) (rmF 8 137 1 6) (PcW A D cy H [.ref (ad 4 0), .int (iI (5)), .int (iI qa), .int (iI qb), .int (iI qc), .int (iI qd)]) (Qm (some (.long (lI (aR (objectE sg qa) (cntOpen (st (st sg 108 (iAt sg qa) 1) 109 (iAt sg qa) 1) (draftO sg (sg 102 (iAt sg qa)))))))) (AP D cy A ad sg ((st (st sg 108 (iAt sg qa) 1) 109 (iAt sg qa) 1)) (objectE sg qa)) A) 1 6 A :=
  act_of (f := 7) (lo := 112) (mc := 1) (ms := 6) (T := ((st (st sg 108 (iAt sg qa) 1) 109 (iAt sg qa) 1))) (c_told_5 hR hG hl0 hA qa qb qc qd h0) (fun H1 h1 => ⟨ad, fun _ _ _ => rfl, h1⟩)
set_option maxRecDepth 100000 in
set_option maxHeartbeats 4000000 in
theorem c_told_6 {l : Launch} {D : va_G} {cy : Nat → ClassId} {A : Nat → Prop} {ad : Nat → Int → Nat} {sg : Nat → Int → Int} {H : Heap} (hR : RC D cy A ad sg H) (hG : GC sg) (hl0 : l.stackTraces = false) (hA : ∀ q : Nat, H.size ≤ q → A q) (qa qb qc qd : Int) (h0 : in32 qa) (h1 : 0 ≤ qb ∧ qb ≤ 1) : vx_Met l yL_told (Cond.code yL_told cL_told 6 (some .long) :: wG) (rmF 7 113 1 6) (PcX A D cy H [.ref (ad 4 0), .int (iI (6)), .int (iI qa), .int (iI qb), .int (iI qc), .int (iI qd)]) (QmT (hearE sg qa = 0) (some (.long (lI (cntOpen (hearT sg qa qb) (draftO sg (sg 102 (iAt sg qa))))))) (fun H' => RC D cy A ad (hearT sg qa qb) H') A) (XCx (hearE sg qa) (fun H' => RC D cy A ad sg H') A) 1 6 A := by
  refine vmet_of (la := [(0, .ref (ad 4 0)), (1, .int (iI (6))), (2, .int (iI qa)), (3, .int (iI qb)), (4, .int (iI qc)), (5, .int (iI qd))]) (by decide) (Nat.le_of_ble_eq_true rfl) rfl ?_
  intro p e R s m args below meth c ls hRm hx hb hml hr hlk hxt hown hts hsH hK hX hl
  subst hRm
  have hown : s.vm.findClass "TakinghallLaw" = some m.cls := hown
  have hS : va_S A s.heap H [] := by rw [hsH]; exact va_S.rf
  refine lv_iload_n hx hb dL_told_0 rfl (lv_at hl 1 rfl) ?_
  refine lv_tableIn (tgt := 132) (off := 131) hx hb dL_told_1 (by decide) (by decide) (by decide) (by decide) ?_
  refine lv_aload_n hx hb dL_told_132 rfl (lv_at hl 0 rfl) ?_
  refine lv_iload_n hx hb dL_told_133 rfl (lv_at hl 2 rfl) ?_
  refine lv_iload_n hx hb dL_told_134 rfl (lv_at hl 3 rfl) ?_
  refine lv_iconst (v := iI (1)) hx hb dL_told_135 rfl ?_
  refine xr_icmp_ne (tgt := 143) hx hb dL_told_136 (by decide) (by omega) (by decide) (fun h9 => ?_) (fun h9 => ?_)
  · refine lv_iconst (v := iI (0)) hx hb dL_told_143 rfl ?_
    refine w_topI (b := qb) (by omega) ?_
    refine xk_T (xr_T (As := [.int (iI qa), .int (iI qb)]) (rest := []) hx hb hml hown hts hK hX hS (c_X4_hear hR hG hl0 hA qa qb h0 h1) ms_X4_hear kw_565 (wr_recv hK hR (gd_4 hG) rfl rfl) ⟨by decide, by decide⟩ ⟨by decide, by decide⟩ rfl rfl hl.1 rfl (lv_room (Nat.le_of_ble_eq_true rfl)) dL_told_144) hS (fun x hx1 => hx1) (fun E cE q9 H1 locs1 hth1 hth3 hE hR1 hS1 hz hq hce hcv hcl => ?_) (fun H1 locs1 hT hR1 hS1 hz hq => ?_)
    · exact vx_out (fun x hx1 => (hxt x hx1).elim) hlk hce hcv hcl (fun t ht _ => ⟨hth1, hth3, hE, by rw [ht]; exact hR1, hS1.F ht⟩) hS1.2.2 (by decide) (by decide)
    · show W p l e _ s m args below meth c H1 locs1 _ _ _ (F0 m (144 + 3) ls [.int (iI (cntOpen (hearT sg qa qb) (draftO sg (sg 102 (iAt sg qa)))))])
      refine xr_i2l hx hb dL_told_147 (by first | omega | (have z0 := cntOpen_rng (hearT sg qa qb) (draftO sg (sg 102 (iAt sg qa))); omega)) ?_
      exact xv_l hx hb hr hlk hS1 (by decide) (by decide) dL_told_148 hT rfl hR1
  · refine lv_iconst (v := iI (1)) hx hb dL_told_139 rfl ?_
    refine lv_goto (tgt := 144) hx hb dL_told_140 (by decide) ?_
    refine w_topI (b := qb) (by omega) ?_
    refine xk_T (xr_T (As := [.int (iI qa), .int (iI qb)]) (rest := []) hx hb hml hown hts hK hX hS (c_X4_hear hR hG hl0 hA qa qb h0 h1) ms_X4_hear kw_565 (wr_recv hK hR (gd_4 hG) rfl rfl) ⟨by decide, by decide⟩ ⟨by decide, by decide⟩ rfl rfl hl.1 rfl (lv_room (Nat.le_of_ble_eq_true rfl)) dL_told_144) hS (fun x hx1 => hx1) (fun E cE q9 H1 locs1 hth1 hth3 hE hR1 hS1 hz hq hce hcv hcl => ?_) (fun H1 locs1 hT hR1 hS1 hz hq => ?_)
    · exact vx_out (fun x hx1 => (hxt x hx1).elim) hlk hce hcv hcl (fun t ht _ => ⟨hth1, hth3, hE, by rw [ht]; exact hR1, hS1.F ht⟩) hS1.2.2 (by decide) (by decide)
    · show W p l e _ s m args below meth c H1 locs1 _ _ _ (F0 m (144 + 3) ls [.int (iI (cntOpen (hearT sg qa qb) (draftO sg (sg 102 (iAt sg qa)))))])
      refine xr_i2l hx hb dL_told_147 (by first | omega | (have z0 := cntOpen_rng (hearT sg qa qb) (draftO sg (sg 102 (iAt sg qa))); omega)) ?_
      exact xv_l hx hb hr hlk hS1 (by decide) (by decide) dL_told_148 hT rfl hR1
set_option maxRecDepth 100000 in
theorem c_act_6 {l : Launch} {D : va_G} {cy : Nat → ClassId} {A : Nat → Prop} {ad : Nat → Int → Nat} {sg : Nat → Int → Int} {H : Heap} (hR : RC D cy A ad sg H) (hG : GC sg) (hl0 : l.stackTraces = false) (hA : ∀ q : Nat, H.size ≤ q → A q) (qa qb qc qd : Int) (h0 : in32 qa) (h1 : 0 ≤ qb ∧ qb ≤ 1) : Met l yL_act (Cond.codeWith yL_act cL_act 7 (some .long) hh_act :: wG) (rmF 8 138 1 6) (PcW A D cy H [.ref (ad 4 0), .int (iI (6)), .int (iI qa), .int (iI qb), .int (iI qc), .int (iI qd)]) (Qm (some (.long (lI (aR (hearE sg qa) (cntOpen (hearT sg qa qb) (draftO sg (sg 102 (iAt sg qa)))))))) (AP D cy A ad sg ((hearT sg qa qb)) (hearE sg qa)) A) 1 6 A :=
  act_of (f := 7) (lo := 113) (mc := 1) (ms := 6) (T := ((hearT sg qa qb))) (c_told_6 hR hG hl0 hA qa qb qc qd h0 h1) (fun H1 h1 => ⟨ad, fun _ _ _ => rfl, h1⟩)
set_option maxRecDepth 100000 in
set_option maxHeartbeats 4000000 in
theorem c_told_7 {l : Launch} {D : va_G} {cy : Nat → ClassId} {A : Nat → Prop} {ad : Nat → Int → Nat} {sg : Nat → Int → Int} {H : Heap} (hR : RC D cy A ad sg H) (hG : GC sg) (hl0 : l.stackTraces = false) (hA : ∀ q : Nat, H.size ≤ q → A q) (qa qb qc qd : Int) (h0 : in32 qa) : vx_Met l yL_told (Cond.code yL_told cL_told 6 (some .long) :: wG) (rmF 7 112 1 6) (PcX A D cy H [.ref (ad 4 0), .int (iI (7)), .int (iI qa), .int (iI qb), .int (iI qc), .int (iI qd)]) (QmT (confirmE sg qa = 0) (some (.long (lI (cntFree sg (sAt sg qa))))) (fun H' => RC D cy A ad (st (st sg 403 (sAt sg qa) 1) 404 (sAt sg qa) (sg 506 0)) H') A) (XCx (confirmE sg qa) (fun H' => RC D cy A ad sg H') A) 1 6 A := by
  refine vmet_of (la := [(0, .ref (ad 4 0)), (1, .int (iI (7))), (2, .int (iI qa)), (3, .int (iI qb)), (4, .int (iI qc)), (5, .int (iI qd))]) (by decide) (Nat.le_of_ble_eq_true rfl) rfl ?_
  intro p e R s m args below meth c ls hRm hx hb hml hr hlk hxt hown hts hsH hK hX hl
  subst hRm
  have hown : s.vm.findClass "TakinghallLaw" = some m.cls := hown
  have hS : va_S A s.heap H [] := by rw [hsH]; exact va_S.rf
  refine lv_iload_n hx hb dL_told_0 rfl (lv_at hl 1 rfl) ?_
  refine lv_tableIn (tgt := 149) (off := 148) hx hb dL_told_1 (by decide) (by decide) (by decide) (by decide) ?_
  refine lv_aload_n hx hb dL_told_149 rfl (lv_at hl 0 rfl) ?_
  refine lv_iload_n hx hb dL_told_150 rfl (lv_at hl 2 rfl) ?_
  refine xk_T (xr_T (As := [.int (iI qa)]) (rest := []) hx hb hml hown hts hK hX hS (c_X4_confirm hR hG hl0 hA qa h0) ms_X4_confirm kw_574 (wr_recv hK hR (gd_4 hG) rfl rfl) ⟨by decide, by decide⟩ ⟨by decide, by decide⟩ rfl rfl hl.1 rfl (lv_room (Nat.le_of_ble_eq_true rfl)) dL_told_151) hS (fun x hx1 => hx1) (fun E cE q9 H1 locs1 hth1 hth3 hE hR1 hS1 hz hq hce hcv hcl => ?_) (fun H1 locs1 hT hR1 hS1 hz hq => ?_)
  · exact vx_out (fun x hx1 => (hxt x hx1).elim) hlk hce hcv hcl (fun t ht _ => ⟨hth1, hth3, hE, by rw [ht]; exact hR1, hS1.F ht⟩) hS1.2.2 (by decide) (by decide)
  · show W p l e _ s m args below meth c H1 locs1 _ _ _ (F0 m (151 + 3) ls [.int (iI (cntFree sg (sAt sg qa)))])
    refine xr_i2l hx hb dL_told_154 (by first | omega | (have z0 := cntFree_rng sg (sAt sg qa); omega)) ?_
    exact xv_l hx hb hr hlk hS1 (by decide) (by decide) dL_told_155 hT rfl hR1
set_option maxRecDepth 100000 in
theorem c_act_7 {l : Launch} {D : va_G} {cy : Nat → ClassId} {A : Nat → Prop} {ad : Nat → Int → Nat} {sg : Nat → Int → Int} {H : Heap} (hR : RC D cy A ad sg H) (hG : GC sg) (hl0 : l.stackTraces = false) (hA : ∀ q : Nat, H.size ≤ q → A q) (qa qb qc qd : Int) (h0 : in32 qa) : Met l yL_act (Cond.codeWith yL_act cL_act 7 (some .long) hh_act :: wG) (rmF 8 137 1 6) (PcW A D cy H [.ref (ad 4 0), .int (iI (7)), .int (iI qa), .int (iI qb), .int (iI qc), .int (iI qd)]) (Qm (some (.long (lI (aR (confirmE sg qa) (cntFree sg (sAt sg qa)))))) (AP D cy A ad sg ((st (st sg 403 (sAt sg qa) 1) 404 (sAt sg qa) (sg 506 0))) (confirmE sg qa)) A) 1 6 A :=
  act_of (f := 7) (lo := 112) (mc := 1) (ms := 6) (T := ((st (st sg 403 (sAt sg qa) 1) 404 (sAt sg qa) (sg 506 0)))) (c_told_7 hR hG hl0 hA qa qb qc qd h0) (fun H1 h1 => ⟨ad, fun _ _ _ => rfl, h1⟩)
set_option maxRecDepth 100000 in
set_option maxHeartbeats 4000000 in
theorem c_told_8 {l : Launch} {D : va_G} {cy : Nat → ClassId} {A : Nat → Prop} {ad : Nat → Int → Nat} {sg : Nat → Int → Int} {H : Heap} (hR : RC D cy A ad sg H) (hG : GC sg) (hl0 : l.stackTraces = false) (hA : ∀ q : Nat, H.size ≤ q → A q) (qa qb qc qd : Int) (h0 : in32 qa) (h1 : sg 702 0 ≤ 1000000) : vx_Met l yL_told (Cond.code yL_told cL_told 6 (some .long) :: wG) (rmF 7 164 1 6) (PcX A D cy H [.ref (ad 4 0), .int (iI (8)), .int (iI qa), .int (iI qb), .int (iI qc), .int (iI qd)]) (QmT (enterE sg qa = 0) (some (.long (lI (landO (tk2 sg (pAt qa)) (pAt qa))))) (fun H' => RC D cy A ad (tkT sg (pAt qa)) H') A) (XCx (enterE sg qa) (fun H' => RC D cy A ad sg H') A) 1 6 A := by
  refine vmet_of (la := [(0, .ref (ad 4 0)), (1, .int (iI (8))), (2, .int (iI qa)), (3, .int (iI qb)), (4, .int (iI qc)), (5, .int (iI qd))]) (by decide) (Nat.le_of_ble_eq_true rfl) rfl ?_
  intro p e R s m args below meth c ls hRm hx hb hml hr hlk hxt hown hts hsH hK hX hl
  subst hRm
  have hown : s.vm.findClass "TakinghallLaw" = some m.cls := hown
  have hS : va_S A s.heap H [] := by rw [hsH]; exact va_S.rf
  refine lv_iload_n hx hb dL_told_0 rfl (lv_at hl 1 rfl) ?_
  refine lv_tableIn (tgt := 156) (off := 155) hx hb dL_told_1 (by decide) (by decide) (by decide) (by decide) ?_
  refine lv_aload_n hx hb dL_told_156 rfl (lv_at hl 0 rfl) ?_
  refine lv_iload_n hx hb dL_told_157 rfl (lv_at hl 2 rfl) ?_
  refine xk_T (xr_T (As := [.int (iI qa)]) (rest := []) hx hb hml hown hts hK hX hS (c_X4_enter hR hG hl0 hA qa h0 h1) ms_X4_enter kw_584 (wr_recv hK hR (gd_4 hG) rfl rfl) ⟨by decide, by decide⟩ ⟨by decide, by decide⟩ rfl rfl hl.1 rfl (lv_room (Nat.le_of_ble_eq_true rfl)) dL_told_158) hS (fun x hx1 => hx1) (fun E cE q9 H1 locs1 hth1 hth3 hE hR1 hS1 hz hq hce hcv hcl => ?_) (fun H1 locs1 hT hR1 hS1 hz hq => ?_)
  · exact vx_out (fun x hx1 => (hxt x hx1).elim) hlk hce hcv hcl (fun t ht _ => ⟨hth1, hth3, hE, by rw [ht]; exact hR1, hS1.F ht⟩) hS1.2.2 (by decide) (by decide)
  · show W p l e _ s m args below meth c H1 locs1 _ _ _ (F0 m (158 + 3) ls [.int (iI (landO (tk2 sg (pAt qa)) (pAt qa)))])
    refine xr_i2l hx hb dL_told_161 (by first | omega | (have z0 := landO_rng (gc_tk2 hG (pAt qa) h1) (pAt qa); omega)) ?_
    exact xv_l hx hb hr hlk hS1 (by decide) (by decide) dL_told_162 hT rfl hR1
set_option maxRecDepth 100000 in
theorem c_act_8 {l : Launch} {D : va_G} {cy : Nat → ClassId} {A : Nat → Prop} {ad : Nat → Int → Nat} {sg : Nat → Int → Int} {H : Heap} (hR : RC D cy A ad sg H) (hG : GC sg) (hl0 : l.stackTraces = false) (hA : ∀ q : Nat, H.size ≤ q → A q) (qa qb qc qd : Int) (h0 : in32 qa) (h1 : sg 702 0 ≤ 1000000) : Met l yL_act (Cond.codeWith yL_act cL_act 7 (some .long) hh_act :: wG) (rmF 8 189 1 6) (PcW A D cy H [.ref (ad 4 0), .int (iI (8)), .int (iI qa), .int (iI qb), .int (iI qc), .int (iI qd)]) (Qm (some (.long (lI (aR (enterE sg qa) (landO (tk2 sg (pAt qa)) (pAt qa)))))) (AP D cy A ad sg ((tkT sg (pAt qa))) (enterE sg qa)) A) 1 6 A :=
  act_of (f := 7) (lo := 164) (mc := 1) (ms := 6) (T := ((tkT sg (pAt qa)))) (c_told_8 hR hG hl0 hA qa qb qc qd h0 h1) (fun H1 h1 => ⟨ad, fun _ _ _ => rfl, h1⟩)
set_option maxRecDepth 100000 in
set_option maxHeartbeats 4000000 in
theorem c_told_9 {l : Launch} {D : va_G} {cy : Nat → ClassId} {A : Nat → Prop} {ad : Nat → Int → Nat} {sg : Nat → Int → Int} {H : Heap} (hR : RC D cy A ad sg H) (hG : GC sg) (hl0 : l.stackTraces = false) (hA : ∀ q : Nat, H.size ≤ q → A q) (qa qb qc qd : Int) (h0 : in32 qa) (h1 : sg 702 0 ≤ 1000000) : vx_Met l yL_told (Cond.code yL_told cL_told 6 (some .long) :: wG) (rmF 7 164 1 6) (PcX A D cy H [.ref (ad 4 0), .int (iI (9)), .int (iI qa), .int (iI qb), .int (iI qc), .int (iI qd)]) (QmT (blightE sg qa = 0) (some (.long (lI (landO (tk2 (st sg 205 (sg 102 (iAt sg qa)) 100) (sg 102 (iAt sg qa))) (sg 102 (iAt sg qa)))))) (fun H' => RC D cy A ad (tkT (st sg 205 (sg 102 (iAt sg qa)) 100) (sg 102 (iAt sg qa))) H') A) (XCx (blightE sg qa) (fun H' => RC D cy A ad sg H') A) 1 6 A := by
  refine vmet_of (la := [(0, .ref (ad 4 0)), (1, .int (iI (9))), (2, .int (iI qa)), (3, .int (iI qb)), (4, .int (iI qc)), (5, .int (iI qd))]) (by decide) (Nat.le_of_ble_eq_true rfl) rfl ?_
  intro p e R s m args below meth c ls hRm hx hb hml hr hlk hxt hown hts hsH hK hX hl
  subst hRm
  have hown : s.vm.findClass "TakinghallLaw" = some m.cls := hown
  have hS : va_S A s.heap H [] := by rw [hsH]; exact va_S.rf
  refine lv_iload_n hx hb dL_told_0 rfl (lv_at hl 1 rfl) ?_
  refine lv_tableIn (tgt := 163) (off := 162) hx hb dL_told_1 (by decide) (by decide) (by decide) (by decide) ?_
  refine lv_aload_n hx hb dL_told_163 rfl (lv_at hl 0 rfl) ?_
  refine lv_iload_n hx hb dL_told_164 rfl (lv_at hl 2 rfl) ?_
  refine xk_T (xr_T (As := [.int (iI qa)]) (rest := []) hx hb hml hown hts hK hX hS (c_X4_blight hR hG hl0 hA qa h0 h1) ms_X4_blight kw_597 (wr_recv hK hR (gd_4 hG) rfl rfl) ⟨by decide, by decide⟩ ⟨by decide, by decide⟩ rfl rfl hl.1 rfl (lv_room (Nat.le_of_ble_eq_true rfl)) dL_told_165) hS (fun x hx1 => hx1) (fun E cE q9 H1 locs1 hth1 hth3 hE hR1 hS1 hz hq hce hcv hcl => ?_) (fun H1 locs1 hT hR1 hS1 hz hq => ?_)
  · exact vx_out (fun x hx1 => (hxt x hx1).elim) hlk hce hcv hcl (fun t ht _ => ⟨hth1, hth3, hE, by rw [ht]; exact hR1, hS1.F ht⟩) hS1.2.2 (by decide) (by decide)
  · show W p l e _ s m args below meth c H1 locs1 _ _ _ (F0 m (165 + 3) ls [.int (iI (landO (tk2 (st sg 205 (sg 102 (iAt sg qa)) 100) (sg 102 (iAt sg qa))) (sg 102 (iAt sg qa))))])
    refine xr_i2l hx hb dL_told_168 (by first | omega | (have z0 := landO_rng (gc_tk2 (gc_205 hG (sg 102 (iAt sg qa)) (v := 100) (by decide)) (sg 102 (iAt sg qa)) h1) (sg 102 (iAt sg qa)); omega)) ?_
    exact xv_l hx hb hr hlk hS1 (by decide) (by decide) dL_told_169 hT rfl hR1
set_option maxRecDepth 100000 in
theorem c_act_9 {l : Launch} {D : va_G} {cy : Nat → ClassId} {A : Nat → Prop} {ad : Nat → Int → Nat} {sg : Nat → Int → Int} {H : Heap} (hR : RC D cy A ad sg H) (hG : GC sg) (hl0 : l.stackTraces = false) (hA : ∀ q : Nat, H.size ≤ q → A q) (qa qb qc qd : Int) (h0 : in32 qa) (h1 : sg 702 0 ≤ 1000000) : Met l yL_act (Cond.codeWith yL_act cL_act 7 (some .long) hh_act :: wG) (rmF 8 189 1 6) (PcW A D cy H [.ref (ad 4 0), .int (iI (9)), .int (iI qa), .int (iI qb), .int (iI qc), .int (iI qd)]) (Qm (some (.long (lI (aR (blightE sg qa) (landO (tk2 (st sg 205 (sg 102 (iAt sg qa)) 100) (sg 102 (iAt sg qa))) (sg 102 (iAt sg qa))))))) (AP D cy A ad sg ((tkT (st sg 205 (sg 102 (iAt sg qa)) 100) (sg 102 (iAt sg qa)))) (blightE sg qa)) A) 1 6 A :=
  act_of (f := 7) (lo := 164) (mc := 1) (ms := 6) (T := ((tkT (st sg 205 (sg 102 (iAt sg qa)) 100) (sg 102 (iAt sg qa))))) (c_told_9 hR hG hl0 hA qa qb qc qd h0 h1) (fun H1 h1 => ⟨ad, fun _ _ _ => rfl, h1⟩)
set_option maxRecDepth 100000 in
set_option maxHeartbeats 4000000 in
theorem c_told_10 {l : Launch} {D : va_G} {cy : Nat → ClassId} {A : Nat → Prop} {ad : Nat → Int → Nat} {sg : Nat → Int → Int} {H : Heap} (hR : RC D cy A ad sg H) (hG : GC sg) (hl0 : l.stackTraces = false) (hA : ∀ q : Nat, H.size ≤ q → A q) (qa qb qc qd : Int) (h0 : in32 qa) : vx_Met l yL_told (Cond.code yL_told cL_told 6 (some .long) :: wG) (rmF 7 104 1 6) (PcX A D cy H [.ref (ad 4 0), .int (iI (10)), .int (iI qa), .int (iI qb), .int (iI qc), .int (iI qd)]) (QmT (worksE sg qa = 0) (some (.long (lI (cntWorks (st sg 208 (pAt qa) 1))))) (fun H' => RC D cy A ad (st sg 208 (pAt qa) 1) H') A) (XCx (worksE sg qa) (fun H' => RC D cy A ad sg H') A) 1 6 A := by
  refine vmet_of (la := [(0, .ref (ad 4 0)), (1, .int (iI (10))), (2, .int (iI qa)), (3, .int (iI qb)), (4, .int (iI qc)), (5, .int (iI qd))]) (by decide) (Nat.le_of_ble_eq_true rfl) rfl ?_
  intro p e R s m args below meth c ls hRm hx hb hml hr hlk hxt hown hts hsH hK hX hl
  subst hRm
  have hown : s.vm.findClass "TakinghallLaw" = some m.cls := hown
  have hS : va_S A s.heap H [] := by rw [hsH]; exact va_S.rf
  refine lv_iload_n hx hb dL_told_0 rfl (lv_at hl 1 rfl) ?_
  refine lv_tableIn (tgt := 170) (off := 169) hx hb dL_told_1 (by decide) (by decide) (by decide) (by decide) ?_
  refine lv_aload_n hx hb dL_told_170 rfl (lv_at hl 0 rfl) ?_
  refine lv_iload_n hx hb dL_told_171 rfl (lv_at hl 2 rfl) ?_
  refine xk_T (xr_T (As := [.int (iI qa)]) (rest := []) hx hb hml hown hts hK hX hS (c_X4_works hR hG hl0 hA qa h0) ms_X4_works kw_603 (wr_recv hK hR (gd_4 hG) rfl rfl) ⟨by decide, by decide⟩ ⟨by decide, by decide⟩ rfl rfl hl.1 rfl (lv_room (Nat.le_of_ble_eq_true rfl)) dL_told_172) hS (fun x hx1 => hx1) (fun E cE q9 H1 locs1 hth1 hth3 hE hR1 hS1 hz hq hce hcv hcl => ?_) (fun H1 locs1 hT hR1 hS1 hz hq => ?_)
  · exact vx_out (fun x hx1 => (hxt x hx1).elim) hlk hce hcv hcl (fun t ht _ => ⟨hth1, hth3, hE, by rw [ht]; exact hR1, hS1.F ht⟩) hS1.2.2 (by decide) (by decide)
  · show W p l e _ s m args below meth c H1 locs1 _ _ _ (F0 m (172 + 3) ls [.int (iI (cntWorks (st sg 208 (pAt qa) 1)))])
    refine xr_i2l hx hb dL_told_175 (by first | omega | (have z0 := sum_b (f := fun q => bI (st sg 208 (pAt qa) 1 208 q ≠ 0)) (M := 1) (fun i => bI_in _) 36; unfold cntWorks; omega)) ?_
    exact xv_l hx hb hr hlk hS1 (by decide) (by decide) dL_told_176 hT rfl hR1
set_option maxRecDepth 100000 in
theorem c_act_10 {l : Launch} {D : va_G} {cy : Nat → ClassId} {A : Nat → Prop} {ad : Nat → Int → Nat} {sg : Nat → Int → Int} {H : Heap} (hR : RC D cy A ad sg H) (hG : GC sg) (hl0 : l.stackTraces = false) (hA : ∀ q : Nat, H.size ≤ q → A q) (qa qb qc qd : Int) (h0 : in32 qa) : Met l yL_act (Cond.codeWith yL_act cL_act 7 (some .long) hh_act :: wG) (rmF 8 129 1 6) (PcW A D cy H [.ref (ad 4 0), .int (iI (10)), .int (iI qa), .int (iI qb), .int (iI qc), .int (iI qd)]) (Qm (some (.long (lI (aR (worksE sg qa) (cntWorks (st sg 208 (pAt qa) 1)))))) (AP D cy A ad sg ((st sg 208 (pAt qa) 1)) (worksE sg qa)) A) 1 6 A :=
  act_of (f := 7) (lo := 104) (mc := 1) (ms := 6) (T := ((st sg 208 (pAt qa) 1))) (c_told_10 hR hG hl0 hA qa qb qc qd h0) (fun H1 h1 => ⟨ad, fun _ _ _ => rfl, h1⟩)
set_option maxRecDepth 100000 in
set_option maxHeartbeats 4000000 in
theorem c_told_11 {l : Launch} {D : va_G} {cy : Nat → ClassId} {A : Nat → Prop} {ad : Nat → Int → Nat} {sg : Nat → Int → Int} {H : Heap} (hR : RC D cy A ad sg H) (hG : GC sg) (hl0 : l.stackTraces = false) (hA : ∀ q : Nat, H.size ≤ q → A q) (qa qb qc qd : Int) (h0 : in32 qa) : vx_Met l yL_told (Cond.code yL_told cL_told 6 (some .long) :: wG) (rmF 7 110 1 6) (PcX A D cy H [.ref (ad 4 0), .int (iI (11)), .int (iI qa), .int (iI qb), .int (iI qc), .int (iI qd)]) (QmT (dropE sg qa = 0) (some (.long (lI (drC sg (sAt sg qa) 36)))) (fun H' => RC D cy A ad (dropT sg (sAt sg qa)) H') A) (XCx (dropE sg qa) (fun H' => RC D cy A ad sg H') A) 1 6 A := by
  refine vmet_of (la := [(0, .ref (ad 4 0)), (1, .int (iI (11))), (2, .int (iI qa)), (3, .int (iI qb)), (4, .int (iI qc)), (5, .int (iI qd))]) (by decide) (Nat.le_of_ble_eq_true rfl) rfl ?_
  intro p e R s m args below meth c ls hRm hx hb hml hr hlk hxt hown hts hsH hK hX hl
  subst hRm
  have hown : s.vm.findClass "TakinghallLaw" = some m.cls := hown
  have hS : va_S A s.heap H [] := by rw [hsH]; exact va_S.rf
  refine lv_iload_n hx hb dL_told_0 rfl (lv_at hl 1 rfl) ?_
  refine lv_tableIn (tgt := 177) (off := 176) hx hb dL_told_1 (by decide) (by decide) (by decide) (by decide) ?_
  refine lv_aload_n hx hb dL_told_177 rfl (lv_at hl 0 rfl) ?_
  refine lv_iload_n hx hb dL_told_178 rfl (lv_at hl 2 rfl) ?_
  refine xk_T (xr_T (As := [.int (iI qa)]) (rest := []) hx hb hml hown hts hK hX hS (c_X4_drop hR hG hl0 hA qa h0) ms_X4_drop kw_612 (wr_recv hK hR (gd_4 hG) rfl rfl) ⟨by decide, by decide⟩ ⟨by decide, by decide⟩ rfl rfl hl.1 rfl (lv_room (Nat.le_of_ble_eq_true rfl)) dL_told_179) hS (fun x hx1 => hx1) (fun E cE q9 H1 locs1 hth1 hth3 hE hR1 hS1 hz hq hce hcv hcl => ?_) (fun H1 locs1 hT hR1 hS1 hz hq => ?_)
  · exact vx_out (fun x hx1 => (hxt x hx1).elim) hlk hce hcv hcl (fun t ht _ => ⟨hth1, hth3, hE, by rw [ht]; exact hR1, hS1.F ht⟩) hS1.2.2 (by decide) (by decide)
  · show W p l e _ s m args below meth c H1 locs1 _ _ _ (F0 m (179 + 3) ls [.int (iI (drC sg (sAt sg qa) 36))])
    refine xr_i2l hx hb dL_told_182 (by first | omega | (have z0 := drC_rng (sg := sg) (w := sAt sg qa) 36; omega)) ?_
    exact xv_l hx hb hr hlk hS1 (by decide) (by decide) dL_told_183 hT rfl hR1
set_option maxRecDepth 100000 in
theorem c_act_11 {l : Launch} {D : va_G} {cy : Nat → ClassId} {A : Nat → Prop} {ad : Nat → Int → Nat} {sg : Nat → Int → Int} {H : Heap} (hR : RC D cy A ad sg H) (hG : GC sg) (hl0 : l.stackTraces = false) (hA : ∀ q : Nat, H.size ≤ q → A q) (qa qb qc qd : Int) (h0 : in32 qa) : Met l yL_act (Cond.codeWith yL_act cL_act 7 (some .long) hh_act :: wG) (rmF 8 135 1 6) (PcW A D cy H [.ref (ad 4 0), .int (iI (11)), .int (iI qa), .int (iI qb), .int (iI qc), .int (iI qd)]) (Qm (some (.long (lI (aR (dropE sg qa) (drC sg (sAt sg qa) 36))))) (AP D cy A ad sg ((dropT sg (sAt sg qa))) (dropE sg qa)) A) 1 6 A :=
  act_of (f := 7) (lo := 110) (mc := 1) (ms := 6) (T := ((dropT sg (sAt sg qa)))) (c_told_11 hR hG hl0 hA qa qb qc qd h0) (fun H1 h1 => ⟨ad, fun _ _ _ => rfl, h1⟩)
set_option maxRecDepth 100000 in
set_option maxHeartbeats 4000000 in
theorem c_told_12 {l : Launch} {D : va_G} {cy : Nat → ClassId} {A : Nat → Prop} {ad : Nat → Int → Nat} {sg : Nat → Int → Int} {H : Heap} (hR : RC D cy A ad sg H) (hG : GC sg) (hl0 : l.stackTraces = false) (hA : ∀ q : Nat, H.size ≤ q → A q) (qa qb qc qd : Int) (h0 : in32 qa) : vx_Met l yL_told (Cond.code yL_told cL_told 6 (some .long) :: wG) (rmF 7 106 1 6) (PcX A D cy H [.ref (ad 4 0), .int (iI (12)), .int (iI qa), .int (iI qb), .int (iI qc), .int (iI qd)]) (QmT (advE sg qa = 0) (some (.long (lI (sg 110 (iAt sg qa) * 90 / 100)))) (fun H' => RC D cy A ad (st (st (st sg 111 (iAt sg qa) (sg 110 (iAt sg qa) * 90 / 100)) 112 (iAt sg qa) (sg 506 0)) 508 0 (sg 508 0 + sg 110 (iAt sg qa) * 90 / 100)) H') A) (XCx (advE sg qa) (fun H' => RC D cy A ad sg H') A) 1 6 A := by
  refine vmet_of (la := [(0, .ref (ad 4 0)), (1, .int (iI (12))), (2, .int (iI qa)), (3, .int (iI qb)), (4, .int (iI qc)), (5, .int (iI qd))]) (by decide) (Nat.le_of_ble_eq_true rfl) rfl ?_
  intro p e R s m args below meth c ls hRm hx hb hml hr hlk hxt hown hts hsH hK hX hl
  subst hRm
  have hown : s.vm.findClass "TakinghallLaw" = some m.cls := hown
  have hS : va_S A s.heap H [] := by rw [hsH]; exact va_S.rf
  refine lv_iload_n hx hb dL_told_0 rfl (lv_at hl 1 rfl) ?_
  refine lv_tableIn (tgt := 184) (off := 183) hx hb dL_told_1 (by decide) (by decide) (by decide) (by decide) ?_
  refine lv_aload_n hx hb dL_told_184 rfl (lv_at hl 0 rfl) ?_
  refine lv_iload_n hx hb dL_told_185 rfl (lv_at hl 2 rfl) ?_
  refine xk_T (xr_T (As := [.int (iI qa)]) (rest := []) hx hb hml hown hts hK hX hS (c_X4_advance hR hG hl0 hA qa h0) ms_X4_advance kw_631 (wr_recv hK hR (gd_4 hG) rfl rfl) ⟨by decide, by decide⟩ ⟨by decide, by decide⟩ rfl rfl hl.1 rfl (lv_room (Nat.le_of_ble_eq_true rfl)) dL_told_186) hS (fun x hx1 => hx1) (fun E cE q9 H1 locs1 hth1 hth3 hE hR1 hS1 hz hq hce hcv hcl => ?_) (fun H1 locs1 hT hR1 hS1 hz hq => ?_)
  · exact vx_out (fun x hx1 => (hxt x hx1).elim) hlk hce hcv hcl (fun t ht _ => ⟨hth1, hth3, hE, by rw [ht]; exact hR1, hS1.F ht⟩) hS1.2.2 (by decide) (by decide)
  · show W p l e _ s m args below meth c H1 locs1 _ _ _ (F0 m (186 + 3) ls [.long (lI (sg 110 (iAt sg qa) * 90 / 100))])
    exact xv_l hx hb hr hlk hS1 (by decide) (by decide) dL_told_189 hT rfl hR1
set_option maxRecDepth 100000 in
theorem c_act_12 {l : Launch} {D : va_G} {cy : Nat → ClassId} {A : Nat → Prop} {ad : Nat → Int → Nat} {sg : Nat → Int → Int} {H : Heap} (hR : RC D cy A ad sg H) (hG : GC sg) (hl0 : l.stackTraces = false) (hA : ∀ q : Nat, H.size ≤ q → A q) (qa qb qc qd : Int) (h0 : in32 qa) : Met l yL_act (Cond.codeWith yL_act cL_act 7 (some .long) hh_act :: wG) (rmF 8 131 1 6) (PcW A D cy H [.ref (ad 4 0), .int (iI (12)), .int (iI qa), .int (iI qb), .int (iI qc), .int (iI qd)]) (Qm (some (.long (lI (aR (advE sg qa) (sg 110 (iAt sg qa) * 90 / 100))))) (AP D cy A ad sg ((st (st (st sg 111 (iAt sg qa) (sg 110 (iAt sg qa) * 90 / 100)) 112 (iAt sg qa) (sg 506 0)) 508 0 (sg 508 0 + sg 110 (iAt sg qa) * 90 / 100))) (advE sg qa)) A) 1 6 A :=
  act_of (f := 7) (lo := 106) (mc := 1) (ms := 6) (T := ((st (st (st sg 111 (iAt sg qa) (sg 110 (iAt sg qa) * 90 / 100)) 112 (iAt sg qa) (sg 506 0)) 508 0 (sg 508 0 + sg 110 (iAt sg qa) * 90 / 100)))) (c_told_12 hR hG hl0 hA qa qb qc qd h0) (fun H1 h1 => ⟨ad, fun _ _ _ => rfl, h1⟩)
set_option maxRecDepth 100000 in
set_option maxHeartbeats 4000000 in
theorem c_told_13 {l : Launch} {D : va_G} {cy : Nat → ClassId} {A : Nat → Prop} {ad : Nat → Int → Nat} {sg : Nat → Int → Int} {H : Heap} (hR : RC D cy A ad sg H) (hG : GC sg) (hl0 : l.stackTraces = false) (hA : ∀ q : Nat, H.size ≤ q → A q) (qa qb qc qd : Int) (h0 : in32 qa) : vx_Met l yL_told (Cond.code yL_told cL_told 6 (some .long) :: wG) (rmF 7 106 1 6) (PcX A D cy H [.ref (ad 4 0), .int (iI (13)), .int (iI qa), .int (iI qb), .int (iI qc), .int (iI qd)]) (QmT (setE sg qa = 0) (some (.long (lI (owedO sg (iAt sg qa))))) (fun H' => RC D cy A ad (st (st (st sg 113 (iAt sg qa) (owedO sg (iAt sg qa))) 114 (iAt sg qa) 1) 508 0 (sg 508 0 + owedO sg (iAt sg qa))) H') A) (XCx (setE sg qa) (fun H' => RC D cy A ad sg H') A) 1 6 A := by
  refine vmet_of (la := [(0, .ref (ad 4 0)), (1, .int (iI (13))), (2, .int (iI qa)), (3, .int (iI qb)), (4, .int (iI qc)), (5, .int (iI qd))]) (by decide) (Nat.le_of_ble_eq_true rfl) rfl ?_
  intro p e R s m args below meth c ls hRm hx hb hml hr hlk hxt hown hts hsH hK hX hl
  subst hRm
  have hown : s.vm.findClass "TakinghallLaw" = some m.cls := hown
  have hS : va_S A s.heap H [] := by rw [hsH]; exact va_S.rf
  refine lv_iload_n hx hb dL_told_0 rfl (lv_at hl 1 rfl) ?_
  refine lv_tableIn (tgt := 190) (off := 189) hx hb dL_told_1 (by decide) (by decide) (by decide) (by decide) ?_
  refine lv_aload_n hx hb dL_told_190 rfl (lv_at hl 0 rfl) ?_
  refine lv_iload_n hx hb dL_told_191 rfl (lv_at hl 2 rfl) ?_
  refine xk_T (xr_T (As := [.int (iI qa)]) (rest := []) hx hb hml hown hts hK hX hS (c_X4_settle hR hG hl0 hA qa h0) ms_X4_settle kw_638 (wr_recv hK hR (gd_4 hG) rfl rfl) ⟨by decide, by decide⟩ ⟨by decide, by decide⟩ rfl rfl hl.1 rfl (lv_room (Nat.le_of_ble_eq_true rfl)) dL_told_192) hS (fun x hx1 => hx1) (fun E cE q9 H1 locs1 hth1 hth3 hE hR1 hS1 hz hq hce hcv hcl => ?_) (fun H1 locs1 hT hR1 hS1 hz hq => ?_)
  · exact vx_out (fun x hx1 => (hxt x hx1).elim) hlk hce hcv hcl (fun t ht _ => ⟨hth1, hth3, hE, by rw [ht]; exact hR1, hS1.F ht⟩) hS1.2.2 (by decide) (by decide)
  · show W p l e _ s m args below meth c H1 locs1 _ _ _ (F0 m (192 + 3) ls [.long (lI (owedO sg (iAt sg qa)))])
    exact xv_l hx hb hr hlk hS1 (by decide) (by decide) dL_told_195 hT rfl hR1
set_option maxRecDepth 100000 in
theorem c_act_13 {l : Launch} {D : va_G} {cy : Nat → ClassId} {A : Nat → Prop} {ad : Nat → Int → Nat} {sg : Nat → Int → Int} {H : Heap} (hR : RC D cy A ad sg H) (hG : GC sg) (hl0 : l.stackTraces = false) (hA : ∀ q : Nat, H.size ≤ q → A q) (qa qb qc qd : Int) (h0 : in32 qa) : Met l yL_act (Cond.codeWith yL_act cL_act 7 (some .long) hh_act :: wG) (rmF 8 131 1 6) (PcW A D cy H [.ref (ad 4 0), .int (iI (13)), .int (iI qa), .int (iI qb), .int (iI qc), .int (iI qd)]) (Qm (some (.long (lI (aR (setE sg qa) (owedO sg (iAt sg qa)))))) (AP D cy A ad sg ((st (st (st sg 113 (iAt sg qa) (owedO sg (iAt sg qa))) 114 (iAt sg qa) 1) 508 0 (sg 508 0 + owedO sg (iAt sg qa)))) (setE sg qa)) A) 1 6 A :=
  act_of (f := 7) (lo := 106) (mc := 1) (ms := 6) (T := ((st (st (st sg 113 (iAt sg qa) (owedO sg (iAt sg qa))) 114 (iAt sg qa) 1) 508 0 (sg 508 0 + owedO sg (iAt sg qa))))) (c_told_13 hR hG hl0 hA qa qb qc qd h0) (fun H1 h1 => ⟨ad, fun _ _ _ => rfl, h1⟩)
set_option maxRecDepth 100000 in
set_option maxHeartbeats 4000000 in
theorem c_told_14 {l : Launch} {D : va_G} {cy : Nat → ClassId} {A : Nat → Prop} {ad : Nat → Int → Nat} {sg : Nat → Int → Int} {H : Heap} (hR : RC D cy A ad sg H) (hG : GC sg) (hl0 : l.stackTraces = false) (hA : ∀ q : Nat, H.size ≤ q → A q) (qa qb qc qd : Int) (h0 : in32 qa) : vx_Met l yL_told (Cond.code yL_told cL_told 6 (some .long) :: wG) (rmF 7 105 1 6) (PcX A D cy H [.ref (ad 4 0), .int (iI (14)), .int (iI qa), .int (iI qb), .int (iI qc), .int (iI qd)]) (QmT (offE sg qa = 0) (some (.long (lI (opt (ownBeh sg (pAt qa) (sg 209 (pAt qa))))))) (fun H' => RC D cy A ad (offT sg (pAt qa) (ownBeh sg (pAt qa) (sg 209 (pAt qa))) (sg 210 (pAt qa))) H') A) (XCx (offE sg qa) (fun H' => RC D cy A ad sg H') A) 1 6 A := by
  refine vmet_of (la := [(0, .ref (ad 4 0)), (1, .int (iI (14))), (2, .int (iI qa)), (3, .int (iI qb)), (4, .int (iI qc)), (5, .int (iI qd))]) (by decide) (Nat.le_of_ble_eq_true rfl) rfl ?_
  intro p e R s m args below meth c ls hRm hx hb hml hr hlk hxt hown hts hsH hK hX hl
  subst hRm
  have hown : s.vm.findClass "TakinghallLaw" = some m.cls := hown
  have hS : va_S A s.heap H [] := by rw [hsH]; exact va_S.rf
  refine lv_iload_n hx hb dL_told_0 rfl (lv_at hl 1 rfl) ?_
  refine lv_tableIn (tgt := 196) (off := 195) hx hb dL_told_1 (by decide) (by decide) (by decide) (by decide) ?_
  refine lv_aload_n hx hb dL_told_196 rfl (lv_at hl 0 rfl) ?_
  refine lv_iload_n hx hb dL_told_197 rfl (lv_at hl 2 rfl) ?_
  refine xk_T (xr_T (As := [.int (iI qa)]) (rest := []) hx hb hml hown hts hK hX hS (c_X4_refuse hR hG hl0 hA qa h0) ms_X4_refuse kw_643 (wr_recv hK hR (gd_4 hG) rfl rfl) ⟨by decide, by decide⟩ ⟨by decide, by decide⟩ rfl rfl hl.1 rfl (lv_room (Nat.le_of_ble_eq_true rfl)) dL_told_198) hS (fun x hx1 => hx1) (fun E cE q9 H1 locs1 hth1 hth3 hE hR1 hS1 hz hq hce hcv hcl => ?_) (fun H1 locs1 hT hR1 hS1 hz hq => ?_)
  · exact vx_out (fun x hx1 => (hxt x hx1).elim) hlk hce hcv hcl (fun t ht _ => ⟨hth1, hth3, hE, by rw [ht]; exact hR1, hS1.F ht⟩) hS1.2.2 (by decide) (by decide)
  · show W p l e _ s m args below meth c H1 locs1 _ _ _ (F0 m (198 + 3) ls [.int (iI (opt (ownBeh sg (pAt qa) (sg 209 (pAt qa)))))])
    refine xr_i2l hx hb dL_told_201 (by first | omega | (have z0 := ownBeh_rng hG (pAt qa) (sg 209 (pAt qa)); have z1 := gr_503 hG 0; unfold opt; split <;> omega)) ?_
    exact xv_l hx hb hr hlk hS1 (by decide) (by decide) dL_told_202 hT rfl hR1
set_option maxRecDepth 100000 in
theorem c_act_14 {l : Launch} {D : va_G} {cy : Nat → ClassId} {A : Nat → Prop} {ad : Nat → Int → Nat} {sg : Nat → Int → Int} {H : Heap} (hR : RC D cy A ad sg H) (hG : GC sg) (hl0 : l.stackTraces = false) (hA : ∀ q : Nat, H.size ≤ q → A q) (qa qb qc qd : Int) (h0 : in32 qa) : Met l yL_act (Cond.codeWith yL_act cL_act 7 (some .long) hh_act :: wG) (rmF 8 130 1 6) (PcW A D cy H [.ref (ad 4 0), .int (iI (14)), .int (iI qa), .int (iI qb), .int (iI qc), .int (iI qd)]) (Qm (some (.long (lI (aR (offE sg qa) (opt (ownBeh sg (pAt qa) (sg 209 (pAt qa)))))))) (AP D cy A ad sg ((offT sg (pAt qa) (ownBeh sg (pAt qa) (sg 209 (pAt qa))) (sg 210 (pAt qa)))) (offE sg qa)) A) 1 6 A :=
  act_of (f := 7) (lo := 105) (mc := 1) (ms := 6) (T := ((offT sg (pAt qa) (ownBeh sg (pAt qa) (sg 209 (pAt qa))) (sg 210 (pAt qa))))) (c_told_14 hR hG hl0 hA qa qb qc qd h0) (fun H1 h1 => ⟨ad, fun _ _ _ => rfl, h1⟩)
set_option maxRecDepth 100000 in
set_option maxHeartbeats 4000000 in
theorem c_told_15 {l : Launch} {D : va_G} {cy : Nat → ClassId} {A : Nat → Prop} {ad : Nat → Int → Nat} {sg : Nat → Int → Int} {H : Heap} (hR : RC D cy A ad sg H) (hG : GC sg) (hl0 : l.stackTraces = false) (hA : ∀ q : Nat, H.size ≤ q → A q) (qa qb qc qd : Int) (h0 : in32 qa) : vx_Met l yL_told (Cond.code yL_told cL_told 6 (some .long) :: wG) (rmF 7 105 1 6) (PcX A D cy H [.ref (ad 4 0), .int (iI (15)), .int (iI qa), .int (iI qb), .int (iI qc), .int (iI qd)]) (QmT (offE sg qa = 0) (some (.long (lI (sg 210 (pAt qa))))) (fun H' => RC D cy A ad (st (offT (st sg 203 (pAt qa) 2) (pAt qa) (-1) 0) 510 0 (sg 510 0 + sg 210 (pAt qa))) H') A) (XCx (offE sg qa) (fun H' => RC D cy A ad sg H') A) 1 6 A := by
  refine vmet_of (la := [(0, .ref (ad 4 0)), (1, .int (iI (15))), (2, .int (iI qa)), (3, .int (iI qb)), (4, .int (iI qc)), (5, .int (iI qd))]) (by decide) (Nat.le_of_ble_eq_true rfl) rfl ?_
  intro p e R s m args below meth c ls hRm hx hb hml hr hlk hxt hown hts hsH hK hX hl
  subst hRm
  have hown : s.vm.findClass "TakinghallLaw" = some m.cls := hown
  have hS : va_S A s.heap H [] := by rw [hsH]; exact va_S.rf
  refine lv_iload_n hx hb dL_told_0 rfl (lv_at hl 1 rfl) ?_
  refine lv_tableOut (tgt := 203) hx hb dL_told_1 (Or.inr (by decide)) (by decide) ?_
  refine lv_aload_n hx hb dL_told_203 rfl (lv_at hl 0 rfl) ?_
  refine lv_iload_n hx hb dL_told_204 rfl (lv_at hl 2 rfl) ?_
  refine xk_T (xr_T (As := [.int (iI qa)]) (rest := []) hx hb hml hown hts hK hX hS (c_X4_accept hR hG hl0 hA qa h0) ms_X4_accept kw_648 (wr_recv hK hR (gd_4 hG) rfl rfl) ⟨by decide, by decide⟩ ⟨by decide, by decide⟩ rfl rfl hl.1 rfl (lv_room (Nat.le_of_ble_eq_true rfl)) dL_told_205) hS (fun x hx1 => hx1) (fun E cE q9 H1 locs1 hth1 hth3 hE hR1 hS1 hz hq hce hcv hcl => ?_) (fun H1 locs1 hT hR1 hS1 hz hq => ?_)
  · exact vx_out (fun x hx1 => (hxt x hx1).elim) hlk hce hcv hcl (fun t ht _ => ⟨hth1, hth3, hE, by rw [ht]; exact hR1, hS1.F ht⟩) hS1.2.2 (by decide) (by decide)
  · show W p l e _ s m args below meth c H1 locs1 _ _ _ (F0 m (205 + 3) ls [.int (iI (sg 210 (pAt qa)))])
    refine xr_i2l hx hb dL_told_208 (by first | omega | (have z0 := gr_210 hG (pAt qa); omega)) ?_
    exact xv_l hx hb hr hlk hS1 (by decide) (by decide) dL_told_209 hT rfl hR1
set_option maxRecDepth 100000 in
theorem c_act_15 {l : Launch} {D : va_G} {cy : Nat → ClassId} {A : Nat → Prop} {ad : Nat → Int → Nat} {sg : Nat → Int → Int} {H : Heap} (hR : RC D cy A ad sg H) (hG : GC sg) (hl0 : l.stackTraces = false) (hA : ∀ q : Nat, H.size ≤ q → A q) (qa qb qc qd : Int) (h0 : in32 qa) : Met l yL_act (Cond.codeWith yL_act cL_act 7 (some .long) hh_act :: wG) (rmF 8 130 1 6) (PcW A D cy H [.ref (ad 4 0), .int (iI (15)), .int (iI qa), .int (iI qb), .int (iI qc), .int (iI qd)]) (Qm (some (.long (lI (aR (offE sg qa) (sg 210 (pAt qa)))))) (AP D cy A ad sg ((st (offT (st sg 203 (pAt qa) 2) (pAt qa) (-1) 0) 510 0 (sg 510 0 + sg 210 (pAt qa)))) (offE sg qa)) A) 1 6 A :=
  act_of (f := 7) (lo := 105) (mc := 1) (ms := 6) (T := ((st (offT (st sg 203 (pAt qa) 2) (pAt qa) (-1) 0) 510 0 (sg 510 0 + sg 210 (pAt qa))))) (c_told_15 hR hG hl0 hA qa qb qc qd h0) (fun H1 h1 => ⟨ad, fun _ _ _ => rfl, h1⟩)
