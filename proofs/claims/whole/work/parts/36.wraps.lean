def hh_L_plot : List (Nat × Nat × Nat × Nat) := [(0, 12, 15, 13), (0, 12, 19, 15), (0, 12, 23, 17)]
theorem ms_L_plot : Cond.codeWith yL_plot cL_plot 6 (some .int) hh_L_plot ∈ wG ∧ Cond.static yL_plot ∈ wG ∧ Cond.initialized yL_plot.cls ∈ wG ∧ yL_plot.cls ≠ "java/lang/invoke/MethodHandle" ∧ yL_plot.cls ≠ "java/lang/invoke/VarHandle" ∧ (parseMethodDescriptor yL_plot.desc).map (fun d => d.parameters.length) = some 5 := ⟨kw_135, kw_134, kw_0, by decide, by decide, by decide +kernel⟩
set_option maxRecDepth 100000 in
set_option maxHeartbeats 4000000 in
theorem c_L_plot {l : Launch} {D : va_G} {cy : Nat → ClassId} {A : Nat → Prop} {ad : Nat → Int → Nat} {sg : Nat → Int → Int} {H : Heap} {b0 : Nat} {g0 : Nat → Int64} (hR : RC D cy A ad sg H) (hG : GC sg) (hl0 : l.stackTraces = false) (hA : ∀ q : Nat, H.size ≤ q → A q) (hB : outA D cy b0 H g0) (hb0 : ¬ A b0) (x : Int) (a : Int) (u : Int) (h_x : in32 x) (h_a : in32 a) (h_u : in32 u) : Met l yL_plot (Cond.codeWith yL_plot cL_plot 6 (some .int) hh_L_plot :: wG) (rmF 7 107 1 6) (PcW A D cy H [.ref (ad 4 0), .int (iI x), .int (iI a), .int (iI u), .ref b0]) (Qm (some (.int (iI (kWo [1, 2, 3] (plotE sg x a u))))) (WP D cy A ad sg (st (st sg 201 (pAt x) a) 202 (pAt x) u) b0 (plotE sg x a u) (sg 201 (pAt x))) (fun q => A q ∨ q = b0)) 1 6 (fun q => A q ∨ q = b0) := by
  refine wmet_of (la := [(0, .ref (ad 4 0)), (1, .int (iI x)), (2, .int (iI a)), (3, .int (iI u)), (4, .ref b0)]) (by decide) (Nat.le_of_ble_eq_true rfl) rfl ?_
  intro p e R s m args below meth c ls hRm hx hb hml hr hlk hxt hown hts hsH hK hX hN hl
  subst hRm
  have hown : s.vm.findClass "TakinghallLaw" = some m.cls := hown
  have hS : va_S (fun q => A q ∨ q = b0) s.heap H [] := by rw [hsH]; exact va_S.rf
  have hSA : va_S A s.heap H [] := by rw [hsH]; exact va_S.rf
  refine lv_aload hx hb dL_plot_0 (lv_at hl 4 rfl) ?_
  refine lv_iconst (v := iI (0)) hx hb dL_plot_2 rfl ?_
  refine lv_aload_n hx hb dL_plot_3 rfl (lv_at hl 0 rfl) ?_
  refine lv_iload_n hx hb dL_plot_4 rfl (lv_at hl 1 rfl) ?_
  refine lv_iload_n hx hb dL_plot_5 rfl (lv_at hl 2 rfl) ?_
  refine lv_iload_n hx hb dL_plot_6 rfl (lv_at hl 3 rfl) ?_
  refine xk_T (xr_T (As := [.int (iI x), .int (iI a), .int (iI u)]) (rest := [.int (iI 0), .ref b0]) hx hb hml hown hts hK hX hSA (c_X4_plot hR hG hl0 hA x a u h_x h_a h_u) ms_X4_plot kw_139 (wr_recv hK hR (gd_4 hG) rfl rfl) ⟨by decide, by decide⟩ ⟨by decide, by decide⟩ rfl rfl hl.1 rfl (lv_room (Nat.le_of_ble_eq_true rfl)) dL_plot_7) hS (fun x hx1 => Or.inl hx1) (fun E cE q9 H1 locs1 hth1 hth3 hE hR1 hS1 hz hq hce hcv hcl => ?_) (fun H1 locs1 hT hR1 hS1 hz hq => ?_)
  · have hB1 : outA D cy b0 H1 g0 := (hq b0 (Array.getElem?_eq_some_iff.mp hB).1 hb0).trans hB
    rcases (show plotE sg x a u = 1 ∨ plotE sg x a u = 2 ∨ plotE sg x a u = 3 by omega) with h | h | h
    · skip
      rw [h] at hE
      have hE2 : E = "java/lang/IndexOutOfBoundsException" := hE
      subst hE2
      refine vx_catch hown [] ⟨0, 12, 15, 13⟩ [⟨0, 12, 19, 15⟩, ⟨0, 12, 23, 17⟩] hxt (fun z hz => ?_) (by decide) (by decide) (hts _ kw_136) (va_Nw.use rfl (hX.1 _ (by simp [wNG]))) hce hcv hcl ?_
      · exact absurd hz List.not_mem_nil
      · refine lv_astore (i := 5) (lv' := [(5, .ref q9), (0, .ref (ad 4 0)), (1, .int (iI x)), (2, .int (iI a)), (3, .int (iI u)), (4, .ref b0)]) hx hb dL_plot_15 hl (by decide) rfl (fun ls hl => ?_)
        refine lv_iconst (v := iI (1)) hx hb dL_plot_17 rfl ?_
        refine W.widen (k := 1) (n := 6) (by decide) (by decide) ?_
        exact xm_i hx hb hr hlk hS1 dL_plot_18 (by rw [h]; rfl) ⟨ad, g0, fun _ _ _ => rfl, by rw [h, if_neg (by decide)]; exact hR1, hB1, fun z => absurd (h.symm.trans z) (by decide)⟩
    · skip
      rw [h] at hE
      have hE2 : E = "java/lang/IllegalArgumentException" := hE
      subst hE2
      refine vx_catch hown [⟨0, 12, 15, 13⟩] ⟨0, 12, 19, 15⟩ [⟨0, 12, 23, 17⟩] hxt (fun z hz => ?_) (by decide) (by decide) (hts _ kw_137) (va_Nw.use rfl (hX.1 _ (by simp [wNG]))) hce hcv hcl ?_
      · simp only [List.mem_cons, List.not_mem_nil, or_false] at hz
        subst hz
        exact Or.inr ⟨by decide, _, hts _ kw_136, hN.1⟩
      · refine lv_astore (i := 5) (lv' := [(5, .ref q9), (0, .ref (ad 4 0)), (1, .int (iI x)), (2, .int (iI a)), (3, .int (iI u)), (4, .ref b0)]) hx hb dL_plot_19 hl (by decide) rfl (fun ls hl => ?_)
        refine lv_iconst (v := iI (2)) hx hb dL_plot_21 rfl ?_
        refine W.widen (k := 1) (n := 6) (by decide) (by decide) ?_
        exact xm_i hx hb hr hlk hS1 dL_plot_22 (by rw [h]; rfl) ⟨ad, g0, fun _ _ _ => rfl, by rw [h, if_neg (by decide)]; exact hR1, hB1, fun z => absurd (h.symm.trans z) (by decide)⟩
    · skip
      rw [h] at hE
      have hE2 : E = "java/lang/IllegalStateException" := hE
      subst hE2
      refine vx_catch hown [⟨0, 12, 15, 13⟩, ⟨0, 12, 19, 15⟩] ⟨0, 12, 23, 17⟩ [] hxt (fun z hz => ?_) (by decide) (by decide) (hts _ kw_138) (va_Nw.use rfl (hX.1 _ (by simp [wNG]))) hce hcv hcl ?_
      · simp only [List.mem_cons, List.not_mem_nil, or_false] at hz
        rcases hz with hz | hz
        · subst hz; exact Or.inr ⟨by decide, _, hts _ kw_136, hN.2.1⟩
        · subst hz; exact Or.inr ⟨by decide, _, hts _ kw_137, hN.2.2⟩
      · refine lv_astore (i := 5) (lv' := [(5, .ref q9), (0, .ref (ad 4 0)), (1, .int (iI x)), (2, .int (iI a)), (3, .int (iI u)), (4, .ref b0)]) hx hb dL_plot_23 hl (by decide) rfl (fun ls hl => ?_)
        refine lv_iconst (v := iI (3)) hx hb dL_plot_25 rfl ?_
        refine W.widen (k := 1) (n := 6) (by decide) (by decide) ?_
        exact xm_i hx hb hr hlk hS1 dL_plot_26 (by rw [h]; rfl) ⟨ad, g0, fun _ _ _ => rfl, by rw [h, if_neg (by decide)]; exact hR1, hB1, fun z => absurd (h.symm.trans z) (by decide)⟩
  · have hB1 : outA D cy b0 H1 g0 := (hq b0 (Array.getElem?_eq_some_iff.mp hB).1 hb0).trans hB
    show W p l e _ s m args below meth c H1 locs1 _ _ _ (F0 m (7 + 3) ls [.int (iI (sg 201 (pAt x))), .int (iI 0), .ref b0])
    refine xr_i2l hx hb dL_plot_10 (by have z0 := gr_201 hG (pAt x); omega) ?_
    refine wr_lastX (A0 := fun q => A q ∨ q = b0) hx hb hK hR1 hB1 hb0 (fun q h => Or.inl h) (Or.inr rfl) hS1 dL_plot_11 (fun H2 locs2 hR2 hB2 hS2 => ?_)
    refine lv_goto (tgt := 27) hx hb dL_plot_12 (by decide) ?_
    refine lv_iconst (v := iI (0)) hx hb dL_plot_27 rfl ?_
    refine W.widen (k := 1) (n := 6) (by decide) (by decide) ?_
    obtain ⟨g2, hB2, hg2⟩ := hB2
    exact xm_i hx hb hr hlk hS2 dL_plot_28 (by rw [hT]; rfl) ⟨ad, g2, fun _ _ _ => rfl, by rw [if_pos hT]; exact hR2, hB2, fun _ => hg2⟩
def hh_L_price : List (Nat × Nat × Nat × Nat) := [(0, 10, 13, 15)]
theorem ms_L_price : Cond.codeWith yL_price cL_price 5 (some .int) hh_L_price ∈ wG ∧ Cond.static yL_price ∈ wG ∧ Cond.initialized yL_price.cls ∈ wG ∧ yL_price.cls ≠ "java/lang/invoke/MethodHandle" ∧ yL_price.cls ≠ "java/lang/invoke/VarHandle" ∧ (parseMethodDescriptor yL_price.desc).map (fun d => d.parameters.length) = some 4 := ⟨kw_261, kw_260, kw_0, by decide, by decide, by decide +kernel⟩
set_option maxRecDepth 100000 in
set_option maxHeartbeats 4000000 in
theorem c_L_price {l : Launch} {D : va_G} {cy : Nat → ClassId} {A : Nat → Prop} {ad : Nat → Int → Nat} {sg : Nat → Int → Int} {H : Heap} {b0 : Nat} {g0 : Nat → Int64} (hR : RC D cy A ad sg H) (hG : GC sg) (hl0 : l.stackTraces = false) (hA : ∀ q : Nat, H.size ≤ q → A q) (hB : outA D cy b0 H g0) (hb0 : ¬ A b0) (u : Int) (ce : Int) (h_u : in32 u) (h_ce : in32 ce) : Met l yL_price (Cond.codeWith yL_price cL_price 5 (some .int) hh_L_price :: wG) (rmF 7 105 1 6) (PcW A D cy H [.ref (ad 4 0), .int (iI u), .int (iI ce), .ref b0]) (Qm (some (.int (iI (kWo [2] (priceE u ce))))) (WP D cy A ad sg (priceT sg u ce) b0 (priceE u ce) (centsO sg (prOn sg u (sg 506 0)))) (fun q => A q ∨ q = b0)) 1 6 (fun q => A q ∨ q = b0) := by
  refine wmet_of (la := [(0, .ref (ad 4 0)), (1, .int (iI u)), (2, .int (iI ce)), (3, .ref b0)]) (by decide) (Nat.le_of_ble_eq_true rfl) rfl ?_
  intro p e R s m args below meth c ls hRm hx hb hml hr hlk hxt hown hts hsH hK hX hN hl
  subst hRm
  have hown : s.vm.findClass "TakinghallLaw" = some m.cls := hown
  have hS : va_S (fun q => A q ∨ q = b0) s.heap H [] := by rw [hsH]; exact va_S.rf
  have hSA : va_S A s.heap H [] := by rw [hsH]; exact va_S.rf
  refine lv_aload_n hx hb dL_price_0 rfl (lv_at hl 3 rfl) ?_
  refine lv_iconst (v := iI (0)) hx hb dL_price_1 rfl ?_
  refine lv_aload_n hx hb dL_price_2 rfl (lv_at hl 0 rfl) ?_
  refine lv_iload_n hx hb dL_price_3 rfl (lv_at hl 1 rfl) ?_
  refine lv_iload_n hx hb dL_price_4 rfl (lv_at hl 2 rfl) ?_
  refine xk_T (xr_T (As := [.int (iI u), .int (iI ce)]) (rest := [.int (iI 0), .ref b0]) hx hb hml hown hts hK hX hSA (c_X4_price hR hG hl0 hA u ce h_u h_ce) ms_X4_price kw_262 (wr_recv hK hR (gd_4 hG) rfl rfl) ⟨by decide, by decide⟩ ⟨by decide, by decide⟩ rfl rfl hl.1 rfl (lv_room (Nat.le_of_ble_eq_true rfl)) dL_price_5) hS (fun x hx1 => Or.inl hx1) (fun E cE q9 H1 locs1 hth1 hth3 hE hR1 hS1 hz hq hce hcv hcl => ?_) (fun H1 locs1 hT hR1 hS1 hz hq => ?_)
  · have hB1 : outA D cy b0 H1 g0 := (hq b0 (Array.getElem?_eq_some_iff.mp hB).1 hb0).trans hB
    rcases (show priceE u ce = 1 ∨ priceE u ce = 2 ∨ priceE u ce = 3 by omega) with h | h | h
    · skip
      exfalso
      unfold priceE at h
      (repeat' split at h) <;> omega
    · skip
      rw [h] at hE
      have hE2 : E = "java/lang/IllegalArgumentException" := hE
      subst hE2
      refine vx_catch hown [] ⟨0, 10, 13, 15⟩ [] hxt (fun z hz => ?_) (by decide) (by decide) (hts _ kw_137) (va_Nw.use rfl (hX.1 _ (by simp [wNG]))) hce hcv hcl ?_
      · exact absurd hz List.not_mem_nil
      · refine lv_astore (i := 4) (lv' := [(4, .ref q9), (0, .ref (ad 4 0)), (1, .int (iI u)), (2, .int (iI ce)), (3, .ref b0)]) hx hb dL_price_13 hl (by decide) rfl (fun ls hl => ?_)
        refine lv_iconst (v := iI (1)) hx hb dL_price_15 rfl ?_
        refine W.widen (k := 1) (n := 6) (by decide) (by decide) ?_
        exact xm_i hx hb hr hlk hS1 dL_price_16 (by rw [h]; rfl) ⟨ad, g0, fun _ _ _ => rfl, by rw [h, if_neg (by decide)]; exact hR1, hB1, fun z => absurd (h.symm.trans z) (by decide)⟩
    · skip
      exfalso
      unfold priceE at h
      (repeat' split at h) <;> omega
  · have hB1 : outA D cy b0 H1 g0 := (hq b0 (Array.getElem?_eq_some_iff.mp hB).1 hb0).trans hB
    obtain ⟨ad2, ho, hR1⟩ := hR1
    show W p l e _ s m args below meth c H1 locs1 _ _ _ (F0 m (5 + 3) ls [.int (iI (centsO sg (prOn sg u (sg 506 0)))), .int (iI 0), .ref b0])
    refine xr_i2l hx hb dL_price_8 (by have z0 := centsO_rng hG (prOn sg u (sg 506 0)); omega) ?_
    refine wr_lastX (A0 := fun q => A q ∨ q = b0) hx hb hK hR1 hB1 hb0 (fun q h => Or.inl h) (Or.inr rfl) hS1 dL_price_9 (fun H2 locs2 hR2 hB2 hS2 => ?_)
    refine lv_goto (tgt := 17) hx hb dL_price_10 (by decide) ?_
    refine lv_iconst (v := iI (0)) hx hb dL_price_17 rfl ?_
    refine W.widen (k := 1) (n := 6) (by decide) (by decide) ?_
    obtain ⟨g2, hB2, hg2⟩ := hB2
    exact xm_i hx hb hr hlk hS2 dL_price_18 (by rw [hT]; rfl) ⟨ad2, g2, ho, by rw [if_pos hT]; exact hR2, hB2, fun _ => hg2⟩
def hh_L_worth : List (Nat × Nat × Nat × Nat) := [(0, 10, 13, 13), (0, 10, 17, 15)]
theorem ms_L_worth : Cond.codeWith yL_worth cL_worth 5 (some .int) hh_L_worth ∈ wG ∧ Cond.static yL_worth ∈ wG ∧ Cond.initialized yL_worth.cls ∈ wG ∧ yL_worth.cls ≠ "java/lang/invoke/MethodHandle" ∧ yL_worth.cls ≠ "java/lang/invoke/VarHandle" ∧ (parseMethodDescriptor yL_worth.desc).map (fun d => d.parameters.length) = some 4 := ⟨kw_276, kw_275, kw_0, by decide, by decide, by decide +kernel⟩
set_option maxRecDepth 100000 in
set_option maxHeartbeats 4000000 in
theorem c_L_worth {l : Launch} {D : va_G} {cy : Nat → ClassId} {A : Nat → Prop} {ad : Nat → Int → Nat} {sg : Nat → Int → Int} {H : Heap} {b0 : Nat} {g0 : Nat → Int64} (hR : RC D cy A ad sg H) (hG : GC sg) (hl0 : l.stackTraces = false) (hA : ∀ q : Nat, H.size ≤ q → A q) (hB : outA D cy b0 H g0) (hb0 : ¬ A b0) (x : Int) (d : Int) (h_x : in32 x) (h_d : in32 d) : Met l yL_worth (Cond.codeWith yL_worth cL_worth 5 (some .int) hh_L_worth :: wG) (rmF 7 105 1 6) (PcW A D cy H [.ref (ad 4 0), .int (iI x), .int (iI d), .ref b0]) (Qm (some (.int (iI (kWo [1, 2] (worthE sg x d))))) (WP D cy A ad sg (sg) b0 (worthE sg x d) (worthB sg (pAt x) (prOn sg (sg 202 (pAt x)) d))) (fun q => A q ∨ q = b0)) 1 6 (fun q => A q ∨ q = b0) := by
  refine wmet_of (la := [(0, .ref (ad 4 0)), (1, .int (iI x)), (2, .int (iI d)), (3, .ref b0)]) (by decide) (Nat.le_of_ble_eq_true rfl) rfl ?_
  intro p e R s m args below meth c ls hRm hx hb hml hr hlk hxt hown hts hsH hK hX hN hl
  subst hRm
  have hown : s.vm.findClass "TakinghallLaw" = some m.cls := hown
  have hS : va_S (fun q => A q ∨ q = b0) s.heap H [] := by rw [hsH]; exact va_S.rf
  have hSA : va_S A s.heap H [] := by rw [hsH]; exact va_S.rf
  refine lv_aload_n hx hb dL_worth_0 rfl (lv_at hl 3 rfl) ?_
  refine lv_iconst (v := iI (0)) hx hb dL_worth_1 rfl ?_
  refine lv_aload_n hx hb dL_worth_2 rfl (lv_at hl 0 rfl) ?_
  refine lv_iload_n hx hb dL_worth_3 rfl (lv_at hl 1 rfl) ?_
  refine lv_iload_n hx hb dL_worth_4 rfl (lv_at hl 2 rfl) ?_
  refine xk_T (xr_T (As := [.int (iI x), .int (iI d)]) (rest := [.int (iI 0), .ref b0]) hx hb hml hown hts hK hX hSA (c_X4_worth hR hG hl0 hA x d h_x h_d) ms_X4_worth kw_277 (wr_recv hK hR (gd_4 hG) rfl rfl) ⟨by decide, by decide⟩ ⟨by decide, by decide⟩ rfl rfl hl.1 rfl (lv_room (Nat.le_of_ble_eq_true rfl)) dL_worth_5) hS (fun x hx1 => Or.inl hx1) (fun E cE q9 H1 locs1 hth1 hth3 hE hR1 hS1 hz hq hce hcv hcl => ?_) (fun H1 locs1 hT hR1 hS1 hz hq => ?_)
  · have hB1 : outA D cy b0 H1 g0 := (hq b0 (Array.getElem?_eq_some_iff.mp hB).1 hb0).trans hB
    rcases (show worthE sg x d = 1 ∨ worthE sg x d = 2 ∨ worthE sg x d = 3 by omega) with h | h | h
    · skip
      rw [h] at hE
      have hE2 : E = "java/lang/IndexOutOfBoundsException" := hE
      subst hE2
      refine vx_catch hown [] ⟨0, 10, 13, 13⟩ [⟨0, 10, 17, 15⟩] hxt (fun z hz => ?_) (by decide) (by decide) (hts _ kw_136) (va_Nw.use rfl (hX.1 _ (by simp [wNG]))) hce hcv hcl ?_
      · exact absurd hz List.not_mem_nil
      · refine lv_astore (i := 4) (lv' := [(4, .ref q9), (0, .ref (ad 4 0)), (1, .int (iI x)), (2, .int (iI d)), (3, .ref b0)]) hx hb dL_worth_13 hl (by decide) rfl (fun ls hl => ?_)
        refine lv_iconst (v := iI (1)) hx hb dL_worth_15 rfl ?_
        refine W.widen (k := 1) (n := 6) (by decide) (by decide) ?_
        exact xm_i hx hb hr hlk hS1 dL_worth_16 (by rw [h]; rfl) ⟨ad, g0, fun _ _ _ => rfl, by rw [h, if_neg (by decide)]; exact hR1, hB1, fun z => absurd (h.symm.trans z) (by decide)⟩
    · skip
      rw [h] at hE
      have hE2 : E = "java/lang/IllegalArgumentException" := hE
      subst hE2
      refine vx_catch hown [⟨0, 10, 13, 13⟩] ⟨0, 10, 17, 15⟩ [] hxt (fun z hz => ?_) (by decide) (by decide) (hts _ kw_137) (va_Nw.use rfl (hX.1 _ (by simp [wNG]))) hce hcv hcl ?_
      · simp only [List.mem_cons, List.not_mem_nil, or_false] at hz
        subst hz
        exact Or.inr ⟨by decide, _, hts _ kw_136, hN.1⟩
      · refine lv_astore (i := 4) (lv' := [(4, .ref q9), (0, .ref (ad 4 0)), (1, .int (iI x)), (2, .int (iI d)), (3, .ref b0)]) hx hb dL_worth_17 hl (by decide) rfl (fun ls hl => ?_)
        refine lv_iconst (v := iI (2)) hx hb dL_worth_19 rfl ?_
        refine W.widen (k := 1) (n := 6) (by decide) (by decide) ?_
        exact xm_i hx hb hr hlk hS1 dL_worth_20 (by rw [h]; rfl) ⟨ad, g0, fun _ _ _ => rfl, by rw [h, if_neg (by decide)]; exact hR1, hB1, fun z => absurd (h.symm.trans z) (by decide)⟩
    · skip
      exfalso
      unfold worthE at h
      (repeat' split at h) <;> omega
  · have hB1 : outA D cy b0 H1 g0 := (hq b0 (Array.getElem?_eq_some_iff.mp hB).1 hb0).trans hB
    show W p l e _ s m args below meth c H1 locs1 _ _ _ (F0 m (5 + 3) ls [.int (iI (worthB sg (pAt x) (prOn sg (sg 202 (pAt x)) d))), .int (iI 0), .ref b0])
    refine xr_i2l hx hb dL_worth_8 (by have z0 := worthB_rng hG (pAt x) (prOn sg (sg 202 (pAt x)) d); omega) ?_
    refine wr_lastX (A0 := fun q => A q ∨ q = b0) hx hb hK hR1 hB1 hb0 (fun q h => Or.inl h) (Or.inr rfl) hS1 dL_worth_9 (fun H2 locs2 hR2 hB2 hS2 => ?_)
    refine lv_goto (tgt := 21) hx hb dL_worth_10 (by decide) ?_
    refine lv_iconst (v := iI (0)) hx hb dL_worth_21 rfl ?_
    refine W.widen (k := 1) (n := 6) (by decide) (by decide) ?_
    obtain ⟨g2, hB2, hg2⟩ := hB2
    exact xm_i hx hb hr hlk hS2 dL_worth_22 (by rw [hT]; rfl) ⟨ad, g2, fun _ _ _ => rfl, by rw [if_pos hT]; exact hR2, hB2, fun _ => hg2⟩
def hh_L_market : List (Nat × Nat × Nat × Nat) := [(0, 9, 12, 13)]
theorem ms_L_market : Cond.codeWith yL_market cL_market 4 (some .int) hh_L_market ∈ wG ∧ Cond.static yL_market ∈ wG ∧ Cond.initialized yL_market.cls ∈ wG ∧ yL_market.cls ≠ "java/lang/invoke/MethodHandle" ∧ yL_market.cls ≠ "java/lang/invoke/VarHandle" ∧ (parseMethodDescriptor yL_market.desc).map (fun d => d.parameters.length) = some 3 := ⟨kw_287, kw_286, kw_0, by decide, by decide, by decide +kernel⟩
set_option maxRecDepth 100000 in
set_option maxHeartbeats 4000000 in
theorem c_L_market {l : Launch} {D : va_G} {cy : Nat → ClassId} {A : Nat → Prop} {ad : Nat → Int → Nat} {sg : Nat → Int → Int} {H : Heap} {b0 : Nat} {g0 : Nat → Int64} (hR : RC D cy A ad sg H) (hG : GC sg) (hl0 : l.stackTraces = false) (hA : ∀ q : Nat, H.size ≤ q → A q) (hB : outA D cy b0 H g0) (hb0 : ¬ A b0) (x : Int) (h_x : in32 x) : Met l yL_market (Cond.codeWith yL_market cL_market 4 (some .int) hh_L_market :: wG) (rmF 7 105 1 6) (PcW A D cy H [.ref (ad 4 0), .int (iI x), .ref b0]) (Qm (some (.int (iI (kWo [1] (pE x))))) (WP D cy A ad sg (sg) b0 (pE x) (marketR sg (pAt x))) (fun q => A q ∨ q = b0)) 1 6 (fun q => A q ∨ q = b0) := by
  refine wmet_of (la := [(0, .ref (ad 4 0)), (1, .int (iI x)), (2, .ref b0)]) (by decide) (Nat.le_of_ble_eq_true rfl) rfl ?_
  intro p e R s m args below meth c ls hRm hx hb hml hr hlk hxt hown hts hsH hK hX hN hl
  subst hRm
  have hown : s.vm.findClass "TakinghallLaw" = some m.cls := hown
  have hS : va_S (fun q => A q ∨ q = b0) s.heap H [] := by rw [hsH]; exact va_S.rf
  have hSA : va_S A s.heap H [] := by rw [hsH]; exact va_S.rf
  refine lv_aload_n hx hb dL_market_0 rfl (lv_at hl 2 rfl) ?_
  refine lv_iconst (v := iI (0)) hx hb dL_market_1 rfl ?_
  refine lv_aload_n hx hb dL_market_2 rfl (lv_at hl 0 rfl) ?_
  refine lv_iload_n hx hb dL_market_3 rfl (lv_at hl 1 rfl) ?_
  refine xk_T (xr_T (As := [.int (iI x)]) (rest := [.int (iI 0), .ref b0]) hx hb hml hown hts hK hX hSA (c_X4_market hR hG hl0 hA x h_x) ms_X4_market kw_288 (wr_recv hK hR (gd_4 hG) rfl rfl) ⟨by decide, by decide⟩ ⟨by decide, by decide⟩ rfl rfl hl.1 rfl (lv_room (Nat.le_of_ble_eq_true rfl)) dL_market_4) hS (fun x hx1 => Or.inl hx1) (fun E cE q9 H1 locs1 hth1 hth3 hE hR1 hS1 hz hq hce hcv hcl => ?_) (fun H1 locs1 hT hR1 hS1 hz hq => ?_)
  · have hB1 : outA D cy b0 H1 g0 := (hq b0 (Array.getElem?_eq_some_iff.mp hB).1 hb0).trans hB
    rcases (show pE x = 1 ∨ pE x = 2 ∨ pE x = 3 by omega) with h | h | h
    · skip
      rw [h] at hE
      have hE2 : E = "java/lang/IndexOutOfBoundsException" := hE
      subst hE2
      refine vx_catch hown [] ⟨0, 9, 12, 13⟩ [] hxt (fun z hz => ?_) (by decide) (by decide) (hts _ kw_136) (va_Nw.use rfl (hX.1 _ (by simp [wNG]))) hce hcv hcl ?_
      · exact absurd hz List.not_mem_nil
      · refine lv_astore_n (i := 3) (lv' := [(3, .ref q9), (0, .ref (ad 4 0)), (1, .int (iI x)), (2, .ref b0)]) hx hb dL_market_12 rfl hl (by decide) rfl (fun ls hl => ?_)
        refine lv_iconst (v := iI (1)) hx hb dL_market_13 rfl ?_
        refine W.widen (k := 1) (n := 6) (by decide) (by decide) ?_
        exact xm_i hx hb hr hlk hS1 dL_market_14 (by rw [h]; rfl) ⟨ad, g0, fun _ _ _ => rfl, by rw [h, if_neg (by decide)]; exact hR1, hB1, fun z => absurd (h.symm.trans z) (by decide)⟩
    · skip
      exfalso
      unfold pE at h
      (repeat' split at h) <;> omega
    · skip
      exfalso
      unfold pE at h
      (repeat' split at h) <;> omega
  · have hB1 : outA D cy b0 H1 g0 := (hq b0 (Array.getElem?_eq_some_iff.mp hB).1 hb0).trans hB
    show W p l e _ s m args below meth c H1 locs1 _ _ _ (F0 m (4 + 3) ls [.int (iI (marketR sg (pAt x))), .int (iI 0), .ref b0])
    refine xr_i2l hx hb dL_market_7 (by have z0 := worthT_rng hG (pAt x); unfold marketR; (repeat' split) <;> omega) ?_
    refine wr_lastX (A0 := fun q => A q ∨ q = b0) hx hb hK hR1 hB1 hb0 (fun q h => Or.inl h) (Or.inr rfl) hS1 dL_market_8 (fun H2 locs2 hR2 hB2 hS2 => ?_)
    refine lv_goto (tgt := 15) hx hb dL_market_9 (by decide) ?_
    refine lv_iconst (v := iI (0)) hx hb dL_market_15 rfl ?_
    refine W.widen (k := 1) (n := 6) (by decide) (by decide) ?_
    obtain ⟨g2, hB2, hg2⟩ := hB2
    exact xm_i hx hb hr hlk hS2 dL_market_16 (by rw [hT]; rfl) ⟨ad, g2, fun _ _ _ => rfl, by rw [if_pos hT]; exact hR2, hB2, fun _ => hg2⟩
def hh_L_plotOf : List (Nat × Nat × Nat × Nat) := [(0, 10, 13, 13), (0, 10, 17, 15)]
theorem ms_L_plotOf : Cond.codeWith yL_plotOf cL_plotOf 5 (some .int) hh_L_plotOf ∈ wG ∧ Cond.static yL_plotOf ∈ wG ∧ Cond.initialized yL_plotOf.cls ∈ wG ∧ yL_plotOf.cls ≠ "java/lang/invoke/MethodHandle" ∧ yL_plotOf.cls ≠ "java/lang/invoke/VarHandle" ∧ (parseMethodDescriptor yL_plotOf.desc).map (fun d => d.parameters.length) = some 4 := ⟨kw_305, kw_304, kw_0, by decide, by decide, by decide +kernel⟩
set_option maxRecDepth 100000 in
set_option maxHeartbeats 4000000 in
theorem c_L_plotOf {l : Launch} {D : va_G} {cy : Nat → ClassId} {A : Nat → Prop} {ad : Nat → Int → Nat} {sg : Nat → Int → Int} {H : Heap} {b0 : Nat} {g0 : Nat → Int64} (hR : RC D cy A ad sg H) (hG : GC sg) (hl0 : l.stackTraces = false) (hA : ∀ q : Nat, H.size ≤ q → A q) (hB : outA D cy b0 H g0) (hb0 : ¬ A b0) (x : Int) (w : Int) (h_x : in32 x) (h_w : in32 w) : Met l yL_plotOf (Cond.codeWith yL_plotOf cL_plotOf 5 (some .int) hh_L_plotOf :: wG) (rmF 7 105 1 6) (PcW A D cy H [.ref (ad 4 0), .int (iI x), .int (iI w), .ref b0]) (Qm (some (.int (iI (kWo [1, 2] (plotOfE x w))))) (WP D cy A ad sg (sg) b0 (plotOfE x w) (plotOfR sg (pAt x) w)) (fun q => A q ∨ q = b0)) 1 6 (fun q => A q ∨ q = b0) := by
  refine wmet_of (la := [(0, .ref (ad 4 0)), (1, .int (iI x)), (2, .int (iI w)), (3, .ref b0)]) (by decide) (Nat.le_of_ble_eq_true rfl) rfl ?_
  intro p e R s m args below meth c ls hRm hx hb hml hr hlk hxt hown hts hsH hK hX hN hl
  subst hRm
  have hown : s.vm.findClass "TakinghallLaw" = some m.cls := hown
  have hS : va_S (fun q => A q ∨ q = b0) s.heap H [] := by rw [hsH]; exact va_S.rf
  have hSA : va_S A s.heap H [] := by rw [hsH]; exact va_S.rf
  refine lv_aload_n hx hb dL_plotOf_0 rfl (lv_at hl 3 rfl) ?_
  refine lv_iconst (v := iI (0)) hx hb dL_plotOf_1 rfl ?_
  refine lv_aload_n hx hb dL_plotOf_2 rfl (lv_at hl 0 rfl) ?_
  refine lv_iload_n hx hb dL_plotOf_3 rfl (lv_at hl 1 rfl) ?_
  refine lv_iload_n hx hb dL_plotOf_4 rfl (lv_at hl 2 rfl) ?_
  refine xk_T (xr_T (As := [.int (iI x), .int (iI w)]) (rest := [.int (iI 0), .ref b0]) hx hb hml hown hts hK hX hSA (c_X4_plotOf hR hG hl0 hA x w h_x h_w) ms_X4_plotOf kw_306 (wr_recv hK hR (gd_4 hG) rfl rfl) ⟨by decide, by decide⟩ ⟨by decide, by decide⟩ rfl rfl hl.1 rfl (lv_room (Nat.le_of_ble_eq_true rfl)) dL_plotOf_5) hS (fun x hx1 => Or.inl hx1) (fun E cE q9 H1 locs1 hth1 hth3 hE hR1 hS1 hz hq hce hcv hcl => ?_) (fun H1 locs1 hT hR1 hS1 hz hq => ?_)
  · have hB1 : outA D cy b0 H1 g0 := (hq b0 (Array.getElem?_eq_some_iff.mp hB).1 hb0).trans hB
    rcases (show plotOfE x w = 1 ∨ plotOfE x w = 2 ∨ plotOfE x w = 3 by omega) with h | h | h
    · skip
      rw [h] at hE
      have hE2 : E = "java/lang/IndexOutOfBoundsException" := hE
      subst hE2
      refine vx_catch hown [] ⟨0, 10, 13, 13⟩ [⟨0, 10, 17, 15⟩] hxt (fun z hz => ?_) (by decide) (by decide) (hts _ kw_136) (va_Nw.use rfl (hX.1 _ (by simp [wNG]))) hce hcv hcl ?_
      · exact absurd hz List.not_mem_nil
      · refine lv_astore (i := 4) (lv' := [(4, .ref q9), (0, .ref (ad 4 0)), (1, .int (iI x)), (2, .int (iI w)), (3, .ref b0)]) hx hb dL_plotOf_13 hl (by decide) rfl (fun ls hl => ?_)
        refine lv_iconst (v := iI (1)) hx hb dL_plotOf_15 rfl ?_
        refine W.widen (k := 1) (n := 6) (by decide) (by decide) ?_
        exact xm_i hx hb hr hlk hS1 dL_plotOf_16 (by rw [h]; rfl) ⟨ad, g0, fun _ _ _ => rfl, by rw [h, if_neg (by decide)]; exact hR1, hB1, fun z => absurd (h.symm.trans z) (by decide)⟩
    · skip
      rw [h] at hE
      have hE2 : E = "java/lang/IllegalArgumentException" := hE
      subst hE2
      refine vx_catch hown [⟨0, 10, 13, 13⟩] ⟨0, 10, 17, 15⟩ [] hxt (fun z hz => ?_) (by decide) (by decide) (hts _ kw_137) (va_Nw.use rfl (hX.1 _ (by simp [wNG]))) hce hcv hcl ?_
      · simp only [List.mem_cons, List.not_mem_nil, or_false] at hz
        subst hz
        exact Or.inr ⟨by decide, _, hts _ kw_136, hN.1⟩
      · refine lv_astore (i := 4) (lv' := [(4, .ref q9), (0, .ref (ad 4 0)), (1, .int (iI x)), (2, .int (iI w)), (3, .ref b0)]) hx hb dL_plotOf_17 hl (by decide) rfl (fun ls hl => ?_)
        refine lv_iconst (v := iI (2)) hx hb dL_plotOf_19 rfl ?_
        refine W.widen (k := 1) (n := 6) (by decide) (by decide) ?_
        exact xm_i hx hb hr hlk hS1 dL_plotOf_20 (by rw [h]; rfl) ⟨ad, g0, fun _ _ _ => rfl, by rw [h, if_neg (by decide)]; exact hR1, hB1, fun z => absurd (h.symm.trans z) (by decide)⟩
    · skip
      exfalso
      unfold plotOfE at h
      (repeat' split at h) <;> omega
  · have hB1 : outA D cy b0 H1 g0 := (hq b0 (Array.getElem?_eq_some_iff.mp hB).1 hb0).trans hB
    show W p l e _ s m args below meth c H1 locs1 _ _ _ (F0 m (5 + 3) ls [.int (iI (plotOfR sg (pAt x) w)), .int (iI 0), .ref b0])
    refine xr_i2l hx hb dL_plotOf_8 (by have z0 := gr_201 hG (pAt x); have z1 := gr_202 hG (pAt x); have z2 := gr_203 hG (pAt x); have z3 := needO_rng hG (pAt x); have z4 := gr_205 hG (pAt x); have z5 := gr_206 hG (pAt x); have z6 := gr_209 hG (pAt x); have z7 := gr_210 hG (pAt x); unfold plotOfR opt; (repeat' split) <;> omega) ?_
    refine wr_lastX (A0 := fun q => A q ∨ q = b0) hx hb hK hR1 hB1 hb0 (fun q h => Or.inl h) (Or.inr rfl) hS1 dL_plotOf_9 (fun H2 locs2 hR2 hB2 hS2 => ?_)
    refine lv_goto (tgt := 21) hx hb dL_plotOf_10 (by decide) ?_
    refine lv_iconst (v := iI (0)) hx hb dL_plotOf_21 rfl ?_
    refine W.widen (k := 1) (n := 6) (by decide) (by decide) ?_
    obtain ⟨g2, hB2, hg2⟩ := hB2
    exact xm_i hx hb hr hlk hS2 dL_plotOf_22 (by rw [hT]; rfl) ⟨ad, g2, fun _ _ _ => rfl, by rw [if_pos hT]; exact hR2, hB2, fun _ => hg2⟩
def hh_L_own : List (Nat × Nat × Nat × Nat) := [(0, 12, 15, 13), (0, 12, 19, 15), (0, 12, 23, 17)]
theorem ms_L_own : Cond.codeWith yL_own cL_own 6 (some .int) hh_L_own ∈ wG ∧ Cond.static yL_own ∈ wG ∧ Cond.initialized yL_own.cls ∈ wG ∧ yL_own.cls ≠ "java/lang/invoke/MethodHandle" ∧ yL_own.cls ≠ "java/lang/invoke/VarHandle" ∧ (parseMethodDescriptor yL_own.desc).map (fun d => d.parameters.length) = some 5 := ⟨kw_319, kw_318, kw_0, by decide, by decide, by decide +kernel⟩
set_option maxRecDepth 100000 in
set_option maxHeartbeats 4000000 in
theorem c_L_own {l : Launch} {D : va_G} {cy : Nat → ClassId} {A : Nat → Prop} {ad : Nat → Int → Nat} {sg : Nat → Int → Int} {H : Heap} {b0 : Nat} {g0 : Nat → Int64} (hR : RC D cy A ad sg H) (hG : GC sg) (hl0 : l.stackTraces = false) (hA : ∀ q : Nat, H.size ≤ q → A q) (hB : outA D cy b0 H g0) (hb0 : ¬ A b0) (x : Int) (u : Int) (sh : Int) (h_x : in32 x) (h_u : in32 u) (h_sh : in32 sh) : Met l yL_own (Cond.codeWith yL_own cL_own 6 (some .int) hh_L_own :: wG) (rmF 7 117 1 15) (PcW A D cy H [.ref (ad 4 0), .int (iI x), .int (iI u), .int (iI sh), .ref b0]) (Qm (some (.int (iI (kWo [1, 2, 3] (ownE sg x u sh))))) (WP D cy A ad sg (tellT sg 0 (pAt x) u sh 0) b0 (ownE sg x u sh) (sg 503 0)) (fun q => A q ∨ q = b0)) 1 15 (fun q => A q ∨ q = b0) := by
  refine wmet_of (la := [(0, .ref (ad 4 0)), (1, .int (iI x)), (2, .int (iI u)), (3, .int (iI sh)), (4, .ref b0)]) (by decide) (Nat.le_of_ble_eq_true rfl) rfl ?_
  intro p e R s m args below meth c ls hRm hx hb hml hr hlk hxt hown hts hsH hK hX hN hl
  subst hRm
  have hown : s.vm.findClass "TakinghallLaw" = some m.cls := hown
  have hS : va_S (fun q => A q ∨ q = b0) s.heap H [] := by rw [hsH]; exact va_S.rf
  have hSA : va_S A s.heap H [] := by rw [hsH]; exact va_S.rf
  refine lv_aload hx hb dL_own_0 (lv_at hl 4 rfl) ?_
  refine lv_iconst (v := iI (0)) hx hb dL_own_2 rfl ?_
  refine lv_aload_n hx hb dL_own_3 rfl (lv_at hl 0 rfl) ?_
  refine lv_iload_n hx hb dL_own_4 rfl (lv_at hl 1 rfl) ?_
  refine lv_iload_n hx hb dL_own_5 rfl (lv_at hl 2 rfl) ?_
  refine lv_iload_n hx hb dL_own_6 rfl (lv_at hl 3 rfl) ?_
  refine xk_T (xr_T (As := [.int (iI x), .int (iI u), .int (iI sh)]) (rest := [.int (iI 0), .ref b0]) hx hb hml hown hts hK hX hSA (c_X4_own hR hG hl0 hA x u sh h_x h_u h_sh) ms_X4_own kw_320 (wr_recv hK hR (gd_4 hG) rfl rfl) ⟨by decide, by decide⟩ ⟨by decide, by decide⟩ rfl rfl hl.1 rfl (lv_room (Nat.le_of_ble_eq_true rfl)) dL_own_7) hS (fun x hx1 => Or.inl hx1) (fun E cE q9 H1 locs1 hth1 hth3 hE hR1 hS1 hz hq hce hcv hcl => ?_) (fun H1 locs1 hT hR1 hS1 hz hq => ?_)
  · have hB1 : outA D cy b0 H1 g0 := (hq b0 (Array.getElem?_eq_some_iff.mp hB).1 hb0).trans hB
    rcases (show ownE sg x u sh = 1 ∨ ownE sg x u sh = 2 ∨ ownE sg x u sh = 3 by omega) with h | h | h
    · skip
      rw [h] at hE
      have hE2 : E = "java/lang/IndexOutOfBoundsException" := hE
      subst hE2
      refine vx_catch hown [] ⟨0, 12, 15, 13⟩ [⟨0, 12, 19, 15⟩, ⟨0, 12, 23, 17⟩] hxt (fun z hz => ?_) (by decide) (by decide) (hts _ kw_136) (va_Nw.use rfl (hX.1 _ (by simp [wNG]))) hce hcv hcl ?_
      · exact absurd hz List.not_mem_nil
      · refine lv_astore (i := 5) (lv' := [(5, .ref q9), (0, .ref (ad 4 0)), (1, .int (iI x)), (2, .int (iI u)), (3, .int (iI sh)), (4, .ref b0)]) hx hb dL_own_15 hl (by decide) rfl (fun ls hl => ?_)
        refine lv_iconst (v := iI (1)) hx hb dL_own_17 rfl ?_
        refine W.widen (k := 1) (n := 15) (by decide) (by decide) ?_
        exact xm_i hx hb hr hlk hS1 dL_own_18 (by rw [h]; rfl) ⟨ad, g0, fun _ _ _ => rfl, by rw [h, if_neg (by decide)]; exact hR1, hB1, fun z => absurd (h.symm.trans z) (by decide)⟩
    · skip
      rw [h] at hE
      have hE2 : E = "java/lang/IllegalArgumentException" := hE
      subst hE2
      refine vx_catch hown [⟨0, 12, 15, 13⟩] ⟨0, 12, 19, 15⟩ [⟨0, 12, 23, 17⟩] hxt (fun z hz => ?_) (by decide) (by decide) (hts _ kw_137) (va_Nw.use rfl (hX.1 _ (by simp [wNG]))) hce hcv hcl ?_
      · simp only [List.mem_cons, List.not_mem_nil, or_false] at hz
        subst hz
        exact Or.inr ⟨by decide, _, hts _ kw_136, hN.1⟩
      · refine lv_astore (i := 5) (lv' := [(5, .ref q9), (0, .ref (ad 4 0)), (1, .int (iI x)), (2, .int (iI u)), (3, .int (iI sh)), (4, .ref b0)]) hx hb dL_own_19 hl (by decide) rfl (fun ls hl => ?_)
        refine lv_iconst (v := iI (2)) hx hb dL_own_21 rfl ?_
        refine W.widen (k := 1) (n := 15) (by decide) (by decide) ?_
        exact xm_i hx hb hr hlk hS1 dL_own_22 (by rw [h]; rfl) ⟨ad, g0, fun _ _ _ => rfl, by rw [h, if_neg (by decide)]; exact hR1, hB1, fun z => absurd (h.symm.trans z) (by decide)⟩
    · skip
      rw [h] at hE
      have hE2 : E = "java/lang/IllegalStateException" := hE
      subst hE2
      refine vx_catch hown [⟨0, 12, 15, 13⟩, ⟨0, 12, 19, 15⟩] ⟨0, 12, 23, 17⟩ [] hxt (fun z hz => ?_) (by decide) (by decide) (hts _ kw_138) (va_Nw.use rfl (hX.1 _ (by simp [wNG]))) hce hcv hcl ?_
      · simp only [List.mem_cons, List.not_mem_nil, or_false] at hz
        rcases hz with hz | hz
        · subst hz; exact Or.inr ⟨by decide, _, hts _ kw_136, hN.2.1⟩
        · subst hz; exact Or.inr ⟨by decide, _, hts _ kw_137, hN.2.2⟩
      · refine lv_astore (i := 5) (lv' := [(5, .ref q9), (0, .ref (ad 4 0)), (1, .int (iI x)), (2, .int (iI u)), (3, .int (iI sh)), (4, .ref b0)]) hx hb dL_own_23 hl (by decide) rfl (fun ls hl => ?_)
        refine lv_iconst (v := iI (3)) hx hb dL_own_25 rfl ?_
        refine W.widen (k := 1) (n := 15) (by decide) (by decide) ?_
        exact xm_i hx hb hr hlk hS1 dL_own_26 (by rw [h]; rfl) ⟨ad, g0, fun _ _ _ => rfl, by rw [h, if_neg (by decide)]; exact hR1, hB1, fun z => absurd (h.symm.trans z) (by decide)⟩
  · have hB1 : outA D cy b0 H1 g0 := (hq b0 (Array.getElem?_eq_some_iff.mp hB).1 hb0).trans hB
    obtain ⟨ad2, ho, hR1⟩ := hR1
    show W p l e _ s m args below meth c H1 locs1 _ _ _ (F0 m (7 + 3) ls [.int (iI (sg 503 0)), .int (iI 0), .ref b0])
    refine xr_i2l hx hb dL_own_10 (by have z0 := gr_503 hG 0; omega) ?_
    refine wr_lastX (A0 := fun q => A q ∨ q = b0) hx hb hK hR1 hB1 hb0 (fun q h => Or.inl h) (Or.inr rfl) hS1 dL_own_11 (fun H2 locs2 hR2 hB2 hS2 => ?_)
    refine lv_goto (tgt := 27) hx hb dL_own_12 (by decide) ?_
    refine lv_iconst (v := iI (0)) hx hb dL_own_27 rfl ?_
    refine W.widen (k := 1) (n := 15) (by decide) (by decide) ?_
    obtain ⟨g2, hB2, hg2⟩ := hB2
    exact xm_i hx hb hr hlk hS2 dL_own_28 (by rw [hT]; rfl) ⟨ad2, g2, ho, by rw [if_pos hT]; exact hR2, hB2, fun _ => hg2⟩
def hh_L_lease : List (Nat × Nat × Nat × Nat) := [(0, 14, 17, 13), (0, 14, 21, 15), (0, 14, 25, 17)]
theorem ms_L_lease : Cond.codeWith yL_lease cL_lease 7 (some .int) hh_L_lease ∈ wG ∧ Cond.static yL_lease ∈ wG ∧ Cond.initialized yL_lease.cls ∈ wG ∧ yL_lease.cls ≠ "java/lang/invoke/MethodHandle" ∧ yL_lease.cls ≠ "java/lang/invoke/VarHandle" ∧ (parseMethodDescriptor yL_lease.desc).map (fun d => d.parameters.length) = some 6 := ⟨kw_404, kw_403, kw_0, by decide, by decide, by decide +kernel⟩
set_option maxRecDepth 100000 in
set_option maxHeartbeats 4000000 in
theorem c_L_lease {l : Launch} {D : va_G} {cy : Nat → ClassId} {A : Nat → Prop} {ad : Nat → Int → Nat} {sg : Nat → Int → Int} {H : Heap} {b0 : Nat} {g0 : Nat → Int64} (hR : RC D cy A ad sg H) (hG : GC sg) (hl0 : l.stackTraces = false) (hA : ∀ q : Nat, H.size ≤ q → A q) (hB : outA D cy b0 H g0) (hb0 : ¬ A b0) (x : Int) (u : Int) (til : Int) (pr : Int) (h_x : in32 x) (h_u : in32 u) (h_til : in32 til) (h_pr : in32 pr) : Met l yL_lease (Cond.codeWith yL_lease cL_lease 7 (some .int) hh_L_lease :: wG) (rmF 7 118 1 15) (PcW A D cy H [.ref (ad 4 0), .int (iI x), .int (iI u), .int (iI til), .int (iI pr), .ref b0]) (Qm (some (.int (iI (kWo [1, 2, 3] (leaseE sg x u til pr))))) (WP D cy A ad sg (tellT sg 1 (pAt x) u til pr) b0 (leaseE sg x u til pr) (sg 503 0)) (fun q => A q ∨ q = b0)) 1 15 (fun q => A q ∨ q = b0) := by
  refine wmet_of (la := [(0, .ref (ad 4 0)), (1, .int (iI x)), (2, .int (iI u)), (3, .int (iI til)), (4, .int (iI pr)), (5, .ref b0)]) (by decide) (Nat.le_of_ble_eq_true rfl) rfl ?_
  intro p e R s m args below meth c ls hRm hx hb hml hr hlk hxt hown hts hsH hK hX hN hl
  subst hRm
  have hown : s.vm.findClass "TakinghallLaw" = some m.cls := hown
  have hS : va_S (fun q => A q ∨ q = b0) s.heap H [] := by rw [hsH]; exact va_S.rf
  have hSA : va_S A s.heap H [] := by rw [hsH]; exact va_S.rf
  refine lv_aload hx hb dL_lease_0 (lv_at hl 5 rfl) ?_
  refine lv_iconst (v := iI (0)) hx hb dL_lease_2 rfl ?_
  refine lv_aload_n hx hb dL_lease_3 rfl (lv_at hl 0 rfl) ?_
  refine lv_iload_n hx hb dL_lease_4 rfl (lv_at hl 1 rfl) ?_
  refine lv_iload_n hx hb dL_lease_5 rfl (lv_at hl 2 rfl) ?_
  refine lv_iload_n hx hb dL_lease_6 rfl (lv_at hl 3 rfl) ?_
  refine lv_iload hx hb dL_lease_7 (lv_at hl 4 rfl) ?_
  refine xk_T (xr_T (As := [.int (iI x), .int (iI u), .int (iI til), .int (iI pr)]) (rest := [.int (iI 0), .ref b0]) hx hb hml hown hts hK hX hSA (c_X4_lease hR hG hl0 hA x u til pr h_x h_u h_til h_pr) ms_X4_lease kw_405 (wr_recv hK hR (gd_4 hG) rfl rfl) ⟨by decide, by decide⟩ ⟨by decide, by decide⟩ rfl rfl hl.1 rfl (lv_room (Nat.le_of_ble_eq_true rfl)) dL_lease_9) hS (fun x hx1 => Or.inl hx1) (fun E cE q9 H1 locs1 hth1 hth3 hE hR1 hS1 hz hq hce hcv hcl => ?_) (fun H1 locs1 hT hR1 hS1 hz hq => ?_)
  · have hB1 : outA D cy b0 H1 g0 := (hq b0 (Array.getElem?_eq_some_iff.mp hB).1 hb0).trans hB
    rcases (show leaseE sg x u til pr = 1 ∨ leaseE sg x u til pr = 2 ∨ leaseE sg x u til pr = 3 by omega) with h | h | h
    · skip
      rw [h] at hE
      have hE2 : E = "java/lang/IndexOutOfBoundsException" := hE
      subst hE2
      refine vx_catch hown [] ⟨0, 14, 17, 13⟩ [⟨0, 14, 21, 15⟩, ⟨0, 14, 25, 17⟩] hxt (fun z hz => ?_) (by decide) (by decide) (hts _ kw_136) (va_Nw.use rfl (hX.1 _ (by simp [wNG]))) hce hcv hcl ?_
      · exact absurd hz List.not_mem_nil
      · refine lv_astore (i := 6) (lv' := [(6, .ref q9), (0, .ref (ad 4 0)), (1, .int (iI x)), (2, .int (iI u)), (3, .int (iI til)), (4, .int (iI pr)), (5, .ref b0)]) hx hb dL_lease_17 hl (by decide) rfl (fun ls hl => ?_)
        refine lv_iconst (v := iI (1)) hx hb dL_lease_19 rfl ?_
        refine W.widen (k := 1) (n := 15) (by decide) (by decide) ?_
        exact xm_i hx hb hr hlk hS1 dL_lease_20 (by rw [h]; rfl) ⟨ad, g0, fun _ _ _ => rfl, by rw [h, if_neg (by decide)]; exact hR1, hB1, fun z => absurd (h.symm.trans z) (by decide)⟩
    · skip
      rw [h] at hE
      have hE2 : E = "java/lang/IllegalArgumentException" := hE
      subst hE2
      refine vx_catch hown [⟨0, 14, 17, 13⟩] ⟨0, 14, 21, 15⟩ [⟨0, 14, 25, 17⟩] hxt (fun z hz => ?_) (by decide) (by decide) (hts _ kw_137) (va_Nw.use rfl (hX.1 _ (by simp [wNG]))) hce hcv hcl ?_
      · simp only [List.mem_cons, List.not_mem_nil, or_false] at hz
        subst hz
        exact Or.inr ⟨by decide, _, hts _ kw_136, hN.1⟩
      · refine lv_astore (i := 6) (lv' := [(6, .ref q9), (0, .ref (ad 4 0)), (1, .int (iI x)), (2, .int (iI u)), (3, .int (iI til)), (4, .int (iI pr)), (5, .ref b0)]) hx hb dL_lease_21 hl (by decide) rfl (fun ls hl => ?_)
        refine lv_iconst (v := iI (2)) hx hb dL_lease_23 rfl ?_
        refine W.widen (k := 1) (n := 15) (by decide) (by decide) ?_
        exact xm_i hx hb hr hlk hS1 dL_lease_24 (by rw [h]; rfl) ⟨ad, g0, fun _ _ _ => rfl, by rw [h, if_neg (by decide)]; exact hR1, hB1, fun z => absurd (h.symm.trans z) (by decide)⟩
    · skip
      rw [h] at hE
      have hE2 : E = "java/lang/IllegalStateException" := hE
      subst hE2
      refine vx_catch hown [⟨0, 14, 17, 13⟩, ⟨0, 14, 21, 15⟩] ⟨0, 14, 25, 17⟩ [] hxt (fun z hz => ?_) (by decide) (by decide) (hts _ kw_138) (va_Nw.use rfl (hX.1 _ (by simp [wNG]))) hce hcv hcl ?_
      · simp only [List.mem_cons, List.not_mem_nil, or_false] at hz
        rcases hz with hz | hz
        · subst hz; exact Or.inr ⟨by decide, _, hts _ kw_136, hN.2.1⟩
        · subst hz; exact Or.inr ⟨by decide, _, hts _ kw_137, hN.2.2⟩
      · refine lv_astore (i := 6) (lv' := [(6, .ref q9), (0, .ref (ad 4 0)), (1, .int (iI x)), (2, .int (iI u)), (3, .int (iI til)), (4, .int (iI pr)), (5, .ref b0)]) hx hb dL_lease_25 hl (by decide) rfl (fun ls hl => ?_)
        refine lv_iconst (v := iI (3)) hx hb dL_lease_27 rfl ?_
        refine W.widen (k := 1) (n := 15) (by decide) (by decide) ?_
        exact xm_i hx hb hr hlk hS1 dL_lease_28 (by rw [h]; rfl) ⟨ad, g0, fun _ _ _ => rfl, by rw [h, if_neg (by decide)]; exact hR1, hB1, fun z => absurd (h.symm.trans z) (by decide)⟩
  · have hB1 : outA D cy b0 H1 g0 := (hq b0 (Array.getElem?_eq_some_iff.mp hB).1 hb0).trans hB
    obtain ⟨ad2, ho, hR1⟩ := hR1
    show W p l e _ s m args below meth c H1 locs1 _ _ _ (F0 m (9 + 3) ls [.int (iI (sg 503 0)), .int (iI 0), .ref b0])
    refine xr_i2l hx hb dL_lease_12 (by have z0 := gr_503 hG 0; omega) ?_
    refine wr_lastX (A0 := fun q => A q ∨ q = b0) hx hb hK hR1 hB1 hb0 (fun q h => Or.inl h) (Or.inr rfl) hS1 dL_lease_13 (fun H2 locs2 hR2 hB2 hS2 => ?_)
    refine lv_goto (tgt := 29) hx hb dL_lease_14 (by decide) ?_
    refine lv_iconst (v := iI (0)) hx hb dL_lease_29 rfl ?_
    refine W.widen (k := 1) (n := 15) (by decide) (by decide) ?_
    obtain ⟨g2, hB2, hg2⟩ := hB2
    exact xm_i hx hb hr hlk hS2 dL_lease_30 (by rw [hT]; rfl) ⟨ad2, g2, ho, by rw [if_pos hT]; exact hR2, hB2, fun _ => hg2⟩
def hh_L_charge : List (Nat × Nat × Nat × Nat) := [(0, 12, 15, 13), (0, 12, 19, 15), (0, 12, 23, 17)]
theorem ms_L_charge : Cond.codeWith yL_charge cL_charge 6 (some .int) hh_L_charge ∈ wG ∧ Cond.static yL_charge ∈ wG ∧ Cond.initialized yL_charge.cls ∈ wG ∧ yL_charge.cls ≠ "java/lang/invoke/MethodHandle" ∧ yL_charge.cls ≠ "java/lang/invoke/VarHandle" ∧ (parseMethodDescriptor yL_charge.desc).map (fun d => d.parameters.length) = some 5 := ⟨kw_412, kw_411, kw_0, by decide, by decide, by decide +kernel⟩
set_option maxRecDepth 100000 in
set_option maxHeartbeats 4000000 in
theorem c_L_charge {l : Launch} {D : va_G} {cy : Nat → ClassId} {A : Nat → Prop} {ad : Nat → Int → Nat} {sg : Nat → Int → Int} {H : Heap} {b0 : Nat} {g0 : Nat → Int64} (hR : RC D cy A ad sg H) (hG : GC sg) (hl0 : l.stackTraces = false) (hA : ∀ q : Nat, H.size ≤ q → A q) (hB : outA D cy b0 H g0) (hb0 : ¬ A b0) (x : Int) (u : Int) (ms : Int) (h_x : in32 x) (h_u : in32 u) (h_ms : in32 ms) : Met l yL_charge (Cond.codeWith yL_charge cL_charge 6 (some .int) hh_L_charge :: wG) (rmF 7 117 1 15) (PcW A D cy H [.ref (ad 4 0), .int (iI x), .int (iI u), .int (iI ms), .ref b0]) (Qm (some (.int (iI (kWo [1, 2, 3] (chargeE sg x u ms))))) (WP D cy A ad sg (tellT sg 2 (pAt x) u ms 0) b0 (chargeE sg x u ms) (sg 503 0)) (fun q => A q ∨ q = b0)) 1 15 (fun q => A q ∨ q = b0) := by
  refine wmet_of (la := [(0, .ref (ad 4 0)), (1, .int (iI x)), (2, .int (iI u)), (3, .int (iI ms)), (4, .ref b0)]) (by decide) (Nat.le_of_ble_eq_true rfl) rfl ?_
  intro p e R s m args below meth c ls hRm hx hb hml hr hlk hxt hown hts hsH hK hX hN hl
  subst hRm
  have hown : s.vm.findClass "TakinghallLaw" = some m.cls := hown
  have hS : va_S (fun q => A q ∨ q = b0) s.heap H [] := by rw [hsH]; exact va_S.rf
  have hSA : va_S A s.heap H [] := by rw [hsH]; exact va_S.rf
  refine lv_aload hx hb dL_charge_0 (lv_at hl 4 rfl) ?_
  refine lv_iconst (v := iI (0)) hx hb dL_charge_2 rfl ?_
  refine lv_aload_n hx hb dL_charge_3 rfl (lv_at hl 0 rfl) ?_
  refine lv_iload_n hx hb dL_charge_4 rfl (lv_at hl 1 rfl) ?_
  refine lv_iload_n hx hb dL_charge_5 rfl (lv_at hl 2 rfl) ?_
  refine lv_iload_n hx hb dL_charge_6 rfl (lv_at hl 3 rfl) ?_
  refine xk_T (xr_T (As := [.int (iI x), .int (iI u), .int (iI ms)]) (rest := [.int (iI 0), .ref b0]) hx hb hml hown hts hK hX hSA (c_X4_charge hR hG hl0 hA x u ms h_x h_u h_ms) ms_X4_charge kw_413 (wr_recv hK hR (gd_4 hG) rfl rfl) ⟨by decide, by decide⟩ ⟨by decide, by decide⟩ rfl rfl hl.1 rfl (lv_room (Nat.le_of_ble_eq_true rfl)) dL_charge_7) hS (fun x hx1 => Or.inl hx1) (fun E cE q9 H1 locs1 hth1 hth3 hE hR1 hS1 hz hq hce hcv hcl => ?_) (fun H1 locs1 hT hR1 hS1 hz hq => ?_)
  · have hB1 : outA D cy b0 H1 g0 := (hq b0 (Array.getElem?_eq_some_iff.mp hB).1 hb0).trans hB
    rcases (show chargeE sg x u ms = 1 ∨ chargeE sg x u ms = 2 ∨ chargeE sg x u ms = 3 by omega) with h | h | h
    · skip
      rw [h] at hE
      have hE2 : E = "java/lang/IndexOutOfBoundsException" := hE
      subst hE2
      refine vx_catch hown [] ⟨0, 12, 15, 13⟩ [⟨0, 12, 19, 15⟩, ⟨0, 12, 23, 17⟩] hxt (fun z hz => ?_) (by decide) (by decide) (hts _ kw_136) (va_Nw.use rfl (hX.1 _ (by simp [wNG]))) hce hcv hcl ?_
      · exact absurd hz List.not_mem_nil
      · refine lv_astore (i := 5) (lv' := [(5, .ref q9), (0, .ref (ad 4 0)), (1, .int (iI x)), (2, .int (iI u)), (3, .int (iI ms)), (4, .ref b0)]) hx hb dL_charge_15 hl (by decide) rfl (fun ls hl => ?_)
        refine lv_iconst (v := iI (1)) hx hb dL_charge_17 rfl ?_
        refine W.widen (k := 1) (n := 15) (by decide) (by decide) ?_
        exact xm_i hx hb hr hlk hS1 dL_charge_18 (by rw [h]; rfl) ⟨ad, g0, fun _ _ _ => rfl, by rw [h, if_neg (by decide)]; exact hR1, hB1, fun z => absurd (h.symm.trans z) (by decide)⟩
    · skip
      rw [h] at hE
      have hE2 : E = "java/lang/IllegalArgumentException" := hE
      subst hE2
      refine vx_catch hown [⟨0, 12, 15, 13⟩] ⟨0, 12, 19, 15⟩ [⟨0, 12, 23, 17⟩] hxt (fun z hz => ?_) (by decide) (by decide) (hts _ kw_137) (va_Nw.use rfl (hX.1 _ (by simp [wNG]))) hce hcv hcl ?_
      · simp only [List.mem_cons, List.not_mem_nil, or_false] at hz
        subst hz
        exact Or.inr ⟨by decide, _, hts _ kw_136, hN.1⟩
      · refine lv_astore (i := 5) (lv' := [(5, .ref q9), (0, .ref (ad 4 0)), (1, .int (iI x)), (2, .int (iI u)), (3, .int (iI ms)), (4, .ref b0)]) hx hb dL_charge_19 hl (by decide) rfl (fun ls hl => ?_)
        refine lv_iconst (v := iI (2)) hx hb dL_charge_21 rfl ?_
        refine W.widen (k := 1) (n := 15) (by decide) (by decide) ?_
        exact xm_i hx hb hr hlk hS1 dL_charge_22 (by rw [h]; rfl) ⟨ad, g0, fun _ _ _ => rfl, by rw [h, if_neg (by decide)]; exact hR1, hB1, fun z => absurd (h.symm.trans z) (by decide)⟩
    · skip
      rw [h] at hE
      have hE2 : E = "java/lang/IllegalStateException" := hE
      subst hE2
      refine vx_catch hown [⟨0, 12, 15, 13⟩, ⟨0, 12, 19, 15⟩] ⟨0, 12, 23, 17⟩ [] hxt (fun z hz => ?_) (by decide) (by decide) (hts _ kw_138) (va_Nw.use rfl (hX.1 _ (by simp [wNG]))) hce hcv hcl ?_
      · simp only [List.mem_cons, List.not_mem_nil, or_false] at hz
        rcases hz with hz | hz
        · subst hz; exact Or.inr ⟨by decide, _, hts _ kw_136, hN.2.1⟩
        · subst hz; exact Or.inr ⟨by decide, _, hts _ kw_137, hN.2.2⟩
      · refine lv_astore (i := 5) (lv' := [(5, .ref q9), (0, .ref (ad 4 0)), (1, .int (iI x)), (2, .int (iI u)), (3, .int (iI ms)), (4, .ref b0)]) hx hb dL_charge_23 hl (by decide) rfl (fun ls hl => ?_)
        refine lv_iconst (v := iI (3)) hx hb dL_charge_25 rfl ?_
        refine W.widen (k := 1) (n := 15) (by decide) (by decide) ?_
        exact xm_i hx hb hr hlk hS1 dL_charge_26 (by rw [h]; rfl) ⟨ad, g0, fun _ _ _ => rfl, by rw [h, if_neg (by decide)]; exact hR1, hB1, fun z => absurd (h.symm.trans z) (by decide)⟩
  · have hB1 : outA D cy b0 H1 g0 := (hq b0 (Array.getElem?_eq_some_iff.mp hB).1 hb0).trans hB
    obtain ⟨ad2, ho, hR1⟩ := hR1
    show W p l e _ s m args below meth c H1 locs1 _ _ _ (F0 m (7 + 3) ls [.int (iI (sg 503 0)), .int (iI 0), .ref b0])
    refine xr_i2l hx hb dL_charge_10 (by have z0 := gr_503 hG 0; omega) ?_
    refine wr_lastX (A0 := fun q => A q ∨ q = b0) hx hb hK hR1 hB1 hb0 (fun q h => Or.inl h) (Or.inr rfl) hS1 dL_charge_11 (fun H2 locs2 hR2 hB2 hS2 => ?_)
    refine lv_goto (tgt := 27) hx hb dL_charge_12 (by decide) ?_
    refine lv_iconst (v := iI (0)) hx hb dL_charge_27 rfl ?_
    refine W.widen (k := 1) (n := 15) (by decide) (by decide) ?_
    obtain ⟨g2, hB2, hg2⟩ := hB2
    exact xm_i hx hb hr hlk hS2 dL_charge_28 (by rw [hT]; rfl) ⟨ad2, g2, ho, by rw [if_pos hT]; exact hR2, hB2, fun _ => hg2⟩
def hh_L_interestOf : List (Nat × Nat × Nat × Nat) := [(0, 9, 12, 13), (0, 9, 16, 15)]
theorem ms_L_interestOf : Cond.codeWith yL_interestOf cL_interestOf 5 (some .int) hh_L_interestOf ∈ wG ∧ Cond.static yL_interestOf ∈ wG ∧ Cond.initialized yL_interestOf.cls ∈ wG ∧ yL_interestOf.cls ≠ "java/lang/invoke/MethodHandle" ∧ yL_interestOf.cls ≠ "java/lang/invoke/VarHandle" ∧ (parseMethodDescriptor yL_interestOf.desc).map (fun d => d.parameters.length) = some 4 := ⟨kw_421, kw_420, kw_0, by decide, by decide, by decide +kernel⟩
set_option maxRecDepth 100000 in
set_option maxHeartbeats 4000000 in
theorem c_L_interestOf {l : Launch} {D : va_G} {cy : Nat → ClassId} {A : Nat → Prop} {ad : Nat → Int → Nat} {sg : Nat → Int → Int} {H : Heap} {b0 : Nat} {g0 : Nat → Int64} (hR : RC D cy A ad sg H) (hG : GC sg) (hl0 : l.stackTraces = false) (hA : ∀ q : Nat, H.size ≤ q → A q) (hB : outA D cy b0 H g0) (hb0 : ¬ A b0) (x : Int) (w : Int) (h_x : in32 x) (h_w : in32 w) : Met l yL_interestOf (Cond.codeWith yL_interestOf cL_interestOf 5 (some .int) hh_L_interestOf :: wG) (rmF 7 105 1 6) (PcW A D cy H [.ref (ad 4 0), .int (iI x), .int (iI w), .ref b0]) (Qm (some (.int (iI (kWo [1, 2] (interE sg x w))))) (WP D cy A ad sg (sg) b0 (interE sg x w) (interR sg (iAt sg x) w)) (fun q => A q ∨ q = b0)) 1 6 (fun q => A q ∨ q = b0) := by
  refine wmet_of (la := [(0, .ref (ad 4 0)), (1, .int (iI x)), (2, .int (iI w)), (3, .ref b0)]) (by decide) (Nat.le_of_ble_eq_true rfl) rfl ?_
  intro p e R s m args below meth c ls hRm hx hb hml hr hlk hxt hown hts hsH hK hX hN hl
  subst hRm
  have hown : s.vm.findClass "TakinghallLaw" = some m.cls := hown
  have hS : va_S (fun q => A q ∨ q = b0) s.heap H [] := by rw [hsH]; exact va_S.rf
  have hSA : va_S A s.heap H [] := by rw [hsH]; exact va_S.rf
  refine lv_aload_n hx hb dL_interestOf_0 rfl (lv_at hl 3 rfl) ?_
  refine lv_iconst (v := iI (0)) hx hb dL_interestOf_1 rfl ?_
  refine lv_aload_n hx hb dL_interestOf_2 rfl (lv_at hl 0 rfl) ?_
  refine lv_iload_n hx hb dL_interestOf_3 rfl (lv_at hl 1 rfl) ?_
  refine lv_iload_n hx hb dL_interestOf_4 rfl (lv_at hl 2 rfl) ?_
  refine xk_T (xr_T (As := [.int (iI x), .int (iI w)]) (rest := [.int (iI 0), .ref b0]) hx hb hml hown hts hK hX hSA (c_X4_interestOf hR hG hl0 hA x w h_x h_w) ms_X4_interestOf kw_422 (wr_recv hK hR (gd_4 hG) rfl rfl) ⟨by decide, by decide⟩ ⟨by decide, by decide⟩ rfl rfl hl.1 rfl (lv_room (Nat.le_of_ble_eq_true rfl)) dL_interestOf_5) hS (fun x hx1 => Or.inl hx1) (fun E cE q9 H1 locs1 hth1 hth3 hE hR1 hS1 hz hq hce hcv hcl => ?_) (fun H1 locs1 hT hR1 hS1 hz hq => ?_)
  · have hB1 : outA D cy b0 H1 g0 := (hq b0 (Array.getElem?_eq_some_iff.mp hB).1 hb0).trans hB
    rcases (show interE sg x w = 1 ∨ interE sg x w = 2 ∨ interE sg x w = 3 by omega) with h | h | h
    · skip
      rw [h] at hE
      have hE2 : E = "java/lang/IndexOutOfBoundsException" := hE
      subst hE2
      refine vx_catch hown [] ⟨0, 9, 12, 13⟩ [⟨0, 9, 16, 15⟩] hxt (fun z hz => ?_) (by decide) (by decide) (hts _ kw_136) (va_Nw.use rfl (hX.1 _ (by simp [wNG]))) hce hcv hcl ?_
      · exact absurd hz List.not_mem_nil
      · refine lv_astore (i := 4) (lv' := [(4, .ref q9), (0, .ref (ad 4 0)), (1, .int (iI x)), (2, .int (iI w)), (3, .ref b0)]) hx hb dL_interestOf_12 hl (by decide) rfl (fun ls hl => ?_)
        refine lv_iconst (v := iI (1)) hx hb dL_interestOf_14 rfl ?_
        refine W.widen (k := 1) (n := 6) (by decide) (by decide) ?_
        exact xm_i hx hb hr hlk hS1 dL_interestOf_15 (by rw [h]; rfl) ⟨ad, g0, fun _ _ _ => rfl, by rw [h, if_neg (by decide)]; exact hR1, hB1, fun z => absurd (h.symm.trans z) (by decide)⟩
    · skip
      rw [h] at hE
      have hE2 : E = "java/lang/IllegalArgumentException" := hE
      subst hE2
      refine vx_catch hown [⟨0, 9, 12, 13⟩] ⟨0, 9, 16, 15⟩ [] hxt (fun z hz => ?_) (by decide) (by decide) (hts _ kw_137) (va_Nw.use rfl (hX.1 _ (by simp [wNG]))) hce hcv hcl ?_
      · simp only [List.mem_cons, List.not_mem_nil, or_false] at hz
        subst hz
        exact Or.inr ⟨by decide, _, hts _ kw_136, hN.1⟩
      · refine lv_astore (i := 4) (lv' := [(4, .ref q9), (0, .ref (ad 4 0)), (1, .int (iI x)), (2, .int (iI w)), (3, .ref b0)]) hx hb dL_interestOf_16 hl (by decide) rfl (fun ls hl => ?_)
        refine lv_iconst (v := iI (2)) hx hb dL_interestOf_18 rfl ?_
        refine W.widen (k := 1) (n := 6) (by decide) (by decide) ?_
        exact xm_i hx hb hr hlk hS1 dL_interestOf_19 (by rw [h]; rfl) ⟨ad, g0, fun _ _ _ => rfl, by rw [h, if_neg (by decide)]; exact hR1, hB1, fun z => absurd (h.symm.trans z) (by decide)⟩
    · skip
      exfalso
      unfold interE at h
      (repeat' split at h) <;> omega
  · have hB1 : outA D cy b0 H1 g0 := (hq b0 (Array.getElem?_eq_some_iff.mp hB).1 hb0).trans hB
    show W p l e _ s m args below meth c H1 locs1 _ _ _ (F0 m (5 + 3) ls [.long (lI (interR sg (iAt sg x) w)), .int (iI 0), .ref b0])
    refine wr_lastX (A0 := fun q => A q ∨ q = b0) hx hb hK hR1 hB1 hb0 (fun q h => Or.inl h) (Or.inr rfl) hS1 dL_interestOf_8 (fun H2 locs2 hR2 hB2 hS2 => ?_)
    refine lv_goto (tgt := 20) hx hb dL_interestOf_9 (by decide) ?_
    refine lv_iconst (v := iI (0)) hx hb dL_interestOf_20 rfl ?_
    refine W.widen (k := 1) (n := 6) (by decide) (by decide) ?_
    obtain ⟨g2, hB2, hg2⟩ := hB2
    exact xm_i hx hb hr hlk hS2 dL_interestOf_21 (by rw [hT]; rfl) ⟨ad, g2, fun _ _ _ => rfl, by rw [if_pos hT]; exact hR2, hB2, fun _ => hg2⟩
def hh_L_scheme : List (Nat × Nat × Nat × Nat) := [(0, 10, 13, 15), (0, 10, 17, 17)]
theorem ms_L_scheme : Cond.codeWith yL_scheme cL_scheme 5 (some .int) hh_L_scheme ∈ wG ∧ Cond.static yL_scheme ∈ wG ∧ Cond.initialized yL_scheme.cls ∈ wG ∧ yL_scheme.cls ≠ "java/lang/invoke/MethodHandle" ∧ yL_scheme.cls ≠ "java/lang/invoke/VarHandle" ∧ (parseMethodDescriptor yL_scheme.desc).map (fun d => d.parameters.length) = some 4 := ⟨kw_436, kw_435, kw_0, by decide, by decide, by decide +kernel⟩
set_option maxRecDepth 100000 in
set_option maxHeartbeats 4000000 in
theorem c_L_scheme {l : Launch} {D : va_G} {cy : Nat → ClassId} {A : Nat → Prop} {ad : Nat → Int → Nat} {sg : Nat → Int → Int} {H : Heap} {b0 : Nat} {g0 : Nat → Int64} (hR : RC D cy A ad sg H) (hG : GC sg) (hl0 : l.stackTraces = false) (hA : ∀ q : Nat, H.size ≤ q → A q) (hB : outA D cy b0 H g0) (hb0 : ¬ A b0) (a : Int) (b : Int) (h_a : in32 a) (h_b : in32 b) : Met l yL_scheme (Cond.codeWith yL_scheme cL_scheme 5 (some .int) hh_L_scheme :: wG) (rmF 7 105 1 6) (PcW A D cy H [.ref (ad 4 0), .int (iI a), .int (iI b), .ref b0]) (Qm (some (.int (iI (kWo [2, 3] (schemeE sg a b))))) (WP D cy A ad sg (schemeT sg a b) b0 (schemeE sg a b) (sg 505 0)) (fun q => A q ∨ q = b0)) 1 6 (fun q => A q ∨ q = b0) := by
  refine wmet_of (la := [(0, .ref (ad 4 0)), (1, .int (iI a)), (2, .int (iI b)), (3, .ref b0)]) (by decide) (Nat.le_of_ble_eq_true rfl) rfl ?_
  intro p e R s m args below meth c ls hRm hx hb hml hr hlk hxt hown hts hsH hK hX hN hl
  subst hRm
  have hown : s.vm.findClass "TakinghallLaw" = some m.cls := hown
  have hS : va_S (fun q => A q ∨ q = b0) s.heap H [] := by rw [hsH]; exact va_S.rf
  have hSA : va_S A s.heap H [] := by rw [hsH]; exact va_S.rf
  refine lv_aload_n hx hb dL_scheme_0 rfl (lv_at hl 3 rfl) ?_
  refine lv_iconst (v := iI (0)) hx hb dL_scheme_1 rfl ?_
  refine lv_aload_n hx hb dL_scheme_2 rfl (lv_at hl 0 rfl) ?_
  refine lv_iload_n hx hb dL_scheme_3 rfl (lv_at hl 1 rfl) ?_
  refine lv_iload_n hx hb dL_scheme_4 rfl (lv_at hl 2 rfl) ?_
  refine xk_T (xr_T (As := [.int (iI a), .int (iI b)]) (rest := [.int (iI 0), .ref b0]) hx hb hml hown hts hK hX hSA (c_X4_scheme hR hG hl0 hA a b h_a h_b) ms_X4_scheme kw_437 (wr_recv hK hR (gd_4 hG) rfl rfl) ⟨by decide, by decide⟩ ⟨by decide, by decide⟩ rfl rfl hl.1 rfl (lv_room (Nat.le_of_ble_eq_true rfl)) dL_scheme_5) hS (fun x hx1 => Or.inl hx1) (fun E cE q9 H1 locs1 hth1 hth3 hE hR1 hS1 hz hq hce hcv hcl => ?_) (fun H1 locs1 hT hR1 hS1 hz hq => ?_)
  · have hB1 : outA D cy b0 H1 g0 := (hq b0 (Array.getElem?_eq_some_iff.mp hB).1 hb0).trans hB
    rcases (show schemeE sg a b = 1 ∨ schemeE sg a b = 2 ∨ schemeE sg a b = 3 by omega) with h | h | h
    · skip
      exfalso
      unfold schemeE at h
      (repeat' split at h) <;> omega
    · skip
      rw [h] at hE
      have hE2 : E = "java/lang/IllegalArgumentException" := hE
      subst hE2
      refine vx_catch hown [] ⟨0, 10, 13, 15⟩ [⟨0, 10, 17, 17⟩] hxt (fun z hz => ?_) (by decide) (by decide) (hts _ kw_137) (va_Nw.use rfl (hX.1 _ (by simp [wNG]))) hce hcv hcl ?_
      · exact absurd hz List.not_mem_nil
      · refine lv_astore (i := 4) (lv' := [(4, .ref q9), (0, .ref (ad 4 0)), (1, .int (iI a)), (2, .int (iI b)), (3, .ref b0)]) hx hb dL_scheme_13 hl (by decide) rfl (fun ls hl => ?_)
        refine lv_iconst (v := iI (1)) hx hb dL_scheme_15 rfl ?_
        refine W.widen (k := 1) (n := 6) (by decide) (by decide) ?_
        exact xm_i hx hb hr hlk hS1 dL_scheme_16 (by rw [h]; rfl) ⟨ad, g0, fun _ _ _ => rfl, by rw [h, if_neg (by decide)]; exact hR1, hB1, fun z => absurd (h.symm.trans z) (by decide)⟩
    · skip
      rw [h] at hE
      have hE2 : E = "java/lang/IllegalStateException" := hE
      subst hE2
      refine vx_catch hown [⟨0, 10, 13, 15⟩] ⟨0, 10, 17, 17⟩ [] hxt (fun z hz => ?_) (by decide) (by decide) (hts _ kw_138) (va_Nw.use rfl (hX.1 _ (by simp [wNG]))) hce hcv hcl ?_
      · simp only [List.mem_cons, List.not_mem_nil, or_false] at hz
        subst hz
        exact Or.inr ⟨by decide, _, hts _ kw_137, hN.2.2⟩
      · refine lv_astore (i := 4) (lv' := [(4, .ref q9), (0, .ref (ad 4 0)), (1, .int (iI a)), (2, .int (iI b)), (3, .ref b0)]) hx hb dL_scheme_17 hl (by decide) rfl (fun ls hl => ?_)
        refine lv_iconst (v := iI (2)) hx hb dL_scheme_19 rfl ?_
        refine W.widen (k := 1) (n := 6) (by decide) (by decide) ?_
        exact xm_i hx hb hr hlk hS1 dL_scheme_20 (by rw [h]; rfl) ⟨ad, g0, fun _ _ _ => rfl, by rw [h, if_neg (by decide)]; exact hR1, hB1, fun z => absurd (h.symm.trans z) (by decide)⟩
  · have hB1 : outA D cy b0 H1 g0 := (hq b0 (Array.getElem?_eq_some_iff.mp hB).1 hb0).trans hB
    obtain ⟨ad2, ho, hR1⟩ := hR1
    show W p l e _ s m args below meth c H1 locs1 _ _ _ (F0 m (5 + 3) ls [.int (iI (sg 505 0)), .int (iI 0), .ref b0])
    refine xr_i2l hx hb dL_scheme_8 (by have z0 := gr_505 hG 0; omega) ?_
    refine wr_lastX (A0 := fun q => A q ∨ q = b0) hx hb hK hR1 hB1 hb0 (fun q h => Or.inl h) (Or.inr rfl) hS1 dL_scheme_9 (fun H2 locs2 hR2 hB2 hS2 => ?_)
    refine lv_goto (tgt := 21) hx hb dL_scheme_10 (by decide) ?_
    refine lv_iconst (v := iI (0)) hx hb dL_scheme_21 rfl ?_
    refine W.widen (k := 1) (n := 6) (by decide) (by decide) ?_
    obtain ⟨g2, hB2, hg2⟩ := hB2
    exact xm_i hx hb hr hlk hS2 dL_scheme_22 (by rw [hT]; rfl) ⟨ad2, g2, ho, by rw [if_pos hT]; exact hR2, hB2, fun _ => hg2⟩
def hh_L_draw : List (Nat × Nat × Nat × Nat) := [(0, 12, 15, 13), (0, 12, 19, 15), (0, 12, 23, 17)]
theorem ms_L_draw : Cond.codeWith yL_draw cL_draw 6 (some .int) hh_L_draw ∈ wG ∧ Cond.static yL_draw ∈ wG ∧ Cond.initialized yL_draw.cls ∈ wG ∧ yL_draw.cls ≠ "java/lang/invoke/MethodHandle" ∧ yL_draw.cls ≠ "java/lang/invoke/VarHandle" ∧ (parseMethodDescriptor yL_draw.desc).map (fun d => d.parameters.length) = some 5 := ⟨kw_475, kw_474, kw_0, by decide, by decide, by decide +kernel⟩
set_option maxRecDepth 100000 in
set_option maxHeartbeats 4000000 in
theorem c_L_draw {l : Launch} {D : va_G} {cy : Nat → ClassId} {A : Nat → Prop} {ad : Nat → Int → Nat} {sg : Nat → Int → Int} {H : Heap} {b0 : Nat} {g0 : Nat → Int64} (hR : RC D cy A ad sg H) (hG : GC sg) (hl0 : l.stackTraces = false) (hA : ∀ q : Nat, H.size ≤ q → A q) (hB : outA D cy b0 H g0) (hb0 : ¬ A b0) (w : Int) (x : Int) (a : Int) (h_w : in32 w) (h_x : in32 x) (h_a : in32 a) : Met l yL_draw (Cond.codeWith yL_draw cL_draw 6 (some .int) hh_L_draw :: wG) (rmF 7 107 1 6) (PcW A D cy H [.ref (ad 4 0), .int (iI w), .int (iI x), .int (iI a), .ref b0]) (Qm (some (.int (iI (kWo [1, 2, 3] (drawE sg w x a))))) (WP D cy A ad sg (st (st sg 204 (pAt x) (sAt sg w)) 205 (pAt x) a) b0 (drawE sg w x a) (cntNeed (st (st sg 204 (pAt x) (sAt sg w)) 205 (pAt x) a) (sAt sg w))) (fun q => A q ∨ q = b0)) 1 6 (fun q => A q ∨ q = b0) := by
  refine wmet_of (la := [(0, .ref (ad 4 0)), (1, .int (iI w)), (2, .int (iI x)), (3, .int (iI a)), (4, .ref b0)]) (by decide) (Nat.le_of_ble_eq_true rfl) rfl ?_
  intro p e R s m args below meth c ls hRm hx hb hml hr hlk hxt hown hts hsH hK hX hN hl
  subst hRm
  have hown : s.vm.findClass "TakinghallLaw" = some m.cls := hown
  have hS : va_S (fun q => A q ∨ q = b0) s.heap H [] := by rw [hsH]; exact va_S.rf
  have hSA : va_S A s.heap H [] := by rw [hsH]; exact va_S.rf
  refine lv_aload hx hb dL_draw_0 (lv_at hl 4 rfl) ?_
  refine lv_iconst (v := iI (0)) hx hb dL_draw_2 rfl ?_
  refine lv_aload_n hx hb dL_draw_3 rfl (lv_at hl 0 rfl) ?_
  refine lv_iload_n hx hb dL_draw_4 rfl (lv_at hl 1 rfl) ?_
  refine lv_iload_n hx hb dL_draw_5 rfl (lv_at hl 2 rfl) ?_
  refine lv_iload_n hx hb dL_draw_6 rfl (lv_at hl 3 rfl) ?_
  refine xk_T (xr_T (As := [.int (iI w), .int (iI x), .int (iI a)]) (rest := [.int (iI 0), .ref b0]) hx hb hml hown hts hK hX hSA (c_X4_draw hR hG hl0 hA w x a h_w h_x h_a) ms_X4_draw kw_476 (wr_recv hK hR (gd_4 hG) rfl rfl) ⟨by decide, by decide⟩ ⟨by decide, by decide⟩ rfl rfl hl.1 rfl (lv_room (Nat.le_of_ble_eq_true rfl)) dL_draw_7) hS (fun x hx1 => Or.inl hx1) (fun E cE q9 H1 locs1 hth1 hth3 hE hR1 hS1 hz hq hce hcv hcl => ?_) (fun H1 locs1 hT hR1 hS1 hz hq => ?_)
  · have hB1 : outA D cy b0 H1 g0 := (hq b0 (Array.getElem?_eq_some_iff.mp hB).1 hb0).trans hB
    rcases (show drawE sg w x a = 1 ∨ drawE sg w x a = 2 ∨ drawE sg w x a = 3 by omega) with h | h | h
    · skip
      rw [h] at hE
      have hE2 : E = "java/lang/IndexOutOfBoundsException" := hE
      subst hE2
      refine vx_catch hown [] ⟨0, 12, 15, 13⟩ [⟨0, 12, 19, 15⟩, ⟨0, 12, 23, 17⟩] hxt (fun z hz => ?_) (by decide) (by decide) (hts _ kw_136) (va_Nw.use rfl (hX.1 _ (by simp [wNG]))) hce hcv hcl ?_
      · exact absurd hz List.not_mem_nil
      · refine lv_astore (i := 5) (lv' := [(5, .ref q9), (0, .ref (ad 4 0)), (1, .int (iI w)), (2, .int (iI x)), (3, .int (iI a)), (4, .ref b0)]) hx hb dL_draw_15 hl (by decide) rfl (fun ls hl => ?_)
        refine lv_iconst (v := iI (1)) hx hb dL_draw_17 rfl ?_
        refine W.widen (k := 1) (n := 6) (by decide) (by decide) ?_
        exact xm_i hx hb hr hlk hS1 dL_draw_18 (by rw [h]; rfl) ⟨ad, g0, fun _ _ _ => rfl, by rw [h, if_neg (by decide)]; exact hR1, hB1, fun z => absurd (h.symm.trans z) (by decide)⟩
    · skip
      rw [h] at hE
      have hE2 : E = "java/lang/IllegalArgumentException" := hE
      subst hE2
      refine vx_catch hown [⟨0, 12, 15, 13⟩] ⟨0, 12, 19, 15⟩ [⟨0, 12, 23, 17⟩] hxt (fun z hz => ?_) (by decide) (by decide) (hts _ kw_137) (va_Nw.use rfl (hX.1 _ (by simp [wNG]))) hce hcv hcl ?_
      · simp only [List.mem_cons, List.not_mem_nil, or_false] at hz
        subst hz
        exact Or.inr ⟨by decide, _, hts _ kw_136, hN.1⟩
      · refine lv_astore (i := 5) (lv' := [(5, .ref q9), (0, .ref (ad 4 0)), (1, .int (iI w)), (2, .int (iI x)), (3, .int (iI a)), (4, .ref b0)]) hx hb dL_draw_19 hl (by decide) rfl (fun ls hl => ?_)
        refine lv_iconst (v := iI (2)) hx hb dL_draw_21 rfl ?_
        refine W.widen (k := 1) (n := 6) (by decide) (by decide) ?_
        exact xm_i hx hb hr hlk hS1 dL_draw_22 (by rw [h]; rfl) ⟨ad, g0, fun _ _ _ => rfl, by rw [h, if_neg (by decide)]; exact hR1, hB1, fun z => absurd (h.symm.trans z) (by decide)⟩
    · skip
      rw [h] at hE
      have hE2 : E = "java/lang/IllegalStateException" := hE
      subst hE2
      refine vx_catch hown [⟨0, 12, 15, 13⟩, ⟨0, 12, 19, 15⟩] ⟨0, 12, 23, 17⟩ [] hxt (fun z hz => ?_) (by decide) (by decide) (hts _ kw_138) (va_Nw.use rfl (hX.1 _ (by simp [wNG]))) hce hcv hcl ?_
      · simp only [List.mem_cons, List.not_mem_nil, or_false] at hz
        rcases hz with hz | hz
        · subst hz; exact Or.inr ⟨by decide, _, hts _ kw_136, hN.2.1⟩
        · subst hz; exact Or.inr ⟨by decide, _, hts _ kw_137, hN.2.2⟩
      · refine lv_astore (i := 5) (lv' := [(5, .ref q9), (0, .ref (ad 4 0)), (1, .int (iI w)), (2, .int (iI x)), (3, .int (iI a)), (4, .ref b0)]) hx hb dL_draw_23 hl (by decide) rfl (fun ls hl => ?_)
        refine lv_iconst (v := iI (3)) hx hb dL_draw_25 rfl ?_
        refine W.widen (k := 1) (n := 6) (by decide) (by decide) ?_
        exact xm_i hx hb hr hlk hS1 dL_draw_26 (by rw [h]; rfl) ⟨ad, g0, fun _ _ _ => rfl, by rw [h, if_neg (by decide)]; exact hR1, hB1, fun z => absurd (h.symm.trans z) (by decide)⟩
  · have hB1 : outA D cy b0 H1 g0 := (hq b0 (Array.getElem?_eq_some_iff.mp hB).1 hb0).trans hB
    show W p l e _ s m args below meth c H1 locs1 _ _ _ (F0 m (7 + 3) ls [.int (iI (cntNeed (st (st sg 204 (pAt x) (sAt sg w)) 205 (pAt x) a) (sAt sg w))), .int (iI 0), .ref b0])
    refine xr_i2l hx hb dL_draw_10 (by have z0 := cntNeed_rng (st (st sg 204 (pAt x) (sAt sg w)) 205 (pAt x) a) (sAt sg w); omega) ?_
    refine wr_lastX (A0 := fun q => A q ∨ q = b0) hx hb hK hR1 hB1 hb0 (fun q h => Or.inl h) (Or.inr rfl) hS1 dL_draw_11 (fun H2 locs2 hR2 hB2 hS2 => ?_)
    refine lv_goto (tgt := 27) hx hb dL_draw_12 (by decide) ?_
    refine lv_iconst (v := iI (0)) hx hb dL_draw_27 rfl ?_
    refine W.widen (k := 1) (n := 6) (by decide) (by decide) ?_
    obtain ⟨g2, hB2, hg2⟩ := hB2
    exact xm_i hx hb hr hlk hS2 dL_draw_28 (by rw [hT]; rfl) ⟨ad, g2, fun _ _ _ => rfl, by rw [if_pos hT]; exact hR2, hB2, fun _ => hg2⟩
def hh_L_notice : List (Nat × Nat × Nat × Nat) := [(0, 9, 12, 13), (0, 9, 15, 17)]
theorem ms_L_notice : Cond.codeWith yL_notice cL_notice 4 (some .int) hh_L_notice ∈ wG ∧ Cond.static yL_notice ∈ wG ∧ Cond.initialized yL_notice.cls ∈ wG ∧ yL_notice.cls ≠ "java/lang/invoke/MethodHandle" ∧ yL_notice.cls ≠ "java/lang/invoke/VarHandle" ∧ (parseMethodDescriptor yL_notice.desc).map (fun d => d.parameters.length) = some 3 := ⟨kw_496, kw_495, kw_0, by decide, by decide, by decide +kernel⟩
set_option maxRecDepth 100000 in
set_option maxHeartbeats 4000000 in
theorem c_L_notice {l : Launch} {D : va_G} {cy : Nat → ClassId} {A : Nat → Prop} {ad : Nat → Int → Nat} {sg : Nat → Int → Int} {H : Heap} {b0 : Nat} {g0 : Nat → Int64} (hR : RC D cy A ad sg H) (hG : GC sg) (hl0 : l.stackTraces = false) (hA : ∀ q : Nat, H.size ≤ q → A q) (hB : outA D cy b0 H g0) (hb0 : ¬ A b0) (x : Int) (h_x : in32 x) : Met l yL_notice (Cond.codeWith yL_notice cL_notice 4 (some .int) hh_L_notice :: wG) (rmF 7 107 1 6) (PcW A D cy H [.ref (ad 4 0), .int (iI x), .ref b0]) (Qm (some (.int (iI (kWo [1, 3] (noticeE sg x))))) (WP D cy A ad sg (st sg 107 (iAt sg x) (sg 506 0)) b0 (noticeE sg x) (draftO sg (sg 102 (iAt sg x)))) (fun q => A q ∨ q = b0)) 1 6 (fun q => A q ∨ q = b0) := by
  refine wmet_of (la := [(0, .ref (ad 4 0)), (1, .int (iI x)), (2, .ref b0)]) (by decide) (Nat.le_of_ble_eq_true rfl) rfl ?_
  intro p e R s m args below meth c ls hRm hx hb hml hr hlk hxt hown hts hsH hK hX hN hl
  subst hRm
  have hown : s.vm.findClass "TakinghallLaw" = some m.cls := hown
  have hS : va_S (fun q => A q ∨ q = b0) s.heap H [] := by rw [hsH]; exact va_S.rf
  have hSA : va_S A s.heap H [] := by rw [hsH]; exact va_S.rf
  refine lv_aload_n hx hb dL_notice_0 rfl (lv_at hl 2 rfl) ?_
  refine lv_iconst (v := iI (0)) hx hb dL_notice_1 rfl ?_
  refine lv_aload_n hx hb dL_notice_2 rfl (lv_at hl 0 rfl) ?_
  refine lv_iload_n hx hb dL_notice_3 rfl (lv_at hl 1 rfl) ?_
  refine xk_T (xr_T (As := [.int (iI x)]) (rest := [.int (iI 0), .ref b0]) hx hb hml hown hts hK hX hSA (c_X4_notice hR hG hl0 hA x h_x) ms_X4_notice kw_497 (wr_recv hK hR (gd_4 hG) rfl rfl) ⟨by decide, by decide⟩ ⟨by decide, by decide⟩ rfl rfl hl.1 rfl (lv_room (Nat.le_of_ble_eq_true rfl)) dL_notice_4) hS (fun x hx1 => Or.inl hx1) (fun E cE q9 H1 locs1 hth1 hth3 hE hR1 hS1 hz hq hce hcv hcl => ?_) (fun H1 locs1 hT hR1 hS1 hz hq => ?_)
  · have hB1 : outA D cy b0 H1 g0 := (hq b0 (Array.getElem?_eq_some_iff.mp hB).1 hb0).trans hB
    rcases (show noticeE sg x = 1 ∨ noticeE sg x = 2 ∨ noticeE sg x = 3 by omega) with h | h | h
    · skip
      rw [h] at hE
      have hE2 : E = "java/lang/IndexOutOfBoundsException" := hE
      subst hE2
      refine vx_catch hown [] ⟨0, 9, 12, 13⟩ [⟨0, 9, 15, 17⟩] hxt (fun z hz => ?_) (by decide) (by decide) (hts _ kw_136) (va_Nw.use rfl (hX.1 _ (by simp [wNG]))) hce hcv hcl ?_
      · exact absurd hz List.not_mem_nil
      · refine lv_astore_n (i := 3) (lv' := [(3, .ref q9), (0, .ref (ad 4 0)), (1, .int (iI x)), (2, .ref b0)]) hx hb dL_notice_12 rfl hl (by decide) rfl (fun ls hl => ?_)
        refine lv_iconst (v := iI (1)) hx hb dL_notice_13 rfl ?_
        refine W.widen (k := 1) (n := 6) (by decide) (by decide) ?_
        exact xm_i hx hb hr hlk hS1 dL_notice_14 (by rw [h]; rfl) ⟨ad, g0, fun _ _ _ => rfl, by rw [h, if_neg (by decide)]; exact hR1, hB1, fun z => absurd (h.symm.trans z) (by decide)⟩
    · skip
      exfalso
      unfold noticeE at h
      (repeat' split at h) <;> omega
    · skip
      rw [h] at hE
      have hE2 : E = "java/lang/IllegalStateException" := hE
      subst hE2
      refine vx_catch hown [⟨0, 9, 12, 13⟩] ⟨0, 9, 15, 17⟩ [] hxt (fun z hz => ?_) (by decide) (by decide) (hts _ kw_138) (va_Nw.use rfl (hX.1 _ (by simp [wNG]))) hce hcv hcl ?_
      · simp only [List.mem_cons, List.not_mem_nil, or_false] at hz
        subst hz
        exact Or.inr ⟨by decide, _, hts _ kw_136, hN.2.1⟩
      · refine lv_astore_n (i := 3) (lv' := [(3, .ref q9), (0, .ref (ad 4 0)), (1, .int (iI x)), (2, .ref b0)]) hx hb dL_notice_15 rfl hl (by decide) rfl (fun ls hl => ?_)
        refine lv_iconst (v := iI (2)) hx hb dL_notice_16 rfl ?_
        refine W.widen (k := 1) (n := 6) (by decide) (by decide) ?_
        exact xm_i hx hb hr hlk hS1 dL_notice_17 (by rw [h]; rfl) ⟨ad, g0, fun _ _ _ => rfl, by rw [h, if_neg (by decide)]; exact hR1, hB1, fun z => absurd (h.symm.trans z) (by decide)⟩
  · have hB1 : outA D cy b0 H1 g0 := (hq b0 (Array.getElem?_eq_some_iff.mp hB).1 hb0).trans hB
    show W p l e _ s m args below meth c H1 locs1 _ _ _ (F0 m (4 + 3) ls [.int (iI (draftO sg (sg 102 (iAt sg x)))), .int (iI 0), .ref b0])
    refine xr_i2l hx hb dL_notice_7 (by have z0 := draftO_rng hG (sg 102 (iAt sg x)); omega) ?_
    refine wr_lastX (A0 := fun q => A q ∨ q = b0) hx hb hK hR1 hB1 hb0 (fun q h => Or.inl h) (Or.inr rfl) hS1 dL_notice_8 (fun H2 locs2 hR2 hB2 hS2 => ?_)
    refine lv_goto (tgt := 18) hx hb dL_notice_9 (by decide) ?_
    refine lv_iconst (v := iI (0)) hx hb dL_notice_18 rfl ?_
    refine W.widen (k := 1) (n := 6) (by decide) (by decide) ?_
    obtain ⟨g2, hB2, hg2⟩ := hB2
    exact xm_i hx hb hr hlk hS2 dL_notice_19 (by rw [hT]; rfl) ⟨ad, g2, fun _ _ _ => rfl, by rw [if_pos hT]; exact hR2, hB2, fun _ => hg2⟩
def hh_L_object : List (Nat × Nat × Nat × Nat) := [(0, 9, 12, 13), (0, 9, 15, 17)]
theorem ms_L_object : Cond.codeWith yL_object cL_object 4 (some .int) hh_L_object ∈ wG ∧ Cond.static yL_object ∈ wG ∧ Cond.initialized yL_object.cls ∈ wG ∧ yL_object.cls ≠ "java/lang/invoke/MethodHandle" ∧ yL_object.cls ≠ "java/lang/invoke/VarHandle" ∧ (parseMethodDescriptor yL_object.desc).map (fun d => d.parameters.length) = some 3 := ⟨kw_510, kw_509, kw_0, by decide, by decide, by decide +kernel⟩
set_option maxRecDepth 100000 in
set_option maxHeartbeats 4000000 in
theorem c_L_object {l : Launch} {D : va_G} {cy : Nat → ClassId} {A : Nat → Prop} {ad : Nat → Int → Nat} {sg : Nat → Int → Int} {H : Heap} {b0 : Nat} {g0 : Nat → Int64} (hR : RC D cy A ad sg H) (hG : GC sg) (hl0 : l.stackTraces = false) (hA : ∀ q : Nat, H.size ≤ q → A q) (hB : outA D cy b0 H g0) (hb0 : ¬ A b0) (x : Int) (h_x : in32 x) : Met l yL_object (Cond.codeWith yL_object cL_object 4 (some .int) hh_L_object :: wG) (rmF 7 112 1 6) (PcW A D cy H [.ref (ad 4 0), .int (iI x), .ref b0]) (Qm (some (.int (iI (kWo [1, 3] (objectE sg x))))) (WP D cy A ad sg (st (st sg 108 (iAt sg x) 1) 109 (iAt sg x) 1) b0 (objectE sg x) (cntOpen (st (st sg 108 (iAt sg x) 1) 109 (iAt sg x) 1) (draftO sg (sg 102 (iAt sg x))))) (fun q => A q ∨ q = b0)) 1 6 (fun q => A q ∨ q = b0) := by
  refine wmet_of (la := [(0, .ref (ad 4 0)), (1, .int (iI x)), (2, .ref b0)]) (by decide) (Nat.le_of_ble_eq_true rfl) rfl ?_
  intro p e R s m args below meth c ls hRm hx hb hml hr hlk hxt hown hts hsH hK hX hN hl
  subst hRm
  have hown : s.vm.findClass "TakinghallLaw" = some m.cls := hown
  have hS : va_S (fun q => A q ∨ q = b0) s.heap H [] := by rw [hsH]; exact va_S.rf
  have hSA : va_S A s.heap H [] := by rw [hsH]; exact va_S.rf
  refine lv_aload_n hx hb dL_object_0 rfl (lv_at hl 2 rfl) ?_
  refine lv_iconst (v := iI (0)) hx hb dL_object_1 rfl ?_
  refine lv_aload_n hx hb dL_object_2 rfl (lv_at hl 0 rfl) ?_
  refine lv_iload_n hx hb dL_object_3 rfl (lv_at hl 1 rfl) ?_
  refine xk_T (xr_T (As := [.int (iI x)]) (rest := [.int (iI 0), .ref b0]) hx hb hml hown hts hK hX hSA (c_X4_object hR hG hl0 hA x h_x) ms_X4_object kw_511 (wr_recv hK hR (gd_4 hG) rfl rfl) ⟨by decide, by decide⟩ ⟨by decide, by decide⟩ rfl rfl hl.1 rfl (lv_room (Nat.le_of_ble_eq_true rfl)) dL_object_4) hS (fun x hx1 => Or.inl hx1) (fun E cE q9 H1 locs1 hth1 hth3 hE hR1 hS1 hz hq hce hcv hcl => ?_) (fun H1 locs1 hT hR1 hS1 hz hq => ?_)
  · have hB1 : outA D cy b0 H1 g0 := (hq b0 (Array.getElem?_eq_some_iff.mp hB).1 hb0).trans hB
    rcases (show objectE sg x = 1 ∨ objectE sg x = 2 ∨ objectE sg x = 3 by omega) with h | h | h
    · skip
      rw [h] at hE
      have hE2 : E = "java/lang/IndexOutOfBoundsException" := hE
      subst hE2
      refine vx_catch hown [] ⟨0, 9, 12, 13⟩ [⟨0, 9, 15, 17⟩] hxt (fun z hz => ?_) (by decide) (by decide) (hts _ kw_136) (va_Nw.use rfl (hX.1 _ (by simp [wNG]))) hce hcv hcl ?_
      · exact absurd hz List.not_mem_nil
      · refine lv_astore_n (i := 3) (lv' := [(3, .ref q9), (0, .ref (ad 4 0)), (1, .int (iI x)), (2, .ref b0)]) hx hb dL_object_12 rfl hl (by decide) rfl (fun ls hl => ?_)
        refine lv_iconst (v := iI (1)) hx hb dL_object_13 rfl ?_
        refine W.widen (k := 1) (n := 6) (by decide) (by decide) ?_
        exact xm_i hx hb hr hlk hS1 dL_object_14 (by rw [h]; rfl) ⟨ad, g0, fun _ _ _ => rfl, by rw [h, if_neg (by decide)]; exact hR1, hB1, fun z => absurd (h.symm.trans z) (by decide)⟩
    · skip
      exfalso
      unfold objectE at h
      (repeat' split at h) <;> omega
    · skip
      rw [h] at hE
      have hE2 : E = "java/lang/IllegalStateException" := hE
      subst hE2
      refine vx_catch hown [⟨0, 9, 12, 13⟩] ⟨0, 9, 15, 17⟩ [] hxt (fun z hz => ?_) (by decide) (by decide) (hts _ kw_138) (va_Nw.use rfl (hX.1 _ (by simp [wNG]))) hce hcv hcl ?_
      · simp only [List.mem_cons, List.not_mem_nil, or_false] at hz
        subst hz
        exact Or.inr ⟨by decide, _, hts _ kw_136, hN.2.1⟩
      · refine lv_astore_n (i := 3) (lv' := [(3, .ref q9), (0, .ref (ad 4 0)), (1, .int (iI x)), (2, .ref b0)]) hx hb dL_object_15 rfl hl (by decide) rfl (fun ls hl => ?_)
        refine lv_iconst (v := iI (2)) hx hb dL_object_16 rfl ?_
        refine W.widen (k := 1) (n := 6) (by decide) (by decide) ?_
        exact xm_i hx hb hr hlk hS1 dL_object_17 (by rw [h]; rfl) ⟨ad, g0, fun _ _ _ => rfl, by rw [h, if_neg (by decide)]; exact hR1, hB1, fun z => absurd (h.symm.trans z) (by decide)⟩
  · have hB1 : outA D cy b0 H1 g0 := (hq b0 (Array.getElem?_eq_some_iff.mp hB).1 hb0).trans hB
    show W p l e _ s m args below meth c H1 locs1 _ _ _ (F0 m (4 + 3) ls [.int (iI (cntOpen (st (st sg 108 (iAt sg x) 1) 109 (iAt sg x) 1) (draftO sg (sg 102 (iAt sg x))))), .int (iI 0), .ref b0])
    refine xr_i2l hx hb dL_object_7 (by have z0 := cntOpen_rng (st (st sg 108 (iAt sg x) 1) 109 (iAt sg x) 1) (draftO sg (sg 102 (iAt sg x))); omega) ?_
    refine wr_lastX (A0 := fun q => A q ∨ q = b0) hx hb hK hR1 hB1 hb0 (fun q h => Or.inl h) (Or.inr rfl) hS1 dL_object_8 (fun H2 locs2 hR2 hB2 hS2 => ?_)
    refine lv_goto (tgt := 18) hx hb dL_object_9 (by decide) ?_
    refine lv_iconst (v := iI (0)) hx hb dL_object_18 rfl ?_
    refine W.widen (k := 1) (n := 6) (by decide) (by decide) ?_
    obtain ⟨g2, hB2, hg2⟩ := hB2
    exact xm_i hx hb hr hlk hS2 dL_object_19 (by rw [hT]; rfl) ⟨ad, g2, fun _ _ _ => rfl, by rw [if_pos hT]; exact hR2, hB2, fun _ => hg2⟩
def hh_L_hear : List (Nat × Nat × Nat × Nat) := [(0, 10, 13, 13), (0, 10, 17, 17)]
theorem ms_L_hear : Cond.codeWith yL_hear cL_hear 5 (some .int) hh_L_hear ∈ wG ∧ Cond.static yL_hear ∈ wG ∧ Cond.initialized yL_hear.cls ∈ wG ∧ yL_hear.cls ≠ "java/lang/invoke/MethodHandle" ∧ yL_hear.cls ≠ "java/lang/invoke/VarHandle" ∧ (parseMethodDescriptor yL_hear.desc).map (fun d => d.parameters.length) = some 4 := ⟨kw_522, kw_521, kw_0, by decide, by decide, by decide +kernel⟩
set_option maxRecDepth 100000 in
set_option maxHeartbeats 4000000 in
theorem c_L_hear {l : Launch} {D : va_G} {cy : Nat → ClassId} {A : Nat → Prop} {ad : Nat → Int → Nat} {sg : Nat → Int → Int} {H : Heap} {b0 : Nat} {g0 : Nat → Int64} (hR : RC D cy A ad sg H) (hG : GC sg) (hl0 : l.stackTraces = false) (hA : ∀ q : Nat, H.size ≤ q → A q) (hB : outA D cy b0 H g0) (hb0 : ¬ A b0) (x : Int) (b : Int) (h_x : in32 x) (hb01 : 0 ≤ b ∧ b ≤ 1) : Met l yL_hear (Cond.codeWith yL_hear cL_hear 5 (some .int) hh_L_hear :: wG) (rmF 7 113 1 6) (PcW A D cy H [.ref (ad 4 0), .int (iI x), .int (iI b), .ref b0]) (Qm (some (.int (iI (kWo [1, 3] (hearE sg x))))) (WP D cy A ad sg (hearT sg x b) b0 (hearE sg x) (cntOpen (hearT sg x b) (draftO sg (sg 102 (iAt sg x))))) (fun q => A q ∨ q = b0)) 1 6 (fun q => A q ∨ q = b0) := by
  refine wmet_of (la := [(0, .ref (ad 4 0)), (1, .int (iI x)), (2, .int (iI b)), (3, .ref b0)]) (by decide) (Nat.le_of_ble_eq_true rfl) rfl ?_
  intro p e R s m args below meth c ls hRm hx hb hml hr hlk hxt hown hts hsH hK hX hN hl
  subst hRm
  have hown : s.vm.findClass "TakinghallLaw" = some m.cls := hown
  have hS : va_S (fun q => A q ∨ q = b0) s.heap H [] := by rw [hsH]; exact va_S.rf
  have hSA : va_S A s.heap H [] := by rw [hsH]; exact va_S.rf
  refine lv_aload_n hx hb dL_hear_0 rfl (lv_at hl 3 rfl) ?_
  refine lv_iconst (v := iI (0)) hx hb dL_hear_1 rfl ?_
  refine lv_aload_n hx hb dL_hear_2 rfl (lv_at hl 0 rfl) ?_
  refine lv_iload_n hx hb dL_hear_3 rfl (lv_at hl 1 rfl) ?_
  refine lv_iload_n hx hb dL_hear_4 rfl (lv_at hl 2 rfl) ?_
  refine xk_T (xr_T (As := [.int (iI x), .int (iI b)]) (rest := [.int (iI 0), .ref b0]) hx hb hml hown hts hK hX hSA (c_X4_hear hR hG hl0 hA x b h_x hb01) ms_X4_hear kw_523 (wr_recv hK hR (gd_4 hG) rfl rfl) ⟨by decide, by decide⟩ ⟨by decide, by decide⟩ rfl rfl hl.1 rfl (lv_room (Nat.le_of_ble_eq_true rfl)) dL_hear_5) hS (fun x hx1 => Or.inl hx1) (fun E cE q9 H1 locs1 hth1 hth3 hE hR1 hS1 hz hq hce hcv hcl => ?_) (fun H1 locs1 hT hR1 hS1 hz hq => ?_)
  · have hB1 : outA D cy b0 H1 g0 := (hq b0 (Array.getElem?_eq_some_iff.mp hB).1 hb0).trans hB
    rcases (show hearE sg x = 1 ∨ hearE sg x = 2 ∨ hearE sg x = 3 by omega) with h | h | h
    · skip
      rw [h] at hE
      have hE2 : E = "java/lang/IndexOutOfBoundsException" := hE
      subst hE2
      refine vx_catch hown [] ⟨0, 10, 13, 13⟩ [⟨0, 10, 17, 17⟩] hxt (fun z hz => ?_) (by decide) (by decide) (hts _ kw_136) (va_Nw.use rfl (hX.1 _ (by simp [wNG]))) hce hcv hcl ?_
      · exact absurd hz List.not_mem_nil
      · refine lv_astore (i := 4) (lv' := [(4, .ref q9), (0, .ref (ad 4 0)), (1, .int (iI x)), (2, .int (iI b)), (3, .ref b0)]) hx hb dL_hear_13 hl (by decide) rfl (fun ls hl => ?_)
        refine lv_iconst (v := iI (1)) hx hb dL_hear_15 rfl ?_
        refine W.widen (k := 1) (n := 6) (by decide) (by decide) ?_
        exact xm_i hx hb hr hlk hS1 dL_hear_16 (by rw [h]; rfl) ⟨ad, g0, fun _ _ _ => rfl, by rw [h, if_neg (by decide)]; exact hR1, hB1, fun z => absurd (h.symm.trans z) (by decide)⟩
    · skip
      exfalso
      unfold hearE at h
      (repeat' split at h) <;> omega
    · skip
      rw [h] at hE
      have hE2 : E = "java/lang/IllegalStateException" := hE
      subst hE2
      refine vx_catch hown [⟨0, 10, 13, 13⟩] ⟨0, 10, 17, 17⟩ [] hxt (fun z hz => ?_) (by decide) (by decide) (hts _ kw_138) (va_Nw.use rfl (hX.1 _ (by simp [wNG]))) hce hcv hcl ?_
      · simp only [List.mem_cons, List.not_mem_nil, or_false] at hz
        subst hz
        exact Or.inr ⟨by decide, _, hts _ kw_136, hN.2.1⟩
      · refine lv_astore (i := 4) (lv' := [(4, .ref q9), (0, .ref (ad 4 0)), (1, .int (iI x)), (2, .int (iI b)), (3, .ref b0)]) hx hb dL_hear_17 hl (by decide) rfl (fun ls hl => ?_)
        refine lv_iconst (v := iI (2)) hx hb dL_hear_19 rfl ?_
        refine W.widen (k := 1) (n := 6) (by decide) (by decide) ?_
        exact xm_i hx hb hr hlk hS1 dL_hear_20 (by rw [h]; rfl) ⟨ad, g0, fun _ _ _ => rfl, by rw [h, if_neg (by decide)]; exact hR1, hB1, fun z => absurd (h.symm.trans z) (by decide)⟩
  · have hB1 : outA D cy b0 H1 g0 := (hq b0 (Array.getElem?_eq_some_iff.mp hB).1 hb0).trans hB
    show W p l e _ s m args below meth c H1 locs1 _ _ _ (F0 m (5 + 3) ls [.int (iI (cntOpen (hearT sg x b) (draftO sg (sg 102 (iAt sg x))))), .int (iI 0), .ref b0])
    refine xr_i2l hx hb dL_hear_8 (by have z0 := cntOpen_rng (hearT sg x b) (draftO sg (sg 102 (iAt sg x))); omega) ?_
    refine wr_lastX (A0 := fun q => A q ∨ q = b0) hx hb hK hR1 hB1 hb0 (fun q h => Or.inl h) (Or.inr rfl) hS1 dL_hear_9 (fun H2 locs2 hR2 hB2 hS2 => ?_)
    refine lv_goto (tgt := 21) hx hb dL_hear_10 (by decide) ?_
    refine lv_iconst (v := iI (0)) hx hb dL_hear_21 rfl ?_
    refine W.widen (k := 1) (n := 6) (by decide) (by decide) ?_
    obtain ⟨g2, hB2, hg2⟩ := hB2
    exact xm_i hx hb hr hlk hS2 dL_hear_22 (by rw [hT]; rfl) ⟨ad, g2, fun _ _ _ => rfl, by rw [if_pos hT]; exact hR2, hB2, fun _ => hg2⟩
def hh_L_confirm : List (Nat × Nat × Nat × Nat) := [(0, 9, 12, 13), (0, 9, 15, 17)]
theorem ms_L_confirm : Cond.codeWith yL_confirm cL_confirm 4 (some .int) hh_L_confirm ∈ wG ∧ Cond.static yL_confirm ∈ wG ∧ Cond.initialized yL_confirm.cls ∈ wG ∧ yL_confirm.cls ≠ "java/lang/invoke/MethodHandle" ∧ yL_confirm.cls ≠ "java/lang/invoke/VarHandle" ∧ (parseMethodDescriptor yL_confirm.desc).map (fun d => d.parameters.length) = some 3 := ⟨kw_534, kw_533, kw_0, by decide, by decide, by decide +kernel⟩
set_option maxRecDepth 100000 in
set_option maxHeartbeats 4000000 in
theorem c_L_confirm {l : Launch} {D : va_G} {cy : Nat → ClassId} {A : Nat → Prop} {ad : Nat → Int → Nat} {sg : Nat → Int → Int} {H : Heap} {b0 : Nat} {g0 : Nat → Int64} (hR : RC D cy A ad sg H) (hG : GC sg) (hl0 : l.stackTraces = false) (hA : ∀ q : Nat, H.size ≤ q → A q) (hB : outA D cy b0 H g0) (hb0 : ¬ A b0) (w : Int) (h_w : in32 w) : Met l yL_confirm (Cond.codeWith yL_confirm cL_confirm 4 (some .int) hh_L_confirm :: wG) (rmF 7 112 1 6) (PcW A D cy H [.ref (ad 4 0), .int (iI w), .ref b0]) (Qm (some (.int (iI (kWo [1, 3] (confirmE sg w))))) (WP D cy A ad sg (st (st sg 403 (sAt sg w) 1) 404 (sAt sg w) (sg 506 0)) b0 (confirmE sg w) (cntFree sg (sAt sg w))) (fun q => A q ∨ q = b0)) 1 6 (fun q => A q ∨ q = b0) := by
  refine wmet_of (la := [(0, .ref (ad 4 0)), (1, .int (iI w)), (2, .ref b0)]) (by decide) (Nat.le_of_ble_eq_true rfl) rfl ?_
  intro p e R s m args below meth c ls hRm hx hb hml hr hlk hxt hown hts hsH hK hX hN hl
  subst hRm
  have hown : s.vm.findClass "TakinghallLaw" = some m.cls := hown
  have hS : va_S (fun q => A q ∨ q = b0) s.heap H [] := by rw [hsH]; exact va_S.rf
  have hSA : va_S A s.heap H [] := by rw [hsH]; exact va_S.rf
  refine lv_aload_n hx hb dL_confirm_0 rfl (lv_at hl 2 rfl) ?_
  refine lv_iconst (v := iI (0)) hx hb dL_confirm_1 rfl ?_
  refine lv_aload_n hx hb dL_confirm_2 rfl (lv_at hl 0 rfl) ?_
  refine lv_iload_n hx hb dL_confirm_3 rfl (lv_at hl 1 rfl) ?_
  refine xk_T (xr_T (As := [.int (iI w)]) (rest := [.int (iI 0), .ref b0]) hx hb hml hown hts hK hX hSA (c_X4_confirm hR hG hl0 hA w h_w) ms_X4_confirm kw_535 (wr_recv hK hR (gd_4 hG) rfl rfl) ⟨by decide, by decide⟩ ⟨by decide, by decide⟩ rfl rfl hl.1 rfl (lv_room (Nat.le_of_ble_eq_true rfl)) dL_confirm_4) hS (fun x hx1 => Or.inl hx1) (fun E cE q9 H1 locs1 hth1 hth3 hE hR1 hS1 hz hq hce hcv hcl => ?_) (fun H1 locs1 hT hR1 hS1 hz hq => ?_)
  · have hB1 : outA D cy b0 H1 g0 := (hq b0 (Array.getElem?_eq_some_iff.mp hB).1 hb0).trans hB
    rcases (show confirmE sg w = 1 ∨ confirmE sg w = 2 ∨ confirmE sg w = 3 by omega) with h | h | h
    · skip
      rw [h] at hE
      have hE2 : E = "java/lang/IndexOutOfBoundsException" := hE
      subst hE2
      refine vx_catch hown [] ⟨0, 9, 12, 13⟩ [⟨0, 9, 15, 17⟩] hxt (fun z hz => ?_) (by decide) (by decide) (hts _ kw_136) (va_Nw.use rfl (hX.1 _ (by simp [wNG]))) hce hcv hcl ?_
      · exact absurd hz List.not_mem_nil
      · refine lv_astore_n (i := 3) (lv' := [(3, .ref q9), (0, .ref (ad 4 0)), (1, .int (iI w)), (2, .ref b0)]) hx hb dL_confirm_12 rfl hl (by decide) rfl (fun ls hl => ?_)
        refine lv_iconst (v := iI (1)) hx hb dL_confirm_13 rfl ?_
        refine W.widen (k := 1) (n := 6) (by decide) (by decide) ?_
        exact xm_i hx hb hr hlk hS1 dL_confirm_14 (by rw [h]; rfl) ⟨ad, g0, fun _ _ _ => rfl, by rw [h, if_neg (by decide)]; exact hR1, hB1, fun z => absurd (h.symm.trans z) (by decide)⟩
    · skip
      exfalso
      unfold confirmE at h
      (repeat' split at h) <;> omega
    · skip
      rw [h] at hE
      have hE2 : E = "java/lang/IllegalStateException" := hE
      subst hE2
      refine vx_catch hown [⟨0, 9, 12, 13⟩] ⟨0, 9, 15, 17⟩ [] hxt (fun z hz => ?_) (by decide) (by decide) (hts _ kw_138) (va_Nw.use rfl (hX.1 _ (by simp [wNG]))) hce hcv hcl ?_
      · simp only [List.mem_cons, List.not_mem_nil, or_false] at hz
        subst hz
        exact Or.inr ⟨by decide, _, hts _ kw_136, hN.2.1⟩
      · refine lv_astore_n (i := 3) (lv' := [(3, .ref q9), (0, .ref (ad 4 0)), (1, .int (iI w)), (2, .ref b0)]) hx hb dL_confirm_15 rfl hl (by decide) rfl (fun ls hl => ?_)
        refine lv_iconst (v := iI (2)) hx hb dL_confirm_16 rfl ?_
        refine W.widen (k := 1) (n := 6) (by decide) (by decide) ?_
        exact xm_i hx hb hr hlk hS1 dL_confirm_17 (by rw [h]; rfl) ⟨ad, g0, fun _ _ _ => rfl, by rw [h, if_neg (by decide)]; exact hR1, hB1, fun z => absurd (h.symm.trans z) (by decide)⟩
  · have hB1 : outA D cy b0 H1 g0 := (hq b0 (Array.getElem?_eq_some_iff.mp hB).1 hb0).trans hB
    show W p l e _ s m args below meth c H1 locs1 _ _ _ (F0 m (4 + 3) ls [.int (iI (cntFree sg (sAt sg w))), .int (iI 0), .ref b0])
    refine xr_i2l hx hb dL_confirm_7 (by have z0 := cntFree_rng sg (sAt sg w); omega) ?_
    refine wr_lastX (A0 := fun q => A q ∨ q = b0) hx hb hK hR1 hB1 hb0 (fun q h => Or.inl h) (Or.inr rfl) hS1 dL_confirm_8 (fun H2 locs2 hR2 hB2 hS2 => ?_)
    refine lv_goto (tgt := 18) hx hb dL_confirm_9 (by decide) ?_
    refine lv_iconst (v := iI (0)) hx hb dL_confirm_18 rfl ?_
    refine W.widen (k := 1) (n := 6) (by decide) (by decide) ?_
    obtain ⟨g2, hB2, hg2⟩ := hB2
    exact xm_i hx hb hr hlk hS2 dL_confirm_19 (by rw [hT]; rfl) ⟨ad, g2, fun _ _ _ => rfl, by rw [if_pos hT]; exact hR2, hB2, fun _ => hg2⟩
def hh_L_whoStops : List (Nat × Nat × Nat × Nat) := [(0, 9, 12, 13)]
theorem ms_L_whoStops : Cond.codeWith yL_whoStops cL_whoStops 4 (some .int) hh_L_whoStops ∈ wG ∧ Cond.static yL_whoStops ∈ wG ∧ Cond.initialized yL_whoStops.cls ∈ wG ∧ yL_whoStops.cls ≠ "java/lang/invoke/MethodHandle" ∧ yL_whoStops.cls ≠ "java/lang/invoke/VarHandle" ∧ (parseMethodDescriptor yL_whoStops.desc).map (fun d => d.parameters.length) = some 3 := ⟨kw_559, kw_558, kw_0, by decide, by decide, by decide +kernel⟩
set_option maxRecDepth 100000 in
set_option maxHeartbeats 4000000 in
theorem c_L_whoStops {l : Launch} {D : va_G} {cy : Nat → ClassId} {A : Nat → Prop} {ad : Nat → Int → Nat} {sg : Nat → Int → Int} {H : Heap} {b0 : Nat} {g0 : Nat → Int64} (hR : RC D cy A ad sg H) (hG : GC sg) (hl0 : l.stackTraces = false) (hA : ∀ q : Nat, H.size ≤ q → A q) (hB : outA D cy b0 H g0) (hb0 : ¬ A b0) (w : Int) (h_w : in32 w) : Met l yL_whoStops (Cond.codeWith yL_whoStops cL_whoStops 4 (some .int) hh_L_whoStops :: wG) (rmF 7 110 1 6) (PcW A D cy H [.ref (ad 4 0), .int (iI w), .ref b0]) (Qm (some (.int (iI (kWo [1] (sE sg w))))) (WP D cy A ad sg (sg) b0 (sE sg w) (whoR sg (sAt sg w))) (fun q => A q ∨ q = b0)) 1 6 (fun q => A q ∨ q = b0) := by
  refine wmet_of (la := [(0, .ref (ad 4 0)), (1, .int (iI w)), (2, .ref b0)]) (by decide) (Nat.le_of_ble_eq_true rfl) rfl ?_
  intro p e R s m args below meth c ls hRm hx hb hml hr hlk hxt hown hts hsH hK hX hN hl
  subst hRm
  have hown : s.vm.findClass "TakinghallLaw" = some m.cls := hown
  have hS : va_S (fun q => A q ∨ q = b0) s.heap H [] := by rw [hsH]; exact va_S.rf
  have hSA : va_S A s.heap H [] := by rw [hsH]; exact va_S.rf
  refine lv_aload_n hx hb dL_whoStops_0 rfl (lv_at hl 2 rfl) ?_
  refine lv_iconst (v := iI (0)) hx hb dL_whoStops_1 rfl ?_
  refine lv_aload_n hx hb dL_whoStops_2 rfl (lv_at hl 0 rfl) ?_
  refine lv_iload_n hx hb dL_whoStops_3 rfl (lv_at hl 1 rfl) ?_
  refine xk_T (xr_T (As := [.int (iI w)]) (rest := [.int (iI 0), .ref b0]) hx hb hml hown hts hK hX hSA (c_X4_whoStops hR hG hl0 hA w h_w) ms_X4_whoStops kw_560 (wr_recv hK hR (gd_4 hG) rfl rfl) ⟨by decide, by decide⟩ ⟨by decide, by decide⟩ rfl rfl hl.1 rfl (lv_room (Nat.le_of_ble_eq_true rfl)) dL_whoStops_4) hS (fun x hx1 => Or.inl hx1) (fun E cE q9 H1 locs1 hth1 hth3 hE hR1 hS1 hz hq hce hcv hcl => ?_) (fun H1 locs1 hT hR1 hS1 hz hq => ?_)
  · have hB1 : outA D cy b0 H1 g0 := (hq b0 (Array.getElem?_eq_some_iff.mp hB).1 hb0).trans hB
    rcases (show sE sg w = 1 ∨ sE sg w = 2 ∨ sE sg w = 3 by omega) with h | h | h
    · skip
      rw [h] at hE
      have hE2 : E = "java/lang/IndexOutOfBoundsException" := hE
      subst hE2
      refine vx_catch hown [] ⟨0, 9, 12, 13⟩ [] hxt (fun z hz => ?_) (by decide) (by decide) (hts _ kw_136) (va_Nw.use rfl (hX.1 _ (by simp [wNG]))) hce hcv hcl ?_
      · exact absurd hz List.not_mem_nil
      · refine lv_astore_n (i := 3) (lv' := [(3, .ref q9), (0, .ref (ad 4 0)), (1, .int (iI w)), (2, .ref b0)]) hx hb dL_whoStops_12 rfl hl (by decide) rfl (fun ls hl => ?_)
        refine lv_iconst (v := iI (1)) hx hb dL_whoStops_13 rfl ?_
        refine W.widen (k := 1) (n := 6) (by decide) (by decide) ?_
        exact xm_i hx hb hr hlk hS1 dL_whoStops_14 (by rw [h]; rfl) ⟨ad, g0, fun _ _ _ => rfl, by rw [h, if_neg (by decide)]; exact hR1, hB1, fun z => absurd (h.symm.trans z) (by decide)⟩
    · skip
      exfalso
      unfold sE at h
      (repeat' split at h) <;> omega
    · skip
      exfalso
      unfold sE at h
      (repeat' split at h) <;> omega
  · have hB1 : outA D cy b0 H1 g0 := (hq b0 (Array.getElem?_eq_some_iff.mp hB).1 hb0).trans hB
    show W p l e _ s m args below meth c H1 locs1 _ _ _ (F0 m (4 + 3) ls [.int (iI (whoR sg (sAt sg w))), .int (iI 0), .ref b0])
    refine xr_i2l hx hb dL_whoStops_7 (by have z0 := stopper_rng (sg := sg) (sAt sg w); unfold whoR; try unfold opt; (repeat' split) <;> omega) ?_
    refine wr_lastX (A0 := fun q => A q ∨ q = b0) hx hb hK hR1 hB1 hb0 (fun q h => Or.inl h) (Or.inr rfl) hS1 dL_whoStops_8 (fun H2 locs2 hR2 hB2 hS2 => ?_)
    refine lv_goto (tgt := 15) hx hb dL_whoStops_9 (by decide) ?_
    refine lv_iconst (v := iI (0)) hx hb dL_whoStops_15 rfl ?_
    refine W.widen (k := 1) (n := 6) (by decide) (by decide) ?_
    obtain ⟨g2, hB2, hg2⟩ := hB2
    exact xm_i hx hb hr hlk hS2 dL_whoStops_16 (by rw [hT]; rfl) ⟨ad, g2, fun _ _ _ => rfl, by rw [if_pos hT]; exact hR2, hB2, fun _ => hg2⟩
def hh_L_drop : List (Nat × Nat × Nat × Nat) := [(0, 9, 12, 13), (0, 9, 15, 17)]
theorem ms_L_drop : Cond.codeWith yL_drop cL_drop 4 (some .int) hh_L_drop ∈ wG ∧ Cond.static yL_drop ∈ wG ∧ Cond.initialized yL_drop.cls ∈ wG ∧ yL_drop.cls ≠ "java/lang/invoke/MethodHandle" ∧ yL_drop.cls ≠ "java/lang/invoke/VarHandle" ∧ (parseMethodDescriptor yL_drop.desc).map (fun d => d.parameters.length) = some 3 := ⟨kw_566, kw_565, kw_0, by decide, by decide, by decide +kernel⟩
set_option maxRecDepth 100000 in
set_option maxHeartbeats 4000000 in
theorem c_L_drop {l : Launch} {D : va_G} {cy : Nat → ClassId} {A : Nat → Prop} {ad : Nat → Int → Nat} {sg : Nat → Int → Int} {H : Heap} {b0 : Nat} {g0 : Nat → Int64} (hR : RC D cy A ad sg H) (hG : GC sg) (hl0 : l.stackTraces = false) (hA : ∀ q : Nat, H.size ≤ q → A q) (hB : outA D cy b0 H g0) (hb0 : ¬ A b0) (w : Int) (h_w : in32 w) : Met l yL_drop (Cond.codeWith yL_drop cL_drop 4 (some .int) hh_L_drop :: wG) (rmF 7 110 1 6) (PcW A D cy H [.ref (ad 4 0), .int (iI w), .ref b0]) (Qm (some (.int (iI (kWo [1, 3] (dropE sg w))))) (WP D cy A ad sg (dropT sg (sAt sg w)) b0 (dropE sg w) (drC sg (sAt sg w) 36)) (fun q => A q ∨ q = b0)) 1 6 (fun q => A q ∨ q = b0) := by
  refine wmet_of (la := [(0, .ref (ad 4 0)), (1, .int (iI w)), (2, .ref b0)]) (by decide) (Nat.le_of_ble_eq_true rfl) rfl ?_
  intro p e R s m args below meth c ls hRm hx hb hml hr hlk hxt hown hts hsH hK hX hN hl
  subst hRm
  have hown : s.vm.findClass "TakinghallLaw" = some m.cls := hown
  have hS : va_S (fun q => A q ∨ q = b0) s.heap H [] := by rw [hsH]; exact va_S.rf
  have hSA : va_S A s.heap H [] := by rw [hsH]; exact va_S.rf
  refine lv_aload_n hx hb dL_drop_0 rfl (lv_at hl 2 rfl) ?_
  refine lv_iconst (v := iI (0)) hx hb dL_drop_1 rfl ?_
  refine lv_aload_n hx hb dL_drop_2 rfl (lv_at hl 0 rfl) ?_
  refine lv_iload_n hx hb dL_drop_3 rfl (lv_at hl 1 rfl) ?_
  refine xk_T (xr_T (As := [.int (iI w)]) (rest := [.int (iI 0), .ref b0]) hx hb hml hown hts hK hX hSA (c_X4_drop hR hG hl0 hA w h_w) ms_X4_drop kw_567 (wr_recv hK hR (gd_4 hG) rfl rfl) ⟨by decide, by decide⟩ ⟨by decide, by decide⟩ rfl rfl hl.1 rfl (lv_room (Nat.le_of_ble_eq_true rfl)) dL_drop_4) hS (fun x hx1 => Or.inl hx1) (fun E cE q9 H1 locs1 hth1 hth3 hE hR1 hS1 hz hq hce hcv hcl => ?_) (fun H1 locs1 hT hR1 hS1 hz hq => ?_)
  · have hB1 : outA D cy b0 H1 g0 := (hq b0 (Array.getElem?_eq_some_iff.mp hB).1 hb0).trans hB
    rcases (show dropE sg w = 1 ∨ dropE sg w = 2 ∨ dropE sg w = 3 by omega) with h | h | h
    · skip
      rw [h] at hE
      have hE2 : E = "java/lang/IndexOutOfBoundsException" := hE
      subst hE2
      refine vx_catch hown [] ⟨0, 9, 12, 13⟩ [⟨0, 9, 15, 17⟩] hxt (fun z hz => ?_) (by decide) (by decide) (hts _ kw_136) (va_Nw.use rfl (hX.1 _ (by simp [wNG]))) hce hcv hcl ?_
      · exact absurd hz List.not_mem_nil
      · refine lv_astore_n (i := 3) (lv' := [(3, .ref q9), (0, .ref (ad 4 0)), (1, .int (iI w)), (2, .ref b0)]) hx hb dL_drop_12 rfl hl (by decide) rfl (fun ls hl => ?_)
        refine lv_iconst (v := iI (1)) hx hb dL_drop_13 rfl ?_
        refine W.widen (k := 1) (n := 6) (by decide) (by decide) ?_
        exact xm_i hx hb hr hlk hS1 dL_drop_14 (by rw [h]; rfl) ⟨ad, g0, fun _ _ _ => rfl, by rw [h, if_neg (by decide)]; exact hR1, hB1, fun z => absurd (h.symm.trans z) (by decide)⟩
    · skip
      exfalso
      unfold dropE at h
      (repeat' split at h) <;> omega
    · skip
      rw [h] at hE
      have hE2 : E = "java/lang/IllegalStateException" := hE
      subst hE2
      refine vx_catch hown [⟨0, 9, 12, 13⟩] ⟨0, 9, 15, 17⟩ [] hxt (fun z hz => ?_) (by decide) (by decide) (hts _ kw_138) (va_Nw.use rfl (hX.1 _ (by simp [wNG]))) hce hcv hcl ?_
      · simp only [List.mem_cons, List.not_mem_nil, or_false] at hz
        subst hz
        exact Or.inr ⟨by decide, _, hts _ kw_136, hN.2.1⟩
      · refine lv_astore_n (i := 3) (lv' := [(3, .ref q9), (0, .ref (ad 4 0)), (1, .int (iI w)), (2, .ref b0)]) hx hb dL_drop_15 rfl hl (by decide) rfl (fun ls hl => ?_)
        refine lv_iconst (v := iI (2)) hx hb dL_drop_16 rfl ?_
        refine W.widen (k := 1) (n := 6) (by decide) (by decide) ?_
        exact xm_i hx hb hr hlk hS1 dL_drop_17 (by rw [h]; rfl) ⟨ad, g0, fun _ _ _ => rfl, by rw [h, if_neg (by decide)]; exact hR1, hB1, fun z => absurd (h.symm.trans z) (by decide)⟩
  · have hB1 : outA D cy b0 H1 g0 := (hq b0 (Array.getElem?_eq_some_iff.mp hB).1 hb0).trans hB
    show W p l e _ s m args below meth c H1 locs1 _ _ _ (F0 m (4 + 3) ls [.int (iI (drC sg (sAt sg w) 36)), .int (iI 0), .ref b0])
    refine xr_i2l hx hb dL_drop_7 (by have z0 := drC_rng (sg := sg) (w := sAt sg w) 36; omega) ?_
    refine wr_lastX (A0 := fun q => A q ∨ q = b0) hx hb hK hR1 hB1 hb0 (fun q h => Or.inl h) (Or.inr rfl) hS1 dL_drop_8 (fun H2 locs2 hR2 hB2 hS2 => ?_)
    refine lv_goto (tgt := 18) hx hb dL_drop_9 (by decide) ?_
    refine lv_iconst (v := iI (0)) hx hb dL_drop_18 rfl ?_
    refine W.widen (k := 1) (n := 6) (by decide) (by decide) ?_
    obtain ⟨g2, hB2, hg2⟩ := hB2
    exact xm_i hx hb hr hlk hS2 dL_drop_19 (by rw [hT]; rfl) ⟨ad, g2, fun _ _ _ => rfl, by rw [if_pos hT]; exact hR2, hB2, fun _ => hg2⟩
def hh_L_schemeOf : List (Nat × Nat × Nat × Nat) := [(0, 10, 13, 13), (0, 10, 17, 15)]
theorem ms_L_schemeOf : Cond.codeWith yL_schemeOf cL_schemeOf 5 (some .int) hh_L_schemeOf ∈ wG ∧ Cond.static yL_schemeOf ∈ wG ∧ Cond.initialized yL_schemeOf.cls ∈ wG ∧ yL_schemeOf.cls ≠ "java/lang/invoke/MethodHandle" ∧ yL_schemeOf.cls ≠ "java/lang/invoke/VarHandle" ∧ (parseMethodDescriptor yL_schemeOf.desc).map (fun d => d.parameters.length) = some 4 := ⟨kw_588, kw_587, kw_0, by decide, by decide, by decide +kernel⟩
set_option maxRecDepth 100000 in
set_option maxHeartbeats 4000000 in
theorem c_L_schemeOf {l : Launch} {D : va_G} {cy : Nat → ClassId} {A : Nat → Prop} {ad : Nat → Int → Nat} {sg : Nat → Int → Int} {H : Heap} {b0 : Nat} {g0 : Nat → Int64} (hR : RC D cy A ad sg H) (hG : GC sg) (hl0 : l.stackTraces = false) (hA : ∀ q : Nat, H.size ≤ q → A q) (hB : outA D cy b0 H g0) (hb0 : ¬ A b0) (x : Int) (w : Int) (h_x : in32 x) (h_w : in32 w) : Met l yL_schemeOf (Cond.codeWith yL_schemeOf cL_schemeOf 5 (some .int) hh_L_schemeOf :: wG) (rmF 7 105 1 6) (PcW A D cy H [.ref (ad 4 0), .int (iI x), .int (iI w), .ref b0]) (Qm (some (.int (iI (kWo [1, 2] (schemeOfE sg x w))))) (WP D cy A ad sg (sg) b0 (schemeOfE sg x w) (schemeOfR sg (sAt sg x) w)) (fun q => A q ∨ q = b0)) 1 6 (fun q => A q ∨ q = b0) := by
  refine wmet_of (la := [(0, .ref (ad 4 0)), (1, .int (iI x)), (2, .int (iI w)), (3, .ref b0)]) (by decide) (Nat.le_of_ble_eq_true rfl) rfl ?_
  intro p e R s m args below meth c ls hRm hx hb hml hr hlk hxt hown hts hsH hK hX hN hl
  subst hRm
  have hown : s.vm.findClass "TakinghallLaw" = some m.cls := hown
  have hS : va_S (fun q => A q ∨ q = b0) s.heap H [] := by rw [hsH]; exact va_S.rf
  have hSA : va_S A s.heap H [] := by rw [hsH]; exact va_S.rf
  refine lv_aload_n hx hb dL_schemeOf_0 rfl (lv_at hl 3 rfl) ?_
  refine lv_iconst (v := iI (0)) hx hb dL_schemeOf_1 rfl ?_
  refine lv_aload_n hx hb dL_schemeOf_2 rfl (lv_at hl 0 rfl) ?_
  refine lv_iload_n hx hb dL_schemeOf_3 rfl (lv_at hl 1 rfl) ?_
  refine lv_iload_n hx hb dL_schemeOf_4 rfl (lv_at hl 2 rfl) ?_
  refine xk_T (xr_T (As := [.int (iI x), .int (iI w)]) (rest := [.int (iI 0), .ref b0]) hx hb hml hown hts hK hX hSA (c_X4_schemeOf hR hG hl0 hA x w h_x h_w) ms_X4_schemeOf kw_589 (wr_recv hK hR (gd_4 hG) rfl rfl) ⟨by decide, by decide⟩ ⟨by decide, by decide⟩ rfl rfl hl.1 rfl (lv_room (Nat.le_of_ble_eq_true rfl)) dL_schemeOf_5) hS (fun x hx1 => Or.inl hx1) (fun E cE q9 H1 locs1 hth1 hth3 hE hR1 hS1 hz hq hce hcv hcl => ?_) (fun H1 locs1 hT hR1 hS1 hz hq => ?_)
  · have hB1 : outA D cy b0 H1 g0 := (hq b0 (Array.getElem?_eq_some_iff.mp hB).1 hb0).trans hB
    rcases (show schemeOfE sg x w = 1 ∨ schemeOfE sg x w = 2 ∨ schemeOfE sg x w = 3 by omega) with h | h | h
    · skip
      rw [h] at hE
      have hE2 : E = "java/lang/IndexOutOfBoundsException" := hE
      subst hE2
      refine vx_catch hown [] ⟨0, 10, 13, 13⟩ [⟨0, 10, 17, 15⟩] hxt (fun z hz => ?_) (by decide) (by decide) (hts _ kw_136) (va_Nw.use rfl (hX.1 _ (by simp [wNG]))) hce hcv hcl ?_
      · exact absurd hz List.not_mem_nil
      · refine lv_astore (i := 4) (lv' := [(4, .ref q9), (0, .ref (ad 4 0)), (1, .int (iI x)), (2, .int (iI w)), (3, .ref b0)]) hx hb dL_schemeOf_13 hl (by decide) rfl (fun ls hl => ?_)
        refine lv_iconst (v := iI (1)) hx hb dL_schemeOf_15 rfl ?_
        refine W.widen (k := 1) (n := 6) (by decide) (by decide) ?_
        exact xm_i hx hb hr hlk hS1 dL_schemeOf_16 (by rw [h]; rfl) ⟨ad, g0, fun _ _ _ => rfl, by rw [h, if_neg (by decide)]; exact hR1, hB1, fun z => absurd (h.symm.trans z) (by decide)⟩
    · skip
      rw [h] at hE
      have hE2 : E = "java/lang/IllegalArgumentException" := hE
      subst hE2
      refine vx_catch hown [⟨0, 10, 13, 13⟩] ⟨0, 10, 17, 15⟩ [] hxt (fun z hz => ?_) (by decide) (by decide) (hts _ kw_137) (va_Nw.use rfl (hX.1 _ (by simp [wNG]))) hce hcv hcl ?_
      · simp only [List.mem_cons, List.not_mem_nil, or_false] at hz
        subst hz
        exact Or.inr ⟨by decide, _, hts _ kw_136, hN.1⟩
      · refine lv_astore (i := 4) (lv' := [(4, .ref q9), (0, .ref (ad 4 0)), (1, .int (iI x)), (2, .int (iI w)), (3, .ref b0)]) hx hb dL_schemeOf_17 hl (by decide) rfl (fun ls hl => ?_)
        refine lv_iconst (v := iI (2)) hx hb dL_schemeOf_19 rfl ?_
        refine W.widen (k := 1) (n := 6) (by decide) (by decide) ?_
        exact xm_i hx hb hr hlk hS1 dL_schemeOf_20 (by rw [h]; rfl) ⟨ad, g0, fun _ _ _ => rfl, by rw [h, if_neg (by decide)]; exact hR1, hB1, fun z => absurd (h.symm.trans z) (by decide)⟩
    · skip
      exfalso
      unfold schemeOfE at h
      (repeat' split at h) <;> omega
  · have hB1 : outA D cy b0 H1 g0 := (hq b0 (Array.getElem?_eq_some_iff.mp hB).1 hb0).trans hB
    show W p l e _ s m args below meth c H1 locs1 _ _ _ (F0 m (5 + 3) ls [.int (iI (schemeOfR sg (sAt sg x) w)), .int (iI 0), .ref b0])
    refine xr_i2l hx hb dL_schemeOf_8 (by have z0 := gr_403 hG (sAt sg x); have z1 := cntNeed_rng sg (sAt sg x); have z2 := gr_404 hG (sAt sg x); have z3 := gr_405 hG (sAt sg x); unfold schemeOfR; (repeat' split) <;> omega) ?_
    refine wr_lastX (A0 := fun q => A q ∨ q = b0) hx hb hK hR1 hB1 hb0 (fun q h => Or.inl h) (Or.inr rfl) hS1 dL_schemeOf_9 (fun H2 locs2 hR2 hB2 hS2 => ?_)
    refine lv_goto (tgt := 21) hx hb dL_schemeOf_10 (by decide) ?_
    refine lv_iconst (v := iI (0)) hx hb dL_schemeOf_21 rfl ?_
    refine W.widen (k := 1) (n := 6) (by decide) (by decide) ?_
    obtain ⟨g2, hB2, hg2⟩ := hB2
    exact xm_i hx hb hr hlk hS2 dL_schemeOf_22 (by rw [hT]; rfl) ⟨ad, g2, fun _ _ _ => rfl, by rw [if_pos hT]; exact hR2, hB2, fun _ => hg2⟩
def hh_L_enter : List (Nat × Nat × Nat × Nat) := [(0, 9, 12, 13), (0, 9, 15, 17)]
theorem ms_L_enter : Cond.codeWith yL_enter cL_enter 4 (some .int) hh_L_enter ∈ wG ∧ Cond.static yL_enter ∈ wG ∧ Cond.initialized yL_enter.cls ∈ wG ∧ yL_enter.cls ≠ "java/lang/invoke/MethodHandle" ∧ yL_enter.cls ≠ "java/lang/invoke/VarHandle" ∧ (parseMethodDescriptor yL_enter.desc).map (fun d => d.parameters.length) = some 3 := ⟨kw_595, kw_594, kw_0, by decide, by decide, by decide +kernel⟩
set_option maxRecDepth 100000 in
set_option maxHeartbeats 4000000 in
theorem c_L_enter {l : Launch} {D : va_G} {cy : Nat → ClassId} {A : Nat → Prop} {ad : Nat → Int → Nat} {sg : Nat → Int → Int} {H : Heap} {b0 : Nat} {g0 : Nat → Int64} (hR : RC D cy A ad sg H) (hG : GC sg) (hl0 : l.stackTraces = false) (hA : ∀ q : Nat, H.size ≤ q → A q) (hB : outA D cy b0 H g0) (hb0 : ¬ A b0) (x : Int) (h_x : in32 x) (h2 : sg 702 0 ≤ 1000000) : Met l yL_enter (Cond.codeWith yL_enter cL_enter 4 (some .int) hh_L_enter :: wG) (rmF 7 164 1 6) (PcW A D cy H [.ref (ad 4 0), .int (iI x), .ref b0]) (Qm (some (.int (iI (kWo [1, 3] (enterE sg x))))) (WP D cy A ad sg (tkT sg (pAt x)) b0 (enterE sg x) (landO (tk2 sg (pAt x)) (pAt x))) (fun q => A q ∨ q = b0)) 1 6 (fun q => A q ∨ q = b0) := by
  refine wmet_of (la := [(0, .ref (ad 4 0)), (1, .int (iI x)), (2, .ref b0)]) (by decide) (Nat.le_of_ble_eq_true rfl) rfl ?_
  intro p e R s m args below meth c ls hRm hx hb hml hr hlk hxt hown hts hsH hK hX hN hl
  subst hRm
  have hown : s.vm.findClass "TakinghallLaw" = some m.cls := hown
  have hS : va_S (fun q => A q ∨ q = b0) s.heap H [] := by rw [hsH]; exact va_S.rf
  have hSA : va_S A s.heap H [] := by rw [hsH]; exact va_S.rf
  refine lv_aload_n hx hb dL_enter_0 rfl (lv_at hl 2 rfl) ?_
  refine lv_iconst (v := iI (0)) hx hb dL_enter_1 rfl ?_
  refine lv_aload_n hx hb dL_enter_2 rfl (lv_at hl 0 rfl) ?_
  refine lv_iload_n hx hb dL_enter_3 rfl (lv_at hl 1 rfl) ?_
  refine xk_T (xr_T (As := [.int (iI x)]) (rest := [.int (iI 0), .ref b0]) hx hb hml hown hts hK hX hSA (c_X4_enter hR hG hl0 hA x h_x h2) ms_X4_enter kw_596 (wr_recv hK hR (gd_4 hG) rfl rfl) ⟨by decide, by decide⟩ ⟨by decide, by decide⟩ rfl rfl hl.1 rfl (lv_room (Nat.le_of_ble_eq_true rfl)) dL_enter_4) hS (fun x hx1 => Or.inl hx1) (fun E cE q9 H1 locs1 hth1 hth3 hE hR1 hS1 hz hq hce hcv hcl => ?_) (fun H1 locs1 hT hR1 hS1 hz hq => ?_)
  · have hB1 : outA D cy b0 H1 g0 := (hq b0 (Array.getElem?_eq_some_iff.mp hB).1 hb0).trans hB
    rcases (show enterE sg x = 1 ∨ enterE sg x = 2 ∨ enterE sg x = 3 by omega) with h | h | h
    · skip
      rw [h] at hE
      have hE2 : E = "java/lang/IndexOutOfBoundsException" := hE
      subst hE2
      refine vx_catch hown [] ⟨0, 9, 12, 13⟩ [⟨0, 9, 15, 17⟩] hxt (fun z hz => ?_) (by decide) (by decide) (hts _ kw_136) (va_Nw.use rfl (hX.1 _ (by simp [wNG]))) hce hcv hcl ?_
      · exact absurd hz List.not_mem_nil
      · refine lv_astore_n (i := 3) (lv' := [(3, .ref q9), (0, .ref (ad 4 0)), (1, .int (iI x)), (2, .ref b0)]) hx hb dL_enter_12 rfl hl (by decide) rfl (fun ls hl => ?_)
        refine lv_iconst (v := iI (1)) hx hb dL_enter_13 rfl ?_
        refine W.widen (k := 1) (n := 6) (by decide) (by decide) ?_
        exact xm_i hx hb hr hlk hS1 dL_enter_14 (by rw [h]; rfl) ⟨ad, g0, fun _ _ _ => rfl, by rw [h, if_neg (by decide)]; exact hR1, hB1, fun z => absurd (h.symm.trans z) (by decide)⟩
    · skip
      exfalso
      unfold enterE at h
      (repeat' split at h) <;> omega
    · skip
      rw [h] at hE
      have hE2 : E = "java/lang/IllegalStateException" := hE
      subst hE2
      refine vx_catch hown [⟨0, 9, 12, 13⟩] ⟨0, 9, 15, 17⟩ [] hxt (fun z hz => ?_) (by decide) (by decide) (hts _ kw_138) (va_Nw.use rfl (hX.1 _ (by simp [wNG]))) hce hcv hcl ?_
      · simp only [List.mem_cons, List.not_mem_nil, or_false] at hz
        subst hz
        exact Or.inr ⟨by decide, _, hts _ kw_136, hN.2.1⟩
      · refine lv_astore_n (i := 3) (lv' := [(3, .ref q9), (0, .ref (ad 4 0)), (1, .int (iI x)), (2, .ref b0)]) hx hb dL_enter_15 rfl hl (by decide) rfl (fun ls hl => ?_)
        refine lv_iconst (v := iI (2)) hx hb dL_enter_16 rfl ?_
        refine W.widen (k := 1) (n := 6) (by decide) (by decide) ?_
        exact xm_i hx hb hr hlk hS1 dL_enter_17 (by rw [h]; rfl) ⟨ad, g0, fun _ _ _ => rfl, by rw [h, if_neg (by decide)]; exact hR1, hB1, fun z => absurd (h.symm.trans z) (by decide)⟩
  · have hB1 : outA D cy b0 H1 g0 := (hq b0 (Array.getElem?_eq_some_iff.mp hB).1 hb0).trans hB
    show W p l e _ s m args below meth c H1 locs1 _ _ _ (F0 m (4 + 3) ls [.int (iI (landO (tk2 sg (pAt x)) (pAt x))), .int (iI 0), .ref b0])
    refine xr_i2l hx hb dL_enter_7 (by have z0 := landO_rng (gc_tk2 hG (pAt x) h2) (pAt x); omega) ?_
    refine wr_lastX (A0 := fun q => A q ∨ q = b0) hx hb hK hR1 hB1 hb0 (fun q h => Or.inl h) (Or.inr rfl) hS1 dL_enter_8 (fun H2 locs2 hR2 hB2 hS2 => ?_)
    refine lv_goto (tgt := 18) hx hb dL_enter_9 (by decide) ?_
    refine lv_iconst (v := iI (0)) hx hb dL_enter_18 rfl ?_
    refine W.widen (k := 1) (n := 6) (by decide) (by decide) ?_
    obtain ⟨g2, hB2, hg2⟩ := hB2
    exact xm_i hx hb hr hlk hS2 dL_enter_19 (by rw [hT]; rfl) ⟨ad, g2, fun _ _ _ => rfl, by rw [if_pos hT]; exact hR2, hB2, fun _ => hg2⟩
def hh_L_blight : List (Nat × Nat × Nat × Nat) := [(0, 9, 12, 13), (0, 9, 15, 15), (0, 9, 18, 17)]
theorem ms_L_blight : Cond.codeWith yL_blight cL_blight 4 (some .int) hh_L_blight ∈ wG ∧ Cond.static yL_blight ∈ wG ∧ Cond.initialized yL_blight.cls ∈ wG ∧ yL_blight.cls ≠ "java/lang/invoke/MethodHandle" ∧ yL_blight.cls ≠ "java/lang/invoke/VarHandle" ∧ (parseMethodDescriptor yL_blight.desc).map (fun d => d.parameters.length) = some 3 := ⟨kw_635, kw_634, kw_0, by decide, by decide, by decide +kernel⟩
set_option maxRecDepth 100000 in
set_option maxHeartbeats 4000000 in
theorem c_L_blight {l : Launch} {D : va_G} {cy : Nat → ClassId} {A : Nat → Prop} {ad : Nat → Int → Nat} {sg : Nat → Int → Int} {H : Heap} {b0 : Nat} {g0 : Nat → Int64} (hR : RC D cy A ad sg H) (hG : GC sg) (hl0 : l.stackTraces = false) (hA : ∀ q : Nat, H.size ≤ q → A q) (hB : outA D cy b0 H g0) (hb0 : ¬ A b0) (x : Int) (h_x : in32 x) (h2 : sg 702 0 ≤ 1000000) : Met l yL_blight (Cond.codeWith yL_blight cL_blight 4 (some .int) hh_L_blight :: wG) (rmF 7 164 1 6) (PcW A D cy H [.ref (ad 4 0), .int (iI x), .ref b0]) (Qm (some (.int (iI (kWo [1, 2, 3] (blightE sg x))))) (WP D cy A ad sg (tkT (st sg 205 (sg 102 (iAt sg x)) 100) (sg 102 (iAt sg x))) b0 (blightE sg x) (landO (tk2 (st sg 205 (sg 102 (iAt sg x)) 100) (sg 102 (iAt sg x))) (sg 102 (iAt sg x)))) (fun q => A q ∨ q = b0)) 1 6 (fun q => A q ∨ q = b0) := by
  refine wmet_of (la := [(0, .ref (ad 4 0)), (1, .int (iI x)), (2, .ref b0)]) (by decide) (Nat.le_of_ble_eq_true rfl) rfl ?_
  intro p e R s m args below meth c ls hRm hx hb hml hr hlk hxt hown hts hsH hK hX hN hl
  subst hRm
  have hown : s.vm.findClass "TakinghallLaw" = some m.cls := hown
  have hS : va_S (fun q => A q ∨ q = b0) s.heap H [] := by rw [hsH]; exact va_S.rf
  have hSA : va_S A s.heap H [] := by rw [hsH]; exact va_S.rf
  refine lv_aload_n hx hb dL_blight_0 rfl (lv_at hl 2 rfl) ?_
  refine lv_iconst (v := iI (0)) hx hb dL_blight_1 rfl ?_
  refine lv_aload_n hx hb dL_blight_2 rfl (lv_at hl 0 rfl) ?_
  refine lv_iload_n hx hb dL_blight_3 rfl (lv_at hl 1 rfl) ?_
  refine xk_T (xr_T (As := [.int (iI x)]) (rest := [.int (iI 0), .ref b0]) hx hb hml hown hts hK hX hSA (c_X4_blight hR hG hl0 hA x h_x h2) ms_X4_blight kw_636 (wr_recv hK hR (gd_4 hG) rfl rfl) ⟨by decide, by decide⟩ ⟨by decide, by decide⟩ rfl rfl hl.1 rfl (lv_room (Nat.le_of_ble_eq_true rfl)) dL_blight_4) hS (fun x hx1 => Or.inl hx1) (fun E cE q9 H1 locs1 hth1 hth3 hE hR1 hS1 hz hq hce hcv hcl => ?_) (fun H1 locs1 hT hR1 hS1 hz hq => ?_)
  · have hB1 : outA D cy b0 H1 g0 := (hq b0 (Array.getElem?_eq_some_iff.mp hB).1 hb0).trans hB
    rcases (show blightE sg x = 1 ∨ blightE sg x = 2 ∨ blightE sg x = 3 by omega) with h | h | h
    · skip
      rw [h] at hE
      have hE2 : E = "java/lang/IndexOutOfBoundsException" := hE
      subst hE2
      refine vx_catch hown [] ⟨0, 9, 12, 13⟩ [⟨0, 9, 15, 15⟩, ⟨0, 9, 18, 17⟩] hxt (fun z hz => ?_) (by decide) (by decide) (hts _ kw_136) (va_Nw.use rfl (hX.1 _ (by simp [wNG]))) hce hcv hcl ?_
      · exact absurd hz List.not_mem_nil
      · refine lv_astore_n (i := 3) (lv' := [(3, .ref q9), (0, .ref (ad 4 0)), (1, .int (iI x)), (2, .ref b0)]) hx hb dL_blight_12 rfl hl (by decide) rfl (fun ls hl => ?_)
        refine lv_iconst (v := iI (1)) hx hb dL_blight_13 rfl ?_
        refine W.widen (k := 1) (n := 6) (by decide) (by decide) ?_
        exact xm_i hx hb hr hlk hS1 dL_blight_14 (by rw [h]; rfl) ⟨ad, g0, fun _ _ _ => rfl, by rw [h, if_neg (by decide)]; exact hR1, hB1, fun z => absurd (h.symm.trans z) (by decide)⟩
    · skip
      rw [h] at hE
      have hE2 : E = "java/lang/IllegalArgumentException" := hE
      subst hE2
      refine vx_catch hown [⟨0, 9, 12, 13⟩] ⟨0, 9, 15, 15⟩ [⟨0, 9, 18, 17⟩] hxt (fun z hz => ?_) (by decide) (by decide) (hts _ kw_137) (va_Nw.use rfl (hX.1 _ (by simp [wNG]))) hce hcv hcl ?_
      · simp only [List.mem_cons, List.not_mem_nil, or_false] at hz
        subst hz
        exact Or.inr ⟨by decide, _, hts _ kw_136, hN.1⟩
      · refine lv_astore_n (i := 3) (lv' := [(3, .ref q9), (0, .ref (ad 4 0)), (1, .int (iI x)), (2, .ref b0)]) hx hb dL_blight_15 rfl hl (by decide) rfl (fun ls hl => ?_)
        refine lv_iconst (v := iI (2)) hx hb dL_blight_16 rfl ?_
        refine W.widen (k := 1) (n := 6) (by decide) (by decide) ?_
        exact xm_i hx hb hr hlk hS1 dL_blight_17 (by rw [h]; rfl) ⟨ad, g0, fun _ _ _ => rfl, by rw [h, if_neg (by decide)]; exact hR1, hB1, fun z => absurd (h.symm.trans z) (by decide)⟩
    · skip
      rw [h] at hE
      have hE2 : E = "java/lang/IllegalStateException" := hE
      subst hE2
      refine vx_catch hown [⟨0, 9, 12, 13⟩, ⟨0, 9, 15, 15⟩] ⟨0, 9, 18, 17⟩ [] hxt (fun z hz => ?_) (by decide) (by decide) (hts _ kw_138) (va_Nw.use rfl (hX.1 _ (by simp [wNG]))) hce hcv hcl ?_
      · simp only [List.mem_cons, List.not_mem_nil, or_false] at hz
        rcases hz with hz | hz
        · subst hz; exact Or.inr ⟨by decide, _, hts _ kw_136, hN.2.1⟩
        · subst hz; exact Or.inr ⟨by decide, _, hts _ kw_137, hN.2.2⟩
      · refine lv_astore_n (i := 3) (lv' := [(3, .ref q9), (0, .ref (ad 4 0)), (1, .int (iI x)), (2, .ref b0)]) hx hb dL_blight_18 rfl hl (by decide) rfl (fun ls hl => ?_)
        refine lv_iconst (v := iI (3)) hx hb dL_blight_19 rfl ?_
        refine W.widen (k := 1) (n := 6) (by decide) (by decide) ?_
        exact xm_i hx hb hr hlk hS1 dL_blight_20 (by rw [h]; rfl) ⟨ad, g0, fun _ _ _ => rfl, by rw [h, if_neg (by decide)]; exact hR1, hB1, fun z => absurd (h.symm.trans z) (by decide)⟩
  · have hB1 : outA D cy b0 H1 g0 := (hq b0 (Array.getElem?_eq_some_iff.mp hB).1 hb0).trans hB
    show W p l e _ s m args below meth c H1 locs1 _ _ _ (F0 m (4 + 3) ls [.int (iI (landO (tk2 (st sg 205 (sg 102 (iAt sg x)) 100) (sg 102 (iAt sg x))) (sg 102 (iAt sg x)))), .int (iI 0), .ref b0])
    refine xr_i2l hx hb dL_blight_7 (by have z0 := landO_rng (gc_tk2 (gc_205 hG (sg 102 (iAt sg x)) (v := 100) (by decide)) (sg 102 (iAt sg x)) h2) (sg 102 (iAt sg x)); omega) ?_
    refine wr_lastX (A0 := fun q => A q ∨ q = b0) hx hb hK hR1 hB1 hb0 (fun q h => Or.inl h) (Or.inr rfl) hS1 dL_blight_8 (fun H2 locs2 hR2 hB2 hS2 => ?_)
    refine lv_goto (tgt := 21) hx hb dL_blight_9 (by decide) ?_
    refine lv_iconst (v := iI (0)) hx hb dL_blight_21 rfl ?_
    refine W.widen (k := 1) (n := 6) (by decide) (by decide) ?_
    obtain ⟨g2, hB2, hg2⟩ := hB2
    exact xm_i hx hb hr hlk hS2 dL_blight_22 (by rw [hT]; rfl) ⟨ad, g2, fun _ _ _ => rfl, by rw [if_pos hT]; exact hR2, hB2, fun _ => hg2⟩
def hh_L_works : List (Nat × Nat × Nat × Nat) := [(0, 9, 12, 13), (0, 9, 15, 17)]
theorem ms_L_works : Cond.codeWith yL_works cL_works 4 (some .int) hh_L_works ∈ wG ∧ Cond.static yL_works ∈ wG ∧ Cond.initialized yL_works.cls ∈ wG ∧ yL_works.cls ≠ "java/lang/invoke/MethodHandle" ∧ yL_works.cls ≠ "java/lang/invoke/VarHandle" ∧ (parseMethodDescriptor yL_works.desc).map (fun d => d.parameters.length) = some 3 := ⟨kw_644, kw_643, kw_0, by decide, by decide, by decide +kernel⟩
set_option maxRecDepth 100000 in
set_option maxHeartbeats 4000000 in
theorem c_L_works {l : Launch} {D : va_G} {cy : Nat → ClassId} {A : Nat → Prop} {ad : Nat → Int → Nat} {sg : Nat → Int → Int} {H : Heap} {b0 : Nat} {g0 : Nat → Int64} (hR : RC D cy A ad sg H) (hG : GC sg) (hl0 : l.stackTraces = false) (hA : ∀ q : Nat, H.size ≤ q → A q) (hB : outA D cy b0 H g0) (hb0 : ¬ A b0) (x : Int) (h_x : in32 x) : Met l yL_works (Cond.codeWith yL_works cL_works 4 (some .int) hh_L_works :: wG) (rmF 7 104 1 6) (PcW A D cy H [.ref (ad 4 0), .int (iI x), .ref b0]) (Qm (some (.int (iI (kWo [1, 3] (worksE sg x))))) (WP D cy A ad sg (st sg 208 (pAt x) 1) b0 (worksE sg x) (cntWorks (st sg 208 (pAt x) 1))) (fun q => A q ∨ q = b0)) 1 6 (fun q => A q ∨ q = b0) := by
  refine wmet_of (la := [(0, .ref (ad 4 0)), (1, .int (iI x)), (2, .ref b0)]) (by decide) (Nat.le_of_ble_eq_true rfl) rfl ?_
  intro p e R s m args below meth c ls hRm hx hb hml hr hlk hxt hown hts hsH hK hX hN hl
  subst hRm
  have hown : s.vm.findClass "TakinghallLaw" = some m.cls := hown
  have hS : va_S (fun q => A q ∨ q = b0) s.heap H [] := by rw [hsH]; exact va_S.rf
  have hSA : va_S A s.heap H [] := by rw [hsH]; exact va_S.rf
  refine lv_aload_n hx hb dL_works_0 rfl (lv_at hl 2 rfl) ?_
  refine lv_iconst (v := iI (0)) hx hb dL_works_1 rfl ?_
  refine lv_aload_n hx hb dL_works_2 rfl (lv_at hl 0 rfl) ?_
  refine lv_iload_n hx hb dL_works_3 rfl (lv_at hl 1 rfl) ?_
  refine xk_T (xr_T (As := [.int (iI x)]) (rest := [.int (iI 0), .ref b0]) hx hb hml hown hts hK hX hSA (c_X4_works hR hG hl0 hA x h_x) ms_X4_works kw_645 (wr_recv hK hR (gd_4 hG) rfl rfl) ⟨by decide, by decide⟩ ⟨by decide, by decide⟩ rfl rfl hl.1 rfl (lv_room (Nat.le_of_ble_eq_true rfl)) dL_works_4) hS (fun x hx1 => Or.inl hx1) (fun E cE q9 H1 locs1 hth1 hth3 hE hR1 hS1 hz hq hce hcv hcl => ?_) (fun H1 locs1 hT hR1 hS1 hz hq => ?_)
  · have hB1 : outA D cy b0 H1 g0 := (hq b0 (Array.getElem?_eq_some_iff.mp hB).1 hb0).trans hB
    rcases (show worksE sg x = 1 ∨ worksE sg x = 2 ∨ worksE sg x = 3 by omega) with h | h | h
    · skip
      rw [h] at hE
      have hE2 : E = "java/lang/IndexOutOfBoundsException" := hE
      subst hE2
      refine vx_catch hown [] ⟨0, 9, 12, 13⟩ [⟨0, 9, 15, 17⟩] hxt (fun z hz => ?_) (by decide) (by decide) (hts _ kw_136) (va_Nw.use rfl (hX.1 _ (by simp [wNG]))) hce hcv hcl ?_
      · exact absurd hz List.not_mem_nil
      · refine lv_astore_n (i := 3) (lv' := [(3, .ref q9), (0, .ref (ad 4 0)), (1, .int (iI x)), (2, .ref b0)]) hx hb dL_works_12 rfl hl (by decide) rfl (fun ls hl => ?_)
        refine lv_iconst (v := iI (1)) hx hb dL_works_13 rfl ?_
        refine W.widen (k := 1) (n := 6) (by decide) (by decide) ?_
        exact xm_i hx hb hr hlk hS1 dL_works_14 (by rw [h]; rfl) ⟨ad, g0, fun _ _ _ => rfl, by rw [h, if_neg (by decide)]; exact hR1, hB1, fun z => absurd (h.symm.trans z) (by decide)⟩
    · skip
      exfalso
      unfold worksE at h
      (repeat' split at h) <;> omega
    · skip
      rw [h] at hE
      have hE2 : E = "java/lang/IllegalStateException" := hE
      subst hE2
      refine vx_catch hown [⟨0, 9, 12, 13⟩] ⟨0, 9, 15, 17⟩ [] hxt (fun z hz => ?_) (by decide) (by decide) (hts _ kw_138) (va_Nw.use rfl (hX.1 _ (by simp [wNG]))) hce hcv hcl ?_
      · simp only [List.mem_cons, List.not_mem_nil, or_false] at hz
        subst hz
        exact Or.inr ⟨by decide, _, hts _ kw_136, hN.2.1⟩
      · refine lv_astore_n (i := 3) (lv' := [(3, .ref q9), (0, .ref (ad 4 0)), (1, .int (iI x)), (2, .ref b0)]) hx hb dL_works_15 rfl hl (by decide) rfl (fun ls hl => ?_)
        refine lv_iconst (v := iI (2)) hx hb dL_works_16 rfl ?_
        refine W.widen (k := 1) (n := 6) (by decide) (by decide) ?_
        exact xm_i hx hb hr hlk hS1 dL_works_17 (by rw [h]; rfl) ⟨ad, g0, fun _ _ _ => rfl, by rw [h, if_neg (by decide)]; exact hR1, hB1, fun z => absurd (h.symm.trans z) (by decide)⟩
  · have hB1 : outA D cy b0 H1 g0 := (hq b0 (Array.getElem?_eq_some_iff.mp hB).1 hb0).trans hB
    show W p l e _ s m args below meth c H1 locs1 _ _ _ (F0 m (4 + 3) ls [.int (iI (cntWorks (st sg 208 (pAt x) 1))), .int (iI 0), .ref b0])
    refine xr_i2l hx hb dL_works_7 (by have z0 := sum_b (f := fun q => bI (st sg 208 (pAt x) 1 208 q ≠ 0)) (M := 1) (fun i => bI_in _) 36; unfold cntWorks; omega) ?_
    refine wr_lastX (A0 := fun q => A q ∨ q = b0) hx hb hK hR1 hB1 hb0 (fun q h => Or.inl h) (Or.inr rfl) hS1 dL_works_8 (fun H2 locs2 hR2 hB2 hS2 => ?_)
    refine lv_goto (tgt := 18) hx hb dL_works_9 (by decide) ?_
    refine lv_iconst (v := iI (0)) hx hb dL_works_18 rfl ?_
    refine W.widen (k := 1) (n := 6) (by decide) (by decide) ?_
    obtain ⟨g2, hB2, hg2⟩ := hB2
    exact xm_i hx hb hr hlk hS2 dL_works_19 (by rw [hT]; rfl) ⟨ad, g2, fun _ _ _ => rfl, by rw [if_pos hT]; exact hR2, hB2, fun _ => hg2⟩
def hh_L_sumAnew : List (Nat × Nat × Nat × Nat) := [(0, 8, 11, 13)]
theorem ms_L_sumAnew : Cond.codeWith yL_sumAnew cL_sumAnew 4 (some .int) hh_L_sumAnew ∈ wG ∧ Cond.static yL_sumAnew ∈ wG ∧ Cond.initialized yL_sumAnew.cls ∈ wG ∧ yL_sumAnew.cls ≠ "java/lang/invoke/MethodHandle" ∧ yL_sumAnew.cls ≠ "java/lang/invoke/VarHandle" ∧ (parseMethodDescriptor yL_sumAnew.desc).map (fun d => d.parameters.length) = some 3 := ⟨kw_656, kw_655, kw_0, by decide, by decide, by decide +kernel⟩
set_option maxRecDepth 100000 in
set_option maxHeartbeats 4000000 in
theorem c_L_sumAnew {l : Launch} {D : va_G} {cy : Nat → ClassId} {A : Nat → Prop} {ad : Nat → Int → Nat} {sg : Nat → Int → Int} {H : Heap} {b0 : Nat} {g0 : Nat → Int64} (hR : RC D cy A ad sg H) (hG : GC sg) (hl0 : l.stackTraces = false) (hA : ∀ q : Nat, H.size ≤ q → A q) (hB : outA D cy b0 H g0) (hb0 : ¬ A b0) (x : Int) (h_x : in32 x) : Met l yL_sumAnew (Cond.codeWith yL_sumAnew cL_sumAnew 4 (some .int) hh_L_sumAnew :: wG) (rmF 7 137 1 6) (PcW A D cy H [.ref (ad 4 0), .int (iI x), .ref b0]) (Qm (some (.int (iI (kWo [1] (iE sg x))))) (WP D cy A ad sg (sg) b0 (iE sg x) (anewR sg (iAt sg x))) (fun q => A q ∨ q = b0)) 1 6 (fun q => A q ∨ q = b0) := by
  refine wmet_of (la := [(0, .ref (ad 4 0)), (1, .int (iI x)), (2, .ref b0)]) (by decide) (Nat.le_of_ble_eq_true rfl) rfl ?_
  intro p e R s m args below meth c ls hRm hx hb hml hr hlk hxt hown hts hsH hK hX hN hl
  subst hRm
  have hown : s.vm.findClass "TakinghallLaw" = some m.cls := hown
  have hS : va_S (fun q => A q ∨ q = b0) s.heap H [] := by rw [hsH]; exact va_S.rf
  have hSA : va_S A s.heap H [] := by rw [hsH]; exact va_S.rf
  refine lv_aload_n hx hb dL_sumAnew_0 rfl (lv_at hl 2 rfl) ?_
  refine lv_iconst (v := iI (0)) hx hb dL_sumAnew_1 rfl ?_
  refine lv_aload_n hx hb dL_sumAnew_2 rfl (lv_at hl 0 rfl) ?_
  refine lv_iload_n hx hb dL_sumAnew_3 rfl (lv_at hl 1 rfl) ?_
  refine xk_T (xr_T (As := [.int (iI x)]) (rest := [.int (iI 0), .ref b0]) hx hb hml hown hts hK hX hSA (c_X4_sumAnew hR hG hl0 hA x h_x) ms_X4_sumAnew kw_657 (wr_recv hK hR (gd_4 hG) rfl rfl) ⟨by decide, by decide⟩ ⟨by decide, by decide⟩ rfl rfl hl.1 rfl (lv_room (Nat.le_of_ble_eq_true rfl)) dL_sumAnew_4) hS (fun x hx1 => Or.inl hx1) (fun E cE q9 H1 locs1 hth1 hth3 hE hR1 hS1 hz hq hce hcv hcl => ?_) (fun H1 locs1 hT hR1 hS1 hz hq => ?_)
  · have hB1 : outA D cy b0 H1 g0 := (hq b0 (Array.getElem?_eq_some_iff.mp hB).1 hb0).trans hB
    rcases (show iE sg x = 1 ∨ iE sg x = 2 ∨ iE sg x = 3 by omega) with h | h | h
    · skip
      rw [h] at hE
      have hE2 : E = "java/lang/IndexOutOfBoundsException" := hE
      subst hE2
      refine vx_catch hown [] ⟨0, 8, 11, 13⟩ [] hxt (fun z hz => ?_) (by decide) (by decide) (hts _ kw_136) (va_Nw.use rfl (hX.1 _ (by simp [wNG]))) hce hcv hcl ?_
      · exact absurd hz List.not_mem_nil
      · refine lv_astore_n (i := 3) (lv' := [(3, .ref q9), (0, .ref (ad 4 0)), (1, .int (iI x)), (2, .ref b0)]) hx hb dL_sumAnew_11 rfl hl (by decide) rfl (fun ls hl => ?_)
        refine lv_iconst (v := iI (1)) hx hb dL_sumAnew_12 rfl ?_
        refine W.widen (k := 1) (n := 6) (by decide) (by decide) ?_
        exact xm_i hx hb hr hlk hS1 dL_sumAnew_13 (by rw [h]; rfl) ⟨ad, g0, fun _ _ _ => rfl, by rw [h, if_neg (by decide)]; exact hR1, hB1, fun z => absurd (h.symm.trans z) (by decide)⟩
    · skip
      exfalso
      unfold iE at h
      (repeat' split at h) <;> omega
    · skip
      exfalso
      unfold iE at h
      (repeat' split at h) <;> omega
  · have hB1 : outA D cy b0 H1 g0 := (hq b0 (Array.getElem?_eq_some_iff.mp hB).1 hb0).trans hB
    show W p l e _ s m args below meth c H1 locs1 _ _ _ (F0 m (4 + 3) ls [.long (lI (anewR sg (iAt sg x))), .int (iI 0), .ref b0])
    refine wr_lastX (A0 := fun q => A q ∨ q = b0) hx hb hK hR1 hB1 hb0 (fun q h => Or.inl h) (Or.inr rfl) hS1 dL_sumAnew_7 (fun H2 locs2 hR2 hB2 hS2 => ?_)
    refine lv_goto (tgt := 14) hx hb dL_sumAnew_8 (by decide) ?_
    refine lv_iconst (v := iI (0)) hx hb dL_sumAnew_14 rfl ?_
    refine W.widen (k := 1) (n := 6) (by decide) (by decide) ?_
    obtain ⟨g2, hB2, hg2⟩ := hB2
    exact xm_i hx hb hr hlk hS2 dL_sumAnew_15 (by rw [hT]; rfl) ⟨ad, g2, fun _ _ _ => rfl, by rw [if_pos hT]; exact hR2, hB2, fun _ => hg2⟩
def hh_L_owed : List (Nat × Nat × Nat × Nat) := [(0, 8, 11, 13)]
theorem ms_L_owed : Cond.codeWith yL_owed cL_owed 4 (some .int) hh_L_owed ∈ wG ∧ Cond.static yL_owed ∈ wG ∧ Cond.initialized yL_owed.cls ∈ wG ∧ yL_owed.cls ≠ "java/lang/invoke/MethodHandle" ∧ yL_owed.cls ≠ "java/lang/invoke/VarHandle" ∧ (parseMethodDescriptor yL_owed.desc).map (fun d => d.parameters.length) = some 3 := ⟨kw_666, kw_665, kw_0, by decide, by decide, by decide +kernel⟩
set_option maxRecDepth 100000 in
set_option maxHeartbeats 4000000 in
theorem c_L_owed {l : Launch} {D : va_G} {cy : Nat → ClassId} {A : Nat → Prop} {ad : Nat → Int → Nat} {sg : Nat → Int → Int} {H : Heap} {b0 : Nat} {g0 : Nat → Int64} (hR : RC D cy A ad sg H) (hG : GC sg) (hl0 : l.stackTraces = false) (hA : ∀ q : Nat, H.size ≤ q → A q) (hB : outA D cy b0 H g0) (hb0 : ¬ A b0) (x : Int) (h_x : in32 x) : Met l yL_owed (Cond.codeWith yL_owed cL_owed 4 (some .int) hh_L_owed :: wG) (rmF 7 104 1 6) (PcW A D cy H [.ref (ad 4 0), .int (iI x), .ref b0]) (Qm (some (.int (iI (kWo [1] (iE sg x))))) (WP D cy A ad sg (sg) b0 (iE sg x) (owedO sg (iAt sg x))) (fun q => A q ∨ q = b0)) 1 6 (fun q => A q ∨ q = b0) := by
  refine wmet_of (la := [(0, .ref (ad 4 0)), (1, .int (iI x)), (2, .ref b0)]) (by decide) (Nat.le_of_ble_eq_true rfl) rfl ?_
  intro p e R s m args below meth c ls hRm hx hb hml hr hlk hxt hown hts hsH hK hX hN hl
  subst hRm
  have hown : s.vm.findClass "TakinghallLaw" = some m.cls := hown
  have hS : va_S (fun q => A q ∨ q = b0) s.heap H [] := by rw [hsH]; exact va_S.rf
  have hSA : va_S A s.heap H [] := by rw [hsH]; exact va_S.rf
  refine lv_aload_n hx hb dL_owed_0 rfl (lv_at hl 2 rfl) ?_
  refine lv_iconst (v := iI (0)) hx hb dL_owed_1 rfl ?_
  refine lv_aload_n hx hb dL_owed_2 rfl (lv_at hl 0 rfl) ?_
  refine lv_iload_n hx hb dL_owed_3 rfl (lv_at hl 1 rfl) ?_
  refine xk_T (xr_T (As := [.int (iI x)]) (rest := [.int (iI 0), .ref b0]) hx hb hml hown hts hK hX hSA (c_X4_owed hR hG hl0 hA x h_x) ms_X4_owed kw_667 (wr_recv hK hR (gd_4 hG) rfl rfl) ⟨by decide, by decide⟩ ⟨by decide, by decide⟩ rfl rfl hl.1 rfl (lv_room (Nat.le_of_ble_eq_true rfl)) dL_owed_4) hS (fun x hx1 => Or.inl hx1) (fun E cE q9 H1 locs1 hth1 hth3 hE hR1 hS1 hz hq hce hcv hcl => ?_) (fun H1 locs1 hT hR1 hS1 hz hq => ?_)
  · have hB1 : outA D cy b0 H1 g0 := (hq b0 (Array.getElem?_eq_some_iff.mp hB).1 hb0).trans hB
    rcases (show iE sg x = 1 ∨ iE sg x = 2 ∨ iE sg x = 3 by omega) with h | h | h
    · skip
      rw [h] at hE
      have hE2 : E = "java/lang/IndexOutOfBoundsException" := hE
      subst hE2
      refine vx_catch hown [] ⟨0, 8, 11, 13⟩ [] hxt (fun z hz => ?_) (by decide) (by decide) (hts _ kw_136) (va_Nw.use rfl (hX.1 _ (by simp [wNG]))) hce hcv hcl ?_
      · exact absurd hz List.not_mem_nil
      · refine lv_astore_n (i := 3) (lv' := [(3, .ref q9), (0, .ref (ad 4 0)), (1, .int (iI x)), (2, .ref b0)]) hx hb dL_owed_11 rfl hl (by decide) rfl (fun ls hl => ?_)
        refine lv_iconst (v := iI (1)) hx hb dL_owed_12 rfl ?_
        refine W.widen (k := 1) (n := 6) (by decide) (by decide) ?_
        exact xm_i hx hb hr hlk hS1 dL_owed_13 (by rw [h]; rfl) ⟨ad, g0, fun _ _ _ => rfl, by rw [h, if_neg (by decide)]; exact hR1, hB1, fun z => absurd (h.symm.trans z) (by decide)⟩
    · skip
      exfalso
      unfold iE at h
      (repeat' split at h) <;> omega
    · skip
      exfalso
      unfold iE at h
      (repeat' split at h) <;> omega
  · have hB1 : outA D cy b0 H1 g0 := (hq b0 (Array.getElem?_eq_some_iff.mp hB).1 hb0).trans hB
    show W p l e _ s m args below meth c H1 locs1 _ _ _ (F0 m (4 + 3) ls [.long (lI (owedO sg (iAt sg x))), .int (iI 0), .ref b0])
    refine wr_lastX (A0 := fun q => A q ∨ q = b0) hx hb hK hR1 hB1 hb0 (fun q h => Or.inl h) (Or.inr rfl) hS1 dL_owed_7 (fun H2 locs2 hR2 hB2 hS2 => ?_)
    refine lv_goto (tgt := 14) hx hb dL_owed_8 (by decide) ?_
    refine lv_iconst (v := iI (0)) hx hb dL_owed_14 rfl ?_
    refine W.widen (k := 1) (n := 6) (by decide) (by decide) ?_
    obtain ⟨g2, hB2, hg2⟩ := hB2
    exact xm_i hx hb hr hlk hS2 dL_owed_15 (by rw [hT]; rfl) ⟨ad, g2, fun _ _ _ => rfl, by rw [if_pos hT]; exact hR2, hB2, fun _ => hg2⟩
def hh_L_advance : List (Nat × Nat × Nat × Nat) := [(0, 8, 11, 13), (0, 8, 14, 17)]
theorem ms_L_advance : Cond.codeWith yL_advance cL_advance 4 (some .int) hh_L_advance ∈ wG ∧ Cond.static yL_advance ∈ wG ∧ Cond.initialized yL_advance.cls ∈ wG ∧ yL_advance.cls ≠ "java/lang/invoke/MethodHandle" ∧ yL_advance.cls ≠ "java/lang/invoke/VarHandle" ∧ (parseMethodDescriptor yL_advance.desc).map (fun d => d.parameters.length) = some 3 := ⟨kw_686, kw_685, kw_0, by decide, by decide, by decide +kernel⟩
set_option maxRecDepth 100000 in
set_option maxHeartbeats 4000000 in
theorem c_L_advance {l : Launch} {D : va_G} {cy : Nat → ClassId} {A : Nat → Prop} {ad : Nat → Int → Nat} {sg : Nat → Int → Int} {H : Heap} {b0 : Nat} {g0 : Nat → Int64} (hR : RC D cy A ad sg H) (hG : GC sg) (hl0 : l.stackTraces = false) (hA : ∀ q : Nat, H.size ≤ q → A q) (hB : outA D cy b0 H g0) (hb0 : ¬ A b0) (x : Int) (h_x : in32 x) : Met l yL_advance (Cond.codeWith yL_advance cL_advance 4 (some .int) hh_L_advance :: wG) (rmF 7 106 1 6) (PcW A D cy H [.ref (ad 4 0), .int (iI x), .ref b0]) (Qm (some (.int (iI (kWo [1, 3] (advE sg x))))) (WP D cy A ad sg (st (st (st sg 111 (iAt sg x) (sg 110 (iAt sg x) * 90 / 100)) 112 (iAt sg x) (sg 506 0)) 508 0 (sg 508 0 + sg 110 (iAt sg x) * 90 / 100)) b0 (advE sg x) (sg 110 (iAt sg x) * 90 / 100)) (fun q => A q ∨ q = b0)) 1 6 (fun q => A q ∨ q = b0) := by
  refine wmet_of (la := [(0, .ref (ad 4 0)), (1, .int (iI x)), (2, .ref b0)]) (by decide) (Nat.le_of_ble_eq_true rfl) rfl ?_
  intro p e R s m args below meth c ls hRm hx hb hml hr hlk hxt hown hts hsH hK hX hN hl
  subst hRm
  have hown : s.vm.findClass "TakinghallLaw" = some m.cls := hown
  have hS : va_S (fun q => A q ∨ q = b0) s.heap H [] := by rw [hsH]; exact va_S.rf
  have hSA : va_S A s.heap H [] := by rw [hsH]; exact va_S.rf
  refine lv_aload_n hx hb dL_advance_0 rfl (lv_at hl 2 rfl) ?_
  refine lv_iconst (v := iI (0)) hx hb dL_advance_1 rfl ?_
  refine lv_aload_n hx hb dL_advance_2 rfl (lv_at hl 0 rfl) ?_
  refine lv_iload_n hx hb dL_advance_3 rfl (lv_at hl 1 rfl) ?_
  refine xk_T (xr_T (As := [.int (iI x)]) (rest := [.int (iI 0), .ref b0]) hx hb hml hown hts hK hX hSA (c_X4_advance hR hG hl0 hA x h_x) ms_X4_advance kw_687 (wr_recv hK hR (gd_4 hG) rfl rfl) ⟨by decide, by decide⟩ ⟨by decide, by decide⟩ rfl rfl hl.1 rfl (lv_room (Nat.le_of_ble_eq_true rfl)) dL_advance_4) hS (fun x hx1 => Or.inl hx1) (fun E cE q9 H1 locs1 hth1 hth3 hE hR1 hS1 hz hq hce hcv hcl => ?_) (fun H1 locs1 hT hR1 hS1 hz hq => ?_)
  · have hB1 : outA D cy b0 H1 g0 := (hq b0 (Array.getElem?_eq_some_iff.mp hB).1 hb0).trans hB
    rcases (show advE sg x = 1 ∨ advE sg x = 2 ∨ advE sg x = 3 by omega) with h | h | h
    · skip
      rw [h] at hE
      have hE2 : E = "java/lang/IndexOutOfBoundsException" := hE
      subst hE2
      refine vx_catch hown [] ⟨0, 8, 11, 13⟩ [⟨0, 8, 14, 17⟩] hxt (fun z hz => ?_) (by decide) (by decide) (hts _ kw_136) (va_Nw.use rfl (hX.1 _ (by simp [wNG]))) hce hcv hcl ?_
      · exact absurd hz List.not_mem_nil
      · refine lv_astore_n (i := 3) (lv' := [(3, .ref q9), (0, .ref (ad 4 0)), (1, .int (iI x)), (2, .ref b0)]) hx hb dL_advance_11 rfl hl (by decide) rfl (fun ls hl => ?_)
        refine lv_iconst (v := iI (1)) hx hb dL_advance_12 rfl ?_
        refine W.widen (k := 1) (n := 6) (by decide) (by decide) ?_
        exact xm_i hx hb hr hlk hS1 dL_advance_13 (by rw [h]; rfl) ⟨ad, g0, fun _ _ _ => rfl, by rw [h, if_neg (by decide)]; exact hR1, hB1, fun z => absurd (h.symm.trans z) (by decide)⟩
    · skip
      exfalso
      unfold advE at h
      (repeat' split at h) <;> omega
    · skip
      rw [h] at hE
      have hE2 : E = "java/lang/IllegalStateException" := hE
      subst hE2
      refine vx_catch hown [⟨0, 8, 11, 13⟩] ⟨0, 8, 14, 17⟩ [] hxt (fun z hz => ?_) (by decide) (by decide) (hts _ kw_138) (va_Nw.use rfl (hX.1 _ (by simp [wNG]))) hce hcv hcl ?_
      · simp only [List.mem_cons, List.not_mem_nil, or_false] at hz
        subst hz
        exact Or.inr ⟨by decide, _, hts _ kw_136, hN.2.1⟩
      · refine lv_astore_n (i := 3) (lv' := [(3, .ref q9), (0, .ref (ad 4 0)), (1, .int (iI x)), (2, .ref b0)]) hx hb dL_advance_14 rfl hl (by decide) rfl (fun ls hl => ?_)
        refine lv_iconst (v := iI (2)) hx hb dL_advance_15 rfl ?_
        refine W.widen (k := 1) (n := 6) (by decide) (by decide) ?_
        exact xm_i hx hb hr hlk hS1 dL_advance_16 (by rw [h]; rfl) ⟨ad, g0, fun _ _ _ => rfl, by rw [h, if_neg (by decide)]; exact hR1, hB1, fun z => absurd (h.symm.trans z) (by decide)⟩
  · have hB1 : outA D cy b0 H1 g0 := (hq b0 (Array.getElem?_eq_some_iff.mp hB).1 hb0).trans hB
    show W p l e _ s m args below meth c H1 locs1 _ _ _ (F0 m (4 + 3) ls [.long (lI (sg 110 (iAt sg x) * 90 / 100)), .int (iI 0), .ref b0])
    refine wr_lastX (A0 := fun q => A q ∨ q = b0) hx hb hK hR1 hB1 hb0 (fun q h => Or.inl h) (Or.inr rfl) hS1 dL_advance_7 (fun H2 locs2 hR2 hB2 hS2 => ?_)
    refine lv_goto (tgt := 17) hx hb dL_advance_8 (by decide) ?_
    refine lv_iconst (v := iI (0)) hx hb dL_advance_17 rfl ?_
    refine W.widen (k := 1) (n := 6) (by decide) (by decide) ?_
    obtain ⟨g2, hB2, hg2⟩ := hB2
    exact xm_i hx hb hr hlk hS2 dL_advance_18 (by rw [hT]; rfl) ⟨ad, g2, fun _ _ _ => rfl, by rw [if_pos hT]; exact hR2, hB2, fun _ => hg2⟩
def hh_L_settle : List (Nat × Nat × Nat × Nat) := [(0, 8, 11, 13), (0, 8, 14, 17)]
theorem ms_L_settle : Cond.codeWith yL_settle cL_settle 4 (some .int) hh_L_settle ∈ wG ∧ Cond.static yL_settle ∈ wG ∧ Cond.initialized yL_settle.cls ∈ wG ∧ yL_settle.cls ≠ "java/lang/invoke/MethodHandle" ∧ yL_settle.cls ≠ "java/lang/invoke/VarHandle" ∧ (parseMethodDescriptor yL_settle.desc).map (fun d => d.parameters.length) = some 3 := ⟨kw_696, kw_695, kw_0, by decide, by decide, by decide +kernel⟩
set_option maxRecDepth 100000 in
set_option maxHeartbeats 4000000 in
theorem c_L_settle {l : Launch} {D : va_G} {cy : Nat → ClassId} {A : Nat → Prop} {ad : Nat → Int → Nat} {sg : Nat → Int → Int} {H : Heap} {b0 : Nat} {g0 : Nat → Int64} (hR : RC D cy A ad sg H) (hG : GC sg) (hl0 : l.stackTraces = false) (hA : ∀ q : Nat, H.size ≤ q → A q) (hB : outA D cy b0 H g0) (hb0 : ¬ A b0) (x : Int) (h_x : in32 x) : Met l yL_settle (Cond.codeWith yL_settle cL_settle 4 (some .int) hh_L_settle :: wG) (rmF 7 106 1 6) (PcW A D cy H [.ref (ad 4 0), .int (iI x), .ref b0]) (Qm (some (.int (iI (kWo [1, 3] (setE sg x))))) (WP D cy A ad sg (st (st (st sg 113 (iAt sg x) (owedO sg (iAt sg x))) 114 (iAt sg x) 1) 508 0 (sg 508 0 + owedO sg (iAt sg x))) b0 (setE sg x) (owedO sg (iAt sg x))) (fun q => A q ∨ q = b0)) 1 6 (fun q => A q ∨ q = b0) := by
  refine wmet_of (la := [(0, .ref (ad 4 0)), (1, .int (iI x)), (2, .ref b0)]) (by decide) (Nat.le_of_ble_eq_true rfl) rfl ?_
  intro p e R s m args below meth c ls hRm hx hb hml hr hlk hxt hown hts hsH hK hX hN hl
  subst hRm
  have hown : s.vm.findClass "TakinghallLaw" = some m.cls := hown
  have hS : va_S (fun q => A q ∨ q = b0) s.heap H [] := by rw [hsH]; exact va_S.rf
  have hSA : va_S A s.heap H [] := by rw [hsH]; exact va_S.rf
  refine lv_aload_n hx hb dL_settle_0 rfl (lv_at hl 2 rfl) ?_
  refine lv_iconst (v := iI (0)) hx hb dL_settle_1 rfl ?_
  refine lv_aload_n hx hb dL_settle_2 rfl (lv_at hl 0 rfl) ?_
  refine lv_iload_n hx hb dL_settle_3 rfl (lv_at hl 1 rfl) ?_
  refine xk_T (xr_T (As := [.int (iI x)]) (rest := [.int (iI 0), .ref b0]) hx hb hml hown hts hK hX hSA (c_X4_settle hR hG hl0 hA x h_x) ms_X4_settle kw_697 (wr_recv hK hR (gd_4 hG) rfl rfl) ⟨by decide, by decide⟩ ⟨by decide, by decide⟩ rfl rfl hl.1 rfl (lv_room (Nat.le_of_ble_eq_true rfl)) dL_settle_4) hS (fun x hx1 => Or.inl hx1) (fun E cE q9 H1 locs1 hth1 hth3 hE hR1 hS1 hz hq hce hcv hcl => ?_) (fun H1 locs1 hT hR1 hS1 hz hq => ?_)
  · have hB1 : outA D cy b0 H1 g0 := (hq b0 (Array.getElem?_eq_some_iff.mp hB).1 hb0).trans hB
    rcases (show setE sg x = 1 ∨ setE sg x = 2 ∨ setE sg x = 3 by omega) with h | h | h
    · skip
      rw [h] at hE
      have hE2 : E = "java/lang/IndexOutOfBoundsException" := hE
      subst hE2
      refine vx_catch hown [] ⟨0, 8, 11, 13⟩ [⟨0, 8, 14, 17⟩] hxt (fun z hz => ?_) (by decide) (by decide) (hts _ kw_136) (va_Nw.use rfl (hX.1 _ (by simp [wNG]))) hce hcv hcl ?_
      · exact absurd hz List.not_mem_nil
      · refine lv_astore_n (i := 3) (lv' := [(3, .ref q9), (0, .ref (ad 4 0)), (1, .int (iI x)), (2, .ref b0)]) hx hb dL_settle_11 rfl hl (by decide) rfl (fun ls hl => ?_)
        refine lv_iconst (v := iI (1)) hx hb dL_settle_12 rfl ?_
        refine W.widen (k := 1) (n := 6) (by decide) (by decide) ?_
        exact xm_i hx hb hr hlk hS1 dL_settle_13 (by rw [h]; rfl) ⟨ad, g0, fun _ _ _ => rfl, by rw [h, if_neg (by decide)]; exact hR1, hB1, fun z => absurd (h.symm.trans z) (by decide)⟩
    · skip
      exfalso
      unfold setE at h
      (repeat' split at h) <;> omega
    · skip
      rw [h] at hE
      have hE2 : E = "java/lang/IllegalStateException" := hE
      subst hE2
      refine vx_catch hown [⟨0, 8, 11, 13⟩] ⟨0, 8, 14, 17⟩ [] hxt (fun z hz => ?_) (by decide) (by decide) (hts _ kw_138) (va_Nw.use rfl (hX.1 _ (by simp [wNG]))) hce hcv hcl ?_
      · simp only [List.mem_cons, List.not_mem_nil, or_false] at hz
        subst hz
        exact Or.inr ⟨by decide, _, hts _ kw_136, hN.2.1⟩
      · refine lv_astore_n (i := 3) (lv' := [(3, .ref q9), (0, .ref (ad 4 0)), (1, .int (iI x)), (2, .ref b0)]) hx hb dL_settle_14 rfl hl (by decide) rfl (fun ls hl => ?_)
        refine lv_iconst (v := iI (2)) hx hb dL_settle_15 rfl ?_
        refine W.widen (k := 1) (n := 6) (by decide) (by decide) ?_
        exact xm_i hx hb hr hlk hS1 dL_settle_16 (by rw [h]; rfl) ⟨ad, g0, fun _ _ _ => rfl, by rw [h, if_neg (by decide)]; exact hR1, hB1, fun z => absurd (h.symm.trans z) (by decide)⟩
  · have hB1 : outA D cy b0 H1 g0 := (hq b0 (Array.getElem?_eq_some_iff.mp hB).1 hb0).trans hB
    show W p l e _ s m args below meth c H1 locs1 _ _ _ (F0 m (4 + 3) ls [.long (lI (owedO sg (iAt sg x))), .int (iI 0), .ref b0])
    refine wr_lastX (A0 := fun q => A q ∨ q = b0) hx hb hK hR1 hB1 hb0 (fun q h => Or.inl h) (Or.inr rfl) hS1 dL_settle_7 (fun H2 locs2 hR2 hB2 hS2 => ?_)
    refine lv_goto (tgt := 17) hx hb dL_settle_8 (by decide) ?_
    refine lv_iconst (v := iI (0)) hx hb dL_settle_17 rfl ?_
    refine W.widen (k := 1) (n := 6) (by decide) (by decide) ?_
    obtain ⟨g2, hB2, hg2⟩ := hB2
    exact xm_i hx hb hr hlk hS2 dL_settle_18 (by rw [hT]; rfl) ⟨ad, g2, fun _ _ _ => rfl, by rw [if_pos hT]; exact hR2, hB2, fun _ => hg2⟩
def hh_L_refuse : List (Nat × Nat × Nat × Nat) := [(0, 9, 12, 13), (0, 9, 15, 17)]
theorem ms_L_refuse : Cond.codeWith yL_refuse cL_refuse 4 (some .int) hh_L_refuse ∈ wG ∧ Cond.static yL_refuse ∈ wG ∧ Cond.initialized yL_refuse.cls ∈ wG ∧ yL_refuse.cls ≠ "java/lang/invoke/MethodHandle" ∧ yL_refuse.cls ≠ "java/lang/invoke/VarHandle" ∧ (parseMethodDescriptor yL_refuse.desc).map (fun d => d.parameters.length) = some 3 := ⟨kw_704, kw_703, kw_0, by decide, by decide, by decide +kernel⟩
set_option maxRecDepth 100000 in
set_option maxHeartbeats 4000000 in
theorem c_L_refuse {l : Launch} {D : va_G} {cy : Nat → ClassId} {A : Nat → Prop} {ad : Nat → Int → Nat} {sg : Nat → Int → Int} {H : Heap} {b0 : Nat} {g0 : Nat → Int64} (hR : RC D cy A ad sg H) (hG : GC sg) (hl0 : l.stackTraces = false) (hA : ∀ q : Nat, H.size ≤ q → A q) (hB : outA D cy b0 H g0) (hb0 : ¬ A b0) (x : Int) (h_x : in32 x) : Met l yL_refuse (Cond.codeWith yL_refuse cL_refuse 4 (some .int) hh_L_refuse :: wG) (rmF 7 105 1 6) (PcW A D cy H [.ref (ad 4 0), .int (iI x), .ref b0]) (Qm (some (.int (iI (kWo [1, 3] (offE sg x))))) (WP D cy A ad sg (offT sg (pAt x) (ownBeh sg (pAt x) (sg 209 (pAt x))) (sg 210 (pAt x))) b0 (offE sg x) (opt (ownBeh sg (pAt x) (sg 209 (pAt x))))) (fun q => A q ∨ q = b0)) 1 6 (fun q => A q ∨ q = b0) := by
  refine wmet_of (la := [(0, .ref (ad 4 0)), (1, .int (iI x)), (2, .ref b0)]) (by decide) (Nat.le_of_ble_eq_true rfl) rfl ?_
  intro p e R s m args below meth c ls hRm hx hb hml hr hlk hxt hown hts hsH hK hX hN hl
  subst hRm
  have hown : s.vm.findClass "TakinghallLaw" = some m.cls := hown
  have hS : va_S (fun q => A q ∨ q = b0) s.heap H [] := by rw [hsH]; exact va_S.rf
  have hSA : va_S A s.heap H [] := by rw [hsH]; exact va_S.rf
  refine lv_aload_n hx hb dL_refuse_0 rfl (lv_at hl 2 rfl) ?_
  refine lv_iconst (v := iI (0)) hx hb dL_refuse_1 rfl ?_
  refine lv_aload_n hx hb dL_refuse_2 rfl (lv_at hl 0 rfl) ?_
  refine lv_iload_n hx hb dL_refuse_3 rfl (lv_at hl 1 rfl) ?_
  refine xk_T (xr_T (As := [.int (iI x)]) (rest := [.int (iI 0), .ref b0]) hx hb hml hown hts hK hX hSA (c_X4_refuse hR hG hl0 hA x h_x) ms_X4_refuse kw_705 (wr_recv hK hR (gd_4 hG) rfl rfl) ⟨by decide, by decide⟩ ⟨by decide, by decide⟩ rfl rfl hl.1 rfl (lv_room (Nat.le_of_ble_eq_true rfl)) dL_refuse_4) hS (fun x hx1 => Or.inl hx1) (fun E cE q9 H1 locs1 hth1 hth3 hE hR1 hS1 hz hq hce hcv hcl => ?_) (fun H1 locs1 hT hR1 hS1 hz hq => ?_)
  · have hB1 : outA D cy b0 H1 g0 := (hq b0 (Array.getElem?_eq_some_iff.mp hB).1 hb0).trans hB
    rcases (show offE sg x = 1 ∨ offE sg x = 2 ∨ offE sg x = 3 by omega) with h | h | h
    · skip
      rw [h] at hE
      have hE2 : E = "java/lang/IndexOutOfBoundsException" := hE
      subst hE2
      refine vx_catch hown [] ⟨0, 9, 12, 13⟩ [⟨0, 9, 15, 17⟩] hxt (fun z hz => ?_) (by decide) (by decide) (hts _ kw_136) (va_Nw.use rfl (hX.1 _ (by simp [wNG]))) hce hcv hcl ?_
      · exact absurd hz List.not_mem_nil
      · refine lv_astore_n (i := 3) (lv' := [(3, .ref q9), (0, .ref (ad 4 0)), (1, .int (iI x)), (2, .ref b0)]) hx hb dL_refuse_12 rfl hl (by decide) rfl (fun ls hl => ?_)
        refine lv_iconst (v := iI (1)) hx hb dL_refuse_13 rfl ?_
        refine W.widen (k := 1) (n := 6) (by decide) (by decide) ?_
        exact xm_i hx hb hr hlk hS1 dL_refuse_14 (by rw [h]; rfl) ⟨ad, g0, fun _ _ _ => rfl, by rw [h, if_neg (by decide)]; exact hR1, hB1, fun z => absurd (h.symm.trans z) (by decide)⟩
    · skip
      exfalso
      unfold offE at h
      (repeat' split at h) <;> omega
    · skip
      rw [h] at hE
      have hE2 : E = "java/lang/IllegalStateException" := hE
      subst hE2
      refine vx_catch hown [⟨0, 9, 12, 13⟩] ⟨0, 9, 15, 17⟩ [] hxt (fun z hz => ?_) (by decide) (by decide) (hts _ kw_138) (va_Nw.use rfl (hX.1 _ (by simp [wNG]))) hce hcv hcl ?_
      · simp only [List.mem_cons, List.not_mem_nil, or_false] at hz
        subst hz
        exact Or.inr ⟨by decide, _, hts _ kw_136, hN.2.1⟩
      · refine lv_astore_n (i := 3) (lv' := [(3, .ref q9), (0, .ref (ad 4 0)), (1, .int (iI x)), (2, .ref b0)]) hx hb dL_refuse_15 rfl hl (by decide) rfl (fun ls hl => ?_)
        refine lv_iconst (v := iI (2)) hx hb dL_refuse_16 rfl ?_
        refine W.widen (k := 1) (n := 6) (by decide) (by decide) ?_
        exact xm_i hx hb hr hlk hS1 dL_refuse_17 (by rw [h]; rfl) ⟨ad, g0, fun _ _ _ => rfl, by rw [h, if_neg (by decide)]; exact hR1, hB1, fun z => absurd (h.symm.trans z) (by decide)⟩
  · have hB1 : outA D cy b0 H1 g0 := (hq b0 (Array.getElem?_eq_some_iff.mp hB).1 hb0).trans hB
    show W p l e _ s m args below meth c H1 locs1 _ _ _ (F0 m (4 + 3) ls [.int (iI (opt (ownBeh sg (pAt x) (sg 209 (pAt x))))), .int (iI 0), .ref b0])
    refine xr_i2l hx hb dL_refuse_7 (by have z0 := ownBeh_rng hG (pAt x) (sg 209 (pAt x)); have z1 := gr_503 hG 0; unfold opt; split <;> omega) ?_
    refine wr_lastX (A0 := fun q => A q ∨ q = b0) hx hb hK hR1 hB1 hb0 (fun q h => Or.inl h) (Or.inr rfl) hS1 dL_refuse_8 (fun H2 locs2 hR2 hB2 hS2 => ?_)
    refine lv_goto (tgt := 18) hx hb dL_refuse_9 (by decide) ?_
    refine lv_iconst (v := iI (0)) hx hb dL_refuse_18 rfl ?_
    refine W.widen (k := 1) (n := 6) (by decide) (by decide) ?_
    obtain ⟨g2, hB2, hg2⟩ := hB2
    exact xm_i hx hb hr hlk hS2 dL_refuse_19 (by rw [hT]; rfl) ⟨ad, g2, fun _ _ _ => rfl, by rw [if_pos hT]; exact hR2, hB2, fun _ => hg2⟩
def hh_L_accept : List (Nat × Nat × Nat × Nat) := [(0, 9, 12, 13), (0, 9, 15, 17)]
theorem ms_L_accept : Cond.codeWith yL_accept cL_accept 4 (some .int) hh_L_accept ∈ wG ∧ Cond.static yL_accept ∈ wG ∧ Cond.initialized yL_accept.cls ∈ wG ∧ yL_accept.cls ≠ "java/lang/invoke/MethodHandle" ∧ yL_accept.cls ≠ "java/lang/invoke/VarHandle" ∧ (parseMethodDescriptor yL_accept.desc).map (fun d => d.parameters.length) = some 3 := ⟨kw_712, kw_711, kw_0, by decide, by decide, by decide +kernel⟩
set_option maxRecDepth 100000 in
set_option maxHeartbeats 4000000 in
theorem c_L_accept {l : Launch} {D : va_G} {cy : Nat → ClassId} {A : Nat → Prop} {ad : Nat → Int → Nat} {sg : Nat → Int → Int} {H : Heap} {b0 : Nat} {g0 : Nat → Int64} (hR : RC D cy A ad sg H) (hG : GC sg) (hl0 : l.stackTraces = false) (hA : ∀ q : Nat, H.size ≤ q → A q) (hB : outA D cy b0 H g0) (hb0 : ¬ A b0) (x : Int) (h_x : in32 x) : Met l yL_accept (Cond.codeWith yL_accept cL_accept 4 (some .int) hh_L_accept :: wG) (rmF 7 105 1 6) (PcW A D cy H [.ref (ad 4 0), .int (iI x), .ref b0]) (Qm (some (.int (iI (kWo [1, 3] (offE sg x))))) (WP D cy A ad sg (st (offT (st sg 203 (pAt x) 2) (pAt x) (-1) 0) 510 0 (sg 510 0 + sg 210 (pAt x))) b0 (offE sg x) (sg 210 (pAt x))) (fun q => A q ∨ q = b0)) 1 6 (fun q => A q ∨ q = b0) := by
  refine wmet_of (la := [(0, .ref (ad 4 0)), (1, .int (iI x)), (2, .ref b0)]) (by decide) (Nat.le_of_ble_eq_true rfl) rfl ?_
  intro p e R s m args below meth c ls hRm hx hb hml hr hlk hxt hown hts hsH hK hX hN hl
  subst hRm
  have hown : s.vm.findClass "TakinghallLaw" = some m.cls := hown
  have hS : va_S (fun q => A q ∨ q = b0) s.heap H [] := by rw [hsH]; exact va_S.rf
  have hSA : va_S A s.heap H [] := by rw [hsH]; exact va_S.rf
  refine lv_aload_n hx hb dL_accept_0 rfl (lv_at hl 2 rfl) ?_
  refine lv_iconst (v := iI (0)) hx hb dL_accept_1 rfl ?_
  refine lv_aload_n hx hb dL_accept_2 rfl (lv_at hl 0 rfl) ?_
  refine lv_iload_n hx hb dL_accept_3 rfl (lv_at hl 1 rfl) ?_
  refine xk_T (xr_T (As := [.int (iI x)]) (rest := [.int (iI 0), .ref b0]) hx hb hml hown hts hK hX hSA (c_X4_accept hR hG hl0 hA x h_x) ms_X4_accept kw_713 (wr_recv hK hR (gd_4 hG) rfl rfl) ⟨by decide, by decide⟩ ⟨by decide, by decide⟩ rfl rfl hl.1 rfl (lv_room (Nat.le_of_ble_eq_true rfl)) dL_accept_4) hS (fun x hx1 => Or.inl hx1) (fun E cE q9 H1 locs1 hth1 hth3 hE hR1 hS1 hz hq hce hcv hcl => ?_) (fun H1 locs1 hT hR1 hS1 hz hq => ?_)
  · have hB1 : outA D cy b0 H1 g0 := (hq b0 (Array.getElem?_eq_some_iff.mp hB).1 hb0).trans hB
    rcases (show offE sg x = 1 ∨ offE sg x = 2 ∨ offE sg x = 3 by omega) with h | h | h
    · skip
      rw [h] at hE
      have hE2 : E = "java/lang/IndexOutOfBoundsException" := hE
      subst hE2
      refine vx_catch hown [] ⟨0, 9, 12, 13⟩ [⟨0, 9, 15, 17⟩] hxt (fun z hz => ?_) (by decide) (by decide) (hts _ kw_136) (va_Nw.use rfl (hX.1 _ (by simp [wNG]))) hce hcv hcl ?_
      · exact absurd hz List.not_mem_nil
      · refine lv_astore_n (i := 3) (lv' := [(3, .ref q9), (0, .ref (ad 4 0)), (1, .int (iI x)), (2, .ref b0)]) hx hb dL_accept_12 rfl hl (by decide) rfl (fun ls hl => ?_)
        refine lv_iconst (v := iI (1)) hx hb dL_accept_13 rfl ?_
        refine W.widen (k := 1) (n := 6) (by decide) (by decide) ?_
        exact xm_i hx hb hr hlk hS1 dL_accept_14 (by rw [h]; rfl) ⟨ad, g0, fun _ _ _ => rfl, by rw [h, if_neg (by decide)]; exact hR1, hB1, fun z => absurd (h.symm.trans z) (by decide)⟩
    · skip
      exfalso
      unfold offE at h
      (repeat' split at h) <;> omega
    · skip
      rw [h] at hE
      have hE2 : E = "java/lang/IllegalStateException" := hE
      subst hE2
      refine vx_catch hown [⟨0, 9, 12, 13⟩] ⟨0, 9, 15, 17⟩ [] hxt (fun z hz => ?_) (by decide) (by decide) (hts _ kw_138) (va_Nw.use rfl (hX.1 _ (by simp [wNG]))) hce hcv hcl ?_
      · simp only [List.mem_cons, List.not_mem_nil, or_false] at hz
        subst hz
        exact Or.inr ⟨by decide, _, hts _ kw_136, hN.2.1⟩
      · refine lv_astore_n (i := 3) (lv' := [(3, .ref q9), (0, .ref (ad 4 0)), (1, .int (iI x)), (2, .ref b0)]) hx hb dL_accept_15 rfl hl (by decide) rfl (fun ls hl => ?_)
        refine lv_iconst (v := iI (2)) hx hb dL_accept_16 rfl ?_
        refine W.widen (k := 1) (n := 6) (by decide) (by decide) ?_
        exact xm_i hx hb hr hlk hS1 dL_accept_17 (by rw [h]; rfl) ⟨ad, g0, fun _ _ _ => rfl, by rw [h, if_neg (by decide)]; exact hR1, hB1, fun z => absurd (h.symm.trans z) (by decide)⟩
  · have hB1 : outA D cy b0 H1 g0 := (hq b0 (Array.getElem?_eq_some_iff.mp hB).1 hb0).trans hB
    show W p l e _ s m args below meth c H1 locs1 _ _ _ (F0 m (4 + 3) ls [.int (iI (sg 210 (pAt x))), .int (iI 0), .ref b0])
    refine xr_i2l hx hb dL_accept_7 (by have z0 := gr_210 hG (pAt x); omega) ?_
    refine wr_lastX (A0 := fun q => A q ∨ q = b0) hx hb hK hR1 hB1 hb0 (fun q h => Or.inl h) (Or.inr rfl) hS1 dL_accept_8 (fun H2 locs2 hR2 hB2 hS2 => ?_)
    refine lv_goto (tgt := 18) hx hb dL_accept_9 (by decide) ?_
    refine lv_iconst (v := iI (0)) hx hb dL_accept_18 rfl ?_
    refine W.widen (k := 1) (n := 6) (by decide) (by decide) ?_
    obtain ⟨g2, hB2, hg2⟩ := hB2
    exact xm_i hx hb hr hlk hS2 dL_accept_19 (by rw [hT]; rfl) ⟨ad, g2, fun _ _ _ => rfl, by rw [if_pos hT]; exact hR2, hB2, fun _ => hg2⟩
def hh_L_pass : List (Nat × Nat × Nat × Nat) := [(0, 9, 12, 15), (0, 9, 15, 17)]
theorem ms_L_pass : Cond.codeWith yL_pass cL_pass 4 (some .int) hh_L_pass ∈ wG ∧ Cond.static yL_pass ∈ wG ∧ Cond.initialized yL_pass.cls ∈ wG ∧ yL_pass.cls ≠ "java/lang/invoke/MethodHandle" ∧ yL_pass.cls ≠ "java/lang/invoke/VarHandle" ∧ (parseMethodDescriptor yL_pass.desc).map (fun d => d.parameters.length) = some 3 := ⟨kw_719, kw_718, kw_0, by decide, by decide, by decide +kernel⟩
set_option maxRecDepth 100000 in
set_option maxHeartbeats 4000000 in
theorem c_L_pass {l : Launch} {D : va_G} {cy : Nat → ClassId} {A : Nat → Prop} {ad : Nat → Int → Nat} {sg : Nat → Int → Int} {H : Heap} {b0 : Nat} {g0 : Nat → Int64} (hR : RC D cy A ad sg H) (hG : GC sg) (hl0 : l.stackTraces = false) (hA : ∀ q : Nat, H.size ≤ q → A q) (hB : outA D cy b0 H g0) (hb0 : ¬ A b0) (d : Int) (h_d : in32 d) : Met l yL_pass (Cond.codeWith yL_pass cL_pass 4 (some .int) hh_L_pass :: wG) (rmF 7 103 1 6) (PcW A D cy H [.ref (ad 4 0), .int (iI d), .ref b0]) (Qm (some (.int (iI (kWo [2, 3] (passE sg d))))) (WP D cy A ad sg (st sg 506 0 (sg 506 0 + d)) b0 (passE sg d) (sg 506 0 + d)) (fun q => A q ∨ q = b0)) 1 6 (fun q => A q ∨ q = b0) := by
  refine wmet_of (la := [(0, .ref (ad 4 0)), (1, .int (iI d)), (2, .ref b0)]) (by decide) (Nat.le_of_ble_eq_true rfl) rfl ?_
  intro p e R s m args below meth c ls hRm hx hb hml hr hlk hxt hown hts hsH hK hX hN hl
  subst hRm
  have hown : s.vm.findClass "TakinghallLaw" = some m.cls := hown
  have hS : va_S (fun q => A q ∨ q = b0) s.heap H [] := by rw [hsH]; exact va_S.rf
  have hSA : va_S A s.heap H [] := by rw [hsH]; exact va_S.rf
  refine lv_aload_n hx hb dL_pass_0 rfl (lv_at hl 2 rfl) ?_
  refine lv_iconst (v := iI (0)) hx hb dL_pass_1 rfl ?_
  refine lv_aload_n hx hb dL_pass_2 rfl (lv_at hl 0 rfl) ?_
  refine lv_iload_n hx hb dL_pass_3 rfl (lv_at hl 1 rfl) ?_
  refine xk_T (xr_T (As := [.int (iI d)]) (rest := [.int (iI 0), .ref b0]) hx hb hml hown hts hK hX hSA (c_X4_pass hR hG hl0 hA d h_d) ms_X4_pass kw_720 (wr_recv hK hR (gd_4 hG) rfl rfl) ⟨by decide, by decide⟩ ⟨by decide, by decide⟩ rfl rfl hl.1 rfl (lv_room (Nat.le_of_ble_eq_true rfl)) dL_pass_4) hS (fun x hx1 => Or.inl hx1) (fun E cE q9 H1 locs1 hth1 hth3 hE hR1 hS1 hz hq hce hcv hcl => ?_) (fun H1 locs1 hT hR1 hS1 hz hq => ?_)
  · have hB1 : outA D cy b0 H1 g0 := (hq b0 (Array.getElem?_eq_some_iff.mp hB).1 hb0).trans hB
    rcases (show passE sg d = 1 ∨ passE sg d = 2 ∨ passE sg d = 3 by omega) with h | h | h
    · skip
      exfalso
      unfold passE at h
      (repeat' split at h) <;> omega
    · skip
      rw [h] at hE
      have hE2 : E = "java/lang/IllegalArgumentException" := hE
      subst hE2
      refine vx_catch hown [] ⟨0, 9, 12, 15⟩ [⟨0, 9, 15, 17⟩] hxt (fun z hz => ?_) (by decide) (by decide) (hts _ kw_137) (va_Nw.use rfl (hX.1 _ (by simp [wNG]))) hce hcv hcl ?_
      · exact absurd hz List.not_mem_nil
      · refine lv_astore_n (i := 3) (lv' := [(3, .ref q9), (0, .ref (ad 4 0)), (1, .int (iI d)), (2, .ref b0)]) hx hb dL_pass_12 rfl hl (by decide) rfl (fun ls hl => ?_)
        refine lv_iconst (v := iI (1)) hx hb dL_pass_13 rfl ?_
        refine W.widen (k := 1) (n := 6) (by decide) (by decide) ?_
        exact xm_i hx hb hr hlk hS1 dL_pass_14 (by rw [h]; rfl) ⟨ad, g0, fun _ _ _ => rfl, by rw [h, if_neg (by decide)]; exact hR1, hB1, fun z => absurd (h.symm.trans z) (by decide)⟩
    · skip
      rw [h] at hE
      have hE2 : E = "java/lang/IllegalStateException" := hE
      subst hE2
      refine vx_catch hown [⟨0, 9, 12, 15⟩] ⟨0, 9, 15, 17⟩ [] hxt (fun z hz => ?_) (by decide) (by decide) (hts _ kw_138) (va_Nw.use rfl (hX.1 _ (by simp [wNG]))) hce hcv hcl ?_
      · simp only [List.mem_cons, List.not_mem_nil, or_false] at hz
        subst hz
        exact Or.inr ⟨by decide, _, hts _ kw_137, hN.2.2⟩
      · refine lv_astore_n (i := 3) (lv' := [(3, .ref q9), (0, .ref (ad 4 0)), (1, .int (iI d)), (2, .ref b0)]) hx hb dL_pass_15 rfl hl (by decide) rfl (fun ls hl => ?_)
        refine lv_iconst (v := iI (2)) hx hb dL_pass_16 rfl ?_
        refine W.widen (k := 1) (n := 6) (by decide) (by decide) ?_
        exact xm_i hx hb hr hlk hS1 dL_pass_17 (by rw [h]; rfl) ⟨ad, g0, fun _ _ _ => rfl, by rw [h, if_neg (by decide)]; exact hR1, hB1, fun z => absurd (h.symm.trans z) (by decide)⟩
  · have hB1 : outA D cy b0 H1 g0 := (hq b0 (Array.getElem?_eq_some_iff.mp hB).1 hb0).trans hB
    show W p l e _ s m args below meth c H1 locs1 _ _ _ (F0 m (4 + 3) ls [.int (iI (sg 506 0 + d)), .int (iI 0), .ref b0])
    refine xr_i2l hx hb dL_pass_7 (by have z0 := gr_506 hG 0; unfold passE at hT; (repeat' split at hT) <;> omega) ?_
    refine wr_lastX (A0 := fun q => A q ∨ q = b0) hx hb hK hR1 hB1 hb0 (fun q h => Or.inl h) (Or.inr rfl) hS1 dL_pass_8 (fun H2 locs2 hR2 hB2 hS2 => ?_)
    refine lv_goto (tgt := 18) hx hb dL_pass_9 (by decide) ?_
    refine lv_iconst (v := iI (0)) hx hb dL_pass_18 rfl ?_
    refine W.widen (k := 1) (n := 6) (by decide) (by decide) ?_
    obtain ⟨g2, hB2, hg2⟩ := hB2
    exact xm_i hx hb hr hlk hS2 dL_pass_19 (by rw [hT]; rfl) ⟨ad, g2, fun _ _ _ => rfl, by rw [if_pos hT]; exact hR2, hB2, fun _ => hg2⟩
def hh_L_total : List (Nat × Nat × Nat × Nat) := [(0, 8, 11, 15)]
theorem ms_L_total : Cond.codeWith yL_total cL_total 4 (some .int) hh_L_total ∈ wG ∧ Cond.static yL_total ∈ wG ∧ Cond.initialized yL_total.cls ∈ wG ∧ yL_total.cls ≠ "java/lang/invoke/MethodHandle" ∧ yL_total.cls ≠ "java/lang/invoke/VarHandle" ∧ (parseMethodDescriptor yL_total.desc).map (fun d => d.parameters.length) = some 3 := ⟨kw_728, kw_727, kw_0, by decide, by decide, by decide +kernel⟩
set_option maxRecDepth 100000 in
set_option maxHeartbeats 4000000 in
theorem c_L_total {l : Launch} {D : va_G} {cy : Nat → ClassId} {A : Nat → Prop} {ad : Nat → Int → Nat} {sg : Nat → Int → Int} {H : Heap} {b0 : Nat} {g0 : Nat → Int64} (hR : RC D cy A ad sg H) (hG : GC sg) (hl0 : l.stackTraces = false) (hA : ∀ q : Nat, H.size ≤ q → A q) (hB : outA D cy b0 H g0) (hb0 : ¬ A b0) (w : Int) (h_w : in32 w) : Met l yL_total (Cond.codeWith yL_total cL_total 4 (some .int) hh_L_total :: wG) (rmF 7 103 1 6) (PcW A D cy H [.ref (ad 4 0), .int (iI w), .ref b0]) (Qm (some (.int (iI (kWo [2] (totalE w))))) (WP D cy A ad sg (sg) b0 (totalE w) (totalR sg w)) (fun q => A q ∨ q = b0)) 1 6 (fun q => A q ∨ q = b0) := by
  refine wmet_of (la := [(0, .ref (ad 4 0)), (1, .int (iI w)), (2, .ref b0)]) (by decide) (Nat.le_of_ble_eq_true rfl) rfl ?_
  intro p e R s m args below meth c ls hRm hx hb hml hr hlk hxt hown hts hsH hK hX hN hl
  subst hRm
  have hown : s.vm.findClass "TakinghallLaw" = some m.cls := hown
  have hS : va_S (fun q => A q ∨ q = b0) s.heap H [] := by rw [hsH]; exact va_S.rf
  have hSA : va_S A s.heap H [] := by rw [hsH]; exact va_S.rf
  refine lv_aload_n hx hb dL_total_0 rfl (lv_at hl 2 rfl) ?_
  refine lv_iconst (v := iI (0)) hx hb dL_total_1 rfl ?_
  refine lv_aload_n hx hb dL_total_2 rfl (lv_at hl 0 rfl) ?_
  refine lv_iload_n hx hb dL_total_3 rfl (lv_at hl 1 rfl) ?_
  refine xk_T (xr_T (As := [.int (iI w)]) (rest := [.int (iI 0), .ref b0]) hx hb hml hown hts hK hX hSA (c_X4_total hR hG hl0 hA w h_w) ms_X4_total kw_729 (wr_recv hK hR (gd_4 hG) rfl rfl) ⟨by decide, by decide⟩ ⟨by decide, by decide⟩ rfl rfl hl.1 rfl (lv_room (Nat.le_of_ble_eq_true rfl)) dL_total_4) hS (fun x hx1 => Or.inl hx1) (fun E cE q9 H1 locs1 hth1 hth3 hE hR1 hS1 hz hq hce hcv hcl => ?_) (fun H1 locs1 hT hR1 hS1 hz hq => ?_)
  · have hB1 : outA D cy b0 H1 g0 := (hq b0 (Array.getElem?_eq_some_iff.mp hB).1 hb0).trans hB
    rcases (show totalE w = 1 ∨ totalE w = 2 ∨ totalE w = 3 by omega) with h | h | h
    · skip
      exfalso
      unfold totalE at h
      (repeat' split at h) <;> omega
    · skip
      rw [h] at hE
      have hE2 : E = "java/lang/IllegalArgumentException" := hE
      subst hE2
      refine vx_catch hown [] ⟨0, 8, 11, 15⟩ [] hxt (fun z hz => ?_) (by decide) (by decide) (hts _ kw_137) (va_Nw.use rfl (hX.1 _ (by simp [wNG]))) hce hcv hcl ?_
      · exact absurd hz List.not_mem_nil
      · refine lv_astore_n (i := 3) (lv' := [(3, .ref q9), (0, .ref (ad 4 0)), (1, .int (iI w)), (2, .ref b0)]) hx hb dL_total_11 rfl hl (by decide) rfl (fun ls hl => ?_)
        refine lv_iconst (v := iI (1)) hx hb dL_total_12 rfl ?_
        refine W.widen (k := 1) (n := 6) (by decide) (by decide) ?_
        exact xm_i hx hb hr hlk hS1 dL_total_13 (by rw [h]; rfl) ⟨ad, g0, fun _ _ _ => rfl, by rw [h, if_neg (by decide)]; exact hR1, hB1, fun z => absurd (h.symm.trans z) (by decide)⟩
    · skip
      exfalso
      unfold totalE at h
      (repeat' split at h) <;> omega
  · have hB1 : outA D cy b0 H1 g0 := (hq b0 (Array.getElem?_eq_some_iff.mp hB).1 hb0).trans hB
    show W p l e _ s m args below meth c H1 locs1 _ _ _ (F0 m (4 + 3) ls [.long (lI (totalR sg w)), .int (iI 0), .ref b0])
    refine wr_lastX (A0 := fun q => A q ∨ q = b0) hx hb hK hR1 hB1 hb0 (fun q h => Or.inl h) (Or.inr rfl) hS1 dL_total_7 (fun H2 locs2 hR2 hB2 hS2 => ?_)
    refine lv_goto (tgt := 14) hx hb dL_total_8 (by decide) ?_
    refine lv_iconst (v := iI (0)) hx hb dL_total_14 rfl ?_
    refine W.widen (k := 1) (n := 6) (by decide) (by decide) ?_
    obtain ⟨g2, hB2, hg2⟩ := hB2
    exact xm_i hx hb hr hlk hS2 dL_total_15 (by rw [hT]; rfl) ⟨ad, g2, fun _ _ _ => rfl, by rw [if_pos hT]; exact hR2, hB2, fun _ => hg2⟩
def hh_L_creditors : List (Nat × Nat × Nat × Nat) := [(0, 9, 12, 13)]
theorem ms_L_creditors : Cond.codeWith yL_creditors cL_creditors 4 (some .int) hh_L_creditors ∈ wG ∧ Cond.static yL_creditors ∈ wG ∧ Cond.initialized yL_creditors.cls ∈ wG ∧ yL_creditors.cls ≠ "java/lang/invoke/MethodHandle" ∧ yL_creditors.cls ≠ "java/lang/invoke/VarHandle" ∧ (parseMethodDescriptor yL_creditors.desc).map (fun d => d.parameters.length) = some 3 := ⟨kw_735, kw_734, kw_0, by decide, by decide, by decide +kernel⟩
set_option maxRecDepth 100000 in
set_option maxHeartbeats 4000000 in
theorem c_L_creditors {l : Launch} {D : va_G} {cy : Nat → ClassId} {A : Nat → Prop} {ad : Nat → Int → Nat} {sg : Nat → Int → Int} {H : Heap} {b0 : Nat} {g0 : Nat → Int64} (hR : RC D cy A ad sg H) (hG : GC sg) (hl0 : l.stackTraces = false) (hA : ∀ q : Nat, H.size ≤ q → A q) (hB : outA D cy b0 H g0) (hb0 : ¬ A b0) (u : Int) (h_u : in32 u) : Met l yL_creditors (Cond.codeWith yL_creditors cL_creditors 4 (some .int) hh_L_creditors :: wG) (rmF 7 108 1 6) (PcW A D cy H [.ref (ad 4 0), .int (iI u), .ref b0]) (Qm (some (.int (iI (kWo [1] (credE u))))) (WP D cy A ad sg (sg) b0 (credE u) (credR sg u)) (fun q => A q ∨ q = b0)) 1 6 (fun q => A q ∨ q = b0) := by
  refine wmet_of (la := [(0, .ref (ad 4 0)), (1, .int (iI u)), (2, .ref b0)]) (by decide) (Nat.le_of_ble_eq_true rfl) rfl ?_
  intro p e R s m args below meth c ls hRm hx hb hml hr hlk hxt hown hts hsH hK hX hN hl
  subst hRm
  have hown : s.vm.findClass "TakinghallLaw" = some m.cls := hown
  have hS : va_S (fun q => A q ∨ q = b0) s.heap H [] := by rw [hsH]; exact va_S.rf
  have hSA : va_S A s.heap H [] := by rw [hsH]; exact va_S.rf
  refine lv_aload_n hx hb dL_creditors_0 rfl (lv_at hl 2 rfl) ?_
  refine lv_iconst (v := iI (0)) hx hb dL_creditors_1 rfl ?_
  refine lv_aload_n hx hb dL_creditors_2 rfl (lv_at hl 0 rfl) ?_
  refine lv_iload_n hx hb dL_creditors_3 rfl (lv_at hl 1 rfl) ?_
  refine xk_T (xr_T (As := [.int (iI u)]) (rest := [.int (iI 0), .ref b0]) hx hb hml hown hts hK hX hSA (c_X4_creditors hR hG hl0 hA u h_u) ms_X4_creditors kw_736 (wr_recv hK hR (gd_4 hG) rfl rfl) ⟨by decide, by decide⟩ ⟨by decide, by decide⟩ rfl rfl hl.1 rfl (lv_room (Nat.le_of_ble_eq_true rfl)) dL_creditors_4) hS (fun x hx1 => Or.inl hx1) (fun E cE q9 H1 locs1 hth1 hth3 hE hR1 hS1 hz hq hce hcv hcl => ?_) (fun H1 locs1 hT hR1 hS1 hz hq => ?_)
  · have hB1 : outA D cy b0 H1 g0 := (hq b0 (Array.getElem?_eq_some_iff.mp hB).1 hb0).trans hB
    rcases (show credE u = 1 ∨ credE u = 2 ∨ credE u = 3 by omega) with h | h | h
    · skip
      rw [h] at hE
      have hE2 : E = "java/lang/IndexOutOfBoundsException" := hE
      subst hE2
      refine vx_catch hown [] ⟨0, 9, 12, 13⟩ [] hxt (fun z hz => ?_) (by decide) (by decide) (hts _ kw_136) (va_Nw.use rfl (hX.1 _ (by simp [wNG]))) hce hcv hcl ?_
      · exact absurd hz List.not_mem_nil
      · refine lv_astore_n (i := 3) (lv' := [(3, .ref q9), (0, .ref (ad 4 0)), (1, .int (iI u)), (2, .ref b0)]) hx hb dL_creditors_12 rfl hl (by decide) rfl (fun ls hl => ?_)
        refine lv_iconst (v := iI (1)) hx hb dL_creditors_13 rfl ?_
        refine W.widen (k := 1) (n := 6) (by decide) (by decide) ?_
        exact xm_i hx hb hr hlk hS1 dL_creditors_14 (by rw [h]; rfl) ⟨ad, g0, fun _ _ _ => rfl, by rw [h, if_neg (by decide)]; exact hR1, hB1, fun z => absurd (h.symm.trans z) (by decide)⟩
    · skip
      exfalso
      unfold credE at h
      (repeat' split at h) <;> omega
    · skip
      exfalso
      unfold credE at h
      (repeat' split at h) <;> omega
  · have hB1 : outA D cy b0 H1 g0 := (hq b0 (Array.getElem?_eq_some_iff.mp hB).1 hb0).trans hB
    show W p l e _ s m args below meth c H1 locs1 _ _ _ (F0 m (4 + 3) ls [.int (iI (credR sg u)), .int (iI 0), .ref b0])
    refine xr_i2l hx hb dL_creditors_7 (by have z0 := sum_b (f := fun q => bI (q < sg 503 0 ∧ sg 103 q = u ∧ 0 < owedO sg q)) (M := 1) (fun i => bI_in _) 24; unfold credR; omega) ?_
    refine wr_lastX (A0 := fun q => A q ∨ q = b0) hx hb hK hR1 hB1 hb0 (fun q h => Or.inl h) (Or.inr rfl) hS1 dL_creditors_8 (fun H2 locs2 hR2 hB2 hS2 => ?_)
    refine lv_goto (tgt := 15) hx hb dL_creditors_9 (by decide) ?_
    refine lv_iconst (v := iI (0)) hx hb dL_creditors_15 rfl ?_
    refine W.widen (k := 1) (n := 6) (by decide) (by decide) ?_
    obtain ⟨g2, hB2, hg2⟩ := hB2
    exact xm_i hx hb hr hlk hS2 dL_creditors_16 (by rw [hT]; rfl) ⟨ad, g2, fun _ _ _ => rfl, by rw [if_pos hT]; exact hR2, hB2, fun _ => hg2⟩
