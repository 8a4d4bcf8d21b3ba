theorem ms_X4_plot : MVi RX4 yX4_plot cX4_plot 6 (some .int) 3 := ⟨kw_131, kw_129, kw_130, kw_1, rfl, by decide, by decide, by decide +kernel⟩
set_option maxRecDepth 100000 in
set_option maxHeartbeats 4000000 in
theorem c_X4_plot {l : Launch} {D : va_G} {cy : Nat → ClassId} {A : Nat → Prop} {ad : Nat → Int → Nat} {sg : Nat → Int → Int} {H : Heap} (hR : RC D cy A ad sg H) (hG : GC sg) (hl0 : l.stackTraces = false) (hA : ∀ q : Nat, H.size ≤ q → A q) (x : Int) (a : Int) (u : Int) (h_x : in32 x) (h_a : in32 a) (h_u : in32 u) : vx_Met l yX4_plot (Cond.code yX4_plot cX4_plot 6 (some .int) :: wG) (rmF 6 82 1 6) (PcX A D cy H [.ref (ad 4 (0)), .int (iI (x)), .int (iI (a)), .int (iI (u))]) (QmT (plotE sg x a u = 0) (some (.int (iI (sg 201 (pAt x))))) (fun H' => RC D cy A ad (st (st sg 201 (pAt x) a) 202 (pAt x) u) H') A) (XCx (plotE sg x a u) (fun H' => RC D cy A ad sg H') A) 1 6 A := by
  refine vmet_of (la := [(0, .ref (ad 4 (0))), (1, .int (iI (x))), (2, .int (iI (a))), (3, .int (iI (u)))]) (by decide) (Nat.le_of_ble_eq_true rfl) rfl ?_
  intro p e R s m args below meth c ls hRm hx hb hml hr hlk hxt hown hts hsH hK hX hl
  subst hRm
  have hown : s.vm.findClass "Takinghall" = some m.cls := hown
  have hw1 : ∀ w ∈ u_ws RX1 TX1 11, w.before args s = true := fun w h => hts w (uw_X1 w h)
  have hS : va_S A s.heap H [] := by rw [hsH]; exact va_S.rf
  refine lv_aload_n hx hb dX4_plot_0 rfl (lv_at hl 0 rfl) ?_
  refine lv_iload_n hx hb dX4_plot_1 rfl (lv_at hl 1 rfl) ?_
  refine xk_pF (xr_V (As := [.int (iI (x))]) (rest := []) hx hb hml hown hts hK (c_X4_plotAt hR hG x (by omega)) ms_X4_plotAt kw_132 (wr_recv hK hR (gd_4 hG) rfl rfl) ⟨by decide, by decide⟩ ⟨by decide, by decide⟩ rfl rfl hl.1 rfl (lv_room (by decide)) dX4_plot_2) ?_
  have g1 := pAt_rng (x)
  refine xr_astore (i := 4) (lv' := [(4, rv (ad 1) (pAt x)), (0, .ref (ad 4 (0))), (1, .int (iI (x))), (2, .int (iI (a))), (3, .int (iI (u)))]) hx hb dX4_plot_5 hl (by decide) rfl (fun ls hl => ?_)
  refine xr_aload hx hb dX4_plot_7 (lv_at hl 0 rfl) ?_
  refine xr_ifnonnull (tgt := 22) hx hb dX4_plot_9 (by decide) (fun h2 => ?_) (fun h2 => ?_)
  · skip
    rw [rv_p h2] at hl
    refine lv_iload_n hx hb dX4_plot_22 rfl (lv_at hl 3 rfl) ?_
    refine lv_iconst (v := iI (1)) hx hb dX4_plot_23 rfl ?_
    refine lv_bipush (v := iI (100)) hx hb dX4_plot_24 (by decide) ?_
    refine xk_pF (xr_S (As := [.int (iI (a)), .int (iI (1)), .int (iI (100))]) (rest := []) hx hb hml hown hts hK (c_X4_isWithin hR hG a 1 100 (by omega) (by omega) (by omega)) ms_X4_isWithin kw_204 ⟨by decide, by decide⟩ ⟨by decide, by decide⟩ rfl rfl hl.1 rfl (lv_room (by decide)) dX4_plot_26) ?_
    refine xr_ifb_eq (tgt := 39) hx hb dX4_plot_29 (by decide) (fun h3 => ?_) (fun h3 => ?_)
    · skip
      exact xt_2 (thr := plotE sg x a u) (text := "area or use out of its range") (P := fun H' => RC D cy A ad sg H') hx hb hl0 hown hts hX hS (hl.1.trans hml.symm) hxt hlk (by decide) dX4_plot_39 dX4_plot_42 dX4_plot_43 dX4_plot_45 dX4_plot_48 (by decide) (by decide) (by decide) (by decide) (by decide) (by decide) (wr_more hR) (by unfold plotE; (repeat' split) <;> first | omega | grind)
    · skip
      refine lv_iload_n hx hb dX4_plot_32 rfl (lv_at hl 4 rfl) ?_
      refine xk_pF (xr_S (As := [.int (iI (u))]) (rest := []) hx hb hml hown hts hK (c_X4_isUse hR hG u (by omega)) ms_X4_isUse kw_207 ⟨by decide, by decide⟩ ⟨by decide, by decide⟩ rfl rfl hl.1 rfl (lv_room (by decide)) dX4_plot_33) ?_
      refine xr_ifb_ne (tgt := 49) hx hb dX4_plot_36 (by decide) (fun h4 => ?_) (fun h4 => ?_)
      · skip
        refine lv_aload hx hb dX4_plot_49 (lv_at hl 0 rfl) ?_
        refine xg_203 (v := sg 203 (pAt x)) hx hb hw1 hown hK hR (gd_1 hG (by omega)) (hts _ kw_41) rfl dX4_plot_51 ?_
        have g5 := gr_203 hG (pAt x)
        refine xr_if_ne (tgt := 65) hx hb dX4_plot_54 (by decide) (by omega) (fun h6 => ?_) (fun h6 => ?_)
        · skip
          exact xt_3 (thr := plotE sg x a u) (text := "the PLOT is not FREE, or NEEDED") (P := fun H' => RC D cy A ad sg H') hx hb hl0 hown hts hX hS (hl.1.trans hml.symm) hxt hlk (by decide) dX4_plot_65 dX4_plot_68 dX4_plot_69 dX4_plot_71 dX4_plot_74 (by decide) (by decide) (by decide) (by decide) (by decide) (by decide) (wr_more hR) (by unfold plotE; (repeat' split) <;> first | omega | grind)
        · skip
          refine lv_aload hx hb dX4_plot_57 (lv_at hl 0 rfl) ?_
          refine xk_pF (xr_S (As := [.ref (ad 1 (pAt x))]) (rest := []) hx hb hml hown hts hK (c_X4_isNeeded hR hG (pAt x) ((rv_p (by omega)).symm) (by omega)) ms_X4_isNeeded kw_226 ⟨by decide, by decide⟩ ⟨by decide, by decide⟩ rfl rfl hl.1 rfl (lv_room (by decide)) dX4_plot_59) ?_
          refine xr_ifb_eq (tgt := 75) hx hb dX4_plot_62 (by decide) (fun h7 => ?_) (fun h7 => ?_)
          · skip
            refine lv_aload hx hb dX4_plot_75 (lv_at hl 0 rfl) ?_
            refine xg_201 (v := sg 201 (pAt x)) hx hb hw1 hown hK hR (gd_1 hG (by omega)) (hts _ kw_37) rfl dX4_plot_77 ?_
            have g8 := gr_201 hG (pAt x)
            refine lv_istore (i := 5) (lv' := [(5, .int (iI (sg 201 (pAt x)))), (4, .ref (ad 1 (pAt x))), (0, .ref (ad 4 (0))), (1, .int (iI (x))), (2, .int (iI (a))), (3, .int (iI (u)))]) hx hb dX4_plot_80 hl (by decide) rfl (fun ls hl => ?_)
            refine lv_aload hx hb dX4_plot_82 (lv_at hl 1 rfl) ?_
            refine lv_iload_n hx hb dX4_plot_84 rfl (lv_at hl 4 rfl) ?_
            refine xp_201 (v := a) hx hb hw1 hown hK hR hS (gd_1 hG (by omega)) (hts _ kw_37) dX4_plot_85 (fun H locs hR hS => ?_)
            refine lv_aload hx hb dX4_plot_88 (lv_at hl 1 rfl) ?_
            refine lv_iload_n hx hb dX4_plot_90 rfl (lv_at hl 5 rfl) ?_
            refine xp_202 (v := u) hx hb hw1 hown hK hR hS ((dm_st (by decide) _ _).mpr (gd_1 hG (by omega))) (hts _ kw_39) dX4_plot_91 (fun H locs hR hS => ?_)
            refine lv_iload hx hb dX4_plot_94 (lv_at hl 0 rfl) ?_
            exact xv_i hx hb hr hlk hS (by decide) (by decide) dX4_plot_96 (by unfold plotE; (repeat' split) <;> first | omega | grind) (by rfl) (by exact hR)
          · skip
            exact xt_3 (thr := plotE sg x a u) (text := "the PLOT is not FREE, or NEEDED") (P := fun H' => RC D cy A ad sg H') hx hb hl0 hown hts hX hS (hl.1.trans hml.symm) hxt hlk (by decide) dX4_plot_65 dX4_plot_68 dX4_plot_69 dX4_plot_71 dX4_plot_74 (by decide) (by decide) (by decide) (by decide) (by decide) (by decide) (wr_more hR) (by unfold plotE; (repeat' split) <;> first | omega | grind)
      · skip
        exact xt_2 (thr := plotE sg x a u) (text := "area or use out of its range") (P := fun H' => RC D cy A ad sg H') hx hb hl0 hown hts hX hS (hl.1.trans hml.symm) hxt hlk (by decide) dX4_plot_39 dX4_plot_42 dX4_plot_43 dX4_plot_45 dX4_plot_48 (by decide) (by decide) (by decide) (by decide) (by decide) (by decide) (wr_more hR) (by unfold plotE; (repeat' split) <;> first | omega | grind)
  · skip
    rw [rv_n h2] at hl
    exact xt_1 (thr := plotE sg x a u) (text := "no such PLOT") (P := fun H' => RC D cy A ad sg H') hx hb hl0 hown hts hX hS (hl.1.trans hml.symm) hxt hlk (by decide) dX4_plot_12 dX4_plot_15 dX4_plot_16 dX4_plot_18 dX4_plot_21 (by decide) (by decide) (by decide) (by decide) (by decide) (by decide) (wr_more hR) (by unfold plotE; (repeat' split) <;> first | omega | grind)
theorem ms_X4_worth : MVi RX4 yX4_worth cX4_worth 4 (some .int) 2 := ⟨kw_263, kw_261, kw_262, kw_1, rfl, by decide, by decide, by decide +kernel⟩
set_option maxRecDepth 100000 in
set_option maxHeartbeats 4000000 in
theorem c_X4_worth {l : Launch} {D : va_G} {cy : Nat → ClassId} {A : Nat → Prop} {ad : Nat → Int → Nat} {sg : Nat → Int → Int} {H : Heap} (hR : RC D cy A ad sg H) (hG : GC sg) (hl0 : l.stackTraces = false) (hA : ∀ q : Nat, H.size ≤ q → A q) (x : Int) (d : Int) (h_x : in32 x) (h_d : in32 d) : vx_Met l yX4_worth (Cond.code yX4_worth cX4_worth 4 (some .int) :: wG) (rmF 6 82 1 6) (PcX A D cy H [.ref (ad 4 (0)), .int (iI (x)), .int (iI (d))]) (QmT (worthE sg x d = 0) (some (.int (iI (worthB sg (pAt x) (prOn sg (sg 202 (pAt x)) d))))) (fun H' => RC D cy A ad sg H') A) (XCx (worthE sg x d) (fun H' => RC D cy A ad sg H') A) 1 6 A := by
  refine vmet_of (la := [(0, .ref (ad 4 (0))), (1, .int (iI (x))), (2, .int (iI (d)))]) (by decide) (Nat.le_of_ble_eq_true rfl) rfl ?_
  intro p e R s m args below meth c ls hRm hx hb hml hr hlk hxt hown hts hsH hK hX hl
  subst hRm
  have hown : s.vm.findClass "Takinghall" = some m.cls := hown
  have hw1 : ∀ w ∈ u_ws RX1 TX1 11, w.before args s = true := fun w h => hts w (uw_X1 w h)
  have hw4 : ∀ w ∈ u_ws RX4 TX4 12, w.before args s = true := fun w h => hts w (uw_X4 w h)
  have hS : va_S A s.heap H [] := by rw [hsH]; exact va_S.rf
  refine lv_aload_n hx hb dX4_worth_0 rfl (lv_at hl 0 rfl) ?_
  refine lv_iload_n hx hb dX4_worth_1 rfl (lv_at hl 1 rfl) ?_
  refine xk_pF (xr_V (As := [.int (iI (x))]) (rest := []) hx hb hml hown hts hK (c_X4_plotAt hR hG x (by omega)) ms_X4_plotAt kw_132 (wr_recv hK hR (gd_4 hG) rfl rfl) ⟨by decide, by decide⟩ ⟨by decide, by decide⟩ rfl rfl hl.1 rfl (lv_room (by decide)) dX4_worth_2) ?_
  have g1 := pAt_rng (x)
  refine xr_astore_n (i := 3) (lv' := [(3, rv (ad 1) (pAt x)), (0, .ref (ad 4 (0))), (1, .int (iI (x))), (2, .int (iI (d)))]) hx hb dX4_worth_5 rfl hl (by decide) rfl (fun ls hl => ?_)
  refine xr_aload_n hx hb dX4_worth_6 rfl (lv_at hl 0 rfl) ?_
  refine xr_ifnonnull (tgt := 20) hx hb dX4_worth_7 (by decide) (fun h2 => ?_) (fun h2 => ?_)
  · skip
    rw [rv_p h2] at hl
    refine lv_iload_n hx hb dX4_worth_20 rfl (lv_at hl 3 rfl) ?_
    refine lv_iconst (v := iI (0)) hx hb dX4_worth_21 rfl ?_
    refine lv_aload_n hx hb dX4_worth_22 rfl (lv_at hl 1 rfl) ?_
    refine xg_506 (v := sg 506 0) hx hb hw4 hown hK hR (gd_4 hG) (hts _ kw_97) rfl dX4_worth_23 ?_
    have g3 := gr_506 hG (0)
    refine xk_pF (xr_S (As := [.int (iI (d)), .int (iI (0)), .int (iI (sg 506 0))]) (rest := []) hx hb hml hown hts hK (c_X4_isWithin hR hG d 0 (sg 506 0) (by omega) (by omega) (by omega)) ms_X4_isWithin kw_204 ⟨by decide, by decide⟩ ⟨by decide, by decide⟩ rfl rfl hl.1 rfl (lv_room (by decide)) dX4_worth_26) ?_
    refine xr_ifb_ne (tgt := 42) hx hb dX4_worth_29 (by decide) (fun h4 => ?_) (fun h4 => ?_)
    · skip
      refine lv_aload_n hx hb dX4_worth_42 rfl (lv_at hl 0 rfl) ?_
      refine lv_aload_n hx hb dX4_worth_43 rfl (lv_at hl 1 rfl) ?_
      refine lv_aload_n hx hb dX4_worth_44 rfl (lv_at hl 0 rfl) ?_
      refine xg_202 (v := sg 202 (pAt x)) hx hb hw1 hown hK hR (gd_1 hG (by omega)) (hts _ kw_39) rfl dX4_worth_45 ?_
      have g5 := gr_202 hG (pAt x)
      refine lv_iload_n hx hb dX4_worth_48 rfl (lv_at hl 3 rfl) ?_
      refine xk_pF (xr_V (As := [.int (iI (sg 202 (pAt x))), .int (iI (d))]) (rest := [.ref (ad 1 (pAt x))]) hx hb hml hown hts hK (c_X4_priceOn hR hG (sg 202 (pAt x)) d (by omega) (by omega)) ms_X4_priceOn kw_253 (wr_recv hK hR (gd_4 hG) rfl rfl) ⟨by decide, by decide⟩ ⟨by decide, by decide⟩ rfl rfl hl.1 rfl (lv_room (Nat.le_of_ble_eq_true rfl)) dX4_worth_49) ?_
      have g6 := prOn_lt hG ((sg 202 (pAt x))) (d)
      refine xk_pF (xr_S (As := [.ref (ad 1 (pAt x)), rv (ad 2) (prOn sg (sg 202 (pAt x)) d)]) (rest := []) hx hb hml hown hts hK (c_X4_worthBy hR hG (pAt x) ((rv_p (by omega)).symm) (prOn sg (sg 202 (pAt x)) d) (rfl) (by omega) (by omega)) ms_X4_worthBy kw_265 ⟨by decide, by decide⟩ ⟨by decide, by decide⟩ rfl rfl hl.1 rfl (lv_room (by decide)) dX4_worth_52) ?_
      have g7 := worthB_rng hG ((pAt x)) ((prOn sg (sg 202 (pAt x)) d))
      exact xv_i hx hb hr hlk hS (by decide) (by decide) dX4_worth_55 (by unfold worthE; (repeat' split) <;> first | omega | grind) (by rfl) (by exact hR)
    · skip
      exact xt_2 (thr := worthE sg x d) (text := "day out of its range") (P := fun H' => RC D cy A ad sg H') hx hb hl0 hown hts hX hS (hl.1.trans hml.symm) hxt hlk (by decide) dX4_worth_32 dX4_worth_35 dX4_worth_36 dX4_worth_38 dX4_worth_41 (by decide) (by decide) (by decide) (by decide) (by decide) (by decide) (wr_more hR) (by unfold worthE; (repeat' split) <;> first | omega | grind)
  · skip
    rw [rv_n h2] at hl
    exact xt_1 (thr := worthE sg x d) (text := "no such PLOT") (P := fun H' => RC D cy A ad sg H') hx hb hl0 hown hts hX hS (hl.1.trans hml.symm) hxt hlk (by decide) dX4_worth_10 dX4_worth_13 dX4_worth_14 dX4_worth_16 dX4_worth_19 (by decide) (by decide) (by decide) (by decide) (by decide) (by decide) (wr_more hR) (by unfold worthE; (repeat' split) <;> first | omega | grind)
theorem ms_X4_market : MVi RX4 yX4_market cX4_market 4 (some .int) 1 := ⟨kw_271, kw_269, kw_270, kw_1, rfl, by decide, by decide, by decide +kernel⟩
set_option maxRecDepth 100000 in
set_option maxHeartbeats 4000000 in
theorem c_X4_market {l : Launch} {D : va_G} {cy : Nat → ClassId} {A : Nat → Prop} {ad : Nat → Int → Nat} {sg : Nat → Int → Int} {H : Heap} (hR : RC D cy A ad sg H) (hG : GC sg) (hl0 : l.stackTraces = false) (hA : ∀ q : Nat, H.size ≤ q → A q) (x : Int) (h_x : in32 x) : vx_Met l yX4_market (Cond.code yX4_market cX4_market 4 (some .int) :: wG) (rmF 6 82 1 6) (PcX A D cy H [.ref (ad 4 (0)), .int (iI (x))]) (QmT (pE x = 0) (some (.int (iI (marketR sg (pAt x))))) (fun H' => RC D cy A ad sg H') A) (XCx (pE x) (fun H' => RC D cy A ad sg H') A) 1 6 A := by
  refine vmet_of (la := [(0, .ref (ad 4 (0))), (1, .int (iI (x)))]) (by decide) (Nat.le_of_ble_eq_true rfl) rfl ?_
  intro p e R s m args below meth c ls hRm hx hb hml hr hlk hxt hown hts hsH hK hX hl
  subst hRm
  have hown : s.vm.findClass "Takinghall" = some m.cls := hown
  have hw1 : ∀ w ∈ u_ws RX1 TX1 11, w.before args s = true := fun w h => hts w (uw_X1 w h)
  have hS : va_S A s.heap H [] := by rw [hsH]; exact va_S.rf
  refine lv_aload_n hx hb dX4_market_0 rfl (lv_at hl 0 rfl) ?_
  refine lv_iload_n hx hb dX4_market_1 rfl (lv_at hl 1 rfl) ?_
  refine xk_pF (xr_V (As := [.int (iI (x))]) (rest := []) hx hb hml hown hts hK (c_X4_plotAt hR hG x (by omega)) ms_X4_plotAt kw_132 (wr_recv hK hR (gd_4 hG) rfl rfl) ⟨by decide, by decide⟩ ⟨by decide, by decide⟩ rfl rfl hl.1 rfl (lv_room (by decide)) dX4_market_2) ?_
  have g1 := pAt_rng (x)
  refine xr_astore_n (i := 2) (lv' := [(2, rv (ad 1) (pAt x)), (0, .ref (ad 4 (0))), (1, .int (iI (x)))]) hx hb dX4_market_5 rfl hl (by decide) rfl (fun ls hl => ?_)
  refine xr_aload_n hx hb dX4_market_6 rfl (lv_at hl 0 rfl) ?_
  refine xr_ifnonnull (tgt := 20) hx hb dX4_market_7 (by decide) (fun h2 => ?_) (fun h2 => ?_)
  · skip
    rw [rv_p h2] at hl
    refine lv_aload_n hx hb dX4_market_20 rfl (lv_at hl 1 rfl) ?_
    refine lv_aload_n hx hb dX4_market_21 rfl (lv_at hl 0 rfl) ?_
    refine xk_pF (xr_V (As := [.ref (ad 1 (pAt x))]) (rest := []) hx hb hml hown hts hK (c_X4_worthToday hR hG (pAt x) ((rv_p (by omega)).symm) (by omega)) ms_X4_worthToday kw_272 (wr_recv hK hR (gd_4 hG) rfl rfl) ⟨by decide, by decide⟩ ⟨by decide, by decide⟩ rfl rfl hl.1 rfl (lv_room (by decide)) dX4_market_22) ?_
    have g3 := worthT_rng hG ((pAt x))
    refine lv_istore_n (i := 3) (lv' := [(3, .int (iI (worthT sg (pAt x)))), (2, .ref (ad 1 (pAt x))), (0, .ref (ad 4 (0))), (1, .int (iI (x)))]) hx hb dX4_market_25 rfl hl (by decide) rfl (fun ls hl => ?_)
    refine lv_aload_n hx hb dX4_market_26 rfl (lv_at hl 1 rfl) ?_
    refine xg_203 (v := sg 203 (pAt x)) hx hb hw1 hown hK hR (gd_1 hG (by omega)) (hts _ kw_41) rfl dX4_market_27 ?_
    have g4 := gr_203 hG (pAt x)
    refine xr_if_eq (tgt := 35) hx hb dX4_market_30 (by decide) (by omega) (fun h5 => ?_) (fun h5 => ?_)
    · skip
      refine lv_aload_n hx hb dX4_market_35 rfl (lv_at hl 1 rfl) ?_
      refine xk_pF (xr_S (As := [.ref (ad 1 (pAt x))]) (rest := []) hx hb hml hown hts hK (c_X4_isNeeded hR hG (pAt x) ((rv_p (by omega)).symm) (by omega)) ms_X4_isNeeded kw_226 ⟨by decide, by decide⟩ ⟨by decide, by decide⟩ rfl rfl hl.1 rfl (lv_room (by decide)) dX4_market_36) ?_
      refine xr_ifb_eq (tgt := 49) hx hb dX4_market_39 (by decide) (fun h6 => ?_) (fun h6 => ?_)
      · skip
        refine lv_aload_n hx hb dX4_market_49 rfl (lv_at hl 2 rfl) ?_
        refine lv_aload_n hx hb dX4_market_50 rfl (lv_at hl 1 rfl) ?_
        refine xg_200 (v := sg 200 (pAt x)) hx hb hw1 hown hK hR (gd_1 hG (by omega)) (hts _ kw_35) rfl dX4_market_51 ?_
        have g7 := gn_200 hG (q := pAt x) (by omega)
        refine xk_pF (xr_V (As := [.int (iI (sg 200 (pAt x)))]) (rest := []) hx hb hml hown hts hK (c_X4_isBesideNeeded hR hG (sg 200 (pAt x)) (by omega)) ms_X4_isBesideNeeded kw_279 (wr_recv hK hR (gd_4 hG) rfl rfl) ⟨by decide, by decide⟩ ⟨by decide, by decide⟩ rfl rfl hl.1 rfl (lv_room (by decide)) dX4_market_54) ?_
        refine xr_ifb_eq (tgt := 69) hx hb dX4_market_57 (by decide) (fun h8 => ?_) (fun h8 => ?_)
        · skip
          refine lv_iload_n hx hb dX4_market_69 rfl (lv_at hl 0 rfl) ?_
          exact xv_i hx hb hr hlk hS (by decide) (by decide) dX4_market_70 (by unfold pE; (repeat' split) <;> first | omega | grind) (by unfold marketR; first | rw [if_pos (by omega)] | rw [if_neg (by omega), if_pos (by omega)] | rw [if_neg (by omega), if_neg (by omega), if_pos (bI_t (by assumption))] | rw [if_neg (by omega), if_neg (by omega), if_neg (by rw [bI_f (by assumption)]; decide)]) (by exact hR)
        · skip
          refine lv_iload_n hx hb dX4_market_60 rfl (lv_at hl 0 rfl) ?_
          refine lv_bipush (v := iI (90)) hx hb dX4_market_61 (by decide) ?_
          refine xk_pF (xr_S (As := [.int (iI (worthT sg (pAt x))), .int (iI (90))]) (rest := []) hx hb hml hown hts hK (c_X4_hundredths hR hG (worthT sg (pAt x)) 90 (by omega)) ms_X4_hundredths kw_276 ⟨by decide, by decide⟩ ⟨by decide, by decide⟩ rfl rfl hl.1 rfl (lv_room (by decide)) dX4_market_63) ?_
          refine lv_goto (tgt := 70) hx hb dX4_market_66 (by decide) ?_
          exact xv_i hx hb hr hlk hS (by decide) (by decide) dX4_market_70 (by unfold pE; (repeat' split) <;> first | omega | grind) (by unfold marketR; first | rw [if_pos (by omega)] | rw [if_neg (by omega), if_pos (by omega)] | rw [if_neg (by omega), if_neg (by omega), if_pos (bI_t (by assumption))] | rw [if_neg (by omega), if_neg (by omega), if_neg (by rw [bI_f (by assumption)]; decide)]) (by exact hR)
      · skip
        refine lv_iload_n hx hb dX4_market_42 rfl (lv_at hl 0 rfl) ?_
        refine lv_bipush (v := iI (70)) hx hb dX4_market_43 (by decide) ?_
        refine xk_pF (xr_S (As := [.int (iI (worthT sg (pAt x))), .int (iI (70))]) (rest := []) hx hb hml hown hts hK (c_X4_hundredths hR hG (worthT sg (pAt x)) 70 (by omega)) ms_X4_hundredths kw_276 ⟨by decide, by decide⟩ ⟨by decide, by decide⟩ rfl rfl hl.1 rfl (lv_room (by decide)) dX4_market_45) ?_
        exact xv_i hx hb hr hlk hS (by decide) (by decide) dX4_market_48 (by unfold pE; (repeat' split) <;> first | omega | grind) (by unfold marketR; first | rw [if_pos (by omega)] | rw [if_neg (by omega), if_pos (by omega)] | rw [if_neg (by omega), if_neg (by omega), if_pos (bI_t (by assumption))] | rw [if_neg (by omega), if_neg (by omega), if_neg (by rw [bI_f (by assumption)]; decide)]) (by exact hR)
    · skip
      refine lv_iload_n hx hb dX4_market_33 rfl (lv_at hl 0 rfl) ?_
      exact xv_i hx hb hr hlk hS (by decide) (by decide) dX4_market_34 (by unfold pE; (repeat' split) <;> first | omega | grind) (by unfold marketR; first | rw [if_pos (by omega)] | rw [if_neg (by omega), if_pos (by omega)] | rw [if_neg (by omega), if_neg (by omega), if_pos (bI_t (by assumption))] | rw [if_neg (by omega), if_neg (by omega), if_neg (by rw [bI_f (by assumption)]; decide)]) (by exact hR)
  · skip
    rw [rv_n h2] at hl
    exact xt_1 (thr := pE x) (text := "no such PLOT") (P := fun H' => RC D cy A ad sg H') hx hb hl0 hown hts hX hS (hl.1.trans hml.symm) hxt hlk (by decide) dX4_market_10 dX4_market_13 dX4_market_14 dX4_market_16 dX4_market_19 (by decide) (by decide) (by decide) (by decide) (by decide) (by decide) (wr_more hR) (by unfold pE; (repeat' split) <;> first | omega | grind)
theorem ms_X4_plotOf : MVi RX4 yX4_plotOf cX4_plotOf 4 (some .int) 2 := ⟨kw_286, kw_284, kw_285, kw_1, rfl, by decide, by decide, by decide +kernel⟩
set_option maxRecDepth 100000 in
set_option maxHeartbeats 4000000 in
theorem c_X4_plotOf {l : Launch} {D : va_G} {cy : Nat → ClassId} {A : Nat → Prop} {ad : Nat → Int → Nat} {sg : Nat → Int → Int} {H : Heap} (hR : RC D cy A ad sg H) (hG : GC sg) (hl0 : l.stackTraces = false) (hA : ∀ q : Nat, H.size ≤ q → A q) (x : Int) (w : Int) (h_x : in32 x) (h_w : in32 w) : vx_Met l yX4_plotOf (Cond.code yX4_plotOf cX4_plotOf 4 (some .int) :: wG) (rmF 6 82 1 6) (PcX A D cy H [.ref (ad 4 (0)), .int (iI (x)), .int (iI (w))]) (QmT (plotOfE x w = 0) (some (.int (iI (plotOfR sg (pAt x) w)))) (fun H' => RC D cy A ad sg H') A) (XCx (plotOfE x w) (fun H' => RC D cy A ad sg H') A) 1 6 A := by
  refine vmet_of (la := [(0, .ref (ad 4 (0))), (1, .int (iI (x))), (2, .int (iI (w)))]) (by decide) (Nat.le_of_ble_eq_true rfl) rfl ?_
  intro p e R s m args below meth c ls hRm hx hb hml hr hlk hxt hown hts hsH hK hX hl
  subst hRm
  have hown : s.vm.findClass "Takinghall" = some m.cls := hown
  have hw1 : ∀ w ∈ u_ws RX1 TX1 11, w.before args s = true := fun w h => hts w (uw_X1 w h)
  have hS : va_S A s.heap H [] := by rw [hsH]; exact va_S.rf
  refine lv_aload_n hx hb dX4_plotOf_0 rfl (lv_at hl 0 rfl) ?_
  refine lv_iload_n hx hb dX4_plotOf_1 rfl (lv_at hl 1 rfl) ?_
  refine xk_pF (xr_V (As := [.int (iI (x))]) (rest := []) hx hb hml hown hts hK (c_X4_plotAt hR hG x (by omega)) ms_X4_plotAt kw_132 (wr_recv hK hR (gd_4 hG) rfl rfl) ⟨by decide, by decide⟩ ⟨by decide, by decide⟩ rfl rfl hl.1 rfl (lv_room (by decide)) dX4_plotOf_2) ?_
  have g1 := pAt_rng (x)
  refine xr_astore_n (i := 3) (lv' := [(3, rv (ad 1) (pAt x)), (0, .ref (ad 4 (0))), (1, .int (iI (x))), (2, .int (iI (w)))]) hx hb dX4_plotOf_5 rfl hl (by decide) rfl (fun ls hl => ?_)
  refine xr_aload_n hx hb dX4_plotOf_6 rfl (lv_at hl 0 rfl) ?_
  refine xr_ifnonnull (tgt := 20) hx hb dX4_plotOf_7 (by decide) (fun h2 => ?_) (fun h2 => ?_)
  · skip
    rw [rv_p h2] at hl
    refine lv_iload_n hx hb dX4_plotOf_20 rfl (lv_at hl 3 rfl) ?_
    rcases (show (w < 0 ∨ 8 < w) ∨ w = 0 ∨ w = 1 ∨ w = 2 ∨ w = 3 ∨ w = 4 ∨ w = 5 ∨ w = 6 ∨ w = 7 ∨ w = 8 by omega) with h3 | h3 | h3 | h3 | h3 | h3 | h3 | h3 | h3 | h3
    · skip
      refine lv_tableOut (tgt := 131) hx hb dX4_plotOf_21 (by rw [iI_toInt (by omega)]; exact h3) (by decide) ?_
      exact xt_2 (thr := plotOfE x w) (text := "what out of its range") (P := fun H' => RC D cy A ad sg H') hx hb hl0 hown hts hX hS (hl.1.trans hml.symm) hxt hlk (by decide) dX4_plotOf_131 dX4_plotOf_134 dX4_plotOf_135 dX4_plotOf_137 dX4_plotOf_140 (by decide) (by decide) (by decide) (by decide) (by decide) (by decide) (wr_more hR) (by unfold plotOfE; (repeat' split) <;> first | omega | grind)
    · skip
      rw [h3]
      refine lv_tableIn (tgt := 72) (off := 51) hx hb dX4_plotOf_21 (by decide) (by decide) (by decide) (by decide) ?_
      refine lv_aload_n hx hb dX4_plotOf_72 rfl (lv_at hl 0 rfl) ?_
      refine xg_201 (v := sg 201 (pAt x)) hx hb hw1 hown hK hR (gd_1 hG (by omega)) (hts _ kw_37) rfl dX4_plotOf_73 ?_
      have g4 := gr_201 hG (pAt x)
      exact xv_i hx hb hr hlk hS (by decide) (by decide) dX4_plotOf_76 (by unfold plotOfE; (repeat' split) <;> first | omega | grind) (by unfold plotOfR; try unfold opt; (repeat' split) <;> omega) (by exact hR)
    · skip
      rw [h3]
      refine lv_tableIn (tgt := 77) (off := 56) hx hb dX4_plotOf_21 (by decide) (by decide) (by decide) (by decide) ?_
      refine lv_aload_n hx hb dX4_plotOf_77 rfl (lv_at hl 0 rfl) ?_
      refine xg_202 (v := sg 202 (pAt x)) hx hb hw1 hown hK hR (gd_1 hG (by omega)) (hts _ kw_39) rfl dX4_plotOf_78 ?_
      have g5 := gr_202 hG (pAt x)
      exact xv_i hx hb hr hlk hS (by decide) (by decide) dX4_plotOf_81 (by unfold plotOfE; (repeat' split) <;> first | omega | grind) (by unfold plotOfR; try unfold opt; (repeat' split) <;> omega) (by exact hR)
    · skip
      rw [h3]
      refine lv_tableIn (tgt := 82) (off := 61) hx hb dX4_plotOf_21 (by decide) (by decide) (by decide) (by decide) ?_
      refine lv_aload_n hx hb dX4_plotOf_82 rfl (lv_at hl 0 rfl) ?_
      refine xg_203 (v := sg 203 (pAt x)) hx hb hw1 hown hK hR (gd_1 hG (by omega)) (hts _ kw_41) rfl dX4_plotOf_83 ?_
      have g6 := gr_203 hG (pAt x)
      exact xv_i hx hb hr hlk hS (by decide) (by decide) dX4_plotOf_86 (by unfold plotOfE; (repeat' split) <;> first | omega | grind) (by unfold plotOfR; try unfold opt; (repeat' split) <;> omega) (by exact hR)
    · skip
      rw [h3]
      refine lv_tableIn (tgt := 87) (off := 66) hx hb dX4_plotOf_21 (by decide) (by decide) (by decide) (by decide) ?_
      refine lv_aload_n hx hb dX4_plotOf_87 rfl (lv_at hl 0 rfl) ?_
      refine xk_pF (xr_S (As := [.ref (ad 1 (pAt x))]) (rest := []) hx hb hml hown hts hK (c_X4_neederOf hR hG (pAt x) ((rv_p (by omega)).symm) (by omega)) ms_X4_neederOf kw_229 ⟨by decide, by decide⟩ ⟨by decide, by decide⟩ rfl rfl hl.1 rfl (lv_room (by decide)) dX4_plotOf_88) ?_
      have g7 := needO_rng hG ((pAt x))
      refine xk_pF (xr_S (As := [rv (ad 3) (needO sg (pAt x))]) (rest := []) hx hb hml hown hts hK (c_X4_numberOf__ hR hG (needO sg (pAt x)) (rfl) (by omega)) ms_X4_numberOf__ kw_287 ⟨by decide, by decide⟩ ⟨by decide, by decide⟩ rfl rfl hl.1 rfl (lv_room (by decide)) dX4_plotOf_91) ?_
      exact xv_i hx hb hr hlk hS (by decide) (by decide) dX4_plotOf_94 (by unfold plotOfE; (repeat' split) <;> first | omega | grind) (by unfold plotOfR; try unfold opt; (repeat' split) <;> omega) (by exact hR)
    · skip
      rw [h3]
      refine lv_tableIn (tgt := 95) (off := 74) hx hb dX4_plotOf_21 (by decide) (by decide) (by decide) (by decide) ?_
      refine lv_aload_n hx hb dX4_plotOf_95 rfl (lv_at hl 0 rfl) ?_
      refine xg_205 (v := sg 205 (pAt x)) hx hb hw1 hown hK hR (gd_1 hG (by omega)) (hts _ kw_43) rfl dX4_plotOf_96 ?_
      have g8 := gr_205 hG (pAt x)
      exact xv_i hx hb hr hlk hS (by decide) (by decide) dX4_plotOf_99 (by unfold plotOfE; (repeat' split) <;> first | omega | grind) (by unfold plotOfR; try unfold opt; (repeat' split) <;> omega) (by exact hR)
    · skip
      rw [h3]
      refine lv_tableIn (tgt := 100) (off := 79) hx hb dX4_plotOf_21 (by decide) (by decide) (by decide) (by decide) ?_
      refine lv_aload_n hx hb dX4_plotOf_100 rfl (lv_at hl 0 rfl) ?_
      refine xg_206 (v := sg 206 (pAt x)) hx hb hw1 hown hK hR (gd_1 hG (by omega)) (hts _ kw_45) rfl dX4_plotOf_101 ?_
      have g9 := gr_206 hG (pAt x)
      exact xv_i hx hb hr hlk hS (by decide) (by decide) dX4_plotOf_104 (by unfold plotOfE; (repeat' split) <;> first | omega | grind) (by unfold plotOfR; try unfold opt; (repeat' split) <;> omega) (by exact hR)
    · skip
      rw [h3]
      refine lv_tableIn (tgt := 105) (off := 84) hx hb dX4_plotOf_21 (by decide) (by decide) (by decide) (by decide) ?_
      refine lv_aload_n hx hb dX4_plotOf_105 rfl (lv_at hl 0 rfl) ?_
      refine xg_208 (v := sg 208 (pAt x)) hx hb hw1 hown hK hR (gd_1 hG (by omega)) (hts _ kw_47) rfl dX4_plotOf_106 ?_
      have g10 := gr_208 hG (pAt x)
      refine xr_if_eq (tgt := 116) hx hb dX4_plotOf_109 (by decide) (by omega) (fun h11 => ?_) (fun h11 => ?_)
      · skip
        refine lv_iconst (v := iI (0)) hx hb dX4_plotOf_116 rfl ?_
        exact xv_i hx hb hr hlk hS (by decide) (by decide) dX4_plotOf_117 (by unfold plotOfE; (repeat' split) <;> first | omega | grind) (by unfold plotOfR; try unfold opt; (repeat' split) <;> omega) (by exact hR)
      · skip
        refine lv_iconst (v := iI (1)) hx hb dX4_plotOf_112 rfl ?_
        refine lv_goto (tgt := 117) hx hb dX4_plotOf_113 (by decide) ?_
        exact xv_i hx hb hr hlk hS (by decide) (by decide) dX4_plotOf_117 (by unfold plotOfE; (repeat' split) <;> first | omega | grind) (by unfold plotOfR; try unfold opt; (repeat' split) <;> omega) (by exact hR)
    · skip
      rw [h3]
      refine lv_tableIn (tgt := 118) (off := 97) hx hb dX4_plotOf_21 (by decide) (by decide) (by decide) (by decide) ?_
      refine lv_aload_n hx hb dX4_plotOf_118 rfl (lv_at hl 0 rfl) ?_
      refine xg_209 (v := sg 209 (pAt x)) hx hb hw1 hown hK hR (gd_1 hG (by omega)) (hts _ kw_48) rfl dX4_plotOf_119 ?_
      have g12 := gp_209 hG (pAt x)
      have g13 := gr_503 hG 0
      refine xk_pF (xr_S (As := [rv (ad 0) (sg 209 (pAt x))]) (rest := []) hx hb hml hown hts hK (c_X4_numberOf_ hR hG (sg 209 (pAt x)) (rfl) (by omega)) ms_X4_numberOf_ kw_290 ⟨by decide, by decide⟩ ⟨by decide, by decide⟩ rfl rfl hl.1 rfl (lv_room (by decide)) dX4_plotOf_122) ?_
      exact xv_i hx hb hr hlk hS (by decide) (by decide) dX4_plotOf_125 (by unfold plotOfE; (repeat' split) <;> first | omega | grind) (by unfold plotOfR; try unfold opt; (repeat' split) <;> omega) (by exact hR)
    · skip
      rw [h3]
      refine lv_tableIn (tgt := 126) (off := 105) hx hb dX4_plotOf_21 (by decide) (by decide) (by decide) (by decide) ?_
      refine lv_aload_n hx hb dX4_plotOf_126 rfl (lv_at hl 0 rfl) ?_
      refine xg_210 (v := sg 210 (pAt x)) hx hb hw1 hown hK hR (gd_1 hG (by omega)) (hts _ kw_49) rfl dX4_plotOf_127 ?_
      have g14 := gr_210 hG (pAt x)
      exact xv_i hx hb hr hlk hS (by decide) (by decide) dX4_plotOf_130 (by unfold plotOfE; (repeat' split) <;> first | omega | grind) (by unfold plotOfR; try unfold opt; (repeat' split) <;> omega) (by exact hR)
  · skip
    rw [rv_n h2] at hl
    exact xt_1 (thr := plotOfE x w) (text := "no such PLOT") (P := fun H' => RC D cy A ad sg H') hx hb hl0 hown hts hX hS (hl.1.trans hml.symm) hxt hlk (by decide) dX4_plotOf_10 dX4_plotOf_13 dX4_plotOf_14 dX4_plotOf_16 dX4_plotOf_19 (by decide) (by decide) (by decide) (by decide) (by decide) (by decide) (wr_more hR) (by unfold plotOfE; (repeat' split) <;> first | omega | grind)
theorem ms_X4_interestOf : MVi RX4 yX4_interestOf cX4_interestOf 4 (some .long) 2 := ⟨kw_297, kw_295, kw_296, kw_1, rfl, by decide, by decide, by decide +kernel⟩
set_option maxRecDepth 100000 in
set_option maxHeartbeats 4000000 in
theorem c_X4_interestOf {l : Launch} {D : va_G} {cy : Nat → ClassId} {A : Nat → Prop} {ad : Nat → Int → Nat} {sg : Nat → Int → Int} {H : Heap} (hR : RC D cy A ad sg H) (hG : GC sg) (hl0 : l.stackTraces = false) (hA : ∀ q : Nat, H.size ≤ q → A q) (x : Int) (w : Int) (h_x : in32 x) (h_w : in32 w) : vx_Met l yX4_interestOf (Cond.code yX4_interestOf cX4_interestOf 4 (some .long) :: wG) (rmF 6 82 1 6) (PcX A D cy H [.ref (ad 4 (0)), .int (iI (x)), .int (iI (w))]) (QmT (interE sg x w = 0) (some (.long (lI (interR sg (iAt sg x) w)))) (fun H' => RC D cy A ad sg H') A) (XCx (interE sg x w) (fun H' => RC D cy A ad sg H') A) 1 6 A := by
  refine vmet_of (la := [(0, .ref (ad 4 (0))), (1, .int (iI (x))), (2, .int (iI (w)))]) (by decide) (Nat.le_of_ble_eq_true rfl) rfl ?_
  intro p e R s m args below meth c ls hRm hx hb hml hr hlk hxt hown hts hsH hK hX hl
  subst hRm
  have hown : s.vm.findClass "Takinghall" = some m.cls := hown
  have hw0 : ∀ w ∈ u_ws RX0 TX0 15, w.before args s = true := fun w h => hts w (uw_X0 w h)
  have hS : va_S A s.heap H [] := by rw [hsH]; exact va_S.rf
  refine lv_aload_n hx hb dX4_interestOf_0 rfl (lv_at hl 0 rfl) ?_
  refine lv_iload_n hx hb dX4_interestOf_1 rfl (lv_at hl 1 rfl) ?_
  refine xk_pF (xr_V (As := [.int (iI (x))]) (rest := []) hx hb hml hown hts hK (c_X4_interestAt hR hG x (by omega)) ms_X4_interestAt kw_298 (wr_recv hK hR (gd_4 hG) rfl rfl) ⟨by decide, by decide⟩ ⟨by decide, by decide⟩ rfl rfl hl.1 rfl (lv_room (by decide)) dX4_interestOf_2) ?_
  have g1 := iAt_rng hG (x)
  refine xr_astore_n (i := 3) (lv' := [(3, rv (ad 0) (iAt sg x)), (0, .ref (ad 4 (0))), (1, .int (iI (x))), (2, .int (iI (w)))]) hx hb dX4_interestOf_5 rfl hl (by decide) rfl (fun ls hl => ?_)
  refine xr_aload_n hx hb dX4_interestOf_6 rfl (lv_at hl 0 rfl) ?_
  refine xr_ifnonnull (tgt := 20) hx hb dX4_interestOf_7 (by decide) (fun h2 => ?_) (fun h2 => ?_)
  · skip
    rw [rv_p h2] at hl
    refine lv_iload_n hx hb dX4_interestOf_20 rfl (lv_at hl 3 rfl) ?_
    rcases (show (w < 0 ∨ 8 < w) ∨ w = 0 ∨ w = 1 ∨ w = 2 ∨ w = 3 ∨ w = 4 ∨ w = 5 ∨ w = 6 ∨ w = 7 ∨ w = 8 by omega) with h3 | h3 | h3 | h3 | h3 | h3 | h3 | h3 | h3 | h3
    · skip
      refine lv_tableOut (tgt := 139) hx hb dX4_interestOf_21 (by rw [iI_toInt (by omega)]; exact h3) (by decide) ?_
      exact xt_2 (thr := interE sg x w) (text := "what out of its range") (P := fun H' => RC D cy A ad sg H') hx hb hl0 hown hts hX hS (hl.1.trans hml.symm) hxt hlk (by decide) dX4_interestOf_139 dX4_interestOf_142 dX4_interestOf_143 dX4_interestOf_145 dX4_interestOf_148 (by decide) (by decide) (by decide) (by decide) (by decide) (by decide) (wr_more hR) (by unfold interE; (repeat' split) <;> first | omega | grind)
    · skip
      rw [h3]
      refine lv_tableIn (tgt := 72) (off := 51) hx hb dX4_interestOf_21 (by decide) (by decide) (by decide) (by decide) ?_
      refine lv_aload_n hx hb dX4_interestOf_72 rfl (lv_at hl 0 rfl) ?_
      refine xg_101 (v := sg 101 (iAt sg x)) hx hb hw0 hown hK hR (gd_0 hG (by omega)) (hts _ kw_474) rfl dX4_interestOf_73 ?_
      have g4 := gr_101 hG (iAt sg x)
      refine xr_i2l hx hb dX4_interestOf_76 (by omega) ?_
      exact xv_l hx hb hr hlk hS (by decide) (by decide) dX4_interestOf_77 (by unfold interE; (repeat' split) <;> first | omega | grind) (by unfold interR; try unfold opt; (repeat' split) <;> omega) (by exact hR)
    · skip
      rw [h3]
      refine lv_tableIn (tgt := 78) (off := 57) hx hb dX4_interestOf_21 (by decide) (by decide) (by decide) (by decide) ?_
      refine lv_aload_n hx hb dX4_interestOf_78 rfl (lv_at hl 0 rfl) ?_
      refine xg_102 (v := sg 102 (iAt sg x)) hx hb hw0 hown hK hR (gd_0 hG (by omega)) (hts _ kw_476) rfl dX4_interestOf_79 ?_
      have g5 := gr_102 hG (iAt sg x)
      rw [rv_p (f := ad 1) (v := sg 102 (iAt sg x)) (by omega)]
      refine xk_pF (xr_S (As := [.ref (ad 1 (sg 102 (iAt sg x)))]) (rest := []) hx hb hml hown hts hK (c_X4_numberOf hR hG (sg 102 (iAt sg x)) ((rv_p (by omega)).symm) (by omega)) ms_X4_numberOf kw_303 ⟨by decide, by decide⟩ ⟨by decide, by decide⟩ rfl rfl hl.1 rfl (lv_room (by decide)) dX4_interestOf_82) ?_
      refine xr_i2l hx hb dX4_interestOf_85 (by omega) ?_
      exact xv_l hx hb hr hlk hS (by decide) (by decide) dX4_interestOf_86 (by unfold interE; (repeat' split) <;> first | omega | grind) (by unfold interR; try unfold opt; (repeat' split) <;> omega) (by exact hR)
    · skip
      rw [h3]
      refine lv_tableIn (tgt := 87) (off := 66) hx hb dX4_interestOf_21 (by decide) (by decide) (by decide) (by decide) ?_
      refine lv_aload_n hx hb dX4_interestOf_87 rfl (lv_at hl 0 rfl) ?_
      refine xg_103 (v := sg 103 (iAt sg x)) hx hb hw0 hown hK hR (gd_0 hG (by omega)) (hts _ kw_478) rfl dX4_interestOf_88 ?_
      have g6 := gr_103 hG (iAt sg x)
      refine xr_i2l hx hb dX4_interestOf_91 (by omega) ?_
      exact xv_l hx hb hr hlk hS (by decide) (by decide) dX4_interestOf_92 (by unfold interE; (repeat' split) <;> first | omega | grind) (by unfold interR; try unfold opt; (repeat' split) <;> omega) (by exact hR)
    · skip
      rw [h3]
      refine lv_tableIn (tgt := 93) (off := 72) hx hb dX4_interestOf_21 (by decide) (by decide) (by decide) (by decide) ?_
      refine lv_aload_n hx hb dX4_interestOf_93 rfl (lv_at hl 0 rfl) ?_
      refine xg_104 (v := sg 104 (iAt sg x)) hx hb hw0 hown hK hR (gd_0 hG (by omega)) (hts _ kw_480) rfl dX4_interestOf_94 ?_
      have g7 := gr_104 hG (iAt sg x)
      refine xr_i2l hx hb dX4_interestOf_97 (by omega) ?_
      exact xv_l hx hb hr hlk hS (by decide) (by decide) dX4_interestOf_98 (by unfold interE; (repeat' split) <;> first | omega | grind) (by unfold interR; try unfold opt; (repeat' split) <;> omega) (by exact hR)
    · skip
      rw [h3]
      refine lv_tableIn (tgt := 99) (off := 78) hx hb dX4_interestOf_21 (by decide) (by decide) (by decide) (by decide) ?_
      refine lv_aload_n hx hb dX4_interestOf_99 rfl (lv_at hl 0 rfl) ?_
      refine xg_105 (v := sg 105 (iAt sg x)) hx hb hw0 hown hK hR (gd_0 hG (by omega)) (hts _ kw_482) rfl dX4_interestOf_100 ?_
      have g8 := gr_105 hG (iAt sg x)
      refine xr_i2l hx hb dX4_interestOf_103 (by omega) ?_
      exact xv_l hx hb hr hlk hS (by decide) (by decide) dX4_interestOf_104 (by unfold interE; (repeat' split) <;> first | omega | grind) (by unfold interR; try unfold opt; (repeat' split) <;> omega) (by exact hR)
    · skip
      rw [h3]
      refine lv_tableIn (tgt := 105) (off := 84) hx hb dX4_interestOf_21 (by decide) (by decide) (by decide) (by decide) ?_
      refine lv_aload_n hx hb dX4_interestOf_105 rfl (lv_at hl 0 rfl) ?_
      refine xg_107 (v := sg 107 (iAt sg x)) hx hb hw0 hown hK hR (gd_0 hG (by omega)) (hts _ kw_486) rfl dX4_interestOf_106 ?_
      have g9 := gr_107 hG (iAt sg x)
      refine xr_i2l hx hb dX4_interestOf_109 (by omega) ?_
      exact xv_l hx hb hr hlk hS (by decide) (by decide) dX4_interestOf_110 (by unfold interE; (repeat' split) <;> first | omega | grind) (by unfold interR; try unfold opt; (repeat' split) <;> omega) (by exact hR)
    · skip
      rw [h3]
      refine lv_tableIn (tgt := 111) (off := 90) hx hb dX4_interestOf_21 (by decide) (by decide) (by decide) (by decide) ?_
      refine lv_aload_n hx hb dX4_interestOf_111 rfl (lv_at hl 0 rfl) ?_
      refine xg_109 (v := sg 109 (iAt sg x)) hx hb hw0 hown hK hR (gd_0 hG (by omega)) (hts _ kw_488) rfl dX4_interestOf_112 ?_
      have g10 := gr_109 hG (iAt sg x)
      refine xr_if_eq (tgt := 122) hx hb dX4_interestOf_115 (by decide) (by omega) (fun h11 => ?_) (fun h11 => ?_)
      · skip
        refine lv_lconst (v := lI (0)) hx hb dX4_interestOf_122 (by decide) ?_
        exact xv_l hx hb hr hlk hS (by decide) (by decide) dX4_interestOf_123 (by unfold interE; (repeat' split) <;> first | omega | grind) (by unfold interR; try unfold opt; (repeat' split) <;> omega) (by exact hR)
      · skip
        refine lv_lconst (v := lI (1)) hx hb dX4_interestOf_118 (by decide) ?_
        refine lv_goto (tgt := 123) hx hb dX4_interestOf_119 (by decide) ?_
        exact xv_l hx hb hr hlk hS (by decide) (by decide) dX4_interestOf_123 (by unfold interE; (repeat' split) <;> first | omega | grind) (by unfold interR; try unfold opt; (repeat' split) <;> omega) (by exact hR)
    · skip
      rw [h3]
      refine lv_tableIn (tgt := 124) (off := 103) hx hb dX4_interestOf_21 (by decide) (by decide) (by decide) (by decide) ?_
      refine lv_aload_n hx hb dX4_interestOf_124 rfl (lv_at hl 0 rfl) ?_
      refine xg_110 (v := sg 110 (iAt sg x)) hx hb hw0 hown hK hR (gd_0 hG (by omega)) (hts _ kw_489) rfl dX4_interestOf_125 ?_
      have g12 := gr_110 hG (iAt sg x)
      exact xv_l hx hb hr hlk hS (by decide) (by decide) dX4_interestOf_128 (by unfold interE; (repeat' split) <;> first | omega | grind) (by unfold interR; try unfold opt; (repeat' split) <;> omega) (by exact hR)
    · skip
      rw [h3]
      refine lv_tableIn (tgt := 129) (off := 108) hx hb dX4_interestOf_21 (by decide) (by decide) (by decide) (by decide) ?_
      refine lv_aload_n hx hb dX4_interestOf_129 rfl (lv_at hl 0 rfl) ?_
      refine xg_111 (v := sg 111 (iAt sg x)) hx hb hw0 hown hK hR (gd_0 hG (by omega)) (hts _ kw_490) rfl dX4_interestOf_130 ?_
      have g13 := gr_111 hG (iAt sg x)
      refine lv_aload_n hx hb dX4_interestOf_133 rfl (lv_at hl 0 rfl) ?_
      refine xg_113 (v := sg 113 (iAt sg x)) hx hb hw0 hown hK hR (gd_0 hG (by omega)) (hts _ kw_493) rfl dX4_interestOf_134 ?_
      have g14 := gr_113 hG (iAt sg x)
      refine xr_ladd hx hb dX4_interestOf_137 ?_
      exact xv_l hx hb hr hlk hS (by decide) (by decide) dX4_interestOf_138 (by unfold interE; (repeat' split) <;> first | omega | grind) (by unfold interR; try unfold opt; (repeat' split) <;> omega) (by exact hR)
  · skip
    rw [rv_n h2] at hl
    exact xt_1 (thr := interE sg x w) (text := "no such INTEREST") (P := fun H' => RC D cy A ad sg H') hx hb hl0 hown hts hX hS (hl.1.trans hml.symm) hxt hlk (by decide) dX4_interestOf_10 dX4_interestOf_13 dX4_interestOf_14 dX4_interestOf_16 dX4_interestOf_19 (by decide) (by decide) (by decide) (by decide) (by decide) (by decide) (wr_more hR) (by unfold interE; (repeat' split) <;> first | omega | grind)
theorem ms_X4_draw : MVi RX4 yX4_draw cX4_draw 6 (some .int) 3 := ⟨kw_540, kw_538, kw_539, kw_1, rfl, by decide, by decide, by decide +kernel⟩
set_option maxRecDepth 100000 in
set_option maxHeartbeats 4000000 in
theorem c_X4_draw {l : Launch} {D : va_G} {cy : Nat → ClassId} {A : Nat → Prop} {ad : Nat → Int → Nat} {sg : Nat → Int → Int} {H : Heap} (hR : RC D cy A ad sg H) (hG : GC sg) (hl0 : l.stackTraces = false) (hA : ∀ q : Nat, H.size ≤ q → A q) (w : Int) (x : Int) (a : Int) (h_w : in32 w) (h_x : in32 x) (h_a : in32 a) : vx_Met l yX4_draw (Cond.code yX4_draw cX4_draw 6 (some .int) :: wG) (rmF 6 82 1 6) (PcX A D cy H [.ref (ad 4 (0)), .int (iI (w)), .int (iI (x)), .int (iI (a))]) (QmT (drawE sg w x a = 0) (some (.int (iI (cntNeed (st (st sg 204 (pAt x) (sAt sg w)) 205 (pAt x) a) (sAt sg w))))) (fun H' => RC D cy A ad (st (st sg 204 (pAt x) (sAt sg w)) 205 (pAt x) a) H') A) (XCx (drawE sg w x a) (fun H' => RC D cy A ad sg H') A) 1 6 A := by
  refine vmet_of (la := [(0, .ref (ad 4 (0))), (1, .int (iI (w))), (2, .int (iI (x))), (3, .int (iI (a)))]) (by decide) (Nat.le_of_ble_eq_true rfl) rfl ?_
  intro p e R s m args below meth c ls hRm hx hb hml hr hlk hxt hown hts hsH hK hX hl
  subst hRm
  have hown : s.vm.findClass "Takinghall" = some m.cls := hown
  have hw1 : ∀ w ∈ u_ws RX1 TX1 11, w.before args s = true := fun w h => hts w (uw_X1 w h)
  have hw3 : ∀ w ∈ u_ws RX3 TX3 6, w.before args s = true := fun w h => hts w (uw_X3 w h)
  have hS : va_S A s.heap H [] := by rw [hsH]; exact va_S.rf
  have g505 := gr_505 hG 0
  refine lv_aload_n hx hb dX4_draw_0 rfl (lv_at hl 0 rfl) ?_
  refine lv_iload_n hx hb dX4_draw_1 rfl (lv_at hl 1 rfl) ?_
  refine xk_pF (xr_V (As := [.int (iI (w))]) (rest := []) hx hb hml hown hts hK (c_X4_schemeAt hR hG w (by omega)) ms_X4_schemeAt kw_346 (wr_recv hK hR (gd_4 hG) rfl rfl) ⟨by decide, by decide⟩ ⟨by decide, by decide⟩ rfl rfl hl.1 rfl (lv_room (by decide)) dX4_draw_2) ?_
  have g1 := sAt_rng hG (w)
  refine xr_astore (i := 4) (lv' := [(4, rv (ad 3) (sAt sg w)), (0, .ref (ad 4 (0))), (1, .int (iI (w))), (2, .int (iI (x))), (3, .int (iI (a)))]) hx hb dX4_draw_5 hl (by decide) rfl (fun ls hl => ?_)
  refine lv_aload_n hx hb dX4_draw_7 rfl (lv_at hl 1 rfl) ?_
  refine lv_iload_n hx hb dX4_draw_8 rfl (lv_at hl 3 rfl) ?_
  refine xk_pF (xr_V (As := [.int (iI (x))]) (rest := []) hx hb hml hown hts hK (c_X4_plotAt hR hG x (by omega)) ms_X4_plotAt kw_132 (wr_recv hK hR (gd_4 hG) rfl rfl) ⟨by decide, by decide⟩ ⟨by decide, by decide⟩ rfl rfl hl.1 rfl (lv_room (by decide)) dX4_draw_9) ?_
  have g2 := pAt_rng (x)
  refine xr_astore (i := 5) (lv' := [(5, rv (ad 1) (pAt x)), (4, rv (ad 3) (sAt sg w)), (0, .ref (ad 4 (0))), (1, .int (iI (w))), (2, .int (iI (x))), (3, .int (iI (a)))]) hx hb dX4_draw_12 hl (by decide) (by simp [rv_cat, cat_i, cat_l, cat_r, cat_n]) (fun ls hl => ?_)
  refine xr_aload hx hb dX4_draw_14 (lv_at hl 1 rfl) ?_
  refine xr_ifnull (tgt := 24) hx hb dX4_draw_16 (by decide) (fun h3 => ?_) (fun h3 => ?_)
  · skip
    rw [rv_n h3] at hl
    exact xt_1 (thr := drawE sg w x a) (text := "no such SCHEME or PLOT") (P := fun H' => RC D cy A ad sg H') hx hb hl0 hown hts hX hS (hl.1.trans hml.symm) hxt hlk (by decide) dX4_draw_24 dX4_draw_27 dX4_draw_28 dX4_draw_30 dX4_draw_33 (by decide) (by decide) (by decide) (by decide) (by decide) (by decide) (wr_more hR) (by unfold drawE; (repeat' split) <;> first | omega | grind)
  · skip
    rw [rv_p h3] at hl
    refine xr_aload hx hb dX4_draw_19 (lv_at hl 0 rfl) ?_
    refine xr_ifnonnull (tgt := 34) hx hb dX4_draw_21 (by decide) (fun h4 => ?_) (fun h4 => ?_)
    · skip
      rw [rv_p h4] at hl
      refine lv_iload_n hx hb dX4_draw_34 rfl (lv_at hl 5 rfl) ?_
      refine lv_iconst (v := iI (1)) hx hb dX4_draw_35 rfl ?_
      refine lv_bipush (v := iI (100)) hx hb dX4_draw_36 (by decide) ?_
      refine xk_pF (xr_S (As := [.int (iI (a)), .int (iI (1)), .int (iI (100))]) (rest := []) hx hb hml hown hts hK (c_X4_isWithin hR hG a 1 100 (by omega) (by omega) (by omega)) ms_X4_isWithin kw_204 ⟨by decide, by decide⟩ ⟨by decide, by decide⟩ rfl rfl hl.1 rfl (lv_room (by decide)) dX4_draw_38) ?_
      refine xr_ifb_ne (tgt := 54) hx hb dX4_draw_41 (by decide) (fun h5 => ?_) (fun h5 => ?_)
      · skip
        refine lv_aload hx hb dX4_draw_54 (lv_at hl 1 rfl) ?_
        refine xg_403 (v := sg 403 (sAt sg w)) hx hb hw3 hown hK hR (gd_3 hG (by omega)) (hts _ kw_324) rfl dX4_draw_56 ?_
        have g6 := gr_403 hG (sAt sg w)
        refine xr_if_ne (tgt := 78) hx hb dX4_draw_59 (by decide) (by omega) (fun h7 => ?_) (fun h7 => ?_)
        · skip
          exact xt_3 (thr := drawE sg w x a) (text := "the SCHEME is no DRAFT, or the PLOT is not FREE, or NEEDED") (P := fun H' => RC D cy A ad sg H') hx hb hl0 hown hts hX hS (hl.1.trans hml.symm) hxt hlk (by decide) dX4_draw_78 dX4_draw_81 dX4_draw_82 dX4_draw_84 dX4_draw_87 (by decide) (by decide) (by decide) (by decide) (by decide) (by decide) (wr_more hR) (by unfold drawE; (repeat' split) <;> first | omega | grind)
        · skip
          refine lv_aload hx hb dX4_draw_62 (lv_at hl 0 rfl) ?_
          refine xg_203 (v := sg 203 (pAt x)) hx hb hw1 hown hK hR (gd_1 hG (by omega)) (hts _ kw_41) rfl dX4_draw_64 ?_
          have g8 := gr_203 hG (pAt x)
          refine xr_if_ne (tgt := 78) hx hb dX4_draw_67 (by decide) (by omega) (fun h9 => ?_) (fun h9 => ?_)
          · skip
            exact xt_3 (thr := drawE sg w x a) (text := "the SCHEME is no DRAFT, or the PLOT is not FREE, or NEEDED") (P := fun H' => RC D cy A ad sg H') hx hb hl0 hown hts hX hS (hl.1.trans hml.symm) hxt hlk (by decide) dX4_draw_78 dX4_draw_81 dX4_draw_82 dX4_draw_84 dX4_draw_87 (by decide) (by decide) (by decide) (by decide) (by decide) (by decide) (wr_more hR) (by unfold drawE; (repeat' split) <;> first | omega | grind)
          · skip
            refine lv_aload hx hb dX4_draw_70 (lv_at hl 0 rfl) ?_
            refine xk_pF (xr_S (As := [.ref (ad 1 (pAt x))]) (rest := []) hx hb hml hown hts hK (c_X4_isNeeded hR hG (pAt x) ((rv_p (by omega)).symm) (by omega)) ms_X4_isNeeded kw_226 ⟨by decide, by decide⟩ ⟨by decide, by decide⟩ rfl rfl hl.1 rfl (lv_room (by decide)) dX4_draw_72) ?_
            refine xr_ifb_eq (tgt := 88) hx hb dX4_draw_75 (by decide) (fun h10 => ?_) (fun h10 => ?_)
            · skip
              refine lv_aload hx hb dX4_draw_88 (lv_at hl 0 rfl) ?_
              refine lv_aload hx hb dX4_draw_90 (lv_at hl 1 rfl) ?_
              refine xp_204 (v := sAt sg w) hx hb hw1 hown hK hR hS (gd_1 hG (by omega)) ((rv_p (by omega)).symm) (hts _ kw_42) dX4_draw_92 (fun H locs hR hS => ?_)
              refine lv_aload hx hb dX4_draw_95 (lv_at hl 0 rfl) ?_
              refine lv_iload_n hx hb dX4_draw_97 rfl (lv_at hl 5 rfl) ?_
              refine xp_205 (v := a) hx hb hw1 hown hK hR hS ((dm_st (by decide) _ _).mpr (gd_1 hG (by omega))) (hts _ kw_43) dX4_draw_98 (fun H locs hR hS => ?_)
              refine lv_aload_n hx hb dX4_draw_101 rfl (lv_at hl 2 rfl) ?_
              refine lv_aload hx hb dX4_draw_102 (lv_at hl 1 rfl) ?_
              refine xk_pF (xr_V (As := [.ref (ad 3 (sAt sg w))]) (rest := []) hx hb hml hown hts hK (c_X4_countNeeded hR (gc_205 (gc_204 hG (pAt x) (v := sAt sg w) (by omega)) (pAt x) (v := a) (by omega)) (sAt sg w) ((rv_p (by omega)).symm) (by first | omega | (have z : (sAt sg w) < sg 505 0 := (by omega); exact z))) ms_X4_countNeeded kw_544 (wr_recv hK hR ((dm_st (by decide) _ _).mpr ((dm_st (by decide) _ _).mpr (gd_4 hG))) rfl rfl) ⟨by decide, by decide⟩ ⟨by decide, by decide⟩ rfl rfl hl.1 rfl (lv_room (by decide)) dX4_draw_104) ?_
              exact xv_i hx hb hr hlk hS (by decide) (by decide) dX4_draw_107 (by unfold drawE; (repeat' split) <;> first | omega | grind) (by rfl) (by exact hR)
            · skip
              exact xt_3 (thr := drawE sg w x a) (text := "the SCHEME is no DRAFT, or the PLOT is not FREE, or NEEDED") (P := fun H' => RC D cy A ad sg H') hx hb hl0 hown hts hX hS (hl.1.trans hml.symm) hxt hlk (by decide) dX4_draw_78 dX4_draw_81 dX4_draw_82 dX4_draw_84 dX4_draw_87 (by decide) (by decide) (by decide) (by decide) (by decide) (by decide) (wr_more hR) (by unfold drawE; (repeat' split) <;> first | omega | grind)
      · skip
        exact xt_2 (thr := drawE sg w x a) (text := "part out of its range") (P := fun H' => RC D cy A ad sg H') hx hb hl0 hown hts hX hS (hl.1.trans hml.symm) hxt hlk (by decide) dX4_draw_44 dX4_draw_47 dX4_draw_48 dX4_draw_50 dX4_draw_53 (by decide) (by decide) (by decide) (by decide) (by decide) (by decide) (wr_more hR) (by unfold drawE; (repeat' split) <;> first | omega | grind)
    · skip
      rw [rv_n h4] at hl
      exact xt_1 (thr := drawE sg w x a) (text := "no such SCHEME or PLOT") (P := fun H' => RC D cy A ad sg H') hx hb hl0 hown hts hX hS (hl.1.trans hml.symm) hxt hlk (by decide) dX4_draw_24 dX4_draw_27 dX4_draw_28 dX4_draw_30 dX4_draw_33 (by decide) (by decide) (by decide) (by decide) (by decide) (by decide) (wr_more hR) (by unfold drawE; (repeat' split) <;> first | omega | grind)
theorem ms_X4_notice : MVi RX4 yX4_notice cX4_notice 4 (some .int) 1 := ⟨kw_551, kw_549, kw_550, kw_1, rfl, by decide, by decide, by decide +kernel⟩
set_option maxRecDepth 100000 in
set_option maxHeartbeats 4000000 in
theorem c_X4_notice {l : Launch} {D : va_G} {cy : Nat → ClassId} {A : Nat → Prop} {ad : Nat → Int → Nat} {sg : Nat → Int → Int} {H : Heap} (hR : RC D cy A ad sg H) (hG : GC sg) (hl0 : l.stackTraces = false) (hA : ∀ q : Nat, H.size ≤ q → A q) (x : Int) (h_x : in32 x) : vx_Met l yX4_notice (Cond.code yX4_notice cX4_notice 4 (some .int) :: wG) (rmF 6 84 1 6) (PcX A D cy H [.ref (ad 4 (0)), .int (iI (x))]) (QmT (noticeE sg x = 0) (some (.int (iI (draftO sg (sg 102 (iAt sg x)))))) (fun H' => RC D cy A ad (st sg 107 (iAt sg x) (sg 506 0)) H') A) (XCx (noticeE sg x) (fun H' => RC D cy A ad sg H') A) 1 6 A := by
  refine vmet_of (la := [(0, .ref (ad 4 (0))), (1, .int (iI (x)))]) (by decide) (Nat.le_of_ble_eq_true rfl) rfl ?_
  intro p e R s m args below meth c ls hRm hx hb hml hr hlk hxt hown hts hsH hK hX hl
  subst hRm
  have hown : s.vm.findClass "Takinghall" = some m.cls := hown
  have hw0 : ∀ w ∈ u_ws RX0 TX0 15, w.before args s = true := fun w h => hts w (uw_X0 w h)
  have hw3 : ∀ w ∈ u_ws RX3 TX3 6, w.before args s = true := fun w h => hts w (uw_X3 w h)
  have hw4 : ∀ w ∈ u_ws RX4 TX4 12, w.before args s = true := fun w h => hts w (uw_X4 w h)
  have hS : va_S A s.heap H [] := by rw [hsH]; exact va_S.rf
  refine lv_aload_n hx hb dX4_notice_0 rfl (lv_at hl 0 rfl) ?_
  refine lv_iload_n hx hb dX4_notice_1 rfl (lv_at hl 1 rfl) ?_
  refine xk_pF (xr_V (As := [.int (iI (x))]) (rest := []) hx hb hml hown hts hK (c_X4_interestAt hR hG x (by omega)) ms_X4_interestAt kw_298 (wr_recv hK hR (gd_4 hG) rfl rfl) ⟨by decide, by decide⟩ ⟨by decide, by decide⟩ rfl rfl hl.1 rfl (lv_room (by decide)) dX4_notice_2) ?_
  have g1 := iAt_rng hG (x)
  refine xr_astore_n (i := 2) (lv' := [(2, rv (ad 0) (iAt sg x)), (0, .ref (ad 4 (0))), (1, .int (iI (x)))]) hx hb dX4_notice_5 rfl hl (by decide) rfl (fun ls hl => ?_)
  refine xr_aload_n hx hb dX4_notice_6 rfl (lv_at hl 0 rfl) ?_
  refine xr_ifnonnull (tgt := 20) hx hb dX4_notice_7 (by decide) (fun h2 => ?_) (fun h2 => ?_)
  · skip
    rw [rv_p h2] at hl
    refine lv_aload_n hx hb dX4_notice_20 rfl (lv_at hl 0 rfl) ?_
    refine xg_102 (v := sg 102 (iAt sg x)) hx hb hw0 hown hK hR (gd_0 hG (by omega)) (hts _ kw_476) rfl dX4_notice_21 ?_
    have g3 := gr_102 hG (iAt sg x)
    rw [rv_p (f := ad 1) (v := sg 102 (iAt sg x)) (by omega)]
    refine xk_pF (xr_S (As := [.ref (ad 1 (sg 102 (iAt sg x)))]) (rest := []) hx hb hml hown hts hK (c_X4_draftOfFreePlot hR hG (sg 102 (iAt sg x)) ((rv_p (by omega)).symm) (by omega)) ms_X4_draftOfFreePlot kw_552 ⟨by decide, by decide⟩ ⟨by decide, by decide⟩ rfl rfl hl.1 rfl (lv_room (by decide)) dX4_notice_24) ?_
    have g4 := draftO_rng hG ((sg 102 (iAt sg x)))
    refine xr_astore_n (i := 3) (lv' := [(3, rv (ad 3) (draftO sg (sg 102 (iAt sg x)))), (2, .ref (ad 0 (iAt sg x))), (0, .ref (ad 4 (0))), (1, .int (iI (x)))]) hx hb dX4_notice_27 rfl hl (by decide) rfl (fun ls hl => ?_)
    refine xr_aload_n hx hb dX4_notice_28 rfl (lv_at hl 0 rfl) ?_
    refine xr_ifnull (tgt := 40) hx hb dX4_notice_29 (by decide) (fun h5 => ?_) (fun h5 => ?_)
    · skip
      rw [rv_n h5] at hl
      exact xt_3 (thr := noticeE sg x) (text := "no notice can be given to it") (P := fun H' => RC D cy A ad sg H') hx hb hl0 hown hts hX hS (hl.1.trans hml.symm) hxt hlk (by decide) dX4_notice_40 dX4_notice_43 dX4_notice_44 dX4_notice_46 dX4_notice_49 (by decide) (by decide) (by decide) (by decide) (by decide) (by decide) (wr_more hR) (by unfold noticeE; (repeat' split) <;> first | omega | grind)
    · skip
      rw [rv_p h5] at hl
      refine lv_aload_n hx hb dX4_notice_32 rfl (lv_at hl 1 rfl) ?_
      refine xg_107 (v := sg 107 (iAt sg x)) hx hb hw0 hown hK hR (gd_0 hG (by omega)) (hts _ kw_486) rfl dX4_notice_33 ?_
      have g6 := gr_107 hG (iAt sg x)
      refine lv_iconst (v := iI (-1)) hx hb dX4_notice_36 rfl ?_
      refine xr_icmp_eq (tgt := 50) hx hb dX4_notice_37 (by decide) (by omega) (by omega) (fun h7 => ?_) (fun h7 => ?_)
      · skip
        refine lv_aload_n hx hb dX4_notice_50 rfl (lv_at hl 1 rfl) ?_
        refine lv_aload_n hx hb dX4_notice_51 rfl (lv_at hl 2 rfl) ?_
        refine xg_506 (v := sg 506 0) hx hb hw4 hown hK hR (gd_4 hG) (hts _ kw_97) rfl dX4_notice_52 ?_
        have g8 := gr_506 hG (0)
        refine xp_107 (v := sg 506 0) hx hb hw0 hown hK hR hS (gd_0 hG (by omega)) (hts _ kw_486) dX4_notice_55 (fun H locs hR hS => ?_)
        refine lv_aload_n hx hb dX4_notice_58 rfl (lv_at hl 0 rfl) ?_
        refine xg_400 (v := sg 400 (draftO sg (sg 102 (iAt sg x)))) hx hb hw3 hown hK hR ((dm_st (by decide) _ _).mpr (gd_3 hG (by omega))) (hts _ kw_318) ((st_f (by decide)).trans rfl) dX4_notice_59 ?_
        have g9 := gn_400 hG (q := draftO sg (sg 102 (iAt sg x))) (by omega)
        have g10 := gr_505 hG 0
        exact xv_i hx hb hr hlk hS (by decide) (by decide) dX4_notice_62 (by unfold noticeE; (repeat' split) <;> first | omega | grind) (by omega) (by exact hR)
      · skip
        exact xt_3 (thr := noticeE sg x) (text := "no notice can be given to it") (P := fun H' => RC D cy A ad sg H') hx hb hl0 hown hts hX hS (hl.1.trans hml.symm) hxt hlk (by decide) dX4_notice_40 dX4_notice_43 dX4_notice_44 dX4_notice_46 dX4_notice_49 (by decide) (by decide) (by decide) (by decide) (by decide) (by decide) (wr_more hR) (by unfold noticeE; (repeat' split) <;> first | omega | grind)
  · skip
    rw [rv_n h2] at hl
    exact xt_1 (thr := noticeE sg x) (text := "no such INTEREST") (P := fun H' => RC D cy A ad sg H') hx hb hl0 hown hts hX hS (hl.1.trans hml.symm) hxt hlk (by decide) dX4_notice_10 dX4_notice_13 dX4_notice_14 dX4_notice_16 dX4_notice_19 (by decide) (by decide) (by decide) (by decide) (by decide) (by decide) (wr_more hR) (by unfold noticeE; (repeat' split) <;> first | omega | grind)
theorem ms_X4_object : MVi RX4 yX4_object cX4_object 4 (some .int) 1 := ⟨kw_559, kw_557, kw_558, kw_1, rfl, by decide, by decide, by decide +kernel⟩
set_option maxRecDepth 100000 in
set_option maxHeartbeats 4000000 in
theorem c_X4_object {l : Launch} {D : va_G} {cy : Nat → ClassId} {A : Nat → Prop} {ad : Nat → Int → Nat} {sg : Nat → Int → Int} {H : Heap} (hR : RC D cy A ad sg H) (hG : GC sg) (hl0 : l.stackTraces = false) (hA : ∀ q : Nat, H.size ≤ q → A q) (x : Int) (h_x : in32 x) : vx_Met l yX4_object (Cond.code yX4_object cX4_object 4 (some .int) :: wG) (rmF 6 89 1 6) (PcX A D cy H [.ref (ad 4 (0)), .int (iI (x))]) (QmT (objectE sg x = 0) (some (.int (iI (cntOpen (st (st sg 108 (iAt sg x) 1) 109 (iAt sg x) 1) (draftO sg (sg 102 (iAt sg x))))))) (fun H' => RC D cy A ad (st (st sg 108 (iAt sg x) 1) 109 (iAt sg x) 1) H') A) (XCx (objectE sg x) (fun H' => RC D cy A ad sg H') A) 1 6 A := by
  refine vmet_of (la := [(0, .ref (ad 4 (0))), (1, .int (iI (x)))]) (by decide) (Nat.le_of_ble_eq_true rfl) rfl ?_
  intro p e R s m args below meth c ls hRm hx hb hml hr hlk hxt hown hts hsH hK hX hl
  subst hRm
  have hown : s.vm.findClass "Takinghall" = some m.cls := hown
  have hw0 : ∀ w ∈ u_ws RX0 TX0 15, w.before args s = true := fun w h => hts w (uw_X0 w h)
  have hw4 : ∀ w ∈ u_ws RX4 TX4 12, w.before args s = true := fun w h => hts w (uw_X4 w h)
  have hS : va_S A s.heap H [] := by rw [hsH]; exact va_S.rf
  refine lv_aload_n hx hb dX4_object_0 rfl (lv_at hl 0 rfl) ?_
  refine lv_iload_n hx hb dX4_object_1 rfl (lv_at hl 1 rfl) ?_
  refine xk_pF (xr_V (As := [.int (iI (x))]) (rest := []) hx hb hml hown hts hK (c_X4_interestAt hR hG x (by omega)) ms_X4_interestAt kw_298 (wr_recv hK hR (gd_4 hG) rfl rfl) ⟨by decide, by decide⟩ ⟨by decide, by decide⟩ rfl rfl hl.1 rfl (lv_room (by decide)) dX4_object_2) ?_
  have g1 := iAt_rng hG (x)
  refine xr_astore_n (i := 2) (lv' := [(2, rv (ad 0) (iAt sg x)), (0, .ref (ad 4 (0))), (1, .int (iI (x)))]) hx hb dX4_object_5 rfl hl (by decide) rfl (fun ls hl => ?_)
  refine xr_aload_n hx hb dX4_object_6 rfl (lv_at hl 0 rfl) ?_
  refine xr_ifnonnull (tgt := 20) hx hb dX4_object_7 (by decide) (fun h2 => ?_) (fun h2 => ?_)
  · skip
    rw [rv_p h2] at hl
    refine lv_aload_n hx hb dX4_object_20 rfl (lv_at hl 0 rfl) ?_
    refine xg_102 (v := sg 102 (iAt sg x)) hx hb hw0 hown hK hR (gd_0 hG (by omega)) (hts _ kw_476) rfl dX4_object_21 ?_
    have g3 := gr_102 hG (iAt sg x)
    rw [rv_p (f := ad 1) (v := sg 102 (iAt sg x)) (by omega)]
    refine xk_pF (xr_S (As := [.ref (ad 1 (sg 102 (iAt sg x)))]) (rest := []) hx hb hml hown hts hK (c_X4_draftOfFreePlot hR hG (sg 102 (iAt sg x)) ((rv_p (by omega)).symm) (by omega)) ms_X4_draftOfFreePlot kw_552 ⟨by decide, by decide⟩ ⟨by decide, by decide⟩ rfl rfl hl.1 rfl (lv_room (by decide)) dX4_object_24) ?_
    have g4 := draftO_rng hG ((sg 102 (iAt sg x)))
    refine xr_astore_n (i := 3) (lv' := [(3, rv (ad 3) (draftO sg (sg 102 (iAt sg x)))), (2, .ref (ad 0 (iAt sg x))), (0, .ref (ad 4 (0))), (1, .int (iI (x)))]) hx hb dX4_object_27 rfl hl (by decide) rfl (fun ls hl => ?_)
    refine xr_aload_n hx hb dX4_object_28 rfl (lv_at hl 0 rfl) ?_
    refine xr_ifnull (tgt := 61) hx hb dX4_object_29 (by decide) (fun h5 => ?_) (fun h5 => ?_)
    · skip
      rw [rv_n h5] at hl
      exact xt_3 (thr := objectE sg x) (text := "it cannot object") (P := fun H' => RC D cy A ad sg H') hx hb hl0 hown hts hX hS (hl.1.trans hml.symm) hxt hlk (by decide) dX4_object_61 dX4_object_64 dX4_object_65 dX4_object_67 dX4_object_70 (by decide) (by decide) (by decide) (by decide) (by decide) (by decide) (wr_more hR) (by unfold objectE; (repeat' split) <;> first | omega | grind)
    · skip
      rw [rv_p h5] at hl
      refine lv_aload_n hx hb dX4_object_32 rfl (lv_at hl 1 rfl) ?_
      refine xg_107 (v := sg 107 (iAt sg x)) hx hb hw0 hown hK hR (gd_0 hG (by omega)) (hts _ kw_486) rfl dX4_object_33 ?_
      have g6 := gr_107 hG (iAt sg x)
      refine lv_iconst (v := iI (-1)) hx hb dX4_object_36 rfl ?_
      refine xr_icmp_eq (tgt := 61) hx hb dX4_object_37 (by decide) (by omega) (by omega) (fun h7 => ?_) (fun h7 => ?_)
      · skip
        exact xt_3 (thr := objectE sg x) (text := "it cannot object") (P := fun H' => RC D cy A ad sg H') hx hb hl0 hown hts hX hS (hl.1.trans hml.symm) hxt hlk (by decide) dX4_object_61 dX4_object_64 dX4_object_65 dX4_object_67 dX4_object_70 (by decide) (by decide) (by decide) (by decide) (by decide) (by decide) (wr_more hR) (by unfold objectE; (repeat' split) <;> first | omega | grind)
      · skip
        refine lv_aload_n hx hb dX4_object_40 rfl (lv_at hl 2 rfl) ?_
        refine xg_506 (v := sg 506 0) hx hb hw4 hown hK hR (gd_4 hG) (hts _ kw_97) rfl dX4_object_41 ?_
        have g8 := gr_506 hG (0)
        refine lv_aload_n hx hb dX4_object_44 rfl (lv_at hl 1 rfl) ?_
        refine xg_107 (v := sg 107 (iAt sg x)) hx hb hw0 hown hK hR (gd_0 hG (by omega)) (hts _ kw_486) rfl dX4_object_45 ?_
        refine xr_isub hx hb dX4_object_48 ?_
        refine lv_bipush (v := iI (21)) hx hb dX4_object_49 (by decide) ?_
        refine xr_icmp_gt (tgt := 61) hx hb dX4_object_51 (by decide) (by omega) (by omega) (fun h9 => ?_) (fun h9 => ?_)
        · skip
          exact xt_3 (thr := objectE sg x) (text := "it cannot object") (P := fun H' => RC D cy A ad sg H') hx hb hl0 hown hts hX hS (hl.1.trans hml.symm) hxt hlk (by decide) dX4_object_61 dX4_object_64 dX4_object_65 dX4_object_67 dX4_object_70 (by decide) (by decide) (by decide) (by decide) (by decide) (by decide) (wr_more hR) (by unfold objectE; (repeat' split) <;> first | omega | grind)
        · skip
          refine lv_aload_n hx hb dX4_object_54 rfl (lv_at hl 1 rfl) ?_
          refine xg_108 (v := sg 108 (iAt sg x)) hx hb hw0 hown hK hR (gd_0 hG (by omega)) (hts _ kw_487) rfl dX4_object_55 ?_
          have g10 := gr_108 hG (iAt sg x)
          refine xr_if_eq (tgt := 71) hx hb dX4_object_58 (by decide) (by omega) (fun h11 => ?_) (fun h11 => ?_)
          · skip
            refine lv_aload_n hx hb dX4_object_71 rfl (lv_at hl 1 rfl) ?_
            refine lv_iconst (v := iI (1)) hx hb dX4_object_72 rfl ?_
            refine xp_108 (v := 1) hx hb hw0 hown hK hR hS (gd_0 hG (by omega)) (by omega) (hts _ kw_487) dX4_object_73 (fun H locs hR hS => ?_)
            refine lv_aload_n hx hb dX4_object_76 rfl (lv_at hl 1 rfl) ?_
            refine lv_iconst (v := iI (1)) hx hb dX4_object_77 rfl ?_
            refine xp_109 (v := 1) hx hb hw0 hown hK hR hS ((dm_st (by decide) _ _).mpr (gd_0 hG (by omega))) (by omega) (hts _ kw_488) dX4_object_78 (fun H locs hR hS => ?_)
            refine lv_aload_n hx hb dX4_object_81 rfl (lv_at hl 2 rfl) ?_
            refine lv_aload_n hx hb dX4_object_82 rfl (lv_at hl 0 rfl) ?_
            refine xk_pF (xr_V (As := [.ref (ad 3 (draftO sg (sg 102 (iAt sg x))))]) (rest := []) hx hb hml hown hts hK (c_X4_countOpenObjections hR (gc_109 (gc_108 hG (iAt sg x) (v := 1) (by omega)) (iAt sg x) (v := 1) (by omega)) (draftO sg (sg 102 (iAt sg x))) ((rv_p (by omega)).symm) (by first | omega | (have z : (draftO sg (sg 102 (iAt sg x))) < sg 505 0 := (by omega); exact z))) ms_X4_countOpenObjections kw_561 (wr_recv hK hR ((dm_st (by decide) _ _).mpr ((dm_st (by decide) _ _).mpr (gd_4 hG))) rfl rfl) ⟨by decide, by decide⟩ ⟨by decide, by decide⟩ rfl rfl hl.1 rfl (lv_room (by decide)) dX4_object_83) ?_
            exact xv_i hx hb hr hlk hS (by decide) (by decide) dX4_object_86 (by unfold objectE; (repeat' split) <;> first | omega | grind) (by rfl) (by exact hR)
          · skip
            exact xt_3 (thr := objectE sg x) (text := "it cannot object") (P := fun H' => RC D cy A ad sg H') hx hb hl0 hown hts hX hS (hl.1.trans hml.symm) hxt hlk (by decide) dX4_object_61 dX4_object_64 dX4_object_65 dX4_object_67 dX4_object_70 (by decide) (by decide) (by decide) (by decide) (by decide) (by decide) (wr_more hR) (by unfold objectE; (repeat' split) <;> first | omega | grind)
  · skip
    rw [rv_n h2] at hl
    exact xt_1 (thr := objectE sg x) (text := "no such INTEREST") (P := fun H' => RC D cy A ad sg H') hx hb hl0 hown hts hX hS (hl.1.trans hml.symm) hxt hlk (by decide) dX4_object_10 dX4_object_13 dX4_object_14 dX4_object_16 dX4_object_19 (by decide) (by decide) (by decide) (by decide) (by decide) (by decide) (wr_more hR) (by unfold objectE; (repeat' split) <;> first | omega | grind)
theorem ms_X4_hear : MVi RX4 yX4_hear cX4_hear 5 (some .int) 2 := ⟨kw_568, kw_566, kw_567, kw_1, rfl, by decide, by decide, by decide +kernel⟩
set_option maxRecDepth 100000 in
set_option maxHeartbeats 4000000 in
theorem c_X4_hear {l : Launch} {D : va_G} {cy : Nat → ClassId} {A : Nat → Prop} {ad : Nat → Int → Nat} {sg : Nat → Int → Int} {H : Heap} (hR : RC D cy A ad sg H) (hG : GC sg) (hl0 : l.stackTraces = false) (hA : ∀ q : Nat, H.size ≤ q → A q) (x : Int) (b : Int) (h_x : in32 x) (hb01 : 0 ≤ b ∧ b ≤ 1) : vx_Met l yX4_hear (Cond.code yX4_hear cX4_hear 5 (some .int) :: wG) (rmF 6 89 1 6) (PcX A D cy H [.ref (ad 4 (0)), .int (iI (x)), .int (iI (b))]) (QmT (hearE sg x = 0) (some (.int (iI (cntOpen (hearT sg x b) (draftO sg (sg 102 (iAt sg x))))))) (fun H' => RC D cy A ad (hearT sg x b) H') A) (XCx (hearE sg x) (fun H' => RC D cy A ad sg H') A) 1 6 A := by
  refine vmet_of (la := [(0, .ref (ad 4 (0))), (1, .int (iI (x))), (2, .int (iI (b)))]) (by decide) (Nat.le_of_ble_eq_true rfl) rfl ?_
  intro p e R s m args below meth c ls hRm hx hb hml hr hlk hxt hown hts hsH hK hX hl
  subst hRm
  have hown : s.vm.findClass "Takinghall" = some m.cls := hown
  have hw0 : ∀ w ∈ u_ws RX0 TX0 15, w.before args s = true := fun w h => hts w (uw_X0 w h)
  have hS : va_S A s.heap H [] := by rw [hsH]; exact va_S.rf
  refine lv_aload_n hx hb dX4_hear_0 rfl (lv_at hl 0 rfl) ?_
  refine lv_iload_n hx hb dX4_hear_1 rfl (lv_at hl 1 rfl) ?_
  refine xk_pF (xr_V (As := [.int (iI (x))]) (rest := []) hx hb hml hown hts hK (c_X4_interestAt hR hG x (by omega)) ms_X4_interestAt kw_298 (wr_recv hK hR (gd_4 hG) rfl rfl) ⟨by decide, by decide⟩ ⟨by decide, by decide⟩ rfl rfl hl.1 rfl (lv_room (by decide)) dX4_hear_2) ?_
  have g1 := iAt_rng hG (x)
  refine xr_astore_n (i := 3) (lv' := [(3, rv (ad 0) (iAt sg x)), (0, .ref (ad 4 (0))), (1, .int (iI (x))), (2, .int (iI (b)))]) hx hb dX4_hear_5 rfl hl (by decide) rfl (fun ls hl => ?_)
  refine xr_aload_n hx hb dX4_hear_6 rfl (lv_at hl 0 rfl) ?_
  refine xr_ifnonnull (tgt := 20) hx hb dX4_hear_7 (by decide) (fun h2 => ?_) (fun h2 => ?_)
  · skip
    rw [rv_p h2] at hl
    refine lv_aload_n hx hb dX4_hear_20 rfl (lv_at hl 0 rfl) ?_
    refine xg_102 (v := sg 102 (iAt sg x)) hx hb hw0 hown hK hR (gd_0 hG (by omega)) (hts _ kw_476) rfl dX4_hear_21 ?_
    have g3 := gr_102 hG (iAt sg x)
    rw [rv_p (f := ad 1) (v := sg 102 (iAt sg x)) (by omega)]
    refine xk_pF (xr_S (As := [.ref (ad 1 (sg 102 (iAt sg x)))]) (rest := []) hx hb hml hown hts hK (c_X4_draftOfFreePlot hR hG (sg 102 (iAt sg x)) ((rv_p (by omega)).symm) (by omega)) ms_X4_draftOfFreePlot kw_552 ⟨by decide, by decide⟩ ⟨by decide, by decide⟩ rfl rfl hl.1 rfl (lv_room (by decide)) dX4_hear_24) ?_
    have g4 := draftO_rng hG ((sg 102 (iAt sg x)))
    refine xr_astore (i := 4) (lv' := [(4, rv (ad 3) (draftO sg (sg 102 (iAt sg x)))), (3, .ref (ad 0 (iAt sg x))), (0, .ref (ad 4 (0))), (1, .int (iI (x))), (2, .int (iI (b)))]) hx hb dX4_hear_27 hl (by decide) rfl (fun ls hl => ?_)
    refine xr_aload hx hb dX4_hear_29 (lv_at hl 0 rfl) ?_
    refine xr_ifnull (tgt := 41) hx hb dX4_hear_31 (by decide) (fun h5 => ?_) (fun h5 => ?_)
    · skip
      rw [rv_n h5] at hl
      exact xt_3 (thr := hearE sg x) (text := "it has no objection that can be heard") (P := fun H' => RC D cy A ad sg H') hx hb hl0 hown hts hX hS (hl.1.trans hml.symm) hxt hlk (by decide) dX4_hear_41 dX4_hear_44 dX4_hear_45 dX4_hear_47 dX4_hear_50 (by decide) (by decide) (by decide) (by decide) (by decide) (by decide) (wr_more hR) (by unfold hearE; (repeat' split) <;> first | omega | grind)
    · skip
      rw [rv_p h5] at hl
      refine lv_aload_n hx hb dX4_hear_34 rfl (lv_at hl 1 rfl) ?_
      refine xg_109 (v := sg 109 (iAt sg x)) hx hb hw0 hown hK hR (gd_0 hG (by omega)) (hts _ kw_488) rfl dX4_hear_35 ?_
      have g6 := gr_109 hG (iAt sg x)
      refine xr_if_ne (tgt := 51) hx hb dX4_hear_38 (by decide) (by omega) (fun h7 => ?_) (fun h7 => ?_)
      · skip
        refine lv_iload_n hx hb dX4_hear_51 rfl (lv_at hl 4 rfl) ?_
        refine xr_if_eq (tgt := 66) hx hb dX4_hear_52 (by decide) (by omega) (fun h8 => ?_) (fun h8 => ?_)
        · skip
          refine lv_aload_n hx hb dX4_hear_66 rfl (lv_at hl 1 rfl) ?_
          refine lv_iconst (v := iI (0)) hx hb dX4_hear_67 rfl ?_
          refine xp_109 (v := 0) hx hb hw0 hown hK hR hS (gd_0 hG (by omega)) (by omega) (hts _ kw_488) dX4_hear_68 (fun H locs hR hS => ?_)
          refine lv_aload_n hx hb dX4_hear_71 rfl (lv_at hl 2 rfl) ?_
          refine lv_aload hx hb dX4_hear_72 (lv_at hl 0 rfl) ?_
          refine xk_pF (xr_V (As := [.ref (ad 3 (draftO sg (sg 102 (iAt sg x))))]) (rest := []) hx hb hml hown hts hK (c_X4_countOpenObjections hR (gc_109 hG (iAt sg x) (v := 0) (by omega)) (draftO sg (sg 102 (iAt sg x))) ((rv_p (by omega)).symm) (by first | omega | (have z : (draftO sg (sg 102 (iAt sg x))) < sg 505 0 := (by omega); exact z))) ms_X4_countOpenObjections kw_561 (wr_recv hK hR ((dm_st (by decide) _ _).mpr (gd_4 hG)) rfl rfl) ⟨by decide, by decide⟩ ⟨by decide, by decide⟩ rfl rfl hl.1 rfl (lv_room (by decide)) dX4_hear_74) ?_
          exact xv_i hx hb hr hlk hS (by decide) (by decide) dX4_hear_77 (by unfold hearE; (repeat' split) <;> first | omega | grind) (by unfold hearT; first | rw [if_pos (by omega)] | rw [if_neg (by omega)]) (by unfold hearT; first | (rw [if_pos (by omega)]; exact hR) | (rw [if_neg (by omega)]; exact hR))
        · skip
          refine lv_aload_n hx hb dX4_hear_55 rfl (lv_at hl 2 rfl) ?_
          refine lv_aload_n hx hb dX4_hear_56 rfl (lv_at hl 1 rfl) ?_
          refine xg_102 (v := sg 102 (iAt sg x)) hx hb hw0 hown hK hR (gd_0 hG (by omega)) (hts _ kw_476) rfl dX4_hear_57 ?_
          rw [rv_p (f := ad 1) (v := sg 102 (iAt sg x)) (by omega)]
          refine xk_mF (xr_V (As := [.ref (ad 1 (sg 102 (iAt sg x)))]) (rest := []) hx hb hml hown hts hK (c_X4_release hR hG (sg 102 (iAt sg x)) (by omega)) ms_X4_release kw_570 (wr_recv hK hR (gd_4 hG) rfl rfl) ⟨by decide, by decide⟩ ⟨by decide, by decide⟩ rfl rfl hl.1 rfl (lv_room (by decide)) dX4_hear_60) hS (fun H locs hR hS hz hq => ?_)
          have G9 : GC (relT sg (sg 102 (iAt sg x))) := gc_relN hG _ 24
          refine lv_goto (tgt := 71) hx hb dX4_hear_63 (by decide) ?_
          refine lv_aload_n hx hb dX4_hear_71 rfl (lv_at hl 2 rfl) ?_
          refine lv_aload hx hb dX4_hear_72 (lv_at hl 0 rfl) ?_
          refine xk_pF (xr_V (As := [.ref (ad 3 (draftO sg (sg 102 (iAt sg x))))]) (rest := []) hx hb hml hown hts hK (c_X4_countOpenObjections hR G9 (draftO sg (sg 102 (iAt sg x))) ((rv_p (by omega)).symm) (by first | omega | (have z : (draftO sg (sg 102 (iAt sg x))) < sg 505 0 := (by omega); exact z))) ms_X4_countOpenObjections kw_561 (wr_recv hK hR (gd_4 G9) rfl rfl) ⟨by decide, by decide⟩ ⟨by decide, by decide⟩ rfl rfl hl.1 rfl (lv_room (by decide)) dX4_hear_74) ?_
          exact xv_i hx hb hr hlk hS (by decide) (by decide) dX4_hear_77 (by unfold hearE; (repeat' split) <;> first | omega | grind) (by unfold hearT; first | rw [if_pos (by omega)] | rw [if_neg (by omega)]) (by unfold hearT; first | (rw [if_pos (by omega)]; exact hR) | (rw [if_neg (by omega)]; exact hR))
      · skip
        exact xt_3 (thr := hearE sg x) (text := "it has no objection that can be heard") (P := fun H' => RC D cy A ad sg H') hx hb hl0 hown hts hX hS (hl.1.trans hml.symm) hxt hlk (by decide) dX4_hear_41 dX4_hear_44 dX4_hear_45 dX4_hear_47 dX4_hear_50 (by decide) (by decide) (by decide) (by decide) (by decide) (by decide) (wr_more hR) (by unfold hearE; (repeat' split) <;> first | omega | grind)
  · skip
    rw [rv_n h2] at hl
    exact xt_1 (thr := hearE sg x) (text := "no such INTEREST") (P := fun H' => RC D cy A ad sg H') hx hb hl0 hown hts hX hS (hl.1.trans hml.symm) hxt hlk (by decide) dX4_hear_10 dX4_hear_13 dX4_hear_14 dX4_hear_16 dX4_hear_19 (by decide) (by decide) (by decide) (by decide) (by decide) (by decide) (wr_more hR) (by unfold hearE; (repeat' split) <;> first | omega | grind)
theorem ms_X4_confirm : MVi RX4 yX4_confirm cX4_confirm 4 (some .int) 1 := ⟨kw_577, kw_575, kw_576, kw_1, rfl, by decide, by decide, by decide +kernel⟩
set_option maxRecDepth 100000 in
set_option maxHeartbeats 4000000 in
theorem c_X4_confirm {l : Launch} {D : va_G} {cy : Nat → ClassId} {A : Nat → Prop} {ad : Nat → Int → Nat} {sg : Nat → Int → Int} {H : Heap} (hR : RC D cy A ad sg H) (hG : GC sg) (hl0 : l.stackTraces = false) (hA : ∀ q : Nat, H.size ≤ q → A q) (w : Int) (h_w : in32 w) : vx_Met l yX4_confirm (Cond.code yX4_confirm cX4_confirm 4 (some .int) :: wG) (rmF 6 89 1 6) (PcX A D cy H [.ref (ad 4 (0)), .int (iI (w))]) (QmT (confirmE sg w = 0) (some (.int (iI (cntFree sg (sAt sg w))))) (fun H' => RC D cy A ad (st (st sg 403 (sAt sg w) 1) 404 (sAt sg w) (sg 506 0)) H') A) (XCx (confirmE sg w) (fun H' => RC D cy A ad sg H') A) 1 6 A := by
  refine vmet_of (la := [(0, .ref (ad 4 (0))), (1, .int (iI (w)))]) (by decide) (Nat.le_of_ble_eq_true rfl) rfl ?_
  intro p e R s m args below meth c ls hRm hx hb hml hr hlk hxt hown hts hsH hK hX hl
  subst hRm
  have hown : s.vm.findClass "Takinghall" = some m.cls := hown
  have hw3 : ∀ w ∈ u_ws RX3 TX3 6, w.before args s = true := fun w h => hts w (uw_X3 w h)
  have hw4 : ∀ w ∈ u_ws RX4 TX4 12, w.before args s = true := fun w h => hts w (uw_X4 w h)
  have hS : va_S A s.heap H [] := by rw [hsH]; exact va_S.rf
  refine lv_aload_n hx hb dX4_confirm_0 rfl (lv_at hl 0 rfl) ?_
  refine lv_iload_n hx hb dX4_confirm_1 rfl (lv_at hl 1 rfl) ?_
  refine xk_pF (xr_V (As := [.int (iI (w))]) (rest := []) hx hb hml hown hts hK (c_X4_schemeAt hR hG w (by omega)) ms_X4_schemeAt kw_346 (wr_recv hK hR (gd_4 hG) rfl rfl) ⟨by decide, by decide⟩ ⟨by decide, by decide⟩ rfl rfl hl.1 rfl (lv_room (by decide)) dX4_confirm_2) ?_
  have g1 := sAt_rng hG (w)
  refine xr_astore_n (i := 2) (lv' := [(2, rv (ad 3) (sAt sg w)), (0, .ref (ad 4 (0))), (1, .int (iI (w)))]) hx hb dX4_confirm_5 rfl hl (by decide) rfl (fun ls hl => ?_)
  refine xr_aload_n hx hb dX4_confirm_6 rfl (lv_at hl 0 rfl) ?_
  refine xr_ifnonnull (tgt := 21) hx hb dX4_confirm_7 (by decide) (fun h2 => ?_) (fun h2 => ?_)
  · skip
    rw [rv_p h2] at hl
    refine lv_aload_n hx hb dX4_confirm_21 rfl (lv_at hl 1 rfl) ?_
    refine lv_aload_n hx hb dX4_confirm_22 rfl (lv_at hl 0 rfl) ?_
    refine xk_pF (xr_V (As := [.ref (ad 3 (sAt sg w))]) (rest := []) hx hb hml hown hts hK (c_X4_countFreeNeeded hR hG (sAt sg w) ((rv_p (by omega)).symm) (by omega)) ms_X4_countFreeNeeded kw_578 (wr_recv hK hR (gd_4 hG) rfl rfl) ⟨by decide, by decide⟩ ⟨by decide, by decide⟩ rfl rfl hl.1 rfl (lv_room (by decide)) dX4_confirm_23) ?_
    have g3 := cntFree_rng sg ((sAt sg w))
    refine lv_istore_n (i := 3) (lv' := [(3, .int (iI (cntFree sg (sAt sg w)))), (2, .ref (ad 3 (sAt sg w))), (0, .ref (ad 4 (0))), (1, .int (iI (w)))]) hx hb dX4_confirm_26 rfl hl (by decide) rfl (fun ls hl => ?_)
    refine lv_aload_n hx hb dX4_confirm_27 rfl (lv_at hl 1 rfl) ?_
    refine xg_403 (v := sg 403 (sAt sg w)) hx hb hw3 hown hK hR (gd_3 hG (by omega)) (hts _ kw_324) rfl dX4_confirm_28 ?_
    have g4 := gr_403 hG (sAt sg w)
    refine xr_if_ne (tgt := 38) hx hb dX4_confirm_31 (by decide) (by omega) (fun h5 => ?_) (fun h5 => ?_)
    · skip
      exact xtw_3 (thr := confirmE sg w) (text := "the SCHEME is no DRAFT, or NEEDS no FREE PLOT") (P := fun H' => RC D cy A ad sg H') hx hb hl0 hown hts hX hS (hl.1.trans hml.symm) hxt hlk (by decide) dX4_confirm_38 dX4_confirm_41 dX4_confirm_42 dX4_confirm_45 dX4_confirm_48 (by decide) (by decide) (by decide) (by decide) (by decide) (by decide) (wr_more hR) (by unfold confirmE; (repeat' split) <;> first | omega | grind)
    · skip
      refine lv_iload_n hx hb dX4_confirm_34 rfl (lv_at hl 0 rfl) ?_
      refine xr_if_ne (tgt := 49) hx hb dX4_confirm_35 (by decide) (by omega) (fun h6 => ?_) (fun h6 => ?_)
      · skip
        refine lv_aload_n hx hb dX4_confirm_49 rfl (lv_at hl 2 rfl) ?_
        refine lv_aload_n hx hb dX4_confirm_50 rfl (lv_at hl 1 rfl) ?_
        refine xk_pF (xr_V (As := [.ref (ad 3 (sAt sg w))]) (rest := []) hx hb hml hown hts hK (c_X4_lowestThatStops hR hG (sAt sg w) ((rv_p (by omega)).symm) (by omega)) ms_X4_lowestThatStops kw_351 (wr_recv hK hR (gd_4 hG) rfl rfl) ⟨by decide, by decide⟩ ⟨by decide, by decide⟩ rfl rfl hl.1 rfl (lv_room (by decide)) dX4_confirm_51) ?_
        have g7 := stopper_lt hG ((sAt sg w))
        refine xr_ifnull (tgt := 68) hx hb dX4_confirm_54 (by decide) (fun h8 => ?_) (fun h8 => ?_)
        · skip
          refine lv_aload_n hx hb dX4_confirm_68 rfl (lv_at hl 1 rfl) ?_
          refine lv_iconst (v := iI (1)) hx hb dX4_confirm_69 rfl ?_
          refine xp_403 (v := 1) hx hb hw3 hown hK hR hS (gd_3 hG (by omega)) (hts _ kw_324) dX4_confirm_70 (fun H locs hR hS => ?_)
          refine lv_aload_n hx hb dX4_confirm_73 rfl (lv_at hl 1 rfl) ?_
          refine lv_aload_n hx hb dX4_confirm_74 rfl (lv_at hl 2 rfl) ?_
          refine xg_506 (v := sg 506 0) hx hb hw4 hown hK hR ((dm_st (by decide) _ _).mpr (gd_4 hG)) (hts _ kw_97) ((st_f (by decide)).trans rfl) dX4_confirm_75 ?_
          have g9 := gr_506 hG (0)
          refine xp_404 (v := sg 506 0) hx hb hw3 hown hK hR hS ((dm_st (by decide) _ _).mpr (gd_3 hG (by omega))) (hts _ kw_326) dX4_confirm_78 (fun H locs hR hS => ?_)
          refine lv_iload_n hx hb dX4_confirm_81 rfl (lv_at hl 0 rfl) ?_
          exact xv_i hx hb hr hlk hS (by decide) (by decide) dX4_confirm_82 (by unfold confirmE; (repeat' split) <;> first | omega | grind) (by rfl) (by exact hR)
        · skip
          exact xtw_3 (thr := confirmE sg w) (text := "an INTEREST stops the SCHEME") (P := fun H' => RC D cy A ad sg H') hx hb hl0 hown hts hX hS (hl.1.trans hml.symm) hxt hlk (by decide) dX4_confirm_57 dX4_confirm_60 dX4_confirm_61 dX4_confirm_64 dX4_confirm_67 (by decide) (by decide) (by decide) (by decide) (by decide) (by decide) (wr_more hR) (by unfold confirmE; (repeat' split) <;> first | omega | grind)
      · skip
        exact xtw_3 (thr := confirmE sg w) (text := "the SCHEME is no DRAFT, or NEEDS no FREE PLOT") (P := fun H' => RC D cy A ad sg H') hx hb hl0 hown hts hX hS (hl.1.trans hml.symm) hxt hlk (by decide) dX4_confirm_38 dX4_confirm_41 dX4_confirm_42 dX4_confirm_45 dX4_confirm_48 (by decide) (by decide) (by decide) (by decide) (by decide) (by decide) (wr_more hR) (by unfold confirmE; (repeat' split) <;> first | omega | grind)
  · skip
    rw [rv_n h2] at hl
    exact xtw_1 (thr := confirmE sg w) (text := "no such SCHEME") (P := fun H' => RC D cy A ad sg H') hx hb hl0 hown hts hX hS (hl.1.trans hml.symm) hxt hlk (by decide) dX4_confirm_10 dX4_confirm_13 dX4_confirm_14 dX4_confirm_17 dX4_confirm_20 (by decide) (by decide) (by decide) (by decide) (by decide) (by decide) (wr_more hR) (by unfold confirmE; (repeat' split) <;> first | omega | grind)
theorem ms_X4_whoStops : MVi RX4 yX4_whoStops cX4_whoStops 3 (some .int) 1 := ⟨kw_345, kw_343, kw_344, kw_1, rfl, by decide, by decide, by decide +kernel⟩
set_option maxRecDepth 100000 in
set_option maxHeartbeats 4000000 in
theorem c_X4_whoStops {l : Launch} {D : va_G} {cy : Nat → ClassId} {A : Nat → Prop} {ad : Nat → Int → Nat} {sg : Nat → Int → Int} {H : Heap} (hR : RC D cy A ad sg H) (hG : GC sg) (hl0 : l.stackTraces = false) (hA : ∀ q : Nat, H.size ≤ q → A q) (w : Int) (h_w : in32 w) : vx_Met l yX4_whoStops (Cond.code yX4_whoStops cX4_whoStops 3 (some .int) :: wG) (rmF 6 88 1 6) (PcX A D cy H [.ref (ad 4 (0)), .int (iI (w))]) (QmT (sE sg w = 0) (some (.int (iI (whoR sg (sAt sg w))))) (fun H' => RC D cy A ad sg H') A) (XCx (sE sg w) (fun H' => RC D cy A ad sg H') A) 1 6 A := by
  refine vmet_of (la := [(0, .ref (ad 4 (0))), (1, .int (iI (w)))]) (by decide) (Nat.le_of_ble_eq_true rfl) rfl ?_
  intro p e R s m args below meth c ls hRm hx hb hml hr hlk hxt hown hts hsH hK hX hl
  subst hRm
  have hown : s.vm.findClass "Takinghall" = some m.cls := hown
  have hw3 : ∀ w ∈ u_ws RX3 TX3 6, w.before args s = true := fun w h => hts w (uw_X3 w h)
  have hS : va_S A s.heap H [] := by rw [hsH]; exact va_S.rf
  refine lv_aload_n hx hb dX4_whoStops_0 rfl (lv_at hl 0 rfl) ?_
  refine lv_iload_n hx hb dX4_whoStops_1 rfl (lv_at hl 1 rfl) ?_
  refine xk_pF (xr_V (As := [.int (iI (w))]) (rest := []) hx hb hml hown hts hK (c_X4_schemeAt hR hG w (by omega)) ms_X4_schemeAt kw_346 (wr_recv hK hR (gd_4 hG) rfl rfl) ⟨by decide, by decide⟩ ⟨by decide, by decide⟩ rfl rfl hl.1 rfl (lv_room (by decide)) dX4_whoStops_2) ?_
  have g1 := sAt_rng hG (w)
  refine xr_astore_n (i := 2) (lv' := [(2, rv (ad 3) (sAt sg w)), (0, .ref (ad 4 (0))), (1, .int (iI (w)))]) hx hb dX4_whoStops_5 rfl hl (by decide) rfl (fun ls hl => ?_)
  refine xr_aload_n hx hb dX4_whoStops_6 rfl (lv_at hl 0 rfl) ?_
  refine xr_ifnonnull (tgt := 21) hx hb dX4_whoStops_7 (by decide) (fun h2 => ?_) (fun h2 => ?_)
  · skip
    rw [rv_p h2] at hl
    refine lv_aload_n hx hb dX4_whoStops_21 rfl (lv_at hl 0 rfl) ?_
    refine xg_403 (v := sg 403 (sAt sg w)) hx hb hw3 hown hK hR (gd_3 hG (by omega)) (hts _ kw_324) rfl dX4_whoStops_22 ?_
    have g3 := gr_403 hG (sAt sg w)
    refine xr_if_ne (tgt := 39) hx hb dX4_whoStops_25 (by decide) (by omega) (fun h4 => ?_) (fun h4 => ?_)
    · skip
      refine lv_iconst (v := iI (-1)) hx hb dX4_whoStops_39 rfl ?_
      exact xv_i hx hb hr hlk hS (by decide) (by decide) dX4_whoStops_40 (by unfold sE; (repeat' split) <;> first | omega | grind) (by unfold whoR; try unfold opt; (repeat' split) <;> omega) (by exact hR)
    · skip
      refine lv_aload_n hx hb dX4_whoStops_28 rfl (lv_at hl 1 rfl) ?_
      refine lv_aload_n hx hb dX4_whoStops_29 rfl (lv_at hl 0 rfl) ?_
      refine xk_pF (xr_V (As := [.ref (ad 3 (sAt sg w))]) (rest := []) hx hb hml hown hts hK (c_X4_lowestThatStops hR hG (sAt sg w) ((rv_p (by omega)).symm) (by omega)) ms_X4_lowestThatStops kw_351 (wr_recv hK hR (gd_4 hG) rfl rfl) ⟨by decide, by decide⟩ ⟨by decide, by decide⟩ rfl rfl hl.1 rfl (lv_room (by decide)) dX4_whoStops_30) ?_
      have g5 := stopper_lt hG ((sAt sg w))
      refine xk_pF (xr_S (As := [rv (ad 0) (stopper sg (sAt sg w))]) (rest := []) hx hb hml hown hts hK (c_X4_numberOf_ hR hG (stopper sg (sAt sg w)) (rfl) (by omega)) ms_X4_numberOf_ kw_290 ⟨by decide, by decide⟩ ⟨by decide, by decide⟩ rfl rfl hl.1 rfl (lv_room (by decide)) dX4_whoStops_33) ?_
      refine lv_goto (tgt := 40) hx hb dX4_whoStops_36 (by decide) ?_
      exact xv_i hx hb hr hlk hS (by decide) (by decide) dX4_whoStops_40 (by unfold sE; (repeat' split) <;> first | omega | grind) (by unfold whoR; try unfold opt; (repeat' split) <;> omega) (by exact hR)
  · skip
    rw [rv_n h2] at hl
    exact xtw_1 (thr := sE sg w) (text := "no such SCHEME") (P := fun H' => RC D cy A ad sg H') hx hb hl0 hown hts hX hS (hl.1.trans hml.symm) hxt hlk (by decide) dX4_whoStops_10 dX4_whoStops_13 dX4_whoStops_14 dX4_whoStops_17 dX4_whoStops_20 (by decide) (by decide) (by decide) (by decide) (by decide) (by decide) (wr_more hR) (by unfold sE; (repeat' split) <;> first | omega | grind)
theorem ms_X4_enter : MVi RX4 yX4_enter cX4_enter 4 (some .int) 1 := ⟨kw_587, kw_585, kw_586, kw_1, rfl, by decide, by decide, by decide +kernel⟩
set_option maxRecDepth 100000 in
set_option maxHeartbeats 4000000 in
theorem c_X4_enter {l : Launch} {D : va_G} {cy : Nat → ClassId} {A : Nat → Prop} {ad : Nat → Int → Nat} {sg : Nat → Int → Int} {H : Heap} (hR : RC D cy A ad sg H) (hG : GC sg) (hl0 : l.stackTraces = false) (hA : ∀ q : Nat, H.size ≤ q → A q) (x : Int) (h_x : in32 x) (h2 : sg 702 0 ≤ 1000000) : vx_Met l yX4_enter (Cond.code yX4_enter cX4_enter 4 (some .int) :: wG) (rmF 6 141 1 6) (PcX A D cy H [.ref (ad 4 (0)), .int (iI (x))]) (QmT (enterE sg x = 0) (some (.int (iI (landO (tk2 sg (pAt x)) (pAt x))))) (fun H' => RC D cy A ad (tkT sg (pAt x)) H') A) (XCx (enterE sg x) (fun H' => RC D cy A ad sg H') A) 1 6 A := by
  refine vmet_of (la := [(0, .ref (ad 4 (0))), (1, .int (iI (x)))]) (by decide) (Nat.le_of_ble_eq_true rfl) rfl ?_
  intro p e R s m args below meth c ls hRm hx hb hml hr hlk hxt hown hts hsH hK hX hl
  subst hRm
  have hown : s.vm.findClass "Takinghall" = some m.cls := hown
  have hw1 : ∀ w ∈ u_ws RX1 TX1 11, w.before args s = true := fun w h => hts w (uw_X1 w h)
  have hw3 : ∀ w ∈ u_ws RX3 TX3 6, w.before args s = true := fun w h => hts w (uw_X3 w h)
  have hw4 : ∀ w ∈ u_ws RX4 TX4 12, w.before args s = true := fun w h => hts w (uw_X4 w h)
  have hS : va_S A s.heap H [] := by rw [hsH]; exact va_S.rf
  refine lv_aload_n hx hb dX4_enter_0 rfl (lv_at hl 0 rfl) ?_
  refine lv_iload_n hx hb dX4_enter_1 rfl (lv_at hl 1 rfl) ?_
  refine xk_pF (xr_V (As := [.int (iI (x))]) (rest := []) hx hb hml hown hts hK (c_X4_plotAt hR hG x (by omega)) ms_X4_plotAt kw_132 (wr_recv hK hR (gd_4 hG) rfl rfl) ⟨by decide, by decide⟩ ⟨by decide, by decide⟩ rfl rfl hl.1 rfl (lv_room (by decide)) dX4_enter_2) ?_
  have g1 := pAt_rng (x)
  refine xr_astore_n (i := 2) (lv' := [(2, rv (ad 1) (pAt x)), (0, .ref (ad 4 (0))), (1, .int (iI (x)))]) hx hb dX4_enter_5 rfl hl (by decide) rfl (fun ls hl => ?_)
  refine xr_aload_n hx hb dX4_enter_6 rfl (lv_at hl 0 rfl) ?_
  refine xr_ifnonnull (tgt := 20) hx hb dX4_enter_7 (by decide) (fun h2 => ?_) (fun h2 => ?_)
  · skip
    rw [rv_p h2] at hl
    refine lv_aload_n hx hb dX4_enter_20 rfl (lv_at hl 0 rfl) ?_
    refine xk_pF (xr_S (As := [.ref (ad 1 (pAt x))]) (rest := []) hx hb hml hown hts hK (c_X4_neederOf hR hG (pAt x) ((rv_p (by omega)).symm) (by omega)) ms_X4_neederOf kw_229 ⟨by decide, by decide⟩ ⟨by decide, by decide⟩ rfl rfl hl.1 rfl (lv_room (by decide)) dX4_enter_21) ?_
    have g3 := needO_rng hG ((pAt x))
    refine xr_astore_n (i := 3) (lv' := [(3, rv (ad 3) (needO sg (pAt x))), (2, .ref (ad 1 (pAt x))), (0, .ref (ad 4 (0))), (1, .int (iI (x)))]) hx hb dX4_enter_24 rfl hl (by decide) rfl (fun ls hl => ?_)
    refine lv_aload_n hx hb dX4_enter_25 rfl (lv_at hl 1 rfl) ?_
    refine xg_203 (v := sg 203 (pAt x)) hx hb hw1 hown hK hR (gd_1 hG (by omega)) (hts _ kw_41) rfl dX4_enter_26 ?_
    have g4 := gr_203 hG (pAt x)
    refine xr_if_ne (tgt := 59) hx hb dX4_enter_29 (by decide) (by omega) (fun h5 => ?_) (fun h5 => ?_)
    · skip
      exact xtw_3 (thr := enterE sg x) (text := "the PLOT cannot be entered") (P := fun H' => RC D cy A ad sg H') hx hb hl0 hown hts hX hS (hl.1.trans hml.symm) hxt hlk (by decide) dX4_enter_59 dX4_enter_62 dX4_enter_63 dX4_enter_66 dX4_enter_69 (by decide) (by decide) (by decide) (by decide) (by decide) (by decide) (wr_more hR) (by unfold enterE; (repeat' split) <;> first | omega | grind)
    · skip
      refine xr_aload_n hx hb dX4_enter_32 rfl (lv_at hl 0 rfl) ?_
      refine xr_ifnull (tgt := 59) hx hb dX4_enter_33 (by decide) (fun h6 => ?_) (fun h6 => ?_)
      · skip
        rw [rv_n h6] at hl
        exact xtw_3 (thr := enterE sg x) (text := "the PLOT cannot be entered") (P := fun H' => RC D cy A ad sg H') hx hb hl0 hown hts hX hS (hl.1.trans hml.symm) hxt hlk (by decide) dX4_enter_59 dX4_enter_62 dX4_enter_63 dX4_enter_66 dX4_enter_69 (by decide) (by decide) (by decide) (by decide) (by decide) (by decide) (wr_more hR) (by unfold enterE; (repeat' split) <;> first | omega | grind)
      · skip
        rw [rv_p h6] at hl
        refine lv_aload_n hx hb dX4_enter_36 rfl (lv_at hl 0 rfl) ?_
        refine xg_403 (v := sg 403 (needO sg (pAt x))) hx hb hw3 hown hK hR (gd_3 hG (by omega)) (hts _ kw_324) rfl dX4_enter_37 ?_
        have g7 := gr_403 hG (needO sg (pAt x))
        refine lv_iconst (v := iI (1)) hx hb dX4_enter_40 rfl ?_
        refine xr_icmp_ne (tgt := 59) hx hb dX4_enter_41 (by decide) (by omega) (by omega) (fun h8 => ?_) (fun h8 => ?_)
        · skip
          exact xtw_3 (thr := enterE sg x) (text := "the PLOT cannot be entered") (P := fun H' => RC D cy A ad sg H') hx hb hl0 hown hts hX hS (hl.1.trans hml.symm) hxt hlk (by decide) dX4_enter_59 dX4_enter_62 dX4_enter_63 dX4_enter_66 dX4_enter_69 (by decide) (by decide) (by decide) (by decide) (by decide) (by decide) (wr_more hR) (by unfold enterE; (repeat' split) <;> first | omega | grind)
        · skip
          refine lv_aload_n hx hb dX4_enter_44 rfl (lv_at hl 2 rfl) ?_
          refine xg_506 (v := sg 506 0) hx hb hw4 hown hK hR (gd_4 hG) (hts _ kw_97) rfl dX4_enter_45 ?_
          have g9 := gr_506 hG (0)
          refine lv_aload_n hx hb dX4_enter_48 rfl (lv_at hl 0 rfl) ?_
          refine xg_404 (v := sg 404 (needO sg (pAt x))) hx hb hw3 hown hK hR (gd_3 hG (by omega)) (hts _ kw_326) rfl dX4_enter_49 ?_
          have g10 := gr_404 hG (needO sg (pAt x))
          refine xr_isub hx hb dX4_enter_52 ?_
          refine lv_sipush (v := iI (1095)) hx hb dX4_enter_53 (by decide) ?_
          refine xr_icmp_le (tgt := 70) hx hb dX4_enter_56 (by decide) (by omega) (by omega) (fun h11 => ?_) (fun h11 => ?_)
          · skip
            refine lv_aload_n hx hb dX4_enter_70 rfl (lv_at hl 2 rfl) ?_
            refine lv_aload_n hx hb dX4_enter_71 rfl (lv_at hl 1 rfl) ?_
            refine xk_mF (xr_V (As := [.ref (ad 1 (pAt x))]) (rest := []) hx hb hml hown hts hK (c_X4_take hR hG (pAt x) (by omega) (by omega)) ms_X4_take kw_589 (wr_recv hK hR (gd_4 hG) rfl rfl) ⟨by decide, by decide⟩ ⟨by decide, by decide⟩ rfl rfl hl.1 rfl (lv_room (by decide)) dX4_enter_72) hS (fun H locs hR hS hz hq => ?_)
            show W p l e (rmF 6 141 1 6) s m args below meth c H locs (0 + 0) (0 + 0) _ (F0 m (72 + 3) ls (.int (iI (landO (tk2 sg (pAt x)) (pAt x))) :: []))
            have G12 : GC (tkT sg (pAt x)) := gc_tkT hG _ (by first | omega | exact h2)
            exact xv_i hx hb hr hlk hS (by decide) (by decide) dX4_enter_75 (by unfold enterE; (repeat' split) <;> first | omega | grind) (by rfl) (by exact hR)
          · skip
            exact xtw_3 (thr := enterE sg x) (text := "the PLOT cannot be entered") (P := fun H' => RC D cy A ad sg H') hx hb hl0 hown hts hX hS (hl.1.trans hml.symm) hxt hlk (by decide) dX4_enter_59 dX4_enter_62 dX4_enter_63 dX4_enter_66 dX4_enter_69 (by decide) (by decide) (by decide) (by decide) (by decide) (by decide) (wr_more hR) (by unfold enterE; (repeat' split) <;> first | omega | grind)
  · skip
    rw [rv_n h2] at hl
    exact xt_1 (thr := enterE sg x) (text := "no such PLOT") (P := fun H' => RC D cy A ad sg H') hx hb hl0 hown hts hX hS (hl.1.trans hml.symm) hxt hlk (by decide) dX4_enter_10 dX4_enter_13 dX4_enter_14 dX4_enter_16 dX4_enter_19 (by decide) (by decide) (by decide) (by decide) (by decide) (by decide) (wr_more hR) (by unfold enterE; (repeat' split) <;> first | omega | grind)
