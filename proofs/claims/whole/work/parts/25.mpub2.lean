theorem ms_X5_plot : MVi RX5 yX5_plot cX5_plot 5 (some .int) 3 := ⟨kw_864, kw_862, kw_863, kw_4, rfl, by decide, by decide, by decide +kernel⟩
set_option maxRecDepth 100000 in
set_option maxHeartbeats 4000000 in
theorem c_X5_plot {l : Launch} {D : va_G} {cy : Nat → ClassId} {A : Nat → Prop} {ad : Nat → Int → Nat} {mu : Nat → Int → Int} {H : Heap} (hR : RM D cy A ad mu H) (hG : GM mu)  (x : Int) (a : Int) (u : Int) (h_x : in32 x) (h_a : in32 a) (h_u : in32 u) : Met l yX5_plot (Cond.code yX5_plot cX5_plot 5 (some .int) :: wG) (rmF 2 44 0 0) (Pc D cy H [.ref (ad 5 (0)), .int (iI (x)), .int (iI (a)), .int (iI (u))]) (Qm (some (.int (iI (mR (plotME mu x a u) (mu 1003 x))))) (fun H' => RM D cy A ad (mT mu (plotME mu x a u) (st (st (st mu 900 0 0) 1003 x a) 1004 x u)) H') A) 0 0 A := by
  refine met_of (la := [(0, .ref (ad 5 (0))), (1, .int (iI (x))), (2, .int (iI (a))), (3, .int (iI (u)))]) (by decide) (Nat.le_of_ble_eq_true rfl) rfl ?_
  intro p e R s m args below meth c ls hRm hx hb hml hr hlk hin hown hts hsH hK hl
  subst hRm
  have hown : s.vm.findClass "TakinghallModel" = some m.cls := hown
  have hw5 : ∀ w ∈ u_ws RX5 TX5 35, w.before args s = true := fun w h => hts w (uw_X5 w h)
  have hS : va_S A s.heap H [] := by rw [hsH]; exact va_S.rf
  refine lv_aload_n hx hb dX5_plot_0 rfl (lv_at hl 0 rfl) ?_
  refine lv_aload_n hx hb dX5_plot_1 rfl (lv_at hl 0 rfl) ?_
  refine lv_iload_n hx hb dX5_plot_2 rfl (lv_at hl 1 rfl) ?_
  refine xk_pF (xr_V (As := [.int (iI (x))]) (rest := [.ref (ad 5 (0))]) hx hb hml hown hts hK (c_X5_isPlot hR hG x (by omega)) ms_X5_isPlot kw_865 (wr_recv hK hR (md_5 hG) rfl rfl) ⟨by decide, by decide⟩ ⟨by decide, by decide⟩ rfl rfl hl.1 rfl (lv_room (Nat.le_of_ble_eq_true rfl)) dX5_plot_3) ?_
  refine xr_ifb_ne (tgt := 13) hx hb dX5_plot_6 (by decide) (fun h1 => ?_) (fun h1 => ?_)
  · skip
    refine lv_aload_n hx hb dX5_plot_13 rfl (lv_at hl 0 rfl) ?_
    refine lv_iload_n hx hb dX5_plot_14 rfl (lv_at hl 2 rfl) ?_
    refine lv_iconst (v := iI (1)) hx hb dX5_plot_15 rfl ?_
    refine lv_bipush (v := iI (100)) hx hb dX5_plot_16 (by decide) ?_
    refine xk_pF (xr_V (As := [.int (iI (a)), .int (iI (1)), .int (iI (100))]) (rest := [.ref (ad 5 (0))]) hx hb hml hown hts hK (c_X5_between hR hG a 1 100 (by omega) (by omega) (by omega)) ms_X5_between kw_869 (wr_recv hK hR (md_5 hG) rfl rfl) ⟨by decide, by decide⟩ ⟨by decide, by decide⟩ rfl rfl hl.1 rfl (lv_room (Nat.le_of_ble_eq_true rfl)) dX5_plot_18) ?_
    refine xr_ifb_eq (tgt := 32) hx hb dX5_plot_21 (by decide) (fun h2 => ?_) (fun h2 => ?_)
    · skip
      refine lv_iconst (v := iI (2)) hx hb dX5_plot_32 rfl ?_
      refine lv_goto (tgt := 60) hx hb dX5_plot_33 (by decide) ?_
      refine xp_900 (v := 2) hx hb hw5 hown hK hR hS (md_5 hG) (hts _ kw_748) dX5_plot_60 (fun H locs hR hS => ?_)
      refine lv_aload_n hx hb dX5_plot_63 rfl (lv_at hl 0 rfl) ?_
      refine xg_900 (v := 2) hx hb hw5 hown hK hR ((dmM_st (by decide) _ _).mpr (md_5 hG)) (hts _ kw_748) (st_s) dX5_plot_64 ?_
      refine xr_if_le (tgt := 72) hx hb dX5_plot_67 (by decide) (by decide) (fun h3 => absurd h3 (by decide)) (fun _ => ?_)
      refine lv_iconst (v := iI (0)) hx hb dX5_plot_70 rfl ?_
      exact xm_i hx hb hr hlk hS dX5_plot_71 (by exact (mR_k (2) (by ((try unfold mDraft at *); (try unfold mTaken at *); unfold plotME; (repeat' split) <;> first | rfl | omega)) (by decide)).symm) (by rw [mT_k (2) (by ((try unfold mDraft at *); (try unfold mTaken at *); unfold plotME; (repeat' split) <;> first | rfl | omega)) (by decide)]; exact hR)
    · skip
      refine lv_aload_n hx hb dX5_plot_24 rfl (lv_at hl 0 rfl) ?_
      refine lv_iload_n hx hb dX5_plot_25 rfl (lv_at hl 3 rfl) ?_
      refine xk_pF (xr_V (As := [.int (iI (u))]) (rest := [.ref (ad 5 (0))]) hx hb hml hown hts hK (c_X5_isUse hR hG u (by omega)) ms_X5_isUse kw_873 (wr_recv hK hR (md_5 hG) rfl rfl) ⟨by decide, by decide⟩ ⟨by decide, by decide⟩ rfl rfl hl.1 rfl (lv_room (Nat.le_of_ble_eq_true rfl)) dX5_plot_26) ?_
      refine xr_ifb_ne (tgt := 36) hx hb dX5_plot_29 (by decide) (fun h4 => ?_) (fun h4 => ?_)
      · skip
        refine lv_aload_n hx hb dX5_plot_36 rfl (lv_at hl 0 rfl) ?_
        refine xg_905 (v := mu 905 0) hx hb hw5 hown hK hR (md_5 hG) (hts _ kw_753) rfl dX5_plot_37 ?_
        have q5 : mu 905 0 = 0 := mh_905 hG
        rw [q5, rv_p (Int.le_refl 0)]
        refine lv_iload_n hx hb dX5_plot_40 rfl (lv_at hl 1 rfl) ?_
        refine xa_1005 (v := mu 1005 x) hx hb hK hR (md_25 hG) (by omega) rfl dX5_plot_41 ?_
        have g6 := mr_1005 hG (x)
        refine xr_if_ne (tgt := 55) hx hb dX5_plot_42 (by decide) (by omega) (fun h7 => ?_) (fun h7 => ?_)
        · skip
          refine lv_iconst (v := iI (3)) hx hb dX5_plot_55 rfl ?_
          refine lv_goto (tgt := 60) hx hb dX5_plot_56 (by decide) ?_
          refine xp_900 (v := 3) hx hb hw5 hown hK hR hS (md_5 hG) (hts _ kw_748) dX5_plot_60 (fun H locs hR hS => ?_)
          refine lv_aload_n hx hb dX5_plot_63 rfl (lv_at hl 0 rfl) ?_
          refine xg_900 (v := 3) hx hb hw5 hown hK hR ((dmM_st (by decide) _ _).mpr (md_5 hG)) (hts _ kw_748) (st_s) dX5_plot_64 ?_
          refine xr_if_le (tgt := 72) hx hb dX5_plot_67 (by decide) (by decide) (fun h8 => absurd h8 (by decide)) (fun _ => ?_)
          refine lv_iconst (v := iI (0)) hx hb dX5_plot_70 rfl ?_
          exact xm_i hx hb hr hlk hS dX5_plot_71 (by exact (mR_k (3) (by ((try unfold mDraft at *); (try unfold mTaken at *); unfold plotME; (repeat' split) <;> first | rfl | omega)) (by decide)).symm) (by rw [mT_k (3) (by ((try unfold mDraft at *); (try unfold mTaken at *); unfold plotME; (repeat' split) <;> first | rfl | omega)) (by decide)]; exact hR)
        · skip
          refine lv_aload_n hx hb dX5_plot_45 rfl (lv_at hl 0 rfl) ?_
          refine xg_906 (v := mu 906 0) hx hb hw5 hown hK hR (md_5 hG) (hts _ kw_754) rfl dX5_plot_46 ?_
          have q9 : mu 906 0 = 0 := mh_906 hG
          rw [q9, rv_p (Int.le_refl 0)]
          refine lv_iload_n hx hb dX5_plot_49 rfl (lv_at hl 1 rfl) ?_
          refine xa_1006 (v := mu 1006 x) hx hb hK hR (md_26 hG) (by omega) rfl dX5_plot_50 ?_
          have g10 := mr_1006 hG (x)
          refine lv_iconst (v := iI (-1)) hx hb dX5_plot_51 rfl ?_
          refine xr_icmp_eq (tgt := 59) hx hb dX5_plot_52 (by decide) (by omega) (by omega) (fun h11 => ?_) (fun h11 => ?_)
          · skip
            refine lv_iconst (v := iI (0)) hx hb dX5_plot_59 rfl ?_
            refine xp_900 (v := 0) hx hb hw5 hown hK hR hS (md_5 hG) (hts _ kw_748) dX5_plot_60 (fun H locs hR hS => ?_)
            refine lv_aload_n hx hb dX5_plot_63 rfl (lv_at hl 0 rfl) ?_
            refine xg_900 (v := 0) hx hb hw5 hown hK hR ((dmM_st (by decide) _ _).mpr (md_5 hG)) (hts _ kw_748) (st_s) dX5_plot_64 ?_
            refine xr_if_le (tgt := 72) hx hb dX5_plot_67 (by decide) (by decide) (fun _ => ?_) (fun h12 => absurd h12 (by decide))
            refine lv_aload_n hx hb dX5_plot_72 rfl (lv_at hl 0 rfl) ?_
            refine xg_903 (v := mu 903 0) hx hb hw5 hown hK hR ((dmM_st (by decide) _ _).mpr (md_5 hG)) (hts _ kw_751) ((st_f (by decide)).trans rfl) dX5_plot_73 ?_
            have q13 : mu 903 0 = 0 := mh_903 hG
            rw [q13, rv_p (Int.le_refl 0)]
            refine lv_iload_n hx hb dX5_plot_76 rfl (lv_at hl 1 rfl) ?_
            refine xa_1003 (v := mu 1003 x) hx hb hK hR ((dmM_st (by decide) _ _).mpr (md_23 hG)) (by omega) ((st_f (by decide)).trans rfl) dX5_plot_77 ?_
            have g14 := mr_1003 hG (x)
            refine lv_istore (i := 4) (lv' := [(4, .int (iI (mu 1003 x))), (0, .ref (ad 5 (0))), (1, .int (iI (x))), (2, .int (iI (a))), (3, .int (iI (u)))]) hx hb dX5_plot_78 hl (by decide) rfl (fun ls hl => ?_)
            refine lv_aload_n hx hb dX5_plot_80 rfl (lv_at hl 1 rfl) ?_
            refine xg_903 (v := mu 903 0) hx hb hw5 hown hK hR ((dmM_st (by decide) _ _).mpr (md_5 hG)) (hts _ kw_751) ((st_f (by decide)).trans rfl) dX5_plot_81 ?_
            have q15 : mu 903 0 = 0 := mh_903 hG
            rw [q15, rv_p (Int.le_refl 0)]
            refine lv_iload_n hx hb dX5_plot_84 rfl (lv_at hl 2 rfl) ?_
            refine lv_iload_n hx hb dX5_plot_85 rfl (lv_at hl 3 rfl) ?_
            refine xs_1003 (v := a) hx hb hK hR hS ((dmM_st (by decide) _ _).mpr (md_23 hG)) (by omega) dX5_plot_86 (fun H locs hR hS => ?_)
            refine lv_aload_n hx hb dX5_plot_87 rfl (lv_at hl 1 rfl) ?_
            refine xg_904 (v := mu 904 0) hx hb hw5 hown hK hR ((dmM_st (by decide) _ _).mpr ((dmM_st (by decide) _ _).mpr (md_5 hG))) (hts _ kw_752) ((st_f (by decide)).trans ((st_f (by decide)).trans rfl)) dX5_plot_88 ?_
            have q16 : mu 904 0 = 0 := mh_904 hG
            rw [q16, rv_p (Int.le_refl 0)]
            refine lv_iload_n hx hb dX5_plot_91 rfl (lv_at hl 2 rfl) ?_
            refine lv_iload_n hx hb dX5_plot_92 rfl (lv_at hl 4 rfl) ?_
            refine xs_1004 (v := u) hx hb hK hR hS ((dmM_st (by decide) _ _).mpr ((dmM_st (by decide) _ _).mpr (md_24 hG))) (by omega) dX5_plot_93 (fun H locs hR hS => ?_)
            refine lv_iload hx hb dX5_plot_94 (lv_at hl 0 rfl) ?_
            exact xm_i hx hb hr hlk hS dX5_plot_96 (by refine Eq.trans ?_ (mR_0 (by ((try unfold mDraft at *); (try unfold mTaken at *); unfold plotME; (repeat' split) <;> first | rfl | omega))).symm; rfl) (by rw [mT_0 (by ((try unfold mDraft at *); (try unfold mTaken at *); unfold plotME; (repeat' split) <;> first | rfl | omega))]; exact hR)
          · skip
            refine lv_iconst (v := iI (3)) hx hb dX5_plot_55 rfl ?_
            refine lv_goto (tgt := 60) hx hb dX5_plot_56 (by decide) ?_
            refine xp_900 (v := 3) hx hb hw5 hown hK hR hS (md_5 hG) (hts _ kw_748) dX5_plot_60 (fun H locs hR hS => ?_)
            refine lv_aload_n hx hb dX5_plot_63 rfl (lv_at hl 0 rfl) ?_
            refine xg_900 (v := 3) hx hb hw5 hown hK hR ((dmM_st (by decide) _ _).mpr (md_5 hG)) (hts _ kw_748) (st_s) dX5_plot_64 ?_
            refine xr_if_le (tgt := 72) hx hb dX5_plot_67 (by decide) (by decide) (fun h17 => absurd h17 (by decide)) (fun _ => ?_)
            refine lv_iconst (v := iI (0)) hx hb dX5_plot_70 rfl ?_
            exact xm_i hx hb hr hlk hS dX5_plot_71 (by exact (mR_k (3) (by ((try unfold mDraft at *); (try unfold mTaken at *); unfold plotME; (repeat' split) <;> first | rfl | omega)) (by decide)).symm) (by rw [mT_k (3) (by ((try unfold mDraft at *); (try unfold mTaken at *); unfold plotME; (repeat' split) <;> first | rfl | omega)) (by decide)]; exact hR)
      · skip
        refine lv_iconst (v := iI (2)) hx hb dX5_plot_32 rfl ?_
        refine lv_goto (tgt := 60) hx hb dX5_plot_33 (by decide) ?_
        refine xp_900 (v := 2) hx hb hw5 hown hK hR hS (md_5 hG) (hts _ kw_748) dX5_plot_60 (fun H locs hR hS => ?_)
        refine lv_aload_n hx hb dX5_plot_63 rfl (lv_at hl 0 rfl) ?_
        refine xg_900 (v := 2) hx hb hw5 hown hK hR ((dmM_st (by decide) _ _).mpr (md_5 hG)) (hts _ kw_748) (st_s) dX5_plot_64 ?_
        refine xr_if_le (tgt := 72) hx hb dX5_plot_67 (by decide) (by decide) (fun h18 => absurd h18 (by decide)) (fun _ => ?_)
        refine lv_iconst (v := iI (0)) hx hb dX5_plot_70 rfl ?_
        exact xm_i hx hb hr hlk hS dX5_plot_71 (by exact (mR_k (2) (by ((try unfold mDraft at *); (try unfold mTaken at *); unfold plotME; (repeat' split) <;> first | rfl | omega)) (by decide)).symm) (by rw [mT_k (2) (by ((try unfold mDraft at *); (try unfold mTaken at *); unfold plotME; (repeat' split) <;> first | rfl | omega)) (by decide)]; exact hR)
  · skip
    refine lv_iconst (v := iI (1)) hx hb dX5_plot_9 rfl ?_
    refine lv_goto (tgt := 60) hx hb dX5_plot_10 (by decide) ?_
    refine xp_900 (v := 1) hx hb hw5 hown hK hR hS (md_5 hG) (hts _ kw_748) dX5_plot_60 (fun H locs hR hS => ?_)
    refine lv_aload_n hx hb dX5_plot_63 rfl (lv_at hl 0 rfl) ?_
    refine xg_900 (v := 1) hx hb hw5 hown hK hR ((dmM_st (by decide) _ _).mpr (md_5 hG)) (hts _ kw_748) (st_s) dX5_plot_64 ?_
    refine xr_if_le (tgt := 72) hx hb dX5_plot_67 (by decide) (by decide) (fun h19 => absurd h19 (by decide)) (fun _ => ?_)
    refine lv_iconst (v := iI (0)) hx hb dX5_plot_70 rfl ?_
    exact xm_i hx hb hr hlk hS dX5_plot_71 (by exact (mR_k (1) (by ((try unfold mDraft at *); (try unfold mTaken at *); unfold plotME; (repeat' split) <;> first | rfl | omega)) (by decide)).symm) (by rw [mT_k (1) (by ((try unfold mDraft at *); (try unfold mTaken at *); unfold plotME; (repeat' split) <;> first | rfl | omega)) (by decide)]; exact hR)
theorem ms_X5_price : MVi RX5 yX5_price cX5_price 4 (some .int) 2 := ⟨kw_880, kw_878, kw_879, kw_4, rfl, by decide, by decide, by decide +kernel⟩
set_option maxRecDepth 100000 in
set_option maxHeartbeats 4000000 in
theorem c_X5_price {l : Launch} {D : va_G} {cy : Nat → ClassId} {A : Nat → Prop} {ad : Nat → Int → Nat} {mu : Nat → Int → Int} {H : Heap} (hR : RM D cy A ad mu H) (hG : GM mu)  (u : Int) (ce : Int) (h_u : in32 u) (h_ce : in32 ce) : Met l yX5_price (Cond.code yX5_price cX5_price 4 (some .int) :: wG) (rmF 2 44 0 0) (Pc D cy H [.ref (ad 5 (0)), .int (iI (u)), .int (iI (ce))]) (Qm (some (.int (iI (mR (priceME u ce) (mu 1002 (3 * mu 901 0 + u)))))) (fun H' => RM D cy A ad (mT mu (priceME u ce) (st (st mu 900 0 0) 1002 (3 * mu 901 0 + u) ce)) H') A) 0 0 A := by
  refine met_of (la := [(0, .ref (ad 5 (0))), (1, .int (iI (u))), (2, .int (iI (ce)))]) (by decide) (Nat.le_of_ble_eq_true rfl) rfl ?_
  intro p e R s m args below meth c ls hRm hx hb hml hr hlk hin hown hts hsH hK hl
  subst hRm
  have hown : s.vm.findClass "TakinghallModel" = some m.cls := hown
  have hw5 : ∀ w ∈ u_ws RX5 TX5 35, w.before args s = true := fun w h => hts w (uw_X5 w h)
  have hS : va_S A s.heap H [] := by rw [hsH]; exact va_S.rf
  refine lv_aload_n hx hb dX5_price_0 rfl (lv_at hl 0 rfl) ?_
  refine lv_aload_n hx hb dX5_price_1 rfl (lv_at hl 0 rfl) ?_
  refine lv_iload_n hx hb dX5_price_2 rfl (lv_at hl 1 rfl) ?_
  refine xk_pF (xr_V (As := [.int (iI (u))]) (rest := [.ref (ad 5 (0))]) hx hb hml hown hts hK (c_X5_isUse hR hG u (by omega)) ms_X5_isUse kw_873 (wr_recv hK hR (md_5 hG) rfl rfl) ⟨by decide, by decide⟩ ⟨by decide, by decide⟩ rfl rfl hl.1 rfl (lv_room (Nat.le_of_ble_eq_true rfl)) dX5_price_3) ?_
  refine xr_ifb_eq (tgt := 21) hx hb dX5_price_6 (by decide) (fun h1 => ?_) (fun h1 => ?_)
  · skip
    refine lv_iconst (v := iI (1)) hx hb dX5_price_21 rfl ?_
    refine lv_goto (tgt := 26) hx hb dX5_price_22 (by decide) ?_
    refine xp_900 (v := 1) hx hb hw5 hown hK hR hS (md_5 hG) (hts _ kw_748) dX5_price_26 (fun H locs hR hS => ?_)
    refine lv_aload_n hx hb dX5_price_29 rfl (lv_at hl 0 rfl) ?_
    refine xg_900 (v := 1) hx hb hw5 hown hK hR ((dmM_st (by decide) _ _).mpr (md_5 hG)) (hts _ kw_748) (st_s) dX5_price_30 ?_
    refine xr_if_le (tgt := 38) hx hb dX5_price_33 (by decide) (by decide) (fun h2 => absurd h2 (by decide)) (fun _ => ?_)
    refine lv_iconst (v := iI (0)) hx hb dX5_price_36 rfl ?_
    exact xm_i hx hb hr hlk hS dX5_price_37 (by exact (mR_k (1) (by ((try unfold mDraft at *); (try unfold mTaken at *); unfold priceME; (repeat' split) <;> first | rfl | omega)) (by decide)).symm) (by rw [mT_k (1) (by ((try unfold mDraft at *); (try unfold mTaken at *); unfold priceME; (repeat' split) <;> first | rfl | omega)) (by decide)]; exact hR)
  · skip
    refine lv_aload_n hx hb dX5_price_9 rfl (lv_at hl 0 rfl) ?_
    refine lv_iload_n hx hb dX5_price_10 rfl (lv_at hl 2 rfl) ?_
    refine lv_iconst (v := iI (0)) hx hb dX5_price_11 rfl ?_
    refine lv_sipush (v := iI (1000)) hx hb dX5_price_12 (by decide) ?_
    refine xk_pF (xr_V (As := [.int (iI (ce)), .int (iI (0)), .int (iI (1000))]) (rest := [.ref (ad 5 (0))]) hx hb hml hown hts hK (c_X5_between hR hG ce 0 1000 (by omega) (by omega) (by omega)) ms_X5_between kw_869 (wr_recv hK hR (md_5 hG) rfl rfl) ⟨by decide, by decide⟩ ⟨by decide, by decide⟩ rfl rfl hl.1 rfl (lv_room (Nat.le_of_ble_eq_true rfl)) dX5_price_15) ?_
    refine xr_ifb_ne (tgt := 25) hx hb dX5_price_18 (by decide) (fun h3 => ?_) (fun h3 => ?_)
    · skip
      refine lv_iconst (v := iI (0)) hx hb dX5_price_25 rfl ?_
      refine xp_900 (v := 0) hx hb hw5 hown hK hR hS (md_5 hG) (hts _ kw_748) dX5_price_26 (fun H locs hR hS => ?_)
      refine lv_aload_n hx hb dX5_price_29 rfl (lv_at hl 0 rfl) ?_
      refine xg_900 (v := 0) hx hb hw5 hown hK hR ((dmM_st (by decide) _ _).mpr (md_5 hG)) (hts _ kw_748) (st_s) dX5_price_30 ?_
      refine xr_if_le (tgt := 38) hx hb dX5_price_33 (by decide) (by decide) (fun _ => ?_) (fun h4 => absurd h4 (by decide))
      refine lv_aload_n hx hb dX5_price_38 rfl (lv_at hl 0 rfl) ?_
      refine xg_902 (v := mu 902 0) hx hb hw5 hown hK hR ((dmM_st (by decide) _ _).mpr (md_5 hG)) (hts _ kw_750) ((st_f (by decide)).trans rfl) dX5_price_39 ?_
      have q5 : mu 902 0 = 0 := mh_902 hG
      rw [q5, rv_p (Int.le_refl 0)]
      refine lv_iconst (v := iI (3)) hx hb dX5_price_42 rfl ?_
      refine lv_aload_n hx hb dX5_price_43 rfl (lv_at hl 0 rfl) ?_
      refine xg_901 (v := mu 901 0) hx hb hw5 hown hK hR ((dmM_st (by decide) _ _).mpr (md_5 hG)) (hts _ kw_749) ((st_f (by decide)).trans rfl) dX5_price_44 ?_
      have g6 := mr_901 hG (0)
      refine xr_imul hx hb dX5_price_47 ?_
      refine lv_iload_n hx hb dX5_price_48 rfl (lv_at hl 1 rfl) ?_
      refine xr_iadd hx hb dX5_price_49 ?_
      refine xa_1002 (v := mu 1002 ((3 * (mu 901 0)) + u)) hx hb hK hR ((dmM_st (by decide) _ _).mpr (md_22 hG)) (by omega) ((st_f (by decide)).trans rfl) dX5_price_50 ?_
      have g7 := mr_1002 hG ((3 * (mu 901 0)) + u)
      refine lv_istore_n (i := 3) (lv' := [(3, .int (iI (mu 1002 ((3 * (mu 901 0)) + u)))), (0, .ref (ad 5 (0))), (1, .int (iI (u))), (2, .int (iI (ce)))]) hx hb dX5_price_51 rfl hl (by decide) rfl (fun ls hl => ?_)
      refine lv_aload_n hx hb dX5_price_52 rfl (lv_at hl 1 rfl) ?_
      refine xg_902 (v := mu 902 0) hx hb hw5 hown hK hR ((dmM_st (by decide) _ _).mpr (md_5 hG)) (hts _ kw_750) ((st_f (by decide)).trans rfl) dX5_price_53 ?_
      have q8 : mu 902 0 = 0 := mh_902 hG
      rw [q8, rv_p (Int.le_refl 0)]
      refine lv_iconst (v := iI (3)) hx hb dX5_price_56 rfl ?_
      refine lv_aload_n hx hb dX5_price_57 rfl (lv_at hl 1 rfl) ?_
      refine xg_901 (v := mu 901 0) hx hb hw5 hown hK hR ((dmM_st (by decide) _ _).mpr (md_5 hG)) (hts _ kw_749) ((st_f (by decide)).trans rfl) dX5_price_58 ?_
      refine xr_imul hx hb dX5_price_61 ?_
      refine lv_iload_n hx hb dX5_price_62 rfl (lv_at hl 2 rfl) ?_
      refine xr_iadd hx hb dX5_price_63 ?_
      refine lv_iload_n hx hb dX5_price_64 rfl (lv_at hl 3 rfl) ?_
      refine xs_1002 (v := ce) hx hb hK hR hS ((dmM_st (by decide) _ _).mpr (md_22 hG)) (by omega) dX5_price_65 (fun H locs hR hS => ?_)
      refine lv_iload_n hx hb dX5_price_66 rfl (lv_at hl 0 rfl) ?_
      exact xm_i hx hb hr hlk hS dX5_price_67 (by refine Eq.trans ?_ (mR_0 (by ((try unfold mDraft at *); (try unfold mTaken at *); unfold priceME; (repeat' split) <;> first | rfl | omega))).symm; rfl) (by rw [mT_0 (by ((try unfold mDraft at *); (try unfold mTaken at *); unfold priceME; (repeat' split) <;> first | rfl | omega))]; exact hR)
    · skip
      refine lv_iconst (v := iI (1)) hx hb dX5_price_21 rfl ?_
      refine lv_goto (tgt := 26) hx hb dX5_price_22 (by decide) ?_
      refine xp_900 (v := 1) hx hb hw5 hown hK hR hS (md_5 hG) (hts _ kw_748) dX5_price_26 (fun H locs hR hS => ?_)
      refine lv_aload_n hx hb dX5_price_29 rfl (lv_at hl 0 rfl) ?_
      refine xg_900 (v := 1) hx hb hw5 hown hK hR ((dmM_st (by decide) _ _).mpr (md_5 hG)) (hts _ kw_748) (st_s) dX5_price_30 ?_
      refine xr_if_le (tgt := 38) hx hb dX5_price_33 (by decide) (by decide) (fun h9 => absurd h9 (by decide)) (fun _ => ?_)
      refine lv_iconst (v := iI (0)) hx hb dX5_price_36 rfl ?_
      exact xm_i hx hb hr hlk hS dX5_price_37 (by exact (mR_k (1) (by ((try unfold mDraft at *); (try unfold mTaken at *); unfold priceME; (repeat' split) <;> first | rfl | omega)) (by decide)).symm) (by rw [mT_k (1) (by ((try unfold mDraft at *); (try unfold mTaken at *); unfold priceME; (repeat' split) <;> first | rfl | omega)) (by decide)]; exact hR)
theorem ms_X5_worth : MVi RX5 yX5_worth cX5_worth 3 (some .int) 2 := ⟨kw_884, kw_882, kw_883, kw_4, rfl, by decide, by decide, by decide +kernel⟩
set_option maxRecDepth 100000 in
set_option maxHeartbeats 4000000 in
theorem c_X5_worth {l : Launch} {D : va_G} {cy : Nat → ClassId} {A : Nat → Prop} {ad : Nat → Int → Nat} {mu : Nat → Int → Int} {H : Heap} (hR : RM D cy A ad mu H) (hG : GM mu)  (x : Int) (d : Int) (h_x : in32 x) (h_d : in32 d) : Met l yX5_worth (Cond.code yX5_worth cX5_worth 3 (some .int) :: wG) (rmF 2 44 0 0) (Pc D cy H [.ref (ad 5 (0)), .int (iI (x)), .int (iI (d))]) (Qm (some (.int (iI (mR (worthME mu x d) (mWorth mu x d))))) (fun H' => RM D cy A ad (st mu 900 0 (worthME mu x d)) H') A) 0 0 A := by
  refine met_of (la := [(0, .ref (ad 5 (0))), (1, .int (iI (x))), (2, .int (iI (d)))]) (by decide) (Nat.le_of_ble_eq_true rfl) rfl ?_
  intro p e R s m args below meth c ls hRm hx hb hml hr hlk hin hown hts hsH hK hl
  subst hRm
  have hown : s.vm.findClass "TakinghallModel" = some m.cls := hown
  have hw5 : ∀ w ∈ u_ws RX5 TX5 35, w.before args s = true := fun w h => hts w (uw_X5 w h)
  have hS : va_S A s.heap H [] := by rw [hsH]; exact va_S.rf
  refine lv_aload_n hx hb dX5_worth_0 rfl (lv_at hl 0 rfl) ?_
  refine lv_aload_n hx hb dX5_worth_1 rfl (lv_at hl 0 rfl) ?_
  refine lv_iload_n hx hb dX5_worth_2 rfl (lv_at hl 1 rfl) ?_
  refine xk_pF (xr_V (As := [.int (iI (x))]) (rest := [.ref (ad 5 (0))]) hx hb hml hown hts hK (c_X5_isPlot hR hG x (by omega)) ms_X5_isPlot kw_865 (wr_recv hK hR (md_5 hG) rfl rfl) ⟨by decide, by decide⟩ ⟨by decide, by decide⟩ rfl rfl hl.1 rfl (lv_room (Nat.le_of_ble_eq_true rfl)) dX5_worth_3) ?_
  refine xr_ifb_ne (tgt := 13) hx hb dX5_worth_6 (by decide) (fun h1 => ?_) (fun h1 => ?_)
  · skip
    refine lv_aload_n hx hb dX5_worth_13 rfl (lv_at hl 0 rfl) ?_
    refine lv_iload_n hx hb dX5_worth_14 rfl (lv_at hl 2 rfl) ?_
    refine lv_iconst (v := iI (0)) hx hb dX5_worth_15 rfl ?_
    refine lv_aload_n hx hb dX5_worth_16 rfl (lv_at hl 0 rfl) ?_
    refine xg_901 (v := mu 901 0) hx hb hw5 hown hK hR (md_5 hG) (hts _ kw_749) rfl dX5_worth_17 ?_
    have g2 := mr_901 hG (0)
    refine xk_pF (xr_V (As := [.int (iI (d)), .int (iI (0)), .int (iI (mu 901 0))]) (rest := [.ref (ad 5 (0))]) hx hb hml hown hts hK (c_X5_between hR hG d 0 (mu 901 0) (by omega) (by omega) (by omega)) ms_X5_between kw_869 (wr_recv hK hR (md_5 hG) rfl rfl) ⟨by decide, by decide⟩ ⟨by decide, by decide⟩ rfl rfl hl.1 rfl (lv_room (Nat.le_of_ble_eq_true rfl)) dX5_worth_20) ?_
    refine xr_ifb_ne (tgt := 30) hx hb dX5_worth_23 (by decide) (fun h3 => ?_) (fun h3 => ?_)
    · skip
      refine lv_iconst (v := iI (0)) hx hb dX5_worth_30 rfl ?_
      refine xp_900 (v := 0) hx hb hw5 hown hK hR hS (md_5 hG) (hts _ kw_748) dX5_worth_31 (fun H locs hR hS => ?_)
      refine lv_aload_n hx hb dX5_worth_34 rfl (lv_at hl 0 rfl) ?_
      refine xg_900 (v := 0) hx hb hw5 hown hK hR ((dmM_st (by decide) _ _).mpr (md_5 hG)) (hts _ kw_748) (st_s) dX5_worth_35 ?_
      refine xr_if_le (tgt := 45) hx hb dX5_worth_38 (by decide) (by decide) (fun _ => ?_) (fun h4 => absurd h4 (by decide))
      refine lv_aload_n hx hb dX5_worth_45 rfl (lv_at hl 0 rfl) ?_
      refine lv_iload_n hx hb dX5_worth_46 rfl (lv_at hl 1 rfl) ?_
      refine lv_iload_n hx hb dX5_worth_47 rfl (lv_at hl 2 rfl) ?_
      refine xk_pF (xr_V (As := [.int (iI (x)), .int (iI (d))]) (rest := []) hx hb hml hown hts hK (c_X5_worthOn hR (gc_900 hG (0) (v := 0) (by omega)) x d (by omega) (by omega)) ms_X5_worthOn kw_885 (wr_recv hK hR ((dmM_st (by decide) _ _).mpr (md_5 hG)) rfl rfl) ⟨by decide, by decide⟩ ⟨by decide, by decide⟩ rfl rfl hl.1 rfl (lv_room (by decide)) dX5_worth_48) ?_
      rw [show (mWorth (st mu 900 (0) (0)) x d) = (mWorth mu x d) from by first | rfl | (simp only [mSum_9, mOwnB_9, mShare_9, mLeft_9s]; done)]
      have g5 := mWorth_rng hG (x) (d)
      exact xm_i hx hb hr hlk hS dX5_worth_51 (by refine Eq.trans ?_ (mR_0 (by ((try unfold mDraft at *); (try unfold mTaken at *); unfold worthME; (repeat' split) <;> first | rfl | omega))).symm; rfl) (by exact cast (congrArg (fun z => RM D cy A ad (st mu 900 0 z) H) (Eq.symm (by ((try unfold mDraft at *); (try unfold mTaken at *); unfold worthME; (repeat' split) <;> first | rfl | omega)))) hR)
    · skip
      refine lv_iconst (v := iI (2)) hx hb dX5_worth_26 rfl ?_
      refine lv_goto (tgt := 31) hx hb dX5_worth_27 (by decide) ?_
      refine xp_900 (v := 2) hx hb hw5 hown hK hR hS (md_5 hG) (hts _ kw_748) dX5_worth_31 (fun H locs hR hS => ?_)
      refine lv_aload_n hx hb dX5_worth_34 rfl (lv_at hl 0 rfl) ?_
      refine xg_900 (v := 2) hx hb hw5 hown hK hR ((dmM_st (by decide) _ _).mpr (md_5 hG)) (hts _ kw_748) (st_s) dX5_worth_35 ?_
      refine xr_if_le (tgt := 45) hx hb dX5_worth_38 (by decide) (by decide) (fun h6 => absurd h6 (by decide)) (fun _ => ?_)
      refine lv_iconst (v := iI (0)) hx hb dX5_worth_41 rfl ?_
      refine lv_goto (tgt := 51) hx hb dX5_worth_42 (by decide) ?_
      exact xm_i hx hb hr hlk hS dX5_worth_51 (by exact (mR_k (2) (by ((try unfold mDraft at *); (try unfold mTaken at *); unfold worthME; (repeat' split) <;> first | rfl | omega)) (by decide)).symm) (by exact cast (congrArg (fun z => RM D cy A ad (st mu 900 0 z) H) (Eq.symm (by ((try unfold mDraft at *); (try unfold mTaken at *); unfold worthME; (repeat' split) <;> first | rfl | omega)))) hR)
  · skip
    refine lv_iconst (v := iI (1)) hx hb dX5_worth_9 rfl ?_
    refine lv_goto (tgt := 31) hx hb dX5_worth_10 (by decide) ?_
    refine xp_900 (v := 1) hx hb hw5 hown hK hR hS (md_5 hG) (hts _ kw_748) dX5_worth_31 (fun H locs hR hS => ?_)
    refine lv_aload_n hx hb dX5_worth_34 rfl (lv_at hl 0 rfl) ?_
    refine xg_900 (v := 1) hx hb hw5 hown hK hR ((dmM_st (by decide) _ _).mpr (md_5 hG)) (hts _ kw_748) (st_s) dX5_worth_35 ?_
    refine xr_if_le (tgt := 45) hx hb dX5_worth_38 (by decide) (by decide) (fun h7 => absurd h7 (by decide)) (fun _ => ?_)
    refine lv_iconst (v := iI (0)) hx hb dX5_worth_41 rfl ?_
    refine lv_goto (tgt := 51) hx hb dX5_worth_42 (by decide) ?_
    exact xm_i hx hb hr hlk hS dX5_worth_51 (by exact (mR_k (1) (by ((try unfold mDraft at *); (try unfold mTaken at *); unfold worthME; (repeat' split) <;> first | rfl | omega)) (by decide)).symm) (by exact cast (congrArg (fun z => RM D cy A ad (st mu 900 0 z) H) (Eq.symm (by ((try unfold mDraft at *); (try unfold mTaken at *); unfold worthME; (repeat' split) <;> first | rfl | omega)))) hR)
theorem ms_X5_market : MVi RX5 yX5_market cX5_market 3 (some .int) 1 := ⟨kw_892, kw_890, kw_891, kw_4, rfl, by decide, by decide, by decide +kernel⟩
set_option maxRecDepth 100000 in
set_option maxHeartbeats 4000000 in
theorem c_X5_market {l : Launch} {D : va_G} {cy : Nat → ClassId} {A : Nat → Prop} {ad : Nat → Int → Nat} {mu : Nat → Int → Int} {H : Heap} (hR : RM D cy A ad mu H) (hG : GM mu)  (x : Int) (h_x : in32 x) : Met l yX5_market (Cond.code yX5_market cX5_market 3 (some .int) :: wG) (rmF 2 44 0 0) (Pc D cy H [.ref (ad 5 (0)), .int (iI (x))]) (Qm (some (.int (iI (mR (pME x) (mMarket mu x))))) (fun H' => RM D cy A ad (st mu 900 0 (pME x)) H') A) 0 0 A := by
  refine met_of (la := [(0, .ref (ad 5 (0))), (1, .int (iI (x)))]) (by decide) (Nat.le_of_ble_eq_true rfl) rfl ?_
  intro p e R s m args below meth c ls hRm hx hb hml hr hlk hin hown hts hsH hK hl
  subst hRm
  have hown : s.vm.findClass "TakinghallModel" = some m.cls := hown
  have hw5 : ∀ w ∈ u_ws RX5 TX5 35, w.before args s = true := fun w h => hts w (uw_X5 w h)
  have hS : va_S A s.heap H [] := by rw [hsH]; exact va_S.rf
  refine lv_aload_n hx hb dX5_market_0 rfl (lv_at hl 0 rfl) ?_
  refine lv_aload_n hx hb dX5_market_1 rfl (lv_at hl 0 rfl) ?_
  refine lv_iload_n hx hb dX5_market_2 rfl (lv_at hl 1 rfl) ?_
  refine xk_pF (xr_V (As := [.int (iI (x))]) (rest := [.ref (ad 5 (0))]) hx hb hml hown hts hK (c_X5_isPlot hR hG x (by omega)) ms_X5_isPlot kw_865 (wr_recv hK hR (md_5 hG) rfl rfl) ⟨by decide, by decide⟩ ⟨by decide, by decide⟩ rfl rfl hl.1 rfl (lv_room (Nat.le_of_ble_eq_true rfl)) dX5_market_3) ?_
  refine xr_ifb_ne (tgt := 13) hx hb dX5_market_6 (by decide) (fun h1 => ?_) (fun h1 => ?_)
  · skip
    refine lv_iconst (v := iI (0)) hx hb dX5_market_13 rfl ?_
    refine xp_900 (v := 0) hx hb hw5 hown hK hR hS (md_5 hG) (hts _ kw_748) dX5_market_14 (fun H locs hR hS => ?_)
    refine lv_aload_n hx hb dX5_market_17 rfl (lv_at hl 0 rfl) ?_
    refine xg_900 (v := 0) hx hb hw5 hown hK hR ((dmM_st (by decide) _ _).mpr (md_5 hG)) (hts _ kw_748) (st_s) dX5_market_18 ?_
    refine xr_if_le (tgt := 26) hx hb dX5_market_21 (by decide) (by decide) (fun _ => ?_) (fun h2 => absurd h2 (by decide))
    refine lv_aload_n hx hb dX5_market_26 rfl (lv_at hl 0 rfl) ?_
    refine lv_iload_n hx hb dX5_market_27 rfl (lv_at hl 1 rfl) ?_
    refine lv_aload_n hx hb dX5_market_28 rfl (lv_at hl 0 rfl) ?_
    refine xg_901 (v := mu 901 0) hx hb hw5 hown hK hR ((dmM_st (by decide) _ _).mpr (md_5 hG)) (hts _ kw_749) ((st_f (by decide)).trans rfl) dX5_market_29 ?_
    have g3 := mr_901 hG (0)
    refine xk_pF (xr_V (As := [.int (iI (x)), .int (iI (mu 901 0))]) (rest := []) hx hb hml hown hts hK (c_X5_worthOn hR (gc_900 hG (0) (v := 0) (by omega)) x (mu 901 0) (by omega) (by omega)) ms_X5_worthOn kw_885 (wr_recv hK hR ((dmM_st (by decide) _ _).mpr (md_5 hG)) rfl rfl) ⟨by decide, by decide⟩ ⟨by decide, by decide⟩ rfl rfl hl.1 rfl (lv_room (by decide)) dX5_market_32) ?_
    rw [show (mWorth (st mu 900 (0) (0)) x (mu 901 0)) = (mWorth mu x (mu 901 0)) from by first | rfl | (simp only [mSum_9, mOwnB_9, mShare_9, mLeft_9s]; done)]
    have g4 := mWorth_rng hG (x) ((mu 901 0))
    refine lv_istore_n (i := 2) (lv' := [(2, .int (iI (mWorth mu x (mu 901 0)))), (0, .ref (ad 5 (0))), (1, .int (iI (x)))]) hx hb dX5_market_35 rfl hl (by decide) rfl (fun ls hl => ?_)
    refine lv_aload_n hx hb dX5_market_36 rfl (lv_at hl 1 rfl) ?_
    refine xg_905 (v := mu 905 0) hx hb hw5 hown hK hR ((dmM_st (by decide) _ _).mpr (md_5 hG)) (hts _ kw_753) ((st_f (by decide)).trans rfl) dX5_market_37 ?_
    have q5 : mu 905 0 = 0 := mh_905 hG
    rw [q5, rv_p (Int.le_refl 0)]
    refine lv_iload_n hx hb dX5_market_40 rfl (lv_at hl 2 rfl) ?_
    refine xa_1005 (v := mu 1005 x) hx hb hK hR ((dmM_st (by decide) _ _).mpr (md_25 hG)) (by omega) ((st_f (by decide)).trans rfl) dX5_market_41 ?_
    have g6 := mr_1005 hG (x)
    refine xr_if_eq (tgt := 47) hx hb dX5_market_42 (by decide) (by omega) (fun h7 => ?_) (fun h7 => ?_)
    · skip
      refine lv_aload_n hx hb dX5_market_47 rfl (lv_at hl 1 rfl) ?_
      refine xg_906 (v := mu 906 0) hx hb hw5 hown hK hR ((dmM_st (by decide) _ _).mpr (md_5 hG)) (hts _ kw_754) ((st_f (by decide)).trans rfl) dX5_market_48 ?_
      have q8 : mu 906 0 = 0 := mh_906 hG
      rw [q8, rv_p (Int.le_refl 0)]
      refine lv_iload_n hx hb dX5_market_51 rfl (lv_at hl 2 rfl) ?_
      refine xa_1006 (v := mu 1006 x) hx hb hK hR ((dmM_st (by decide) _ _).mpr (md_26 hG)) (by omega) ((st_f (by decide)).trans rfl) dX5_market_52 ?_
      have g9 := mr_1006 hG (x)
      refine lv_iconst (v := iI (-1)) hx hb dX5_market_53 rfl ?_
      refine xr_icmp_eq (tgt := 67) hx hb dX5_market_54 (by decide) (by omega) (by omega) (fun h10 => ?_) (fun h10 => ?_)
      · skip
        refine lv_aload_n hx hb dX5_market_67 rfl (lv_at hl 1 rfl) ?_
        refine lv_iload_n hx hb dX5_market_68 rfl (lv_at hl 2 rfl) ?_
        refine xk_pF (xr_V (As := [.int (iI (x))]) (rest := []) hx hb hml hown hts hK (c_X5_isNeededBeside hR (gc_900 hG (0) (v := 0) (by omega)) x (by omega)) ms_X5_isNeededBeside kw_893 (wr_recv hK hR ((dmM_st (by decide) _ _).mpr (md_5 hG)) rfl rfl) ⟨by decide, by decide⟩ ⟨by decide, by decide⟩ rfl rfl hl.1 rfl (lv_room (by decide)) dX5_market_69) ?_
        rw [show (mBeside (st mu 900 (0) (0)) x) = (mBeside mu x) from by first | rfl | (simp only [mSum_9, mOwnB_9, mShare_9, mLeft_9s]; done)]
        refine xr_ifb_eq (tgt := 85) hx hb dX5_market_72 (by decide) (fun h11 => ?_) (fun h11 => ?_)
        · skip
          refine lv_iload_n hx hb dX5_market_85 rfl (lv_at hl 0 rfl) ?_
          exact xm_i hx hb hr hlk hS dX5_market_86 (by refine Eq.trans ?_ (mR_0 (by ((try unfold mDraft at *); (try unfold mTaken at *); unfold pME; (repeat' split) <;> first | rfl | omega))).symm; unfold mMarket; first | rw [if_pos (by omega)] | rw [if_neg (by omega), if_pos (by omega)] | rw [if_neg (by omega), if_neg (by omega), if_pos (bI_t (by assumption))] | rw [if_neg (by omega), if_neg (by omega), if_neg (by rw [bI_f (by assumption)]; decide)]) (by exact cast (congrArg (fun z => RM D cy A ad (st mu 900 0 z) H) (Eq.symm (by ((try unfold mDraft at *); (try unfold mTaken at *); unfold pME; (repeat' split) <;> first | rfl | omega)))) hR)
        · skip
          refine lv_iload_n hx hb dX5_market_75 rfl (lv_at hl 0 rfl) ?_
          refine lv_bipush (v := iI (90)) hx hb dX5_market_76 (by decide) ?_
          refine xr_imul hx hb dX5_market_78 ?_
          refine lv_bipush (v := iI (100)) hx hb dX5_market_79 (by decide) ?_
          refine xr_idiv hx hb dX5_market_81 (by omega) (by omega) ?_
          refine lv_goto (tgt := 86) hx hb dX5_market_82 (by decide) ?_
          exact xm_i hx hb hr hlk hS dX5_market_86 (by refine Eq.trans ?_ (mR_0 (by ((try unfold mDraft at *); (try unfold mTaken at *); unfold pME; (repeat' split) <;> first | rfl | omega))).symm; unfold mMarket; first | rw [if_pos (by omega)] | rw [if_neg (by omega), if_pos (by omega)] | rw [if_neg (by omega), if_neg (by omega), if_pos (bI_t (by assumption))] | rw [if_neg (by omega), if_neg (by omega), if_neg (by rw [bI_f (by assumption)]; decide)]) (by exact cast (congrArg (fun z => RM D cy A ad (st mu 900 0 z) H) (Eq.symm (by ((try unfold mDraft at *); (try unfold mTaken at *); unfold pME; (repeat' split) <;> first | rfl | omega)))) hR)
      · skip
        refine lv_iload_n hx hb dX5_market_57 rfl (lv_at hl 0 rfl) ?_
        refine lv_bipush (v := iI (70)) hx hb dX5_market_58 (by decide) ?_
        refine xr_imul hx hb dX5_market_60 ?_
        refine lv_bipush (v := iI (100)) hx hb dX5_market_61 (by decide) ?_
        refine xr_idiv hx hb dX5_market_63 (by omega) (by omega) ?_
        refine lv_goto (tgt := 86) hx hb dX5_market_64 (by decide) ?_
        exact xm_i hx hb hr hlk hS dX5_market_86 (by refine Eq.trans ?_ (mR_0 (by ((try unfold mDraft at *); (try unfold mTaken at *); unfold pME; (repeat' split) <;> first | rfl | omega))).symm; unfold mMarket; first | rw [if_pos (by omega)] | rw [if_neg (by omega), if_pos (by omega)] | rw [if_neg (by omega), if_neg (by omega), if_pos (bI_t (by assumption))] | rw [if_neg (by omega), if_neg (by omega), if_neg (by rw [bI_f (by assumption)]; decide)]) (by exact cast (congrArg (fun z => RM D cy A ad (st mu 900 0 z) H) (Eq.symm (by ((try unfold mDraft at *); (try unfold mTaken at *); unfold pME; (repeat' split) <;> first | rfl | omega)))) hR)
    · skip
      refine lv_iload_n hx hb dX5_market_45 rfl (lv_at hl 0 rfl) ?_
      exact xm_i hx hb hr hlk hS dX5_market_46 (by refine Eq.trans ?_ (mR_0 (by ((try unfold mDraft at *); (try unfold mTaken at *); unfold pME; (repeat' split) <;> first | rfl | omega))).symm; unfold mMarket; first | rw [if_pos (by omega)] | rw [if_neg (by omega), if_pos (by omega)] | rw [if_neg (by omega), if_neg (by omega), if_pos (bI_t (by assumption))] | rw [if_neg (by omega), if_neg (by omega), if_neg (by rw [bI_f (by assumption)]; decide)]) (by exact cast (congrArg (fun z => RM D cy A ad (st mu 900 0 z) H) (Eq.symm (by ((try unfold mDraft at *); (try unfold mTaken at *); unfold pME; (repeat' split) <;> first | rfl | omega)))) hR)
  · skip
    refine lv_iconst (v := iI (1)) hx hb dX5_market_9 rfl ?_
    refine lv_goto (tgt := 14) hx hb dX5_market_10 (by decide) ?_
    refine xp_900 (v := 1) hx hb hw5 hown hK hR hS (md_5 hG) (hts _ kw_748) dX5_market_14 (fun H locs hR hS => ?_)
    refine lv_aload_n hx hb dX5_market_17 rfl (lv_at hl 0 rfl) ?_
    refine xg_900 (v := 1) hx hb hw5 hown hK hR ((dmM_st (by decide) _ _).mpr (md_5 hG)) (hts _ kw_748) (st_s) dX5_market_18 ?_
    refine xr_if_le (tgt := 26) hx hb dX5_market_21 (by decide) (by decide) (fun h12 => absurd h12 (by decide)) (fun _ => ?_)
    refine lv_iconst (v := iI (0)) hx hb dX5_market_24 rfl ?_
    exact xm_i hx hb hr hlk hS dX5_market_25 (by exact (mR_k (1) (by ((try unfold mDraft at *); (try unfold mTaken at *); unfold pME; (repeat' split) <;> first | rfl | omega)) (by decide)).symm) (by exact cast (congrArg (fun z => RM D cy A ad (st mu 900 0 z) H) (Eq.symm (by ((try unfold mDraft at *); (try unfold mTaken at *); unfold pME; (repeat' split) <;> first | rfl | omega)))) hR)
theorem ms_X5_plotOf : MVi RX5 yX5_plotOf cX5_plotOf 3 (some .int) 2 := ⟨kw_900, kw_898, kw_899, kw_4, rfl, by decide, by decide, by decide +kernel⟩
set_option maxRecDepth 100000 in
set_option maxHeartbeats 4000000 in
theorem c_X5_plotOf {l : Launch} {D : va_G} {cy : Nat → ClassId} {A : Nat → Prop} {ad : Nat → Int → Nat} {mu : Nat → Int → Int} {H : Heap} (hR : RM D cy A ad mu H) (hG : GM mu)  (x : Int) (w : Int) (h_x : in32 x) (h_w : in32 w) : Met l yX5_plotOf (Cond.code yX5_plotOf cX5_plotOf 3 (some .int) :: wG) (rmF 2 44 0 0) (Pc D cy H [.ref (ad 5 (0)), .int (iI (x)), .int (iI (w))]) (Qm (some (.int (iI (mR (plotOfME x w) (mPlotR mu x w))))) (fun H' => RM D cy A ad (st mu 900 0 (plotOfME x w)) H') A) 0 0 A := by
  refine met_of (la := [(0, .ref (ad 5 (0))), (1, .int (iI (x))), (2, .int (iI (w)))]) (by decide) (Nat.le_of_ble_eq_true rfl) rfl ?_
  intro p e R s m args below meth c ls hRm hx hb hml hr hlk hin hown hts hsH hK hl
  subst hRm
  have hown : s.vm.findClass "TakinghallModel" = some m.cls := hown
  have hw5 : ∀ w ∈ u_ws RX5 TX5 35, w.before args s = true := fun w h => hts w (uw_X5 w h)
  have hS : va_S A s.heap H [] := by rw [hsH]; exact va_S.rf
  refine lv_aload_n hx hb dX5_plotOf_0 rfl (lv_at hl 0 rfl) ?_
  refine lv_aload_n hx hb dX5_plotOf_1 rfl (lv_at hl 0 rfl) ?_
  refine lv_iload_n hx hb dX5_plotOf_2 rfl (lv_at hl 1 rfl) ?_
  refine xk_pF (xr_V (As := [.int (iI (x))]) (rest := [.ref (ad 5 (0))]) hx hb hml hown hts hK (c_X5_isPlot hR hG x (by omega)) ms_X5_isPlot kw_865 (wr_recv hK hR (md_5 hG) rfl rfl) ⟨by decide, by decide⟩ ⟨by decide, by decide⟩ rfl rfl hl.1 rfl (lv_room (Nat.le_of_ble_eq_true rfl)) dX5_plotOf_3) ?_
  refine xr_ifb_ne (tgt := 13) hx hb dX5_plotOf_6 (by decide) (fun h1 => ?_) (fun h1 => ?_)
  · skip
    refine lv_aload_n hx hb dX5_plotOf_13 rfl (lv_at hl 0 rfl) ?_
    refine lv_iload_n hx hb dX5_plotOf_14 rfl (lv_at hl 2 rfl) ?_
    refine lv_iconst (v := iI (0)) hx hb dX5_plotOf_15 rfl ?_
    refine lv_bipush (v := iI (8)) hx hb dX5_plotOf_16 (by decide) ?_
    refine xk_pF (xr_V (As := [.int (iI (w)), .int (iI (0)), .int (iI (8))]) (rest := [.ref (ad 5 (0))]) hx hb hml hown hts hK (c_X5_between hR hG w 0 8 (by omega) (by omega) (by omega)) ms_X5_between kw_869 (wr_recv hK hR (md_5 hG) rfl rfl) ⟨by decide, by decide⟩ ⟨by decide, by decide⟩ rfl rfl hl.1 rfl (lv_room (Nat.le_of_ble_eq_true rfl)) dX5_plotOf_18) ?_
    refine xr_ifb_ne (tgt := 28) hx hb dX5_plotOf_21 (by decide) (fun h2 => ?_) (fun h2 => ?_)
    · skip
      refine lv_iconst (v := iI (0)) hx hb dX5_plotOf_28 rfl ?_
      refine xp_900 (v := 0) hx hb hw5 hown hK hR hS (md_5 hG) (hts _ kw_748) dX5_plotOf_29 (fun H locs hR hS => ?_)
      refine lv_aload_n hx hb dX5_plotOf_32 rfl (lv_at hl 0 rfl) ?_
      refine xg_900 (v := 0) hx hb hw5 hown hK hR ((dmM_st (by decide) _ _).mpr (md_5 hG)) (hts _ kw_748) (st_s) dX5_plotOf_33 ?_
      refine xr_if_le (tgt := 41) hx hb dX5_plotOf_36 (by decide) (by decide) (fun _ => ?_) (fun h3 => absurd h3 (by decide))
      refine lv_iload_n hx hb dX5_plotOf_41 rfl (lv_at hl 2 rfl) ?_
      rcases (show (w < 0 ∨ 7 < w) ∨ w = 0 ∨ w = 1 ∨ w = 2 ∨ w = 3 ∨ w = 4 ∨ w = 5 ∨ w = 6 ∨ w = 7 by omega) with h4 | h4 | h4 | h4 | h4 | h4 | h4 | h4 | h4
      · skip
        refine lv_tableOut (tgt := 152) hx hb dX5_plotOf_42 (by rw [iI_toInt (by omega)]; exact h4) (by decide) ?_
        refine lv_aload_n hx hb dX5_plotOf_152 rfl (lv_at hl 0 rfl) ?_
        refine xg_911 (v := mu 911 0) hx hb hw5 hown hK hR ((dmM_st (by decide) _ _).mpr (md_5 hG)) (hts _ kw_759) ((st_f (by decide)).trans rfl) dX5_plotOf_153 ?_
        have q5 : mu 911 0 = 0 := mh_911 hG
        rw [q5, rv_p (Int.le_refl 0)]
        refine lv_iload_n hx hb dX5_plotOf_156 rfl (lv_at hl 1 rfl) ?_
        refine xa_1011 (v := mu 1011 x) hx hb hK hR ((dmM_st (by decide) _ _).mpr (md_31 hG)) (by omega) ((st_f (by decide)).trans rfl) dX5_plotOf_157 ?_
        have g6 := mr_1011 hG (x)
        exact xm_i hx hb hr hlk hS dX5_plotOf_158 (by refine Eq.trans ?_ (mR_0 (by ((try unfold mDraft at *); (try unfold mTaken at *); unfold plotOfME; (repeat' split) <;> first | rfl | omega))).symm; unfold mPlotR; (repeat' split) <;> omega) (by exact cast (congrArg (fun z => RM D cy A ad (st mu 900 0 z) H) (Eq.symm (by ((try unfold mDraft at *); (try unfold mTaken at *); unfold plotOfME; (repeat' split) <;> first | rfl | omega)))) hR)
      · skip
        rw [h4]
        refine lv_tableIn (tgt := 88) (off := 46) hx hb dX5_plotOf_42 (by decide) (by decide) (by decide) (by decide) ?_
        refine lv_aload_n hx hb dX5_plotOf_88 rfl (lv_at hl 0 rfl) ?_
        refine xg_903 (v := mu 903 0) hx hb hw5 hown hK hR ((dmM_st (by decide) _ _).mpr (md_5 hG)) (hts _ kw_751) ((st_f (by decide)).trans rfl) dX5_plotOf_89 ?_
        have q7 : mu 903 0 = 0 := mh_903 hG
        rw [q7, rv_p (Int.le_refl 0)]
        refine lv_iload_n hx hb dX5_plotOf_92 rfl (lv_at hl 1 rfl) ?_
        refine xa_1003 (v := mu 1003 x) hx hb hK hR ((dmM_st (by decide) _ _).mpr (md_23 hG)) (by omega) ((st_f (by decide)).trans rfl) dX5_plotOf_93 ?_
        have g8 := mr_1003 hG (x)
        exact xm_i hx hb hr hlk hS dX5_plotOf_94 (by refine Eq.trans ?_ (mR_0 (by ((try unfold mDraft at *); (try unfold mTaken at *); unfold plotOfME; (repeat' split) <;> first | rfl | omega))).symm; unfold mPlotR; (repeat' split) <;> omega) (by exact cast (congrArg (fun z => RM D cy A ad (st mu 900 0 z) H) (Eq.symm (by ((try unfold mDraft at *); (try unfold mTaken at *); unfold plotOfME; (repeat' split) <;> first | rfl | omega)))) hR)
      · skip
        rw [h4]
        refine lv_tableIn (tgt := 95) (off := 53) hx hb dX5_plotOf_42 (by decide) (by decide) (by decide) (by decide) ?_
        refine lv_aload_n hx hb dX5_plotOf_95 rfl (lv_at hl 0 rfl) ?_
        refine xg_904 (v := mu 904 0) hx hb hw5 hown hK hR ((dmM_st (by decide) _ _).mpr (md_5 hG)) (hts _ kw_752) ((st_f (by decide)).trans rfl) dX5_plotOf_96 ?_
        have q9 : mu 904 0 = 0 := mh_904 hG
        rw [q9, rv_p (Int.le_refl 0)]
        refine lv_iload_n hx hb dX5_plotOf_99 rfl (lv_at hl 1 rfl) ?_
        refine xa_1004 (v := mu 1004 x) hx hb hK hR ((dmM_st (by decide) _ _).mpr (md_24 hG)) (by omega) ((st_f (by decide)).trans rfl) dX5_plotOf_100 ?_
        have g10 := mr_1004 hG (x)
        exact xm_i hx hb hr hlk hS dX5_plotOf_101 (by refine Eq.trans ?_ (mR_0 (by ((try unfold mDraft at *); (try unfold mTaken at *); unfold plotOfME; (repeat' split) <;> first | rfl | omega))).symm; unfold mPlotR; (repeat' split) <;> omega) (by exact cast (congrArg (fun z => RM D cy A ad (st mu 900 0 z) H) (Eq.symm (by ((try unfold mDraft at *); (try unfold mTaken at *); unfold plotOfME; (repeat' split) <;> first | rfl | omega)))) hR)
      · skip
        rw [h4]
        refine lv_tableIn (tgt := 102) (off := 60) hx hb dX5_plotOf_42 (by decide) (by decide) (by decide) (by decide) ?_
        refine lv_aload_n hx hb dX5_plotOf_102 rfl (lv_at hl 0 rfl) ?_
        refine xg_905 (v := mu 905 0) hx hb hw5 hown hK hR ((dmM_st (by decide) _ _).mpr (md_5 hG)) (hts _ kw_753) ((st_f (by decide)).trans rfl) dX5_plotOf_103 ?_
        have q11 : mu 905 0 = 0 := mh_905 hG
        rw [q11, rv_p (Int.le_refl 0)]
        refine lv_iload_n hx hb dX5_plotOf_106 rfl (lv_at hl 1 rfl) ?_
        refine xa_1005 (v := mu 1005 x) hx hb hK hR ((dmM_st (by decide) _ _).mpr (md_25 hG)) (by omega) ((st_f (by decide)).trans rfl) dX5_plotOf_107 ?_
        have g12 := mr_1005 hG (x)
        exact xm_i hx hb hr hlk hS dX5_plotOf_108 (by refine Eq.trans ?_ (mR_0 (by ((try unfold mDraft at *); (try unfold mTaken at *); unfold plotOfME; (repeat' split) <;> first | rfl | omega))).symm; unfold mPlotR; (repeat' split) <;> omega) (by exact cast (congrArg (fun z => RM D cy A ad (st mu 900 0 z) H) (Eq.symm (by ((try unfold mDraft at *); (try unfold mTaken at *); unfold plotOfME; (repeat' split) <;> first | rfl | omega)))) hR)
      · skip
        rw [h4]
        refine lv_tableIn (tgt := 109) (off := 67) hx hb dX5_plotOf_42 (by decide) (by decide) (by decide) (by decide) ?_
        refine lv_aload_n hx hb dX5_plotOf_109 rfl (lv_at hl 0 rfl) ?_
        refine xg_906 (v := mu 906 0) hx hb hw5 hown hK hR ((dmM_st (by decide) _ _).mpr (md_5 hG)) (hts _ kw_754) ((st_f (by decide)).trans rfl) dX5_plotOf_110 ?_
        have q13 : mu 906 0 = 0 := mh_906 hG
        rw [q13, rv_p (Int.le_refl 0)]
        refine lv_iload_n hx hb dX5_plotOf_113 rfl (lv_at hl 1 rfl) ?_
        refine xa_1006 (v := mu 1006 x) hx hb hK hR ((dmM_st (by decide) _ _).mpr (md_26 hG)) (by omega) ((st_f (by decide)).trans rfl) dX5_plotOf_114 ?_
        have g14 := mr_1006 hG (x)
        exact xm_i hx hb hr hlk hS dX5_plotOf_115 (by refine Eq.trans ?_ (mR_0 (by ((try unfold mDraft at *); (try unfold mTaken at *); unfold plotOfME; (repeat' split) <;> first | rfl | omega))).symm; unfold mPlotR; (repeat' split) <;> omega) (by exact cast (congrArg (fun z => RM D cy A ad (st mu 900 0 z) H) (Eq.symm (by ((try unfold mDraft at *); (try unfold mTaken at *); unfold plotOfME; (repeat' split) <;> first | rfl | omega)))) hR)
      · skip
        rw [h4]
        refine lv_tableIn (tgt := 116) (off := 74) hx hb dX5_plotOf_42 (by decide) (by decide) (by decide) (by decide) ?_
        refine lv_aload_n hx hb dX5_plotOf_116 rfl (lv_at hl 0 rfl) ?_
        refine xg_907 (v := mu 907 0) hx hb hw5 hown hK hR ((dmM_st (by decide) _ _).mpr (md_5 hG)) (hts _ kw_755) ((st_f (by decide)).trans rfl) dX5_plotOf_117 ?_
        have q15 : mu 907 0 = 0 := mh_907 hG
        rw [q15, rv_p (Int.le_refl 0)]
        refine lv_iload_n hx hb dX5_plotOf_120 rfl (lv_at hl 1 rfl) ?_
        refine xa_1007 (v := mu 1007 x) hx hb hK hR ((dmM_st (by decide) _ _).mpr (md_27 hG)) (by omega) ((st_f (by decide)).trans rfl) dX5_plotOf_121 ?_
        have g16 := mr_1007 hG (x)
        exact xm_i hx hb hr hlk hS dX5_plotOf_122 (by refine Eq.trans ?_ (mR_0 (by ((try unfold mDraft at *); (try unfold mTaken at *); unfold plotOfME; (repeat' split) <;> first | rfl | omega))).symm; unfold mPlotR; (repeat' split) <;> omega) (by exact cast (congrArg (fun z => RM D cy A ad (st mu 900 0 z) H) (Eq.symm (by ((try unfold mDraft at *); (try unfold mTaken at *); unfold plotOfME; (repeat' split) <;> first | rfl | omega)))) hR)
      · skip
        rw [h4]
        refine lv_tableIn (tgt := 123) (off := 81) hx hb dX5_plotOf_42 (by decide) (by decide) (by decide) (by decide) ?_
        refine lv_aload_n hx hb dX5_plotOf_123 rfl (lv_at hl 0 rfl) ?_
        refine xg_908 (v := mu 908 0) hx hb hw5 hown hK hR ((dmM_st (by decide) _ _).mpr (md_5 hG)) (hts _ kw_756) ((st_f (by decide)).trans rfl) dX5_plotOf_124 ?_
        have q17 : mu 908 0 = 0 := mh_908 hG
        rw [q17, rv_p (Int.le_refl 0)]
        refine lv_iload_n hx hb dX5_plotOf_127 rfl (lv_at hl 1 rfl) ?_
        refine xa_1008 (v := mu 1008 x) hx hb hK hR ((dmM_st (by decide) _ _).mpr (md_28 hG)) (by omega) ((st_f (by decide)).trans rfl) dX5_plotOf_128 ?_
        have g18 := mr_1008 hG (x)
        exact xm_i hx hb hr hlk hS dX5_plotOf_129 (by refine Eq.trans ?_ (mR_0 (by ((try unfold mDraft at *); (try unfold mTaken at *); unfold plotOfME; (repeat' split) <;> first | rfl | omega))).symm; unfold mPlotR; (repeat' split) <;> omega) (by exact cast (congrArg (fun z => RM D cy A ad (st mu 900 0 z) H) (Eq.symm (by ((try unfold mDraft at *); (try unfold mTaken at *); unfold plotOfME; (repeat' split) <;> first | rfl | omega)))) hR)
      · skip
        rw [h4]
        refine lv_tableIn (tgt := 130) (off := 88) hx hb dX5_plotOf_42 (by decide) (by decide) (by decide) (by decide) ?_
        refine lv_aload_n hx hb dX5_plotOf_130 rfl (lv_at hl 0 rfl) ?_
        refine xg_909 (v := mu 909 0) hx hb hw5 hown hK hR ((dmM_st (by decide) _ _).mpr (md_5 hG)) (hts _ kw_757) ((st_f (by decide)).trans rfl) dX5_plotOf_131 ?_
        have q19 : mu 909 0 = 0 := mh_909 hG
        rw [q19, rv_p (Int.le_refl 0)]
        refine lv_iload_n hx hb dX5_plotOf_134 rfl (lv_at hl 1 rfl) ?_
        refine xa_1009 (v := mu 1009 x) hx hb hK hR ((dmM_st (by decide) _ _).mpr (md_29 hG)) (by omega) ((st_f (by decide)).trans rfl) dX5_plotOf_135 ?_
        have g20 := mr_1009 hG (x)
        refine xr_if_eq (tgt := 143) hx hb dX5_plotOf_136 (by decide) (by omega) (fun h21 => ?_) (fun h21 => ?_)
        · skip
          refine lv_iconst (v := iI (0)) hx hb dX5_plotOf_143 rfl ?_
          exact xm_i hx hb hr hlk hS dX5_plotOf_144 (by refine Eq.trans ?_ (mR_0 (by ((try unfold mDraft at *); (try unfold mTaken at *); unfold plotOfME; (repeat' split) <;> first | rfl | omega))).symm; unfold mPlotR; (repeat' split) <;> omega) (by exact cast (congrArg (fun z => RM D cy A ad (st mu 900 0 z) H) (Eq.symm (by ((try unfold mDraft at *); (try unfold mTaken at *); unfold plotOfME; (repeat' split) <;> first | rfl | omega)))) hR)
        · skip
          refine lv_iconst (v := iI (1)) hx hb dX5_plotOf_139 rfl ?_
          refine lv_goto (tgt := 144) hx hb dX5_plotOf_140 (by decide) ?_
          exact xm_i hx hb hr hlk hS dX5_plotOf_144 (by refine Eq.trans ?_ (mR_0 (by ((try unfold mDraft at *); (try unfold mTaken at *); unfold plotOfME; (repeat' split) <;> first | rfl | omega))).symm; unfold mPlotR; (repeat' split) <;> omega) (by exact cast (congrArg (fun z => RM D cy A ad (st mu 900 0 z) H) (Eq.symm (by ((try unfold mDraft at *); (try unfold mTaken at *); unfold plotOfME; (repeat' split) <;> first | rfl | omega)))) hR)
      · skip
        rw [h4]
        refine lv_tableIn (tgt := 145) (off := 103) hx hb dX5_plotOf_42 (by decide) (by decide) (by decide) (by decide) ?_
        refine lv_aload_n hx hb dX5_plotOf_145 rfl (lv_at hl 0 rfl) ?_
        refine xg_910 (v := mu 910 0) hx hb hw5 hown hK hR ((dmM_st (by decide) _ _).mpr (md_5 hG)) (hts _ kw_758) ((st_f (by decide)).trans rfl) dX5_plotOf_146 ?_
        have q22 : mu 910 0 = 0 := mh_910 hG
        rw [q22, rv_p (Int.le_refl 0)]
        refine lv_iload_n hx hb dX5_plotOf_149 rfl (lv_at hl 1 rfl) ?_
        refine xa_1010 (v := mu 1010 x) hx hb hK hR ((dmM_st (by decide) _ _).mpr (md_30 hG)) (by omega) ((st_f (by decide)).trans rfl) dX5_plotOf_150 ?_
        have g23 := mr_1010 hG (x)
        exact xm_i hx hb hr hlk hS dX5_plotOf_151 (by refine Eq.trans ?_ (mR_0 (by ((try unfold mDraft at *); (try unfold mTaken at *); unfold plotOfME; (repeat' split) <;> first | rfl | omega))).symm; unfold mPlotR; (repeat' split) <;> omega) (by exact cast (congrArg (fun z => RM D cy A ad (st mu 900 0 z) H) (Eq.symm (by ((try unfold mDraft at *); (try unfold mTaken at *); unfold plotOfME; (repeat' split) <;> first | rfl | omega)))) hR)
    · skip
      refine lv_iconst (v := iI (2)) hx hb dX5_plotOf_24 rfl ?_
      refine lv_goto (tgt := 29) hx hb dX5_plotOf_25 (by decide) ?_
      refine xp_900 (v := 2) hx hb hw5 hown hK hR hS (md_5 hG) (hts _ kw_748) dX5_plotOf_29 (fun H locs hR hS => ?_)
      refine lv_aload_n hx hb dX5_plotOf_32 rfl (lv_at hl 0 rfl) ?_
      refine xg_900 (v := 2) hx hb hw5 hown hK hR ((dmM_st (by decide) _ _).mpr (md_5 hG)) (hts _ kw_748) (st_s) dX5_plotOf_33 ?_
      refine xr_if_le (tgt := 41) hx hb dX5_plotOf_36 (by decide) (by decide) (fun h24 => absurd h24 (by decide)) (fun _ => ?_)
      refine lv_iconst (v := iI (0)) hx hb dX5_plotOf_39 rfl ?_
      exact xm_i hx hb hr hlk hS dX5_plotOf_40 (by exact (mR_k (2) (by ((try unfold mDraft at *); (try unfold mTaken at *); unfold plotOfME; (repeat' split) <;> first | rfl | omega)) (by decide)).symm) (by exact cast (congrArg (fun z => RM D cy A ad (st mu 900 0 z) H) (Eq.symm (by ((try unfold mDraft at *); (try unfold mTaken at *); unfold plotOfME; (repeat' split) <;> first | rfl | omega)))) hR)
  · skip
    refine lv_iconst (v := iI (1)) hx hb dX5_plotOf_9 rfl ?_
    refine lv_goto (tgt := 29) hx hb dX5_plotOf_10 (by decide) ?_
    refine xp_900 (v := 1) hx hb hw5 hown hK hR hS (md_5 hG) (hts _ kw_748) dX5_plotOf_29 (fun H locs hR hS => ?_)
    refine lv_aload_n hx hb dX5_plotOf_32 rfl (lv_at hl 0 rfl) ?_
    refine xg_900 (v := 1) hx hb hw5 hown hK hR ((dmM_st (by decide) _ _).mpr (md_5 hG)) (hts _ kw_748) (st_s) dX5_plotOf_33 ?_
    refine xr_if_le (tgt := 41) hx hb dX5_plotOf_36 (by decide) (by decide) (fun h25 => absurd h25 (by decide)) (fun _ => ?_)
    refine lv_iconst (v := iI (0)) hx hb dX5_plotOf_39 rfl ?_
    exact xm_i hx hb hr hlk hS dX5_plotOf_40 (by exact (mR_k (1) (by ((try unfold mDraft at *); (try unfold mTaken at *); unfold plotOfME; (repeat' split) <;> first | rfl | omega)) (by decide)).symm) (by exact cast (congrArg (fun z => RM D cy A ad (st mu 900 0 z) H) (Eq.symm (by ((try unfold mDraft at *); (try unfold mTaken at *); unfold plotOfME; (repeat' split) <;> first | rfl | omega)))) hR)
theorem ms_X5_own : MVi RX5 yX5_own cX5_own 7 (some .int) 3 := ⟨kw_904, kw_902, kw_903, kw_4, rfl, by decide, by decide, by decide +kernel⟩
set_option maxRecDepth 100000 in
set_option maxHeartbeats 4000000 in
theorem c_X5_own {l : Launch} {D : va_G} {cy : Nat → ClassId} {A : Nat → Prop} {ad : Nat → Int → Nat} {mu : Nat → Int → Int} {H : Heap} (hR : RM D cy A ad mu H) (hG : GM mu)  (x : Int) (u : Int) (sh : Int) (h_x : in32 x) (h_u : in32 u) (h_sh : in32 sh) : Met l yX5_own (Cond.code yX5_own cX5_own 7 (some .int) :: wG) (rmF 3 69 0 0) (Pc D cy H [.ref (ad 5 (0)), .int (iI (x)), .int (iI (u)), .int (iI (sh))]) (Qm (some (.int (iI (mR (tellE mu x u (mOwnBit mu x sh)) (mu 913 0))))) (fun H' => RM D cy A ad (mT mu (tellE mu x u (mOwnBit mu x sh)) (mTellT mu 0 x u sh)) H') A) 0 0 A := by
  refine met_of (la := [(0, .ref (ad 5 (0))), (1, .int (iI (x))), (2, .int (iI (u))), (3, .int (iI (sh)))]) (by decide) (Nat.le_of_ble_eq_true rfl) rfl ?_
  intro p e R s m args below meth c ls hRm hx hb hml hr hlk hin hown hts hsH hK hl
  subst hRm
  have hown : s.vm.findClass "TakinghallModel" = some m.cls := hown
  have hw5 : ∀ w ∈ u_ws RX5 TX5 35, w.before args s = true := fun w h => hts w (uw_X5 w h)
  have hS : va_S A s.heap H [] := by rw [hsH]; exact va_S.rf
  have g913 := mr_913 hG 0
  refine lv_aload_n hx hb dX5_own_0 rfl (lv_at hl 0 rfl) ?_
  refine lv_iload_n hx hb dX5_own_1 rfl (lv_at hl 3 rfl) ?_
  refine lv_iconst (v := iI (1)) hx hb dX5_own_2 rfl ?_
  refine lv_bipush (v := iI (100)) hx hb dX5_own_3 (by decide) ?_
  refine xk_pF (xr_V (As := [.int (iI (sh)), .int (iI (1)), .int (iI (100))]) (rest := []) hx hb hml hown hts hK (c_X5_between hR hG sh 1 100 (by omega) (by omega) (by omega)) ms_X5_between kw_869 (wr_recv hK hR (md_5 hG) rfl rfl) ⟨by decide, by decide⟩ ⟨by decide, by decide⟩ rfl rfl hl.1 rfl (lv_room (by decide)) dX5_own_5) ?_
  refine lv_istore (i := 4) (lv' := [(4, .int (iI (bI (1 ≤ sh ∧ sh ≤ 100)))), (0, .ref (ad 5 (0))), (1, .int (iI (x))), (2, .int (iI (u))), (3, .int (iI (sh)))]) hx hb dX5_own_8 hl (by decide) rfl (fun ls hl => ?_)
  refine lv_iload hx hb dX5_own_10 (lv_at hl 0 rfl) ?_
  refine xr_ifb_eq (tgt := 19) hx hb dX5_own_12 (by decide) (fun h1 => ?_) (fun h1 => ?_)
  · skip
    refine lv_iconst (v := iI (0)) hx hb dX5_own_19 rfl ?_
    refine lv_istore (i := 5) (lv' := [(5, .int (iI (0))), (4, .int (iI (bI (1 ≤ sh ∧ sh ≤ 100)))), (0, .ref (ad 5 (0))), (1, .int (iI (x))), (2, .int (iI (u))), (3, .int (iI (sh)))]) hx hb dX5_own_20 hl (by decide) rfl (fun ls hl => ?_)
    refine lv_iconst (v := iI (0)) hx hb dX5_own_22 rfl ?_
    refine lv_istore (i := 6) (lv' := [(6, .int (iI (0))), (5, .int (iI (0))), (4, .int (iI (bI (1 ≤ sh ∧ sh ≤ 100)))), (0, .ref (ad 5 (0))), (1, .int (iI (x))), (2, .int (iI (u))), (3, .int (iI (sh)))]) hx hb dX5_own_23 hl (by decide) rfl (fun ls hl => ?_)
    have loop25 : ∀ (n : Nat) (i : Int) (acc : Int), 0 ≤ i → i ≤ mu 913 0 → acc = (if 1 ≤ sh ∧ sh ≤ 100 then sh else 0) + sumN (fun q => if mu 1014 q = 0 ∧ mu 1015 q = x then mu 1018 q else 0) (i.toNat) → (mu 913 0 - i).toNat < n → ∀ ls : Array Slot, lv_has ls 7 [(0, .ref (ad 5 (0))), (1, .int (iI (x))), (2, .int (iI (u))), (3, .int (iI (sh))), (4, .int (iI (bI (1 ≤ sh ∧ sh ≤ 100)))), (5, .int (iI (acc))), (6, .int (iI (i)))] → W p l e (rmF 3 69 0 0) s m args below meth c H [] 0 0 (MQ below (Qm (some (.int (iI (mR (tellE mu x u (mOwnBit mu x sh)) (mu 913 0))))) (fun H' => RM D cy A ad (mT mu (tellE mu x u (mOwnBit mu x sh)) (mTellT mu 0 x u sh)) H') A) args s 0 0 A) (F0 m 25 ls []) := by
      intro n
      induction n with
      | zero =>
        intro i acc hi0 hi1 hacc hn ls hl
        exact absurd hn (Nat.not_lt_zero _)
      | succ n ih =>
        intro i acc hi0 hi1 hacc hn ls hl
        have hrg := sum_b (f := fun q => if mu 1014 q = 0 ∧ mu 1015 q = x then mu 1018 q else 0) (M := 100000) (fun q => by have := mr_1018 hG q; split <;> omega) i.toNat
        refine lv_iload hx hb dX5_own_25 (lv_at hl 6 rfl) ?_
        refine lv_aload_n hx hb dX5_own_27 rfl (lv_at hl 0 rfl) ?_
        refine xg_913 (v := mu 913 0) hx hb hw5 hown hK hR (md_5 hG) (hts _ kw_761) rfl dX5_own_28 ?_
        have g2 := mr_913 hG (0)
        refine xr_icmp_ge (tgt := 77) hx hb dX5_own_31 (by decide) (by omega) (by omega) (fun h3 => ?_) (fun h3 => ?_)
        · skip
          have ei : i = mu 913 0 := (by omega)
          rw [ei] at hacc hrg
          have hsh : mShares mu x = sumN (fun q => if mu 1014 q = 0 ∧ mu 1015 q = x then mu 1018 q else 0) (mu 913 0).toNat := rfl
          rw [← hsh] at hacc hrg
          refine lv_aload_n hx hb dX5_own_77 rfl (lv_at hl 0 rfl) ?_
          refine lv_iconst (v := iI (0)) hx hb dX5_own_78 rfl ?_
          refine lv_iload_n hx hb dX5_own_79 rfl (lv_at hl 1 rfl) ?_
          refine lv_iload_n hx hb dX5_own_80 rfl (lv_at hl 2 rfl) ?_
          refine lv_iload_n hx hb dX5_own_81 rfl (lv_at hl 3 rfl) ?_
          refine lv_iload hx hb dX5_own_82 (lv_at hl 4 rfl) ?_
          refine xr_ifb_eq (tgt := 98) hx hb dX5_own_84 (by decide) (fun h4 => ?_) (fun h4 => ?_)
          · skip
            refine lv_iconst (v := iI (0)) hx hb dX5_own_98 rfl ?_
            refine xk_mF (xr_V (As := [.int (iI (0)), .int (iI (x)), .int (iI (u)), .int (iI (sh)), .int (iI (0))]) (rest := []) hx hb hml hown hts hK (c_X5_tell hR hG 0 x u sh 0 (by omega) (by omega) (by omega) (by omega)) ms_X5_tell kw_905 (wr_recv hK hR (md_5 hG) rfl rfl) ⟨by decide, by decide⟩ ⟨by decide, by decide⟩ rfl rfl hl.1 rfl (lv_room (by decide)) dX5_own_99) hS (fun H locs hR hS hz hq => ?_)
            show W p l e (rmF 3 69 0 0) s m args below meth c H locs (0 + 0) (0 + 0) _ (F0 m (99 + 3) ls (.int (iI (mR (tellE mu x u 0) (mu 913 0))) :: []))
            have G5 : GM (mT mu (tellE mu x u 0) (mTellT mu 0 x u sh)) := gm_tellT hG (by decide) (by intro hz; first | omega | (have h9 := Classical.byContradiction (fun nn => hz (bI_f nn)); omega))
            exact xm_i hx hb hr hlk hS dX5_own_102 (by rw [show mOwnBit mu x sh = 0 from bI_f (by first | omega | (split at hacc <;> omega))]) (by rw [show mOwnBit mu x sh = 0 from bI_f (by first | omega | (split at hacc <;> omega))]; exact hR)
          · skip
            refine lv_iload hx hb dX5_own_87 (lv_at hl 5 rfl) ?_
            refine lv_bipush (v := iI (100)) hx hb dX5_own_89 (by decide) ?_
            refine xr_icmp_gt (tgt := 98) hx hb dX5_own_91 (by decide) (by omega) (by omega) (fun h6 => ?_) (fun h6 => ?_)
            · skip
              refine lv_iconst (v := iI (0)) hx hb dX5_own_98 rfl ?_
              refine xk_mF (xr_V (As := [.int (iI (0)), .int (iI (x)), .int (iI (u)), .int (iI (sh)), .int (iI (0))]) (rest := []) hx hb hml hown hts hK (c_X5_tell hR hG 0 x u sh 0 (by omega) (by omega) (by omega) (by omega)) ms_X5_tell kw_905 (wr_recv hK hR (md_5 hG) rfl rfl) ⟨by decide, by decide⟩ ⟨by decide, by decide⟩ rfl rfl hl.1 rfl (lv_room (by decide)) dX5_own_99) hS (fun H locs hR hS hz hq => ?_)
              show W p l e (rmF 3 69 0 0) s m args below meth c H locs (0 + 0) (0 + 0) _ (F0 m (99 + 3) ls (.int (iI (mR (tellE mu x u 0) (mu 913 0))) :: []))
              have G7 : GM (mT mu (tellE mu x u 0) (mTellT mu 0 x u sh)) := gm_tellT hG (by decide) (by intro hz; first | omega | (have h9 := Classical.byContradiction (fun nn => hz (bI_f nn)); omega))
              exact xm_i hx hb hr hlk hS dX5_own_102 (by rw [show mOwnBit mu x sh = 0 from bI_f (by first | omega | (split at hacc <;> omega))]) (by rw [show mOwnBit mu x sh = 0 from bI_f (by first | omega | (split at hacc <;> omega))]; exact hR)
            · skip
              refine lv_iconst (v := iI (1)) hx hb dX5_own_94 rfl ?_
              refine lv_goto (tgt := 99) hx hb dX5_own_95 (by decide) ?_
              refine xk_mF (xr_V (As := [.int (iI (0)), .int (iI (x)), .int (iI (u)), .int (iI (sh)), .int (iI (1))]) (rest := []) hx hb hml hown hts hK (c_X5_tell hR hG 0 x u sh 1 (by omega) (by omega) (by omega) (by omega)) ms_X5_tell kw_905 (wr_recv hK hR (md_5 hG) rfl rfl) ⟨by decide, by decide⟩ ⟨by decide, by decide⟩ rfl rfl hl.1 rfl (lv_room (by decide)) dX5_own_99) hS (fun H locs hR hS hz hq => ?_)
              show W p l e (rmF 3 69 0 0) s m args below meth c H locs (0 + 0) (0 + 0) _ (F0 m (99 + 3) ls (.int (iI (mR (tellE mu x u 1) (mu 913 0))) :: []))
              have G8 : GM (mT mu (tellE mu x u 1) (mTellT mu 0 x u sh)) := gm_tellT hG (by decide) (by intro hz; first | omega | (have h9 := Classical.byContradiction (fun nn => hz (bI_f nn)); omega))
              exact xm_i hx hb hr hlk hS dX5_own_102 (by rw [show mOwnBit mu x sh = 1 from bI_t (by first | omega | (split at hacc <;> omega))]) (by rw [show mOwnBit mu x sh = 1 from bI_t (by first | omega | (split at hacc <;> omega))]; exact hR)
        · skip
          refine lv_iload hx hb dX5_own_34 (lv_at hl 5 rfl) ?_
          refine lv_aload_n hx hb dX5_own_36 rfl (lv_at hl 0 rfl) ?_
          refine xg_914 (v := mu 914 0) hx hb hw5 hown hK hR (md_5 hG) (hts _ kw_762) rfl dX5_own_37 ?_
          have q9 : mu 914 0 = 0 := mh_914 hG
          rw [q9, rv_p (Int.le_refl 0)]
          refine lv_iload hx hb dX5_own_40 (lv_at hl 6 rfl) ?_
          refine xa_1014 (v := mu 1014 i) hx hb hK hR (md_34 hG) (by omega) rfl dX5_own_42 ?_
          have g10 := mr_1014 hG (i)
          refine xr_if_ne (tgt := 67) hx hb dX5_own_43 (by decide) (by omega) (fun h11 => ?_) (fun h11 => ?_)
          · skip
            refine lv_iconst (v := iI (0)) hx hb dX5_own_67 rfl ?_
            refine xr_iadd hx hb dX5_own_68 ?_
            refine lv_istore (i := 5) (lv' := [(5, .int (iI (acc + 0))), (0, .ref (ad 5 (0))), (1, .int (iI (x))), (2, .int (iI (u))), (3, .int (iI (sh))), (4, .int (iI (bI (1 ≤ sh ∧ sh ≤ 100)))), (6, .int (iI (i)))]) hx hb dX5_own_69 hl (by decide) rfl (fun ls hl => ?_)
            refine lv_iinc (v := iI (i + (1))) (lv' := [(6, .int (iI (i + (1)))), (5, .int (iI (acc + 0))), (0, .ref (ad 5 (0))), (1, .int (iI (x))), (2, .int (iI (u))), (3, .int (iI (sh))), (4, .int (iI (bI (1 ≤ sh ∧ sh ≤ 100))))]) hx hb dX5_own_71 hl (k := 6) rfl (iI_add _ _) (by decide) rfl (fun ls hl => ?_)
            refine lv_goto (tgt := 25) hx hb dX5_own_74 (by decide) ?_
            exact ih (i + 1) (acc + 0) (by omega) (by omega) (by rw [sumN_s hi0]; first | (rw [if_pos (show mu 1014 i = 0 ∧ mu 1015 i = x by omega)]; omega) | (rw [if_neg (show ¬ (mu 1014 i = 0 ∧ mu 1015 i = x) by omega)]; omega)) (by omega) ls (lv_sub hl [2, 3, 4, 5, 6, 1, 0] rfl)
          · skip
            refine lv_aload_n hx hb dX5_own_46 rfl (lv_at hl 0 rfl) ?_
            refine xg_915 (v := mu 915 0) hx hb hw5 hown hK hR (md_5 hG) (hts _ kw_763) rfl dX5_own_47 ?_
            have q12 : mu 915 0 = 0 := mh_915 hG
            rw [q12, rv_p (Int.le_refl 0)]
            refine lv_iload hx hb dX5_own_50 (lv_at hl 6 rfl) ?_
            refine xa_1015 (v := mu 1015 i) hx hb hK hR (md_35 hG) (by omega) rfl dX5_own_52 ?_
            have g13 := mr_1015 hG (i)
            refine lv_iload_n hx hb dX5_own_53 rfl (lv_at hl 1 rfl) ?_
            refine xr_icmp_ne (tgt := 67) hx hb dX5_own_54 (by decide) (by omega) (by omega) (fun h14 => ?_) (fun h14 => ?_)
            · skip
              refine lv_iconst (v := iI (0)) hx hb dX5_own_67 rfl ?_
              refine xr_iadd hx hb dX5_own_68 ?_
              refine lv_istore (i := 5) (lv' := [(5, .int (iI (acc + 0))), (0, .ref (ad 5 (0))), (1, .int (iI (x))), (2, .int (iI (u))), (3, .int (iI (sh))), (4, .int (iI (bI (1 ≤ sh ∧ sh ≤ 100)))), (6, .int (iI (i)))]) hx hb dX5_own_69 hl (by decide) rfl (fun ls hl => ?_)
              refine lv_iinc (v := iI (i + (1))) (lv' := [(6, .int (iI (i + (1)))), (5, .int (iI (acc + 0))), (0, .ref (ad 5 (0))), (1, .int (iI (x))), (2, .int (iI (u))), (3, .int (iI (sh))), (4, .int (iI (bI (1 ≤ sh ∧ sh ≤ 100))))]) hx hb dX5_own_71 hl (k := 6) rfl (iI_add _ _) (by decide) rfl (fun ls hl => ?_)
              refine lv_goto (tgt := 25) hx hb dX5_own_74 (by decide) ?_
              exact ih (i + 1) (acc + 0) (by omega) (by omega) (by rw [sumN_s hi0]; first | (rw [if_pos (show mu 1014 i = 0 ∧ mu 1015 i = x by omega)]; omega) | (rw [if_neg (show ¬ (mu 1014 i = 0 ∧ mu 1015 i = x) by omega)]; omega)) (by omega) ls (lv_sub hl [2, 3, 4, 5, 6, 1, 0] rfl)
            · skip
              refine lv_aload_n hx hb dX5_own_57 rfl (lv_at hl 0 rfl) ?_
              refine xg_918 (v := mu 918 0) hx hb hw5 hown hK hR (md_5 hG) (hts _ kw_766) rfl dX5_own_58 ?_
              have q15 : mu 918 0 = 0 := mh_918 hG
              rw [q15, rv_p (Int.le_refl 0)]
              refine lv_iload hx hb dX5_own_61 (lv_at hl 6 rfl) ?_
              refine xa_1018 (v := mu 1018 i) hx hb hK hR (md_38 hG) (by omega) rfl dX5_own_63 ?_
              have g16 := mr_1018 hG (i)
              refine lv_goto (tgt := 68) hx hb dX5_own_64 (by decide) ?_
              refine xr_iadd hx hb dX5_own_68 ?_
              refine lv_istore (i := 5) (lv' := [(5, .int (iI (acc + (mu 1018 i)))), (0, .ref (ad 5 (0))), (1, .int (iI (x))), (2, .int (iI (u))), (3, .int (iI (sh))), (4, .int (iI (bI (1 ≤ sh ∧ sh ≤ 100)))), (6, .int (iI (i)))]) hx hb dX5_own_69 hl (by decide) rfl (fun ls hl => ?_)
              refine lv_iinc (v := iI (i + (1))) (lv' := [(6, .int (iI (i + (1)))), (5, .int (iI (acc + (mu 1018 i)))), (0, .ref (ad 5 (0))), (1, .int (iI (x))), (2, .int (iI (u))), (3, .int (iI (sh))), (4, .int (iI (bI (1 ≤ sh ∧ sh ≤ 100))))]) hx hb dX5_own_71 hl (k := 6) rfl (iI_add _ _) (by decide) rfl (fun ls hl => ?_)
              refine lv_goto (tgt := 25) hx hb dX5_own_74 (by decide) ?_
              exact ih (i + 1) (acc + (mu 1018 i)) (by omega) (by omega) (by rw [sumN_s hi0]; first | (rw [if_pos (show mu 1014 i = 0 ∧ mu 1015 i = x by omega)]; omega) | (rw [if_neg (show ¬ (mu 1014 i = 0 ∧ mu 1015 i = x) by omega)]; omega)) (by omega) ls (lv_sub hl [2, 3, 4, 5, 6, 1, 0] rfl)
    exact loop25 _ 0 0 (by decide) (by omega) (by show _ = _ + (0 : Int); split <;> omega) (Nat.lt_succ_self _) ls (lv_sub hl [3, 4, 5, 6, 2, 1, 0] rfl)
  · skip
    refine lv_iload_n hx hb dX5_own_15 rfl (lv_at hl 4 rfl) ?_
    refine lv_goto (tgt := 20) hx hb dX5_own_16 (by decide) ?_
    refine lv_istore (i := 5) (lv' := [(5, .int (iI (sh))), (4, .int (iI (bI (1 ≤ sh ∧ sh ≤ 100)))), (0, .ref (ad 5 (0))), (1, .int (iI (x))), (2, .int (iI (u))), (3, .int (iI (sh)))]) hx hb dX5_own_20 hl (by decide) rfl (fun ls hl => ?_)
    refine lv_iconst (v := iI (0)) hx hb dX5_own_22 rfl ?_
    refine lv_istore (i := 6) (lv' := [(6, .int (iI (0))), (5, .int (iI (sh))), (4, .int (iI (bI (1 ≤ sh ∧ sh ≤ 100)))), (0, .ref (ad 5 (0))), (1, .int (iI (x))), (2, .int (iI (u))), (3, .int (iI (sh)))]) hx hb dX5_own_23 hl (by decide) rfl (fun ls hl => ?_)
    have loop25 : ∀ (n : Nat) (i : Int) (acc : Int), 0 ≤ i → i ≤ mu 913 0 → acc = (if 1 ≤ sh ∧ sh ≤ 100 then sh else 0) + sumN (fun q => if mu 1014 q = 0 ∧ mu 1015 q = x then mu 1018 q else 0) (i.toNat) → (mu 913 0 - i).toNat < n → ∀ ls : Array Slot, lv_has ls 7 [(0, .ref (ad 5 (0))), (1, .int (iI (x))), (2, .int (iI (u))), (3, .int (iI (sh))), (4, .int (iI (bI (1 ≤ sh ∧ sh ≤ 100)))), (5, .int (iI (acc))), (6, .int (iI (i)))] → W p l e (rmF 3 69 0 0) s m args below meth c H [] 0 0 (MQ below (Qm (some (.int (iI (mR (tellE mu x u (mOwnBit mu x sh)) (mu 913 0))))) (fun H' => RM D cy A ad (mT mu (tellE mu x u (mOwnBit mu x sh)) (mTellT mu 0 x u sh)) H') A) args s 0 0 A) (F0 m 25 ls []) := by
      intro n
      induction n with
      | zero =>
        intro i acc hi0 hi1 hacc hn ls hl
        exact absurd hn (Nat.not_lt_zero _)
      | succ n ih =>
        intro i acc hi0 hi1 hacc hn ls hl
        have hrg := sum_b (f := fun q => if mu 1014 q = 0 ∧ mu 1015 q = x then mu 1018 q else 0) (M := 100000) (fun q => by have := mr_1018 hG q; split <;> omega) i.toNat
        refine lv_iload hx hb dX5_own_25 (lv_at hl 6 rfl) ?_
        refine lv_aload_n hx hb dX5_own_27 rfl (lv_at hl 0 rfl) ?_
        refine xg_913 (v := mu 913 0) hx hb hw5 hown hK hR (md_5 hG) (hts _ kw_761) rfl dX5_own_28 ?_
        have g17 := mr_913 hG (0)
        refine xr_icmp_ge (tgt := 77) hx hb dX5_own_31 (by decide) (by omega) (by omega) (fun h18 => ?_) (fun h18 => ?_)
        · skip
          have ei : i = mu 913 0 := (by omega)
          rw [ei] at hacc hrg
          have hsh : mShares mu x = sumN (fun q => if mu 1014 q = 0 ∧ mu 1015 q = x then mu 1018 q else 0) (mu 913 0).toNat := rfl
          rw [← hsh] at hacc hrg
          refine lv_aload_n hx hb dX5_own_77 rfl (lv_at hl 0 rfl) ?_
          refine lv_iconst (v := iI (0)) hx hb dX5_own_78 rfl ?_
          refine lv_iload_n hx hb dX5_own_79 rfl (lv_at hl 1 rfl) ?_
          refine lv_iload_n hx hb dX5_own_80 rfl (lv_at hl 2 rfl) ?_
          refine lv_iload_n hx hb dX5_own_81 rfl (lv_at hl 3 rfl) ?_
          refine lv_iload hx hb dX5_own_82 (lv_at hl 4 rfl) ?_
          refine xr_ifb_eq (tgt := 98) hx hb dX5_own_84 (by decide) (fun h19 => ?_) (fun h19 => ?_)
          · skip
            refine lv_iconst (v := iI (0)) hx hb dX5_own_98 rfl ?_
            refine xk_mF (xr_V (As := [.int (iI (0)), .int (iI (x)), .int (iI (u)), .int (iI (sh)), .int (iI (0))]) (rest := []) hx hb hml hown hts hK (c_X5_tell hR hG 0 x u sh 0 (by omega) (by omega) (by omega) (by omega)) ms_X5_tell kw_905 (wr_recv hK hR (md_5 hG) rfl rfl) ⟨by decide, by decide⟩ ⟨by decide, by decide⟩ rfl rfl hl.1 rfl (lv_room (by decide)) dX5_own_99) hS (fun H locs hR hS hz hq => ?_)
            show W p l e (rmF 3 69 0 0) s m args below meth c H locs (0 + 0) (0 + 0) _ (F0 m (99 + 3) ls (.int (iI (mR (tellE mu x u 0) (mu 913 0))) :: []))
            have G20 : GM (mT mu (tellE mu x u 0) (mTellT mu 0 x u sh)) := gm_tellT hG (by decide) (by intro hz; first | omega | (have h9 := Classical.byContradiction (fun nn => hz (bI_f nn)); omega))
            exact xm_i hx hb hr hlk hS dX5_own_102 (by rw [show mOwnBit mu x sh = 0 from bI_f (by first | omega | (split at hacc <;> omega))]) (by rw [show mOwnBit mu x sh = 0 from bI_f (by first | omega | (split at hacc <;> omega))]; exact hR)
          · skip
            refine lv_iload hx hb dX5_own_87 (lv_at hl 5 rfl) ?_
            refine lv_bipush (v := iI (100)) hx hb dX5_own_89 (by decide) ?_
            refine xr_icmp_gt (tgt := 98) hx hb dX5_own_91 (by decide) (by omega) (by omega) (fun h21 => ?_) (fun h21 => ?_)
            · skip
              refine lv_iconst (v := iI (0)) hx hb dX5_own_98 rfl ?_
              refine xk_mF (xr_V (As := [.int (iI (0)), .int (iI (x)), .int (iI (u)), .int (iI (sh)), .int (iI (0))]) (rest := []) hx hb hml hown hts hK (c_X5_tell hR hG 0 x u sh 0 (by omega) (by omega) (by omega) (by omega)) ms_X5_tell kw_905 (wr_recv hK hR (md_5 hG) rfl rfl) ⟨by decide, by decide⟩ ⟨by decide, by decide⟩ rfl rfl hl.1 rfl (lv_room (by decide)) dX5_own_99) hS (fun H locs hR hS hz hq => ?_)
              show W p l e (rmF 3 69 0 0) s m args below meth c H locs (0 + 0) (0 + 0) _ (F0 m (99 + 3) ls (.int (iI (mR (tellE mu x u 0) (mu 913 0))) :: []))
              have G22 : GM (mT mu (tellE mu x u 0) (mTellT mu 0 x u sh)) := gm_tellT hG (by decide) (by intro hz; first | omega | (have h9 := Classical.byContradiction (fun nn => hz (bI_f nn)); omega))
              exact xm_i hx hb hr hlk hS dX5_own_102 (by rw [show mOwnBit mu x sh = 0 from bI_f (by first | omega | (split at hacc <;> omega))]) (by rw [show mOwnBit mu x sh = 0 from bI_f (by first | omega | (split at hacc <;> omega))]; exact hR)
            · skip
              refine lv_iconst (v := iI (1)) hx hb dX5_own_94 rfl ?_
              refine lv_goto (tgt := 99) hx hb dX5_own_95 (by decide) ?_
              refine xk_mF (xr_V (As := [.int (iI (0)), .int (iI (x)), .int (iI (u)), .int (iI (sh)), .int (iI (1))]) (rest := []) hx hb hml hown hts hK (c_X5_tell hR hG 0 x u sh 1 (by omega) (by omega) (by omega) (by omega)) ms_X5_tell kw_905 (wr_recv hK hR (md_5 hG) rfl rfl) ⟨by decide, by decide⟩ ⟨by decide, by decide⟩ rfl rfl hl.1 rfl (lv_room (by decide)) dX5_own_99) hS (fun H locs hR hS hz hq => ?_)
              show W p l e (rmF 3 69 0 0) s m args below meth c H locs (0 + 0) (0 + 0) _ (F0 m (99 + 3) ls (.int (iI (mR (tellE mu x u 1) (mu 913 0))) :: []))
              have G23 : GM (mT mu (tellE mu x u 1) (mTellT mu 0 x u sh)) := gm_tellT hG (by decide) (by intro hz; first | omega | (have h9 := Classical.byContradiction (fun nn => hz (bI_f nn)); omega))
              exact xm_i hx hb hr hlk hS dX5_own_102 (by rw [show mOwnBit mu x sh = 1 from bI_t (by first | omega | (split at hacc <;> omega))]) (by rw [show mOwnBit mu x sh = 1 from bI_t (by first | omega | (split at hacc <;> omega))]; exact hR)
        · skip
          refine lv_iload hx hb dX5_own_34 (lv_at hl 5 rfl) ?_
          refine lv_aload_n hx hb dX5_own_36 rfl (lv_at hl 0 rfl) ?_
          refine xg_914 (v := mu 914 0) hx hb hw5 hown hK hR (md_5 hG) (hts _ kw_762) rfl dX5_own_37 ?_
          have q24 : mu 914 0 = 0 := mh_914 hG
          rw [q24, rv_p (Int.le_refl 0)]
          refine lv_iload hx hb dX5_own_40 (lv_at hl 6 rfl) ?_
          refine xa_1014 (v := mu 1014 i) hx hb hK hR (md_34 hG) (by omega) rfl dX5_own_42 ?_
          have g25 := mr_1014 hG (i)
          refine xr_if_ne (tgt := 67) hx hb dX5_own_43 (by decide) (by omega) (fun h26 => ?_) (fun h26 => ?_)
          · skip
            refine lv_iconst (v := iI (0)) hx hb dX5_own_67 rfl ?_
            refine xr_iadd hx hb dX5_own_68 ?_
            refine lv_istore (i := 5) (lv' := [(5, .int (iI (acc + 0))), (0, .ref (ad 5 (0))), (1, .int (iI (x))), (2, .int (iI (u))), (3, .int (iI (sh))), (4, .int (iI (bI (1 ≤ sh ∧ sh ≤ 100)))), (6, .int (iI (i)))]) hx hb dX5_own_69 hl (by decide) rfl (fun ls hl => ?_)
            refine lv_iinc (v := iI (i + (1))) (lv' := [(6, .int (iI (i + (1)))), (5, .int (iI (acc + 0))), (0, .ref (ad 5 (0))), (1, .int (iI (x))), (2, .int (iI (u))), (3, .int (iI (sh))), (4, .int (iI (bI (1 ≤ sh ∧ sh ≤ 100))))]) hx hb dX5_own_71 hl (k := 6) rfl (iI_add _ _) (by decide) rfl (fun ls hl => ?_)
            refine lv_goto (tgt := 25) hx hb dX5_own_74 (by decide) ?_
            exact ih (i + 1) (acc + 0) (by omega) (by omega) (by rw [sumN_s hi0]; first | (rw [if_pos (show mu 1014 i = 0 ∧ mu 1015 i = x by omega)]; omega) | (rw [if_neg (show ¬ (mu 1014 i = 0 ∧ mu 1015 i = x) by omega)]; omega)) (by omega) ls (lv_sub hl [2, 3, 4, 5, 6, 1, 0] rfl)
          · skip
            refine lv_aload_n hx hb dX5_own_46 rfl (lv_at hl 0 rfl) ?_
            refine xg_915 (v := mu 915 0) hx hb hw5 hown hK hR (md_5 hG) (hts _ kw_763) rfl dX5_own_47 ?_
            have q27 : mu 915 0 = 0 := mh_915 hG
            rw [q27, rv_p (Int.le_refl 0)]
            refine lv_iload hx hb dX5_own_50 (lv_at hl 6 rfl) ?_
            refine xa_1015 (v := mu 1015 i) hx hb hK hR (md_35 hG) (by omega) rfl dX5_own_52 ?_
            have g28 := mr_1015 hG (i)
            refine lv_iload_n hx hb dX5_own_53 rfl (lv_at hl 1 rfl) ?_
            refine xr_icmp_ne (tgt := 67) hx hb dX5_own_54 (by decide) (by omega) (by omega) (fun h29 => ?_) (fun h29 => ?_)
            · skip
              refine lv_iconst (v := iI (0)) hx hb dX5_own_67 rfl ?_
              refine xr_iadd hx hb dX5_own_68 ?_
              refine lv_istore (i := 5) (lv' := [(5, .int (iI (acc + 0))), (0, .ref (ad 5 (0))), (1, .int (iI (x))), (2, .int (iI (u))), (3, .int (iI (sh))), (4, .int (iI (bI (1 ≤ sh ∧ sh ≤ 100)))), (6, .int (iI (i)))]) hx hb dX5_own_69 hl (by decide) rfl (fun ls hl => ?_)
              refine lv_iinc (v := iI (i + (1))) (lv' := [(6, .int (iI (i + (1)))), (5, .int (iI (acc + 0))), (0, .ref (ad 5 (0))), (1, .int (iI (x))), (2, .int (iI (u))), (3, .int (iI (sh))), (4, .int (iI (bI (1 ≤ sh ∧ sh ≤ 100))))]) hx hb dX5_own_71 hl (k := 6) rfl (iI_add _ _) (by decide) rfl (fun ls hl => ?_)
              refine lv_goto (tgt := 25) hx hb dX5_own_74 (by decide) ?_
              exact ih (i + 1) (acc + 0) (by omega) (by omega) (by rw [sumN_s hi0]; first | (rw [if_pos (show mu 1014 i = 0 ∧ mu 1015 i = x by omega)]; omega) | (rw [if_neg (show ¬ (mu 1014 i = 0 ∧ mu 1015 i = x) by omega)]; omega)) (by omega) ls (lv_sub hl [2, 3, 4, 5, 6, 1, 0] rfl)
            · skip
              refine lv_aload_n hx hb dX5_own_57 rfl (lv_at hl 0 rfl) ?_
              refine xg_918 (v := mu 918 0) hx hb hw5 hown hK hR (md_5 hG) (hts _ kw_766) rfl dX5_own_58 ?_
              have q30 : mu 918 0 = 0 := mh_918 hG
              rw [q30, rv_p (Int.le_refl 0)]
              refine lv_iload hx hb dX5_own_61 (lv_at hl 6 rfl) ?_
              refine xa_1018 (v := mu 1018 i) hx hb hK hR (md_38 hG) (by omega) rfl dX5_own_63 ?_
              have g31 := mr_1018 hG (i)
              refine lv_goto (tgt := 68) hx hb dX5_own_64 (by decide) ?_
              refine xr_iadd hx hb dX5_own_68 ?_
              refine lv_istore (i := 5) (lv' := [(5, .int (iI (acc + (mu 1018 i)))), (0, .ref (ad 5 (0))), (1, .int (iI (x))), (2, .int (iI (u))), (3, .int (iI (sh))), (4, .int (iI (bI (1 ≤ sh ∧ sh ≤ 100)))), (6, .int (iI (i)))]) hx hb dX5_own_69 hl (by decide) rfl (fun ls hl => ?_)
              refine lv_iinc (v := iI (i + (1))) (lv' := [(6, .int (iI (i + (1)))), (5, .int (iI (acc + (mu 1018 i)))), (0, .ref (ad 5 (0))), (1, .int (iI (x))), (2, .int (iI (u))), (3, .int (iI (sh))), (4, .int (iI (bI (1 ≤ sh ∧ sh ≤ 100))))]) hx hb dX5_own_71 hl (k := 6) rfl (iI_add _ _) (by decide) rfl (fun ls hl => ?_)
              refine lv_goto (tgt := 25) hx hb dX5_own_74 (by decide) ?_
              exact ih (i + 1) (acc + (mu 1018 i)) (by omega) (by omega) (by rw [sumN_s hi0]; first | (rw [if_pos (show mu 1014 i = 0 ∧ mu 1015 i = x by omega)]; omega) | (rw [if_neg (show ¬ (mu 1014 i = 0 ∧ mu 1015 i = x) by omega)]; omega)) (by omega) ls (lv_sub hl [2, 3, 4, 5, 6, 1, 0] rfl)
    exact loop25 _ 0 sh (by decide) (by omega) (by show _ = _ + (0 : Int); split <;> omega) (Nat.lt_succ_self _) ls (lv_sub hl [3, 4, 5, 6, 2, 1, 0] rfl)
theorem ms_X5_lease : MVi RX5 yX5_lease cX5_lease 6 (some .int) 4 := ⟨kw_912, kw_910, kw_911, kw_4, rfl, by decide, by decide, by decide +kernel⟩
set_option maxRecDepth 100000 in
set_option maxHeartbeats 4000000 in
theorem c_X5_lease {l : Launch} {D : va_G} {cy : Nat → ClassId} {A : Nat → Prop} {ad : Nat → Int → Nat} {mu : Nat → Int → Int} {H : Heap} (hR : RM D cy A ad mu H) (hG : GM mu)  (x : Int) (u : Int) (til : Int) (pr : Int) (h_x : in32 x) (h_u : in32 u) (h_til : in32 til) (h_pr : in32 pr) : Met l yX5_lease (Cond.code yX5_lease cX5_lease 6 (some .int) :: wG) (rmF 3 69 0 0) (Pc D cy H [.ref (ad 5 (0)), .int (iI (x)), .int (iI (u)), .int (iI (til)), .int (iI (pr))]) (Qm (some (.int (iI (mR (tellE mu x u (bI (mu 901 0 < til ∧ til ≤ 30000 ∧ 0 ≤ pr ∧ pr ≤ 100))) (mu 913 0))))) (fun H' => RM D cy A ad (mT mu (tellE mu x u (bI (mu 901 0 < til ∧ til ≤ 30000 ∧ 0 ≤ pr ∧ pr ≤ 100))) (st (mTellT mu 1 x u til) 1034 (mu 913 0) pr)) H') A) 0 0 A := by
  refine met_of (la := [(0, .ref (ad 5 (0))), (1, .int (iI (x))), (2, .int (iI (u))), (3, .int (iI (til))), (4, .int (iI (pr)))]) (by decide) (Nat.le_of_ble_eq_true rfl) rfl ?_
  intro p e R s m args below meth c ls hRm hx hb hml hr hlk hin hown hts hsH hK hl
  subst hRm
  have hown : s.vm.findClass "TakinghallModel" = some m.cls := hown
  have hw5 : ∀ w ∈ u_ws RX5 TX5 35, w.before args s = true := fun w h => hts w (uw_X5 w h)
  have hS : va_S A s.heap H [] := by rw [hsH]; exact va_S.rf
  have g913 := mr_913 hG 0
  have g901 := mr_901 hG 0
  refine lv_aload_n hx hb dX5_lease_0 rfl (lv_at hl 0 rfl) ?_
  refine lv_iconst (v := iI (1)) hx hb dX5_lease_1 rfl ?_
  refine lv_iload_n hx hb dX5_lease_2 rfl (lv_at hl 1 rfl) ?_
  refine lv_iload_n hx hb dX5_lease_3 rfl (lv_at hl 2 rfl) ?_
  refine lv_iload_n hx hb dX5_lease_4 rfl (lv_at hl 3 rfl) ?_
  refine lv_iload_n hx hb dX5_lease_5 rfl (lv_at hl 3 rfl) ?_
  refine lv_aload_n hx hb dX5_lease_6 rfl (lv_at hl 0 rfl) ?_
  refine xg_901 (v := mu 901 0) hx hb hw5 hown hK hR (md_5 hG) (hts _ kw_749) rfl dX5_lease_7 ?_
  have g1 := mr_901 hG (0)
  refine xr_icmp_le (tgt := 36) hx hb dX5_lease_10 (by decide) (by omega) (by omega) (fun h2 => ?_) (fun h2 => ?_)
  · skip
    refine lv_iconst (v := iI (0)) hx hb dX5_lease_36 rfl ?_
    refine xk_mF (xr_V (As := [.int (iI (1)), .int (iI (x)), .int (iI (u)), .int (iI (til)), .int (iI (0))]) (rest := []) hx hb hml hown hts hK (c_X5_tell hR hG 1 x u til 0 (by omega) (by omega) (by omega) (by omega)) ms_X5_tell kw_905 (wr_recv hK hR (md_5 hG) rfl rfl) ⟨by decide, by decide⟩ ⟨by decide, by decide⟩ rfl rfl hl.1 rfl (lv_room (by decide)) dX5_lease_37) hS (fun H locs hR hS hz hq => ?_)
    show W p l e (rmF 3 69 0 0) s m args below meth c H locs (0 + 0) (0 + 0) _ (F0 m (37 + 3) ls (.int (iI (mR (tellE mu x u 0) (mu 913 0))) :: []))
    have G3 : GM (mT mu (tellE mu x u 0) (mTellT mu 1 x u til)) := gm_tellT hG (by decide) (by intro hz; first | omega | (have h9 := Classical.byContradiction (fun nn => hz (bI_f nn)); omega))
    refine lv_istore (i := 5) (lv' := [(5, .int (iI (mR (tellE mu x u 0) (mu 913 0)))), (0, .ref (ad 5 (0))), (1, .int (iI (x))), (2, .int (iI (u))), (3, .int (iI (til))), (4, .int (iI (pr)))]) hx hb dX5_lease_40 hl (by decide) rfl (fun ls hl => ?_)
    refine lv_aload_n hx hb dX5_lease_42 rfl (lv_at hl 1 rfl) ?_
    refine xg_900 (v := tellE mu x u 0) hx hb hw5 hown hK hR (md_5 G3) (hts _ kw_748) (mT_900 rfl) dX5_lease_43 ?_
    have htr := tellE_rng mu x u 0
    refine xr_if_ne (tgt := 58) hx hb dX5_lease_46 (by decide) (by omega) (fun h4 => ?_) (fun h4 => ?_)
    · skip
      refine lv_iload hx hb dX5_lease_58 (lv_at hl 0 rfl) ?_
      exact xm_i hx hb hr hlk hS dX5_lease_60 (by rw [bI_f (by omega)]) (by rw [bI_f (by omega)]; unfold mT at hR ⊢; rw [if_neg (by assumption)] at hR ⊢; exact hR)
    · skip
      have ht0 := tellE_0 (by assumption)
      have hr0 := mR_0 (r := mu 913 0) (show tellE mu x u 0 = 0 by assumption)
      refine lv_aload_n hx hb dX5_lease_49 rfl (lv_at hl 1 rfl) ?_
      refine xg_934 (v := (mT mu (tellE mu x u 0) (mTellT mu 1 x u til)) 934 0) hx hb hw5 hown hK hR (md_5 G3) (hts _ kw_782) rfl dX5_lease_50 ?_
      have q5 : (mT mu (tellE mu x u 0) (mTellT mu 1 x u til)) 934 0 = 0 := mh_934 G3
      rw [q5, rv_p (Int.le_refl 0)]
      refine lv_iload hx hb dX5_lease_53 (lv_at hl 0 rfl) ?_
      refine lv_iload hx hb dX5_lease_55 (lv_at hl 5 rfl) ?_
      refine xs_1034 (v := pr) hx hb hK hR hS (md_54 G3) (by omega) dX5_lease_57 (fun H locs hR hS => ?_)
      refine lv_iload hx hb dX5_lease_58 (lv_at hl 0 rfl) ?_
      exact xm_i hx hb hr hlk hS dX5_lease_60 (by rw [bI_f (by omega)]) (by rw [bI_f (by omega)]; rw [mT_0 (by assumption), hr0] at hR; rw [mT_0 (by assumption)]; exact hR)
  · skip
    refine lv_iload_n hx hb dX5_lease_13 rfl (lv_at hl 3 rfl) ?_
    refine lv_sipush (v := iI (30000)) hx hb dX5_lease_14 (by decide) ?_
    refine xr_icmp_gt (tgt := 36) hx hb dX5_lease_17 (by decide) (by omega) (by omega) (fun h6 => ?_) (fun h6 => ?_)
    · skip
      refine lv_iconst (v := iI (0)) hx hb dX5_lease_36 rfl ?_
      refine xk_mF (xr_V (As := [.int (iI (1)), .int (iI (x)), .int (iI (u)), .int (iI (til)), .int (iI (0))]) (rest := []) hx hb hml hown hts hK (c_X5_tell hR hG 1 x u til 0 (by omega) (by omega) (by omega) (by omega)) ms_X5_tell kw_905 (wr_recv hK hR (md_5 hG) rfl rfl) ⟨by decide, by decide⟩ ⟨by decide, by decide⟩ rfl rfl hl.1 rfl (lv_room (by decide)) dX5_lease_37) hS (fun H locs hR hS hz hq => ?_)
      show W p l e (rmF 3 69 0 0) s m args below meth c H locs (0 + 0) (0 + 0) _ (F0 m (37 + 3) ls (.int (iI (mR (tellE mu x u 0) (mu 913 0))) :: []))
      have G7 : GM (mT mu (tellE mu x u 0) (mTellT mu 1 x u til)) := gm_tellT hG (by decide) (by intro hz; first | omega | (have h9 := Classical.byContradiction (fun nn => hz (bI_f nn)); omega))
      refine lv_istore (i := 5) (lv' := [(5, .int (iI (mR (tellE mu x u 0) (mu 913 0)))), (0, .ref (ad 5 (0))), (1, .int (iI (x))), (2, .int (iI (u))), (3, .int (iI (til))), (4, .int (iI (pr)))]) hx hb dX5_lease_40 hl (by decide) rfl (fun ls hl => ?_)
      refine lv_aload_n hx hb dX5_lease_42 rfl (lv_at hl 1 rfl) ?_
      refine xg_900 (v := tellE mu x u 0) hx hb hw5 hown hK hR (md_5 G7) (hts _ kw_748) (mT_900 rfl) dX5_lease_43 ?_
      have htr := tellE_rng mu x u 0
      refine xr_if_ne (tgt := 58) hx hb dX5_lease_46 (by decide) (by omega) (fun h8 => ?_) (fun h8 => ?_)
      · skip
        refine lv_iload hx hb dX5_lease_58 (lv_at hl 0 rfl) ?_
        exact xm_i hx hb hr hlk hS dX5_lease_60 (by rw [bI_f (by omega)]) (by rw [bI_f (by omega)]; unfold mT at hR ⊢; rw [if_neg (by assumption)] at hR ⊢; exact hR)
      · skip
        have ht0 := tellE_0 (by assumption)
        have hr0 := mR_0 (r := mu 913 0) (show tellE mu x u 0 = 0 by assumption)
        refine lv_aload_n hx hb dX5_lease_49 rfl (lv_at hl 1 rfl) ?_
        refine xg_934 (v := (mT mu (tellE mu x u 0) (mTellT mu 1 x u til)) 934 0) hx hb hw5 hown hK hR (md_5 G7) (hts _ kw_782) rfl dX5_lease_50 ?_
        have q9 : (mT mu (tellE mu x u 0) (mTellT mu 1 x u til)) 934 0 = 0 := mh_934 G7
        rw [q9, rv_p (Int.le_refl 0)]
        refine lv_iload hx hb dX5_lease_53 (lv_at hl 0 rfl) ?_
        refine lv_iload hx hb dX5_lease_55 (lv_at hl 5 rfl) ?_
        refine xs_1034 (v := pr) hx hb hK hR hS (md_54 G7) (by omega) dX5_lease_57 (fun H locs hR hS => ?_)
        refine lv_iload hx hb dX5_lease_58 (lv_at hl 0 rfl) ?_
        exact xm_i hx hb hr hlk hS dX5_lease_60 (by rw [bI_f (by omega)]) (by rw [bI_f (by omega)]; rw [mT_0 (by assumption), hr0] at hR; rw [mT_0 (by assumption)]; exact hR)
    · skip
      refine lv_aload_n hx hb dX5_lease_20 rfl (lv_at hl 0 rfl) ?_
      refine lv_iload hx hb dX5_lease_21 (lv_at hl 4 rfl) ?_
      refine lv_iconst (v := iI (0)) hx hb dX5_lease_23 rfl ?_
      refine lv_bipush (v := iI (100)) hx hb dX5_lease_24 (by decide) ?_
      refine xk_pF (xr_V (As := [.int (iI (pr)), .int (iI (0)), .int (iI (100))]) (rest := [.int (iI (til)), .int (iI (u)), .int (iI (x)), .int (iI (1)), .ref (ad 5 (0))]) hx hb hml hown hts hK (c_X5_between hR hG pr 0 100 (by omega) (by omega) (by omega)) ms_X5_between kw_869 (wr_recv hK hR (md_5 hG) rfl rfl) ⟨by decide, by decide⟩ ⟨by decide, by decide⟩ rfl rfl hl.1 rfl (lv_room (Nat.le_of_ble_eq_true rfl)) dX5_lease_26) ?_
      refine xr_ifb_eq (tgt := 36) hx hb dX5_lease_29 (by decide) (fun h10 => ?_) (fun h10 => ?_)
      · skip
        refine lv_iconst (v := iI (0)) hx hb dX5_lease_36 rfl ?_
        refine xk_mF (xr_V (As := [.int (iI (1)), .int (iI (x)), .int (iI (u)), .int (iI (til)), .int (iI (0))]) (rest := []) hx hb hml hown hts hK (c_X5_tell hR hG 1 x u til 0 (by omega) (by omega) (by omega) (by omega)) ms_X5_tell kw_905 (wr_recv hK hR (md_5 hG) rfl rfl) ⟨by decide, by decide⟩ ⟨by decide, by decide⟩ rfl rfl hl.1 rfl (lv_room (by decide)) dX5_lease_37) hS (fun H locs hR hS hz hq => ?_)
        show W p l e (rmF 3 69 0 0) s m args below meth c H locs (0 + 0) (0 + 0) _ (F0 m (37 + 3) ls (.int (iI (mR (tellE mu x u 0) (mu 913 0))) :: []))
        have G11 : GM (mT mu (tellE mu x u 0) (mTellT mu 1 x u til)) := gm_tellT hG (by decide) (by intro hz; first | omega | (have h9 := Classical.byContradiction (fun nn => hz (bI_f nn)); omega))
        refine lv_istore (i := 5) (lv' := [(5, .int (iI (mR (tellE mu x u 0) (mu 913 0)))), (0, .ref (ad 5 (0))), (1, .int (iI (x))), (2, .int (iI (u))), (3, .int (iI (til))), (4, .int (iI (pr)))]) hx hb dX5_lease_40 hl (by decide) rfl (fun ls hl => ?_)
        refine lv_aload_n hx hb dX5_lease_42 rfl (lv_at hl 1 rfl) ?_
        refine xg_900 (v := tellE mu x u 0) hx hb hw5 hown hK hR (md_5 G11) (hts _ kw_748) (mT_900 rfl) dX5_lease_43 ?_
        have htr := tellE_rng mu x u 0
        refine xr_if_ne (tgt := 58) hx hb dX5_lease_46 (by decide) (by omega) (fun h12 => ?_) (fun h12 => ?_)
        · skip
          refine lv_iload hx hb dX5_lease_58 (lv_at hl 0 rfl) ?_
          exact xm_i hx hb hr hlk hS dX5_lease_60 (by rw [bI_f (by omega)]) (by rw [bI_f (by omega)]; unfold mT at hR ⊢; rw [if_neg (by assumption)] at hR ⊢; exact hR)
        · skip
          have ht0 := tellE_0 (by assumption)
          have hr0 := mR_0 (r := mu 913 0) (show tellE mu x u 0 = 0 by assumption)
          refine lv_aload_n hx hb dX5_lease_49 rfl (lv_at hl 1 rfl) ?_
          refine xg_934 (v := (mT mu (tellE mu x u 0) (mTellT mu 1 x u til)) 934 0) hx hb hw5 hown hK hR (md_5 G11) (hts _ kw_782) rfl dX5_lease_50 ?_
          have q13 : (mT mu (tellE mu x u 0) (mTellT mu 1 x u til)) 934 0 = 0 := mh_934 G11
          rw [q13, rv_p (Int.le_refl 0)]
          refine lv_iload hx hb dX5_lease_53 (lv_at hl 0 rfl) ?_
          refine lv_iload hx hb dX5_lease_55 (lv_at hl 5 rfl) ?_
          refine xs_1034 (v := pr) hx hb hK hR hS (md_54 G11) (by omega) dX5_lease_57 (fun H locs hR hS => ?_)
          refine lv_iload hx hb dX5_lease_58 (lv_at hl 0 rfl) ?_
          exact xm_i hx hb hr hlk hS dX5_lease_60 (by rw [bI_f (by omega)]) (by rw [bI_f (by omega)]; rw [mT_0 (by assumption), hr0] at hR; rw [mT_0 (by assumption)]; exact hR)
      · skip
        refine lv_iconst (v := iI (1)) hx hb dX5_lease_32 rfl ?_
        refine lv_goto (tgt := 37) hx hb dX5_lease_33 (by decide) ?_
        refine xk_mF (xr_V (As := [.int (iI (1)), .int (iI (x)), .int (iI (u)), .int (iI (til)), .int (iI (1))]) (rest := []) hx hb hml hown hts hK (c_X5_tell hR hG 1 x u til 1 (by omega) (by omega) (by omega) (by omega)) ms_X5_tell kw_905 (wr_recv hK hR (md_5 hG) rfl rfl) ⟨by decide, by decide⟩ ⟨by decide, by decide⟩ rfl rfl hl.1 rfl (lv_room (by decide)) dX5_lease_37) hS (fun H locs hR hS hz hq => ?_)
        show W p l e (rmF 3 69 0 0) s m args below meth c H locs (0 + 0) (0 + 0) _ (F0 m (37 + 3) ls (.int (iI (mR (tellE mu x u 1) (mu 913 0))) :: []))
        have G14 : GM (mT mu (tellE mu x u 1) (mTellT mu 1 x u til)) := gm_tellT hG (by decide) (by intro hz; first | omega | (have h9 := Classical.byContradiction (fun nn => hz (bI_f nn)); omega))
        refine lv_istore (i := 5) (lv' := [(5, .int (iI (mR (tellE mu x u 1) (mu 913 0)))), (0, .ref (ad 5 (0))), (1, .int (iI (x))), (2, .int (iI (u))), (3, .int (iI (til))), (4, .int (iI (pr)))]) hx hb dX5_lease_40 hl (by decide) rfl (fun ls hl => ?_)
        refine lv_aload_n hx hb dX5_lease_42 rfl (lv_at hl 1 rfl) ?_
        refine xg_900 (v := tellE mu x u 1) hx hb hw5 hown hK hR (md_5 G14) (hts _ kw_748) (mT_900 rfl) dX5_lease_43 ?_
        have htr := tellE_rng mu x u 1
        refine xr_if_ne (tgt := 58) hx hb dX5_lease_46 (by decide) (by omega) (fun h15 => ?_) (fun h15 => ?_)
        · skip
          refine lv_iload hx hb dX5_lease_58 (lv_at hl 0 rfl) ?_
          exact xm_i hx hb hr hlk hS dX5_lease_60 (by rw [bI_t (by omega)]) (by rw [bI_t (by omega)]; unfold mT at hR ⊢; rw [if_neg (by assumption)] at hR ⊢; exact hR)
        · skip
          have ht0 := tellE_0 (by assumption)
          have hr0 := mR_0 (r := mu 913 0) (show tellE mu x u 1 = 0 by assumption)
          refine lv_aload_n hx hb dX5_lease_49 rfl (lv_at hl 1 rfl) ?_
          refine xg_934 (v := (mT mu (tellE mu x u 1) (mTellT mu 1 x u til)) 934 0) hx hb hw5 hown hK hR (md_5 G14) (hts _ kw_782) rfl dX5_lease_50 ?_
          have q16 : (mT mu (tellE mu x u 1) (mTellT mu 1 x u til)) 934 0 = 0 := mh_934 G14
          rw [q16, rv_p (Int.le_refl 0)]
          refine lv_iload hx hb dX5_lease_53 (lv_at hl 0 rfl) ?_
          refine lv_iload hx hb dX5_lease_55 (lv_at hl 5 rfl) ?_
          refine xs_1034 (v := pr) hx hb hK hR hS (md_54 G14) (by omega) dX5_lease_57 (fun H locs hR hS => ?_)
          refine lv_iload hx hb dX5_lease_58 (lv_at hl 0 rfl) ?_
          exact xm_i hx hb hr hlk hS dX5_lease_60 (by rw [bI_t (by omega)]) (by rw [bI_t (by omega)]; rw [mT_0 (by assumption), hr0] at hR; rw [mT_0 (by assumption)]; exact hR)
theorem ms_X5_charge : MVi RX5 yX5_charge cX5_charge 4 (some .int) 3 := ⟨kw_916, kw_914, kw_915, kw_4, rfl, by decide, by decide, by decide +kernel⟩
set_option maxRecDepth 100000 in
set_option maxHeartbeats 4000000 in
theorem c_X5_charge {l : Launch} {D : va_G} {cy : Nat → ClassId} {A : Nat → Prop} {ad : Nat → Int → Nat} {mu : Nat → Int → Int} {H : Heap} (hR : RM D cy A ad mu H) (hG : GM mu)  (x : Int) (u : Int) (ms : Int) (h_x : in32 x) (h_u : in32 u) (h_ms : in32 ms) : Met l yX5_charge (Cond.code yX5_charge cX5_charge 4 (some .int) :: wG) (rmF 3 69 0 0) (Pc D cy H [.ref (ad 5 (0)), .int (iI (x)), .int (iI (u)), .int (iI (ms))]) (Qm (some (.int (iI (mR (tellE mu x u (bI (1 ≤ ms ∧ ms ≤ 100000))) (mu 913 0))))) (fun H' => RM D cy A ad (mT mu (tellE mu x u (bI (1 ≤ ms ∧ ms ≤ 100000))) (mTellT mu 2 x u ms)) H') A) 0 0 A := by
  refine met_of (la := [(0, .ref (ad 5 (0))), (1, .int (iI (x))), (2, .int (iI (u))), (3, .int (iI (ms)))]) (by decide) (Nat.le_of_ble_eq_true rfl) rfl ?_
  intro p e R s m args below meth c ls hRm hx hb hml hr hlk hin hown hts hsH hK hl
  subst hRm
  have hown : s.vm.findClass "TakinghallModel" = some m.cls := hown
  have hS : va_S A s.heap H [] := by rw [hsH]; exact va_S.rf
  refine lv_aload_n hx hb dX5_charge_0 rfl (lv_at hl 0 rfl) ?_
  refine lv_iconst (v := iI (2)) hx hb dX5_charge_1 rfl ?_
  refine lv_iload_n hx hb dX5_charge_2 rfl (lv_at hl 1 rfl) ?_
  refine lv_iload_n hx hb dX5_charge_3 rfl (lv_at hl 2 rfl) ?_
  refine lv_iload_n hx hb dX5_charge_4 rfl (lv_at hl 3 rfl) ?_
  refine lv_aload_n hx hb dX5_charge_5 rfl (lv_at hl 0 rfl) ?_
  refine lv_iload_n hx hb dX5_charge_6 rfl (lv_at hl 3 rfl) ?_
  refine lv_iconst (v := iI (1)) hx hb dX5_charge_7 rfl ?_
  refine lv_ldc (v := iI (100000)) hx hb hown (hts _ kw_917) dX5_charge_8 ?_
  refine xk_pF (xr_V (As := [.int (iI (ms)), .int (iI (1)), .int (iI (100000))]) (rest := [.int (iI (ms)), .int (iI (u)), .int (iI (x)), .int (iI (2)), .ref (ad 5 (0))]) hx hb hml hown hts hK (c_X5_between hR hG ms 1 100000 (by omega) (by omega) (by omega)) ms_X5_between kw_869 (wr_recv hK hR (md_5 hG) rfl rfl) ⟨by decide, by decide⟩ ⟨by decide, by decide⟩ rfl rfl hl.1 rfl (lv_room (Nat.le_of_ble_eq_true rfl)) dX5_charge_10) ?_
  refine xk_mF (xr_V (As := [.int (iI (2)), .int (iI (x)), .int (iI (u)), .int (iI (ms)), .int (iI (bI (1 ≤ ms ∧ ms ≤ 100000)))]) (rest := []) hx hb hml hown hts hK (c_X5_tell hR hG 2 x u ms (bI (1 ≤ ms ∧ ms ≤ 100000)) (by omega) (by omega) (by decide) (bI_in _)) ms_X5_tell kw_905 (wr_recv hK hR (md_5 hG) rfl rfl) ⟨by decide, by decide⟩ ⟨by decide, by decide⟩ rfl rfl hl.1 rfl (lv_room (by decide)) dX5_charge_13) hS (fun H locs hR hS hz hq => ?_)
  show W p l e (rmF 3 69 0 0) s m args below meth c H locs (0 + 0) (0 + 0) _ (F0 m (13 + 3) ls (.int (iI (mR (tellE mu x u (bI (1 ≤ ms ∧ ms ≤ 100000))) (mu 913 0))) :: []))
  have G1 : GM (mT mu (tellE mu x u (bI (1 ≤ ms ∧ ms ≤ 100000))) (mTellT mu 2 x u ms)) := gm_tellT hG (by decide) (by intro hz; first | omega | (have h9 := Classical.byContradiction (fun nn => hz (bI_f nn)); omega))
  exact xm_i hx hb hr hlk hS dX5_charge_16 (by rfl) (by exact hR)
theorem ms_X5_interestOf : MVi RX5 yX5_interestOf cX5_interestOf 3 (some .long) 2 := ⟨kw_921, kw_919, kw_920, kw_4, rfl, by decide, by decide, by decide +kernel⟩
set_option maxRecDepth 100000 in
set_option maxHeartbeats 4000000 in
theorem c_X5_interestOf {l : Launch} {D : va_G} {cy : Nat → ClassId} {A : Nat → Prop} {ad : Nat → Int → Nat} {mu : Nat → Int → Int} {H : Heap} (hR : RM D cy A ad mu H) (hG : GM mu)  (x : Int) (w : Int) (h_x : in32 x) (h_w : in32 w) : Met l yX5_interestOf (Cond.code yX5_interestOf cX5_interestOf 3 (some .long) :: wG) (rmF 2 44 0 0) (Pc D cy H [.ref (ad 5 (0)), .int (iI (x)), .int (iI (w))]) (Qm (some (.long (lI (mR (interME mu x w) (mInterR mu x w))))) (fun H' => RM D cy A ad (st mu 900 0 (interME mu x w)) H') A) 0 0 A := by
  refine met_of (la := [(0, .ref (ad 5 (0))), (1, .int (iI (x))), (2, .int (iI (w)))]) (by decide) (Nat.le_of_ble_eq_true rfl) rfl ?_
  intro p e R s m args below meth c ls hRm hx hb hml hr hlk hin hown hts hsH hK hl
  subst hRm
  have hown : s.vm.findClass "TakinghallModel" = some m.cls := hown
  have hw5 : ∀ w ∈ u_ws RX5 TX5 35, w.before args s = true := fun w h => hts w (uw_X5 w h)
  have hS : va_S A s.heap H [] := by rw [hsH]; exact va_S.rf
  have g913 := mr_913 hG 0
  refine lv_aload_n hx hb dX5_interestOf_0 rfl (lv_at hl 0 rfl) ?_
  refine lv_aload_n hx hb dX5_interestOf_1 rfl (lv_at hl 0 rfl) ?_
  refine lv_iload_n hx hb dX5_interestOf_2 rfl (lv_at hl 1 rfl) ?_
  refine xk_pF (xr_V (As := [.int (iI (x))]) (rest := [.ref (ad 5 (0))]) hx hb hml hown hts hK (c_X5_isInterest hR hG x (by omega)) ms_X5_isInterest kw_922 (wr_recv hK hR (md_5 hG) rfl rfl) ⟨by decide, by decide⟩ ⟨by decide, by decide⟩ rfl rfl hl.1 rfl (lv_room (Nat.le_of_ble_eq_true rfl)) dX5_interestOf_3) ?_
  refine xr_ifb_ne (tgt := 13) hx hb dX5_interestOf_6 (by decide) (fun h1 => ?_) (fun h1 => ?_)
  · skip
    refine lv_aload_n hx hb dX5_interestOf_13 rfl (lv_at hl 0 rfl) ?_
    refine lv_iload_n hx hb dX5_interestOf_14 rfl (lv_at hl 2 rfl) ?_
    refine lv_iconst (v := iI (0)) hx hb dX5_interestOf_15 rfl ?_
    refine lv_bipush (v := iI (8)) hx hb dX5_interestOf_16 (by decide) ?_
    refine xk_pF (xr_V (As := [.int (iI (w)), .int (iI (0)), .int (iI (8))]) (rest := [.ref (ad 5 (0))]) hx hb hml hown hts hK (c_X5_between hR hG w 0 8 (by omega) (by omega) (by omega)) ms_X5_between kw_869 (wr_recv hK hR (md_5 hG) rfl rfl) ⟨by decide, by decide⟩ ⟨by decide, by decide⟩ rfl rfl hl.1 rfl (lv_room (Nat.le_of_ble_eq_true rfl)) dX5_interestOf_18) ?_
    refine xr_ifb_ne (tgt := 28) hx hb dX5_interestOf_21 (by decide) (fun h2 => ?_) (fun h2 => ?_)
    · skip
      refine lv_iconst (v := iI (0)) hx hb dX5_interestOf_28 rfl ?_
      refine xp_900 (v := 0) hx hb hw5 hown hK hR hS (md_5 hG) (hts _ kw_748) dX5_interestOf_29 (fun H locs hR hS => ?_)
      refine lv_aload_n hx hb dX5_interestOf_32 rfl (lv_at hl 0 rfl) ?_
      refine xg_900 (v := 0) hx hb hw5 hown hK hR ((dmM_st (by decide) _ _).mpr (md_5 hG)) (hts _ kw_748) (st_s) dX5_interestOf_33 ?_
      refine xr_if_le (tgt := 41) hx hb dX5_interestOf_36 (by decide) (by decide) (fun _ => ?_) (fun h3 => absurd h3 (by decide))
      refine lv_iload_n hx hb dX5_interestOf_41 rfl (lv_at hl 2 rfl) ?_
      rcases (show (w < 0 ∨ 7 < w) ∨ w = 0 ∨ w = 1 ∨ w = 2 ∨ w = 3 ∨ w = 4 ∨ w = 5 ∨ w = 6 ∨ w = 7 by omega) with h4 | h4 | h4 | h4 | h4 | h4 | h4 | h4 | h4
      · skip
        refine lv_tableOut (tgt := 159) hx hb dX5_interestOf_42 (by rw [iI_toInt (by omega)]; exact h4) (by decide) ?_
        refine lv_aload_n hx hb dX5_interestOf_159 rfl (lv_at hl 0 rfl) ?_
        refine xg_922 (v := mu 922 0) hx hb hw5 hown hK hR ((dmM_st (by decide) _ _).mpr (md_5 hG)) (hts _ kw_770) ((st_f (by decide)).trans rfl) dX5_interestOf_160 ?_
        have q5 : mu 922 0 = 0 := mh_922 hG
        rw [q5, rv_p (Int.le_refl 0)]
        refine lv_iload_n hx hb dX5_interestOf_163 rfl (lv_at hl 1 rfl) ?_
        refine xa_1022 (v := mu 1022 x) hx hb hK hR ((dmM_st (by decide) _ _).mpr (md_42 hG)) (by omega) ((st_f (by decide)).trans rfl) dX5_interestOf_164 ?_
        exact xm_l hx hb hr hlk hS dX5_interestOf_165 (by refine Eq.trans ?_ (mR_0 (by ((try unfold mDraft at *); (try unfold mTaken at *); unfold interME; (repeat' split) <;> first | rfl | omega))).symm; unfold mInterR; (repeat' split) <;> omega) (by exact cast (congrArg (fun z => RM D cy A ad (st mu 900 0 z) H) (Eq.symm (by ((try unfold mDraft at *); (try unfold mTaken at *); unfold interME; (repeat' split) <;> first | rfl | omega)))) hR)
      · skip
        rw [h4]
        refine lv_tableIn (tgt := 88) (off := 46) hx hb dX5_interestOf_42 (by decide) (by decide) (by decide) (by decide) ?_
        refine lv_aload_n hx hb dX5_interestOf_88 rfl (lv_at hl 0 rfl) ?_
        refine xg_914 (v := mu 914 0) hx hb hw5 hown hK hR ((dmM_st (by decide) _ _).mpr (md_5 hG)) (hts _ kw_762) ((st_f (by decide)).trans rfl) dX5_interestOf_89 ?_
        have q6 : mu 914 0 = 0 := mh_914 hG
        rw [q6, rv_p (Int.le_refl 0)]
        refine lv_iload_n hx hb dX5_interestOf_92 rfl (lv_at hl 1 rfl) ?_
        refine xa_1014 (v := mu 1014 x) hx hb hK hR ((dmM_st (by decide) _ _).mpr (md_34 hG)) (by omega) ((st_f (by decide)).trans rfl) dX5_interestOf_93 ?_
        have g7 := mr_1014 hG (x)
        refine xr_i2l hx hb dX5_interestOf_94 (by omega) ?_
        exact xm_l hx hb hr hlk hS dX5_interestOf_95 (by refine Eq.trans ?_ (mR_0 (by ((try unfold mDraft at *); (try unfold mTaken at *); unfold interME; (repeat' split) <;> first | rfl | omega))).symm; unfold mInterR; (repeat' split) <;> omega) (by exact cast (congrArg (fun z => RM D cy A ad (st mu 900 0 z) H) (Eq.symm (by ((try unfold mDraft at *); (try unfold mTaken at *); unfold interME; (repeat' split) <;> first | rfl | omega)))) hR)
      · skip
        rw [h4]
        refine lv_tableIn (tgt := 96) (off := 54) hx hb dX5_interestOf_42 (by decide) (by decide) (by decide) (by decide) ?_
        refine lv_aload_n hx hb dX5_interestOf_96 rfl (lv_at hl 0 rfl) ?_
        refine xg_915 (v := mu 915 0) hx hb hw5 hown hK hR ((dmM_st (by decide) _ _).mpr (md_5 hG)) (hts _ kw_763) ((st_f (by decide)).trans rfl) dX5_interestOf_97 ?_
        have q8 : mu 915 0 = 0 := mh_915 hG
        rw [q8, rv_p (Int.le_refl 0)]
        refine lv_iload_n hx hb dX5_interestOf_100 rfl (lv_at hl 1 rfl) ?_
        refine xa_1015 (v := mu 1015 x) hx hb hK hR ((dmM_st (by decide) _ _).mpr (md_35 hG)) (by omega) ((st_f (by decide)).trans rfl) dX5_interestOf_101 ?_
        have g9 := mr_1015 hG (x)
        refine xr_i2l hx hb dX5_interestOf_102 (by omega) ?_
        exact xm_l hx hb hr hlk hS dX5_interestOf_103 (by refine Eq.trans ?_ (mR_0 (by ((try unfold mDraft at *); (try unfold mTaken at *); unfold interME; (repeat' split) <;> first | rfl | omega))).symm; unfold mInterR; (repeat' split) <;> omega) (by exact cast (congrArg (fun z => RM D cy A ad (st mu 900 0 z) H) (Eq.symm (by ((try unfold mDraft at *); (try unfold mTaken at *); unfold interME; (repeat' split) <;> first | rfl | omega)))) hR)
      · skip
        rw [h4]
        refine lv_tableIn (tgt := 104) (off := 62) hx hb dX5_interestOf_42 (by decide) (by decide) (by decide) (by decide) ?_
        refine lv_aload_n hx hb dX5_interestOf_104 rfl (lv_at hl 0 rfl) ?_
        refine xg_916 (v := mu 916 0) hx hb hw5 hown hK hR ((dmM_st (by decide) _ _).mpr (md_5 hG)) (hts _ kw_764) ((st_f (by decide)).trans rfl) dX5_interestOf_105 ?_
        have q10 : mu 916 0 = 0 := mh_916 hG
        rw [q10, rv_p (Int.le_refl 0)]
        refine lv_iload_n hx hb dX5_interestOf_108 rfl (lv_at hl 1 rfl) ?_
        refine xa_1016 (v := mu 1016 x) hx hb hK hR ((dmM_st (by decide) _ _).mpr (md_36 hG)) (by omega) ((st_f (by decide)).trans rfl) dX5_interestOf_109 ?_
        have g11 := mr_1016 hG (x)
        refine xr_i2l hx hb dX5_interestOf_110 (by omega) ?_
        exact xm_l hx hb hr hlk hS dX5_interestOf_111 (by refine Eq.trans ?_ (mR_0 (by ((try unfold mDraft at *); (try unfold mTaken at *); unfold interME; (repeat' split) <;> first | rfl | omega))).symm; unfold mInterR; (repeat' split) <;> omega) (by exact cast (congrArg (fun z => RM D cy A ad (st mu 900 0 z) H) (Eq.symm (by ((try unfold mDraft at *); (try unfold mTaken at *); unfold interME; (repeat' split) <;> first | rfl | omega)))) hR)
      · skip
        rw [h4]
        refine lv_tableIn (tgt := 112) (off := 70) hx hb dX5_interestOf_42 (by decide) (by decide) (by decide) (by decide) ?_
        refine lv_aload_n hx hb dX5_interestOf_112 rfl (lv_at hl 0 rfl) ?_
        refine xg_917 (v := mu 917 0) hx hb hw5 hown hK hR ((dmM_st (by decide) _ _).mpr (md_5 hG)) (hts _ kw_765) ((st_f (by decide)).trans rfl) dX5_interestOf_113 ?_
        have q12 : mu 917 0 = 0 := mh_917 hG
        rw [q12, rv_p (Int.le_refl 0)]
        refine lv_iload_n hx hb dX5_interestOf_116 rfl (lv_at hl 1 rfl) ?_
        refine xa_1017 (v := mu 1017 x) hx hb hK hR ((dmM_st (by decide) _ _).mpr (md_37 hG)) (by omega) ((st_f (by decide)).trans rfl) dX5_interestOf_117 ?_
        have g13 := mr_1017 hG (x)
        refine xr_i2l hx hb dX5_interestOf_118 (by omega) ?_
        exact xm_l hx hb hr hlk hS dX5_interestOf_119 (by refine Eq.trans ?_ (mR_0 (by ((try unfold mDraft at *); (try unfold mTaken at *); unfold interME; (repeat' split) <;> first | rfl | omega))).symm; unfold mInterR; (repeat' split) <;> omega) (by exact cast (congrArg (fun z => RM D cy A ad (st mu 900 0 z) H) (Eq.symm (by ((try unfold mDraft at *); (try unfold mTaken at *); unfold interME; (repeat' split) <;> first | rfl | omega)))) hR)
      · skip
        rw [h4]
        refine lv_tableIn (tgt := 120) (off := 78) hx hb dX5_interestOf_42 (by decide) (by decide) (by decide) (by decide) ?_
        refine lv_aload_n hx hb dX5_interestOf_120 rfl (lv_at hl 0 rfl) ?_
        refine xg_918 (v := mu 918 0) hx hb hw5 hown hK hR ((dmM_st (by decide) _ _).mpr (md_5 hG)) (hts _ kw_766) ((st_f (by decide)).trans rfl) dX5_interestOf_121 ?_
        have q14 : mu 918 0 = 0 := mh_918 hG
        rw [q14, rv_p (Int.le_refl 0)]
        refine lv_iload_n hx hb dX5_interestOf_124 rfl (lv_at hl 1 rfl) ?_
        refine xa_1018 (v := mu 1018 x) hx hb hK hR ((dmM_st (by decide) _ _).mpr (md_38 hG)) (by omega) ((st_f (by decide)).trans rfl) dX5_interestOf_125 ?_
        have g15 := mr_1018 hG (x)
        refine xr_i2l hx hb dX5_interestOf_126 (by omega) ?_
        exact xm_l hx hb hr hlk hS dX5_interestOf_127 (by refine Eq.trans ?_ (mR_0 (by ((try unfold mDraft at *); (try unfold mTaken at *); unfold interME; (repeat' split) <;> first | rfl | omega))).symm; unfold mInterR; (repeat' split) <;> omega) (by exact cast (congrArg (fun z => RM D cy A ad (st mu 900 0 z) H) (Eq.symm (by ((try unfold mDraft at *); (try unfold mTaken at *); unfold interME; (repeat' split) <;> first | rfl | omega)))) hR)
      · skip
        rw [h4]
        refine lv_tableIn (tgt := 128) (off := 86) hx hb dX5_interestOf_42 (by decide) (by decide) (by decide) (by decide) ?_
        refine lv_aload_n hx hb dX5_interestOf_128 rfl (lv_at hl 0 rfl) ?_
        refine xg_919 (v := mu 919 0) hx hb hw5 hown hK hR ((dmM_st (by decide) _ _).mpr (md_5 hG)) (hts _ kw_767) ((st_f (by decide)).trans rfl) dX5_interestOf_129 ?_
        have q16 : mu 919 0 = 0 := mh_919 hG
        rw [q16, rv_p (Int.le_refl 0)]
        refine lv_iload_n hx hb dX5_interestOf_132 rfl (lv_at hl 1 rfl) ?_
        refine xa_1019 (v := mu 1019 x) hx hb hK hR ((dmM_st (by decide) _ _).mpr (md_39 hG)) (by omega) ((st_f (by decide)).trans rfl) dX5_interestOf_133 ?_
        have g17 := mr_1019 hG (x)
        refine xr_i2l hx hb dX5_interestOf_134 (by omega) ?_
        exact xm_l hx hb hr hlk hS dX5_interestOf_135 (by refine Eq.trans ?_ (mR_0 (by ((try unfold mDraft at *); (try unfold mTaken at *); unfold interME; (repeat' split) <;> first | rfl | omega))).symm; unfold mInterR; (repeat' split) <;> omega) (by exact cast (congrArg (fun z => RM D cy A ad (st mu 900 0 z) H) (Eq.symm (by ((try unfold mDraft at *); (try unfold mTaken at *); unfold interME; (repeat' split) <;> first | rfl | omega)))) hR)
      · skip
        rw [h4]
        refine lv_tableIn (tgt := 136) (off := 94) hx hb dX5_interestOf_42 (by decide) (by decide) (by decide) (by decide) ?_
        refine lv_aload_n hx hb dX5_interestOf_136 rfl (lv_at hl 0 rfl) ?_
        refine xg_920 (v := mu 920 0) hx hb hw5 hown hK hR ((dmM_st (by decide) _ _).mpr (md_5 hG)) (hts _ kw_768) ((st_f (by decide)).trans rfl) dX5_interestOf_137 ?_
        have q18 : mu 920 0 = 0 := mh_920 hG
        rw [q18, rv_p (Int.le_refl 0)]
        refine lv_iload_n hx hb dX5_interestOf_140 rfl (lv_at hl 1 rfl) ?_
        refine xa_1020 (v := mu 1020 x) hx hb hK hR ((dmM_st (by decide) _ _).mpr (md_40 hG)) (by omega) ((st_f (by decide)).trans rfl) dX5_interestOf_141 ?_
        have g19 := mr_1020 hG (x)
        refine lv_iconst (v := iI (1)) hx hb dX5_interestOf_142 rfl ?_
        refine xr_icmp_ne (tgt := 150) hx hb dX5_interestOf_143 (by decide) (by omega) (by omega) (fun h20 => ?_) (fun h20 => ?_)
        · skip
          refine lv_lconst (v := lI (0)) hx hb dX5_interestOf_150 (by decide) ?_
          exact xm_l hx hb hr hlk hS dX5_interestOf_151 (by refine Eq.trans ?_ (mR_0 (by ((try unfold mDraft at *); (try unfold mTaken at *); unfold interME; (repeat' split) <;> first | rfl | omega))).symm; unfold mInterR; (repeat' split) <;> omega) (by exact cast (congrArg (fun z => RM D cy A ad (st mu 900 0 z) H) (Eq.symm (by ((try unfold mDraft at *); (try unfold mTaken at *); unfold interME; (repeat' split) <;> first | rfl | omega)))) hR)
        · skip
          refine lv_lconst (v := lI (1)) hx hb dX5_interestOf_146 (by decide) ?_
          refine lv_goto (tgt := 151) hx hb dX5_interestOf_147 (by decide) ?_
          exact xm_l hx hb hr hlk hS dX5_interestOf_151 (by refine Eq.trans ?_ (mR_0 (by ((try unfold mDraft at *); (try unfold mTaken at *); unfold interME; (repeat' split) <;> first | rfl | omega))).symm; unfold mInterR; (repeat' split) <;> omega) (by exact cast (congrArg (fun z => RM D cy A ad (st mu 900 0 z) H) (Eq.symm (by ((try unfold mDraft at *); (try unfold mTaken at *); unfold interME; (repeat' split) <;> first | rfl | omega)))) hR)
      · skip
        rw [h4]
        refine lv_tableIn (tgt := 152) (off := 110) hx hb dX5_interestOf_42 (by decide) (by decide) (by decide) (by decide) ?_
        refine lv_aload_n hx hb dX5_interestOf_152 rfl (lv_at hl 0 rfl) ?_
        refine xg_921 (v := mu 921 0) hx hb hw5 hown hK hR ((dmM_st (by decide) _ _).mpr (md_5 hG)) (hts _ kw_769) ((st_f (by decide)).trans rfl) dX5_interestOf_153 ?_
        have q21 : mu 921 0 = 0 := mh_921 hG
        rw [q21, rv_p (Int.le_refl 0)]
        refine lv_iload_n hx hb dX5_interestOf_156 rfl (lv_at hl 1 rfl) ?_
        refine xa_1021 (v := mu 1021 x) hx hb hK hR ((dmM_st (by decide) _ _).mpr (md_41 hG)) (by omega) ((st_f (by decide)).trans rfl) dX5_interestOf_157 ?_
        have g22 := mr_1021 hG (x)
        exact xm_l hx hb hr hlk hS dX5_interestOf_158 (by refine Eq.trans ?_ (mR_0 (by ((try unfold mDraft at *); (try unfold mTaken at *); unfold interME; (repeat' split) <;> first | rfl | omega))).symm; unfold mInterR; (repeat' split) <;> omega) (by exact cast (congrArg (fun z => RM D cy A ad (st mu 900 0 z) H) (Eq.symm (by ((try unfold mDraft at *); (try unfold mTaken at *); unfold interME; (repeat' split) <;> first | rfl | omega)))) hR)
    · skip
      refine lv_iconst (v := iI (2)) hx hb dX5_interestOf_24 rfl ?_
      refine lv_goto (tgt := 29) hx hb dX5_interestOf_25 (by decide) ?_
      refine xp_900 (v := 2) hx hb hw5 hown hK hR hS (md_5 hG) (hts _ kw_748) dX5_interestOf_29 (fun H locs hR hS => ?_)
      refine lv_aload_n hx hb dX5_interestOf_32 rfl (lv_at hl 0 rfl) ?_
      refine xg_900 (v := 2) hx hb hw5 hown hK hR ((dmM_st (by decide) _ _).mpr (md_5 hG)) (hts _ kw_748) (st_s) dX5_interestOf_33 ?_
      refine xr_if_le (tgt := 41) hx hb dX5_interestOf_36 (by decide) (by decide) (fun h23 => absurd h23 (by decide)) (fun _ => ?_)
      refine lv_lconst (v := lI (0)) hx hb dX5_interestOf_39 (by decide) ?_
      exact xm_l hx hb hr hlk hS dX5_interestOf_40 (by exact (mR_k (2) (by ((try unfold mDraft at *); (try unfold mTaken at *); unfold interME; (repeat' split) <;> first | rfl | omega)) (by decide)).symm) (by exact cast (congrArg (fun z => RM D cy A ad (st mu 900 0 z) H) (Eq.symm (by ((try unfold mDraft at *); (try unfold mTaken at *); unfold interME; (repeat' split) <;> first | rfl | omega)))) hR)
  · skip
    refine lv_iconst (v := iI (1)) hx hb dX5_interestOf_9 rfl ?_
    refine lv_goto (tgt := 29) hx hb dX5_interestOf_10 (by decide) ?_
    refine xp_900 (v := 1) hx hb hw5 hown hK hR hS (md_5 hG) (hts _ kw_748) dX5_interestOf_29 (fun H locs hR hS => ?_)
    refine lv_aload_n hx hb dX5_interestOf_32 rfl (lv_at hl 0 rfl) ?_
    refine xg_900 (v := 1) hx hb hw5 hown hK hR ((dmM_st (by decide) _ _).mpr (md_5 hG)) (hts _ kw_748) (st_s) dX5_interestOf_33 ?_
    refine xr_if_le (tgt := 41) hx hb dX5_interestOf_36 (by decide) (by decide) (fun h24 => absurd h24 (by decide)) (fun _ => ?_)
    refine lv_lconst (v := lI (0)) hx hb dX5_interestOf_39 (by decide) ?_
    exact xm_l hx hb hr hlk hS dX5_interestOf_40 (by exact (mR_k (1) (by ((try unfold mDraft at *); (try unfold mTaken at *); unfold interME; (repeat' split) <;> first | rfl | omega)) (by decide)).symm) (by exact cast (congrArg (fun z => RM D cy A ad (st mu 900 0 z) H) (Eq.symm (by ((try unfold mDraft at *); (try unfold mTaken at *); unfold interME; (repeat' split) <;> first | rfl | omega)))) hR)
theorem ms_X5_scheme : MVi RX5 yX5_scheme cX5_scheme 3 (some .int) 2 := ⟨kw_929, kw_927, kw_928, kw_4, rfl, by decide, by decide, by decide +kernel⟩
set_option maxRecDepth 100000 in
set_option maxHeartbeats 4000000 in
theorem c_X5_scheme {l : Launch} {D : va_G} {cy : Nat → ClassId} {A : Nat → Prop} {ad : Nat → Int → Nat} {mu : Nat → Int → Int} {H : Heap} (hR : RM D cy A ad mu H) (hG : GM mu)  (a : Int) (b : Int) (h_a : in32 a) (h_b : in32 b) : Met l yX5_scheme (Cond.code yX5_scheme cX5_scheme 3 (some .int) :: wG) (rmF 1 23 0 0) (Pc D cy H [.ref (ad 5 (0)), .int (iI (a)), .int (iI (b))]) (Qm (some (.int (iI (mR (schemeME mu a b) (mu 926 0))))) (fun H' => RM D cy A ad (mT mu (schemeME mu a b) (st (st (st (st (st (st mu 900 0 0) 1027 (mu 926 0) a) 1028 (mu 926 0) b) 1030 (mu 926 0) (-1)) 1031 (mu 926 0) (-1)) 926 0 (mu 926 0 + 1))) H') A) 0 0 A := by
  refine met_of (la := [(0, .ref (ad 5 (0))), (1, .int (iI (a))), (2, .int (iI (b)))]) (by decide) (Nat.le_of_ble_eq_true rfl) rfl ?_
  intro p e R s m args below meth c ls hRm hx hb hml hr hlk hin hown hts hsH hK hl
  subst hRm
  have hown : s.vm.findClass "TakinghallModel" = some m.cls := hown
  have hw5 : ∀ w ∈ u_ws RX5 TX5 35, w.before args s = true := fun w h => hts w (uw_X5 w h)
  have hS : va_S A s.heap H [] := by rw [hsH]; exact va_S.rf
  refine lv_aload_n hx hb dX5_scheme_0 rfl (lv_at hl 0 rfl) ?_
  refine lv_aload_n hx hb dX5_scheme_1 rfl (lv_at hl 0 rfl) ?_
  refine lv_iload_n hx hb dX5_scheme_2 rfl (lv_at hl 1 rfl) ?_
  refine lv_iconst (v := iI (0)) hx hb dX5_scheme_3 rfl ?_
  refine lv_bipush (v := iI (50)) hx hb dX5_scheme_4 (by decide) ?_
  refine xk_pF (xr_V (As := [.int (iI (a)), .int (iI (0)), .int (iI (50))]) (rest := [.ref (ad 5 (0))]) hx hb hml hown hts hK (c_X5_between hR hG a 0 50 (by omega) (by omega) (by omega)) ms_X5_between kw_869 (wr_recv hK hR (md_5 hG) rfl rfl) ⟨by decide, by decide⟩ ⟨by decide, by decide⟩ rfl rfl hl.1 rfl (lv_room (Nat.le_of_ble_eq_true rfl)) dX5_scheme_6) ?_
  refine xr_ifb_eq (tgt := 23) hx hb dX5_scheme_9 (by decide) (fun h1 => ?_) (fun h1 => ?_)
  · skip
    refine lv_iconst (v := iI (1)) hx hb dX5_scheme_23 rfl ?_
    refine lv_goto (tgt := 40) hx hb dX5_scheme_24 (by decide) ?_
    refine xp_900 (v := 1) hx hb hw5 hown hK hR hS (md_5 hG) (hts _ kw_748) dX5_scheme_40 (fun H locs hR hS => ?_)
    refine lv_aload_n hx hb dX5_scheme_43 rfl (lv_at hl 0 rfl) ?_
    refine xg_900 (v := 1) hx hb hw5 hown hK hR ((dmM_st (by decide) _ _).mpr (md_5 hG)) (hts _ kw_748) (st_s) dX5_scheme_44 ?_
    refine xr_if_le (tgt := 52) hx hb dX5_scheme_47 (by decide) (by decide) (fun h2 => absurd h2 (by decide)) (fun _ => ?_)
    refine lv_iconst (v := iI (0)) hx hb dX5_scheme_50 rfl ?_
    exact xm_i hx hb hr hlk hS dX5_scheme_51 (by exact (mR_k (1) (by ((try unfold mDraft at *); (try unfold mTaken at *); unfold schemeME; (repeat' split) <;> first | rfl | omega)) (by decide)).symm) (by rw [mT_k (1) (by ((try unfold mDraft at *); (try unfold mTaken at *); unfold schemeME; (repeat' split) <;> first | rfl | omega)) (by decide)]; exact hR)
  · skip
    refine lv_aload_n hx hb dX5_scheme_12 rfl (lv_at hl 0 rfl) ?_
    refine lv_iload_n hx hb dX5_scheme_13 rfl (lv_at hl 2 rfl) ?_
    refine lv_iconst (v := iI (0)) hx hb dX5_scheme_14 rfl ?_
    refine lv_bipush (v := iI (50)) hx hb dX5_scheme_15 (by decide) ?_
    refine xk_pF (xr_V (As := [.int (iI (b)), .int (iI (0)), .int (iI (50))]) (rest := [.ref (ad 5 (0))]) hx hb hml hown hts hK (c_X5_between hR hG b 0 50 (by omega) (by omega) (by omega)) ms_X5_between kw_869 (wr_recv hK hR (md_5 hG) rfl rfl) ⟨by decide, by decide⟩ ⟨by decide, by decide⟩ rfl rfl hl.1 rfl (lv_room (Nat.le_of_ble_eq_true rfl)) dX5_scheme_17) ?_
    refine xr_ifb_ne (tgt := 27) hx hb dX5_scheme_20 (by decide) (fun h3 => ?_) (fun h3 => ?_)
    · skip
      refine lv_aload_n hx hb dX5_scheme_27 rfl (lv_at hl 0 rfl) ?_
      refine xg_926 (v := mu 926 0) hx hb hw5 hown hK hR (md_5 hG) (hts _ kw_774) rfl dX5_scheme_28 ?_
      have g4 := mr_926 hG (0)
      refine lv_iconst (v := iI (4)) hx hb dX5_scheme_31 rfl ?_
      refine xr_icmp_ne (tgt := 39) hx hb dX5_scheme_32 (by decide) (by omega) (by omega) (fun h5 => ?_) (fun h5 => ?_)
      · skip
        refine lv_iconst (v := iI (0)) hx hb dX5_scheme_39 rfl ?_
        refine xp_900 (v := 0) hx hb hw5 hown hK hR hS (md_5 hG) (hts _ kw_748) dX5_scheme_40 (fun H locs hR hS => ?_)
        refine lv_aload_n hx hb dX5_scheme_43 rfl (lv_at hl 0 rfl) ?_
        refine xg_900 (v := 0) hx hb hw5 hown hK hR ((dmM_st (by decide) _ _).mpr (md_5 hG)) (hts _ kw_748) (st_s) dX5_scheme_44 ?_
        refine xr_if_le (tgt := 52) hx hb dX5_scheme_47 (by decide) (by decide) (fun _ => ?_) (fun h6 => absurd h6 (by decide))
        refine lv_aload_n hx hb dX5_scheme_52 rfl (lv_at hl 0 rfl) ?_
        refine xg_927 (v := mu 927 0) hx hb hw5 hown hK hR ((dmM_st (by decide) _ _).mpr (md_5 hG)) (hts _ kw_775) ((st_f (by decide)).trans rfl) dX5_scheme_53 ?_
        have q7 : mu 927 0 = 0 := mh_927 hG
        rw [q7, rv_p (Int.le_refl 0)]
        refine lv_aload_n hx hb dX5_scheme_56 rfl (lv_at hl 0 rfl) ?_
        refine xg_926 (v := mu 926 0) hx hb hw5 hown hK hR ((dmM_st (by decide) _ _).mpr (md_5 hG)) (hts _ kw_774) ((st_f (by decide)).trans rfl) dX5_scheme_57 ?_
        refine lv_iload_n hx hb dX5_scheme_60 rfl (lv_at hl 1 rfl) ?_
        refine xs_1027 (v := a) hx hb hK hR hS ((dmM_st (by decide) _ _).mpr (md_47 hG)) (by omega) dX5_scheme_61 (fun H locs hR hS => ?_)
        refine lv_aload_n hx hb dX5_scheme_62 rfl (lv_at hl 0 rfl) ?_
        refine xg_928 (v := mu 928 0) hx hb hw5 hown hK hR ((dmM_st (by decide) _ _).mpr ((dmM_st (by decide) _ _).mpr (md_5 hG))) (hts _ kw_776) ((st_f (by decide)).trans ((st_f (by decide)).trans rfl)) dX5_scheme_63 ?_
        have q8 : mu 928 0 = 0 := mh_928 hG
        rw [q8, rv_p (Int.le_refl 0)]
        refine lv_aload_n hx hb dX5_scheme_66 rfl (lv_at hl 0 rfl) ?_
        refine xg_926 (v := mu 926 0) hx hb hw5 hown hK hR ((dmM_st (by decide) _ _).mpr ((dmM_st (by decide) _ _).mpr (md_5 hG))) (hts _ kw_774) ((st_f (by decide)).trans ((st_f (by decide)).trans rfl)) dX5_scheme_67 ?_
        refine lv_iload_n hx hb dX5_scheme_70 rfl (lv_at hl 2 rfl) ?_
        refine xs_1028 (v := b) hx hb hK hR hS ((dmM_st (by decide) _ _).mpr ((dmM_st (by decide) _ _).mpr (md_48 hG))) (by omega) dX5_scheme_71 (fun H locs hR hS => ?_)
        refine lv_aload_n hx hb dX5_scheme_72 rfl (lv_at hl 0 rfl) ?_
        refine xg_930 (v := mu 930 0) hx hb hw5 hown hK hR ((dmM_st (by decide) _ _).mpr ((dmM_st (by decide) _ _).mpr ((dmM_st (by decide) _ _).mpr (md_5 hG)))) (hts _ kw_778) ((st_f (by decide)).trans ((st_f (by decide)).trans ((st_f (by decide)).trans rfl))) dX5_scheme_73 ?_
        have q9 : mu 930 0 = 0 := mh_930 hG
        rw [q9, rv_p (Int.le_refl 0)]
        refine lv_aload_n hx hb dX5_scheme_76 rfl (lv_at hl 0 rfl) ?_
        refine xg_926 (v := mu 926 0) hx hb hw5 hown hK hR ((dmM_st (by decide) _ _).mpr ((dmM_st (by decide) _ _).mpr ((dmM_st (by decide) _ _).mpr (md_5 hG)))) (hts _ kw_774) ((st_f (by decide)).trans ((st_f (by decide)).trans ((st_f (by decide)).trans rfl))) dX5_scheme_77 ?_
        refine lv_iconst (v := iI (-1)) hx hb dX5_scheme_80 rfl ?_
        refine xs_1030 (v := -1) hx hb hK hR hS ((dmM_st (by decide) _ _).mpr ((dmM_st (by decide) _ _).mpr ((dmM_st (by decide) _ _).mpr (md_50 hG)))) (by omega) dX5_scheme_81 (fun H locs hR hS => ?_)
        refine lv_aload_n hx hb dX5_scheme_82 rfl (lv_at hl 0 rfl) ?_
        refine xg_931 (v := mu 931 0) hx hb hw5 hown hK hR ((dmM_st (by decide) _ _).mpr ((dmM_st (by decide) _ _).mpr ((dmM_st (by decide) _ _).mpr ((dmM_st (by decide) _ _).mpr (md_5 hG))))) (hts _ kw_779) ((st_f (by decide)).trans ((st_f (by decide)).trans ((st_f (by decide)).trans ((st_f (by decide)).trans rfl)))) dX5_scheme_83 ?_
        have q10 : mu 931 0 = 0 := mh_931 hG
        rw [q10, rv_p (Int.le_refl 0)]
        refine lv_aload_n hx hb dX5_scheme_86 rfl (lv_at hl 0 rfl) ?_
        refine xg_926 (v := mu 926 0) hx hb hw5 hown hK hR ((dmM_st (by decide) _ _).mpr ((dmM_st (by decide) _ _).mpr ((dmM_st (by decide) _ _).mpr ((dmM_st (by decide) _ _).mpr (md_5 hG))))) (hts _ kw_774) ((st_f (by decide)).trans ((st_f (by decide)).trans ((st_f (by decide)).trans ((st_f (by decide)).trans rfl)))) dX5_scheme_87 ?_
        refine lv_iconst (v := iI (-1)) hx hb dX5_scheme_90 rfl ?_
        refine xs_1031 (v := -1) hx hb hK hR hS ((dmM_st (by decide) _ _).mpr ((dmM_st (by decide) _ _).mpr ((dmM_st (by decide) _ _).mpr ((dmM_st (by decide) _ _).mpr (md_51 hG))))) (by omega) dX5_scheme_91 (fun H locs hR hS => ?_)
        refine lv_aload_n hx hb dX5_scheme_92 rfl (lv_at hl 0 rfl) ?_
        refine lv_dup hx hb dX5_scheme_93 rfl ?_
        refine xg_926 (v := mu 926 0) hx hb hw5 hown hK hR ((dmM_st (by decide) _ _).mpr ((dmM_st (by decide) _ _).mpr ((dmM_st (by decide) _ _).mpr ((dmM_st (by decide) _ _).mpr ((dmM_st (by decide) _ _).mpr (md_5 hG)))))) (hts _ kw_774) ((st_f (by decide)).trans ((st_f (by decide)).trans ((st_f (by decide)).trans ((st_f (by decide)).trans ((st_f (by decide)).trans rfl))))) dX5_scheme_94 ?_
        refine lv_iconst (v := iI (1)) hx hb dX5_scheme_97 rfl ?_
        refine xr_iadd hx hb dX5_scheme_98 ?_
        refine xp_926 (v := (mu 926 0) + 1) hx hb hw5 hown hK hR hS ((dmM_st (by decide) _ _).mpr ((dmM_st (by decide) _ _).mpr ((dmM_st (by decide) _ _).mpr ((dmM_st (by decide) _ _).mpr ((dmM_st (by decide) _ _).mpr (md_5 hG)))))) (hts _ kw_774) dX5_scheme_99 (fun H locs hR hS => ?_)
        refine lv_aload_n hx hb dX5_scheme_102 rfl (lv_at hl 0 rfl) ?_
        refine xg_926 (v := (mu 926 0) + 1) hx hb hw5 hown hK hR ((dmM_st (by decide) _ _).mpr ((dmM_st (by decide) _ _).mpr ((dmM_st (by decide) _ _).mpr ((dmM_st (by decide) _ _).mpr ((dmM_st (by decide) _ _).mpr ((dmM_st (by decide) _ _).mpr (md_5 hG))))))) (hts _ kw_774) (st_s) dX5_scheme_103 ?_
        refine lv_iconst (v := iI (1)) hx hb dX5_scheme_106 rfl ?_
        refine xr_isub hx hb dX5_scheme_107 ?_
        exact xm_i hx hb hr hlk hS dX5_scheme_108 (by refine Eq.trans ?_ (mR_0 (by ((try unfold mDraft at *); (try unfold mTaken at *); unfold schemeME; (repeat' split) <;> first | rfl | omega))).symm; omega) (by rw [mT_0 (by ((try unfold mDraft at *); (try unfold mTaken at *); unfold schemeME; (repeat' split) <;> first | rfl | omega))]; exact hR)
      · skip
        refine lv_iconst (v := iI (2)) hx hb dX5_scheme_35 rfl ?_
        refine lv_goto (tgt := 40) hx hb dX5_scheme_36 (by decide) ?_
        refine xp_900 (v := 2) hx hb hw5 hown hK hR hS (md_5 hG) (hts _ kw_748) dX5_scheme_40 (fun H locs hR hS => ?_)
        refine lv_aload_n hx hb dX5_scheme_43 rfl (lv_at hl 0 rfl) ?_
        refine xg_900 (v := 2) hx hb hw5 hown hK hR ((dmM_st (by decide) _ _).mpr (md_5 hG)) (hts _ kw_748) (st_s) dX5_scheme_44 ?_
        refine xr_if_le (tgt := 52) hx hb dX5_scheme_47 (by decide) (by decide) (fun h11 => absurd h11 (by decide)) (fun _ => ?_)
        refine lv_iconst (v := iI (0)) hx hb dX5_scheme_50 rfl ?_
        exact xm_i hx hb hr hlk hS dX5_scheme_51 (by exact (mR_k (2) (by ((try unfold mDraft at *); (try unfold mTaken at *); unfold schemeME; (repeat' split) <;> first | rfl | omega)) (by decide)).symm) (by rw [mT_k (2) (by ((try unfold mDraft at *); (try unfold mTaken at *); unfold schemeME; (repeat' split) <;> first | rfl | omega)) (by decide)]; exact hR)
    · skip
      refine lv_iconst (v := iI (1)) hx hb dX5_scheme_23 rfl ?_
      refine lv_goto (tgt := 40) hx hb dX5_scheme_24 (by decide) ?_
      refine xp_900 (v := 1) hx hb hw5 hown hK hR hS (md_5 hG) (hts _ kw_748) dX5_scheme_40 (fun H locs hR hS => ?_)
      refine lv_aload_n hx hb dX5_scheme_43 rfl (lv_at hl 0 rfl) ?_
      refine xg_900 (v := 1) hx hb hw5 hown hK hR ((dmM_st (by decide) _ _).mpr (md_5 hG)) (hts _ kw_748) (st_s) dX5_scheme_44 ?_
      refine xr_if_le (tgt := 52) hx hb dX5_scheme_47 (by decide) (by decide) (fun h12 => absurd h12 (by decide)) (fun _ => ?_)
      refine lv_iconst (v := iI (0)) hx hb dX5_scheme_50 rfl ?_
      exact xm_i hx hb hr hlk hS dX5_scheme_51 (by exact (mR_k (1) (by ((try unfold mDraft at *); (try unfold mTaken at *); unfold schemeME; (repeat' split) <;> first | rfl | omega)) (by decide)).symm) (by rw [mT_k (1) (by ((try unfold mDraft at *); (try unfold mTaken at *); unfold schemeME; (repeat' split) <;> first | rfl | omega)) (by decide)]; exact hR)
theorem ms_X5_draw : MVi RX5 yX5_draw cX5_draw 4 (some .int) 3 := ⟨kw_933, kw_931, kw_932, kw_4, rfl, by decide, by decide, by decide +kernel⟩
set_option maxRecDepth 100000 in
set_option maxHeartbeats 4000000 in
theorem c_X5_draw {l : Launch} {D : va_G} {cy : Nat → ClassId} {A : Nat → Prop} {ad : Nat → Int → Nat} {mu : Nat → Int → Int} {H : Heap} (hR : RM D cy A ad mu H) (hG : GM mu)  (w : Int) (x : Int) (a : Int) (h_w : in32 w) (h_x : in32 x) (h_a : in32 a) : Met l yX5_draw (Cond.code yX5_draw cX5_draw 4 (some .int) :: wG) (rmF 2 44 0 0) (Pc D cy H [.ref (ad 5 (0)), .int (iI (w)), .int (iI (x)), .int (iI (a))]) (Qm (some (.int (iI (mR (drawME mu w x a) (mNeed (st (st (st mu 900 0 0) 1006 x w) 1007 x a) w 0))))) (fun H' => RM D cy A ad (mT mu (drawME mu w x a) (st (st (st mu 900 0 0) 1006 x w) 1007 x a)) H') A) 0 0 A := by
  refine met_of (la := [(0, .ref (ad 5 (0))), (1, .int (iI (w))), (2, .int (iI (x))), (3, .int (iI (a)))]) (by decide) (Nat.le_of_ble_eq_true rfl) rfl ?_
  intro p e R s m args below meth c ls hRm hx hb hml hr hlk hin hown hts hsH hK hl
  subst hRm
  have hown : s.vm.findClass "TakinghallModel" = some m.cls := hown
  have hw5 : ∀ w ∈ u_ws RX5 TX5 35, w.before args s = true := fun w h => hts w (uw_X5 w h)
  have hS : va_S A s.heap H [] := by rw [hsH]; exact va_S.rf
  have g926 := mr_926 hG 0
  refine lv_aload_n hx hb dX5_draw_0 rfl (lv_at hl 0 rfl) ?_
  refine lv_aload_n hx hb dX5_draw_1 rfl (lv_at hl 0 rfl) ?_
  refine lv_iload_n hx hb dX5_draw_2 rfl (lv_at hl 1 rfl) ?_
  refine xk_pF (xr_V (As := [.int (iI (w))]) (rest := [.ref (ad 5 (0))]) hx hb hml hown hts hK (c_X5_isScheme hR hG w (by omega)) ms_X5_isScheme kw_934 (wr_recv hK hR (md_5 hG) rfl rfl) ⟨by decide, by decide⟩ ⟨by decide, by decide⟩ rfl rfl hl.1 rfl (lv_room (Nat.le_of_ble_eq_true rfl)) dX5_draw_3) ?_
  refine xr_ifb_eq (tgt := 17) hx hb dX5_draw_6 (by decide) (fun h1 => ?_) (fun h1 => ?_)
  · skip
    refine lv_iconst (v := iI (1)) hx hb dX5_draw_17 rfl ?_
    refine lv_goto (tgt := 37) hx hb dX5_draw_18 (by decide) ?_
    refine xp_900 (v := 1) hx hb hw5 hown hK hR hS (md_5 hG) (hts _ kw_748) dX5_draw_37 (fun H locs hR hS => ?_)
    refine lv_aload_n hx hb dX5_draw_40 rfl (lv_at hl 0 rfl) ?_
    refine xg_900 (v := 1) hx hb hw5 hown hK hR ((dmM_st (by decide) _ _).mpr (md_5 hG)) (hts _ kw_748) (st_s) dX5_draw_41 ?_
    refine xr_if_ne (tgt := 84) hx hb dX5_draw_44 (by decide) (by decide) (fun _ => ?_) (fun h2 => absurd h2 (by decide))
    refine lv_aload_n hx hb dX5_draw_84 rfl (lv_at hl 0 rfl) ?_
    refine xg_900 (v := 1) hx hb hw5 hown hK hR ((dmM_st (by decide) _ _).mpr (md_5 hG)) (hts _ kw_748) (st_s) dX5_draw_85 ?_
    refine xr_if_le (tgt := 93) hx hb dX5_draw_88 (by decide) (by decide) (fun h3 => absurd h3 (by decide)) (fun _ => ?_)
    refine lv_iconst (v := iI (0)) hx hb dX5_draw_91 rfl ?_
    exact xm_i hx hb hr hlk hS dX5_draw_92 (by exact (mR_k (1) (by ((try unfold mDraft at *); (try unfold mTaken at *); unfold drawME; (repeat' split) <;> first | rfl | omega)) (by decide)).symm) (by rw [mT_k (1) (by ((try unfold mDraft at *); (try unfold mTaken at *); unfold drawME; (repeat' split) <;> first | rfl | omega)) (by decide)]; exact hR)
  · skip
    refine lv_aload_n hx hb dX5_draw_9 rfl (lv_at hl 0 rfl) ?_
    refine lv_iload_n hx hb dX5_draw_10 rfl (lv_at hl 2 rfl) ?_
    refine xk_pF (xr_V (As := [.int (iI (x))]) (rest := [.ref (ad 5 (0))]) hx hb hml hown hts hK (c_X5_isPlot hR hG x (by omega)) ms_X5_isPlot kw_865 (wr_recv hK hR (md_5 hG) rfl rfl) ⟨by decide, by decide⟩ ⟨by decide, by decide⟩ rfl rfl hl.1 rfl (lv_room (Nat.le_of_ble_eq_true rfl)) dX5_draw_11) ?_
    refine xr_ifb_ne (tgt := 21) hx hb dX5_draw_14 (by decide) (fun h4 => ?_) (fun h4 => ?_)
    · skip
      refine lv_aload_n hx hb dX5_draw_21 rfl (lv_at hl 0 rfl) ?_
      refine lv_iload_n hx hb dX5_draw_22 rfl (lv_at hl 3 rfl) ?_
      refine lv_iconst (v := iI (1)) hx hb dX5_draw_23 rfl ?_
      refine lv_bipush (v := iI (100)) hx hb dX5_draw_24 (by decide) ?_
      refine xk_pF (xr_V (As := [.int (iI (a)), .int (iI (1)), .int (iI (100))]) (rest := [.ref (ad 5 (0))]) hx hb hml hown hts hK (c_X5_between hR hG a 1 100 (by omega) (by omega) (by omega)) ms_X5_between kw_869 (wr_recv hK hR (md_5 hG) rfl rfl) ⟨by decide, by decide⟩ ⟨by decide, by decide⟩ rfl rfl hl.1 rfl (lv_room (Nat.le_of_ble_eq_true rfl)) dX5_draw_26) ?_
      refine xr_ifb_ne (tgt := 36) hx hb dX5_draw_29 (by decide) (fun h5 => ?_) (fun h5 => ?_)
      · skip
        refine lv_iconst (v := iI (0)) hx hb dX5_draw_36 rfl ?_
        refine xp_900 (v := 0) hx hb hw5 hown hK hR hS (md_5 hG) (hts _ kw_748) dX5_draw_37 (fun H locs hR hS => ?_)
        refine lv_aload_n hx hb dX5_draw_40 rfl (lv_at hl 0 rfl) ?_
        refine xg_900 (v := 0) hx hb hw5 hown hK hR ((dmM_st (by decide) _ _).mpr (md_5 hG)) (hts _ kw_748) (st_s) dX5_draw_41 ?_
        refine xr_if_ne (tgt := 84) hx hb dX5_draw_44 (by decide) (by decide) (fun h6 => absurd h6 (by decide)) (fun _ => ?_)
        refine lv_aload_n hx hb dX5_draw_47 rfl (lv_at hl 0 rfl) ?_
        refine lv_aload_n hx hb dX5_draw_48 rfl (lv_at hl 0 rfl) ?_
        refine xg_929 (v := mu 929 0) hx hb hw5 hown hK hR ((dmM_st (by decide) _ _).mpr (md_5 hG)) (hts _ kw_777) ((st_f (by decide)).trans rfl) dX5_draw_49 ?_
        have q7 : mu 929 0 = 0 := mh_929 hG
        rw [q7, rv_p (Int.le_refl 0)]
        refine lv_iload_n hx hb dX5_draw_52 rfl (lv_at hl 1 rfl) ?_
        refine xa_1029 (v := mu 1029 w) hx hb hK hR ((dmM_st (by decide) _ _).mpr (md_49 hG)) (by omega) ((st_f (by decide)).trans rfl) dX5_draw_53 ?_
        have g8 := mr_1029 hG (w)
        refine xr_if_ne (tgt := 76) hx hb dX5_draw_54 (by decide) (by omega) (fun h9 => ?_) (fun h9 => ?_)
        · skip
          refine lv_iconst (v := iI (3)) hx hb dX5_draw_76 rfl ?_
          refine lv_goto (tgt := 81) hx hb dX5_draw_77 (by decide) ?_
          refine xp_900 (v := 3) hx hb hw5 hown hK hR hS ((dmM_st (by decide) _ _).mpr (md_5 hG)) (hts _ kw_748) dX5_draw_81 (fun H locs hR hS => ?_)
          rw [st_st] at hR
          refine lv_aload_n hx hb dX5_draw_84 rfl (lv_at hl 0 rfl) ?_
          refine xg_900 (v := 3) hx hb hw5 hown hK hR ((dmM_st (by decide) _ _).mpr (md_5 hG)) (hts _ kw_748) (st_s) dX5_draw_85 ?_
          refine xr_if_le (tgt := 93) hx hb dX5_draw_88 (by decide) (by decide) (fun h10 => absurd h10 (by decide)) (fun _ => ?_)
          refine lv_iconst (v := iI (0)) hx hb dX5_draw_91 rfl ?_
          exact xm_i hx hb hr hlk hS dX5_draw_92 (by exact (mR_k (3) (by ((try unfold mDraft at *); (try unfold mTaken at *); unfold drawME; (repeat' split) <;> first | rfl | omega)) (by decide)).symm) (by rw [mT_k (3) (by ((try unfold mDraft at *); (try unfold mTaken at *); unfold drawME; (repeat' split) <;> first | rfl | omega)) (by decide)]; exact hR)
        · skip
          refine lv_aload_n hx hb dX5_draw_57 rfl (lv_at hl 0 rfl) ?_
          refine xg_905 (v := mu 905 0) hx hb hw5 hown hK hR ((dmM_st (by decide) _ _).mpr (md_5 hG)) (hts _ kw_753) ((st_f (by decide)).trans rfl) dX5_draw_58 ?_
          have q11 : mu 905 0 = 0 := mh_905 hG
          rw [q11, rv_p (Int.le_refl 0)]
          refine lv_iload_n hx hb dX5_draw_61 rfl (lv_at hl 2 rfl) ?_
          refine xa_1005 (v := mu 1005 x) hx hb hK hR ((dmM_st (by decide) _ _).mpr (md_25 hG)) (by omega) ((st_f (by decide)).trans rfl) dX5_draw_62 ?_
          have g12 := mr_1005 hG (x)
          refine xr_if_ne (tgt := 76) hx hb dX5_draw_63 (by decide) (by omega) (fun h13 => ?_) (fun h13 => ?_)
          · skip
            refine lv_iconst (v := iI (3)) hx hb dX5_draw_76 rfl ?_
            refine lv_goto (tgt := 81) hx hb dX5_draw_77 (by decide) ?_
            refine xp_900 (v := 3) hx hb hw5 hown hK hR hS ((dmM_st (by decide) _ _).mpr (md_5 hG)) (hts _ kw_748) dX5_draw_81 (fun H locs hR hS => ?_)
            rw [st_st] at hR
            refine lv_aload_n hx hb dX5_draw_84 rfl (lv_at hl 0 rfl) ?_
            refine xg_900 (v := 3) hx hb hw5 hown hK hR ((dmM_st (by decide) _ _).mpr (md_5 hG)) (hts _ kw_748) (st_s) dX5_draw_85 ?_
            refine xr_if_le (tgt := 93) hx hb dX5_draw_88 (by decide) (by decide) (fun h14 => absurd h14 (by decide)) (fun _ => ?_)
            refine lv_iconst (v := iI (0)) hx hb dX5_draw_91 rfl ?_
            exact xm_i hx hb hr hlk hS dX5_draw_92 (by exact (mR_k (3) (by ((try unfold mDraft at *); (try unfold mTaken at *); unfold drawME; (repeat' split) <;> first | rfl | omega)) (by decide)).symm) (by rw [mT_k (3) (by ((try unfold mDraft at *); (try unfold mTaken at *); unfold drawME; (repeat' split) <;> first | rfl | omega)) (by decide)]; exact hR)
          · skip
            refine lv_aload_n hx hb dX5_draw_66 rfl (lv_at hl 0 rfl) ?_
            refine xg_906 (v := mu 906 0) hx hb hw5 hown hK hR ((dmM_st (by decide) _ _).mpr (md_5 hG)) (hts _ kw_754) ((st_f (by decide)).trans rfl) dX5_draw_67 ?_
            have q15 : mu 906 0 = 0 := mh_906 hG
            rw [q15, rv_p (Int.le_refl 0)]
            refine lv_iload_n hx hb dX5_draw_70 rfl (lv_at hl 2 rfl) ?_
            refine xa_1006 (v := mu 1006 x) hx hb hK hR ((dmM_st (by decide) _ _).mpr (md_26 hG)) (by omega) ((st_f (by decide)).trans rfl) dX5_draw_71 ?_
            have g16 := mr_1006 hG (x)
            refine lv_iconst (v := iI (-1)) hx hb dX5_draw_72 rfl ?_
            refine xr_icmp_eq (tgt := 80) hx hb dX5_draw_73 (by decide) (by omega) (by omega) (fun h17 => ?_) (fun h17 => ?_)
            · skip
              refine lv_iconst (v := iI (0)) hx hb dX5_draw_80 rfl ?_
              refine xp_900 (v := 0) hx hb hw5 hown hK hR hS ((dmM_st (by decide) _ _).mpr (md_5 hG)) (hts _ kw_748) dX5_draw_81 (fun H locs hR hS => ?_)
              rw [st_st] at hR
              refine lv_aload_n hx hb dX5_draw_84 rfl (lv_at hl 0 rfl) ?_
              refine xg_900 (v := 0) hx hb hw5 hown hK hR ((dmM_st (by decide) _ _).mpr (md_5 hG)) (hts _ kw_748) (st_s) dX5_draw_85 ?_
              refine xr_if_le (tgt := 93) hx hb dX5_draw_88 (by decide) (by decide) (fun _ => ?_) (fun h18 => absurd h18 (by decide))
              refine lv_aload_n hx hb dX5_draw_93 rfl (lv_at hl 0 rfl) ?_
              refine xg_906 (v := mu 906 0) hx hb hw5 hown hK hR ((dmM_st (by decide) _ _).mpr (md_5 hG)) (hts _ kw_754) ((st_f (by decide)).trans rfl) dX5_draw_94 ?_
              have q19 : mu 906 0 = 0 := mh_906 hG
              rw [q19, rv_p (Int.le_refl 0)]
              refine lv_iload_n hx hb dX5_draw_97 rfl (lv_at hl 2 rfl) ?_
              refine lv_iload_n hx hb dX5_draw_98 rfl (lv_at hl 1 rfl) ?_
              refine xs_1006 (v := w) hx hb hK hR hS ((dmM_st (by decide) _ _).mpr (md_26 hG)) (by omega) dX5_draw_99 (fun H locs hR hS => ?_)
              refine lv_aload_n hx hb dX5_draw_100 rfl (lv_at hl 0 rfl) ?_
              refine xg_907 (v := mu 907 0) hx hb hw5 hown hK hR ((dmM_st (by decide) _ _).mpr ((dmM_st (by decide) _ _).mpr (md_5 hG))) (hts _ kw_755) ((st_f (by decide)).trans ((st_f (by decide)).trans rfl)) dX5_draw_101 ?_
              have q20 : mu 907 0 = 0 := mh_907 hG
              rw [q20, rv_p (Int.le_refl 0)]
              refine lv_iload_n hx hb dX5_draw_104 rfl (lv_at hl 2 rfl) ?_
              refine lv_iload_n hx hb dX5_draw_105 rfl (lv_at hl 3 rfl) ?_
              refine xs_1007 (v := a) hx hb hK hR hS ((dmM_st (by decide) _ _).mpr ((dmM_st (by decide) _ _).mpr (md_27 hG))) (by omega) dX5_draw_106 (fun H locs hR hS => ?_)
              refine lv_aload_n hx hb dX5_draw_107 rfl (lv_at hl 0 rfl) ?_
              refine lv_iload_n hx hb dX5_draw_108 rfl (lv_at hl 1 rfl) ?_
              refine lv_iconst (v := iI (0)) hx hb dX5_draw_109 rfl ?_
              refine xk_pF (xr_V (As := [.int (iI (w)), .int (iI (0))]) (rest := []) hx hb hml hown hts hK (c_X5_neededBy hR (gc_1007 (gc_1006 (gc_900 hG (0) (v := 0) (by omega)) (x) (v := w) (by omega)) (x) (v := a) (by omega)) w 0 (by omega) (by omega)) ms_X5_neededBy kw_938 (wr_recv hK hR ((dmM_st (by decide) _ _).mpr ((dmM_st (by decide) _ _).mpr ((dmM_st (by decide) _ _).mpr (md_5 hG)))) rfl rfl) ⟨by decide, by decide⟩ ⟨by decide, by decide⟩ rfl rfl hl.1 rfl (lv_room (by decide)) dX5_draw_110) ?_
              have g21 := mNeed_rng (st (st (st mu 900 (0) (0)) 1006 (x) (w)) 1007 (x) (a)) (w) (0)
              exact xm_i hx hb hr hlk hS dX5_draw_113 (by refine Eq.trans ?_ (mR_0 (by ((try unfold mDraft at *); (try unfold mTaken at *); unfold drawME; (repeat' split) <;> first | rfl | omega))).symm; rfl) (by rw [mT_0 (by ((try unfold mDraft at *); (try unfold mTaken at *); unfold drawME; (repeat' split) <;> first | rfl | omega))]; exact hR)
            · skip
              refine lv_iconst (v := iI (3)) hx hb dX5_draw_76 rfl ?_
              refine lv_goto (tgt := 81) hx hb dX5_draw_77 (by decide) ?_
              refine xp_900 (v := 3) hx hb hw5 hown hK hR hS ((dmM_st (by decide) _ _).mpr (md_5 hG)) (hts _ kw_748) dX5_draw_81 (fun H locs hR hS => ?_)
              rw [st_st] at hR
              refine lv_aload_n hx hb dX5_draw_84 rfl (lv_at hl 0 rfl) ?_
              refine xg_900 (v := 3) hx hb hw5 hown hK hR ((dmM_st (by decide) _ _).mpr (md_5 hG)) (hts _ kw_748) (st_s) dX5_draw_85 ?_
              refine xr_if_le (tgt := 93) hx hb dX5_draw_88 (by decide) (by decide) (fun h22 => absurd h22 (by decide)) (fun _ => ?_)
              refine lv_iconst (v := iI (0)) hx hb dX5_draw_91 rfl ?_
              exact xm_i hx hb hr hlk hS dX5_draw_92 (by exact (mR_k (3) (by ((try unfold mDraft at *); (try unfold mTaken at *); unfold drawME; (repeat' split) <;> first | rfl | omega)) (by decide)).symm) (by rw [mT_k (3) (by ((try unfold mDraft at *); (try unfold mTaken at *); unfold drawME; (repeat' split) <;> first | rfl | omega)) (by decide)]; exact hR)
      · skip
        refine lv_iconst (v := iI (2)) hx hb dX5_draw_32 rfl ?_
        refine lv_goto (tgt := 37) hx hb dX5_draw_33 (by decide) ?_
        refine xp_900 (v := 2) hx hb hw5 hown hK hR hS (md_5 hG) (hts _ kw_748) dX5_draw_37 (fun H locs hR hS => ?_)
        refine lv_aload_n hx hb dX5_draw_40 rfl (lv_at hl 0 rfl) ?_
        refine xg_900 (v := 2) hx hb hw5 hown hK hR ((dmM_st (by decide) _ _).mpr (md_5 hG)) (hts _ kw_748) (st_s) dX5_draw_41 ?_
        refine xr_if_ne (tgt := 84) hx hb dX5_draw_44 (by decide) (by decide) (fun _ => ?_) (fun h23 => absurd h23 (by decide))
        refine lv_aload_n hx hb dX5_draw_84 rfl (lv_at hl 0 rfl) ?_
        refine xg_900 (v := 2) hx hb hw5 hown hK hR ((dmM_st (by decide) _ _).mpr (md_5 hG)) (hts _ kw_748) (st_s) dX5_draw_85 ?_
        refine xr_if_le (tgt := 93) hx hb dX5_draw_88 (by decide) (by decide) (fun h24 => absurd h24 (by decide)) (fun _ => ?_)
        refine lv_iconst (v := iI (0)) hx hb dX5_draw_91 rfl ?_
        exact xm_i hx hb hr hlk hS dX5_draw_92 (by exact (mR_k (2) (by ((try unfold mDraft at *); (try unfold mTaken at *); unfold drawME; (repeat' split) <;> first | rfl | omega)) (by decide)).symm) (by rw [mT_k (2) (by ((try unfold mDraft at *); (try unfold mTaken at *); unfold drawME; (repeat' split) <;> first | rfl | omega)) (by decide)]; exact hR)
    · skip
      refine lv_iconst (v := iI (1)) hx hb dX5_draw_17 rfl ?_
      refine lv_goto (tgt := 37) hx hb dX5_draw_18 (by decide) ?_
      refine xp_900 (v := 1) hx hb hw5 hown hK hR hS (md_5 hG) (hts _ kw_748) dX5_draw_37 (fun H locs hR hS => ?_)
      refine lv_aload_n hx hb dX5_draw_40 rfl (lv_at hl 0 rfl) ?_
      refine xg_900 (v := 1) hx hb hw5 hown hK hR ((dmM_st (by decide) _ _).mpr (md_5 hG)) (hts _ kw_748) (st_s) dX5_draw_41 ?_
      refine xr_if_ne (tgt := 84) hx hb dX5_draw_44 (by decide) (by decide) (fun _ => ?_) (fun h25 => absurd h25 (by decide))
      refine lv_aload_n hx hb dX5_draw_84 rfl (lv_at hl 0 rfl) ?_
      refine xg_900 (v := 1) hx hb hw5 hown hK hR ((dmM_st (by decide) _ _).mpr (md_5 hG)) (hts _ kw_748) (st_s) dX5_draw_85 ?_
      refine xr_if_le (tgt := 93) hx hb dX5_draw_88 (by decide) (by decide) (fun h26 => absurd h26 (by decide)) (fun _ => ?_)
      refine lv_iconst (v := iI (0)) hx hb dX5_draw_91 rfl ?_
      exact xm_i hx hb hr hlk hS dX5_draw_92 (by exact (mR_k (1) (by ((try unfold mDraft at *); (try unfold mTaken at *); unfold drawME; (repeat' split) <;> first | rfl | omega)) (by decide)).symm) (by rw [mT_k (1) (by ((try unfold mDraft at *); (try unfold mTaken at *); unfold drawME; (repeat' split) <;> first | rfl | omega)) (by decide)]; exact hR)
theorem ms_X5_notice : MVi RX5 yX5_notice cX5_notice 2 (some .int) 1 := ⟨kw_945, kw_943, kw_944, kw_4, rfl, by decide, by decide, by decide +kernel⟩
set_option maxRecDepth 100000 in
set_option maxHeartbeats 4000000 in
theorem c_X5_notice {l : Launch} {D : va_G} {cy : Nat → ClassId} {A : Nat → Prop} {ad : Nat → Int → Nat} {mu : Nat → Int → Int} {H : Heap} (hR : RM D cy A ad mu H) (hG : GM mu)  (x : Int) (h_x : in32 x) : Met l yX5_notice (Cond.code yX5_notice cX5_notice 2 (some .int) :: wG) (rmF 2 44 0 0) (Pc D cy H [.ref (ad 5 (0)), .int (iI (x))]) (Qm (some (.int (iI (mR (noticeME mu x) (mu 1006 (mu 1015 x)))))) (fun H' => RM D cy A ad (mT mu (noticeME mu x) (st (st mu 900 0 0) 1019 x (mu 901 0))) H') A) 0 0 A := by
  refine met_of (la := [(0, .ref (ad 5 (0))), (1, .int (iI (x)))]) (by decide) (Nat.le_of_ble_eq_true rfl) rfl ?_
  intro p e R s m args below meth c ls hRm hx hb hml hr hlk hin hown hts hsH hK hl
  subst hRm
  have hown : s.vm.findClass "TakinghallModel" = some m.cls := hown
  have hw5 : ∀ w ∈ u_ws RX5 TX5 35, w.before args s = true := fun w h => hts w (uw_X5 w h)
  have hS : va_S A s.heap H [] := by rw [hsH]; exact va_S.rf
  have g913 := mr_913 hG 0
  refine lv_aload_n hx hb dX5_notice_0 rfl (lv_at hl 0 rfl) ?_
  refine lv_aload_n hx hb dX5_notice_1 rfl (lv_at hl 0 rfl) ?_
  refine lv_iload_n hx hb dX5_notice_2 rfl (lv_at hl 1 rfl) ?_
  refine xk_pF (xr_V (As := [.int (iI (x))]) (rest := [.ref (ad 5 (0))]) hx hb hml hown hts hK (c_X5_isInterest hR hG x (by omega)) ms_X5_isInterest kw_922 (wr_recv hK hR (md_5 hG) rfl rfl) ⟨by decide, by decide⟩ ⟨by decide, by decide⟩ rfl rfl hl.1 rfl (lv_room (Nat.le_of_ble_eq_true rfl)) dX5_notice_3) ?_
  refine xr_ifb_ne (tgt := 13) hx hb dX5_notice_6 (by decide) (fun h1 => ?_) (fun h1 => ?_)
  · skip
    refine lv_aload_n hx hb dX5_notice_13 rfl (lv_at hl 0 rfl) ?_
    refine lv_iload_n hx hb dX5_notice_14 rfl (lv_at hl 1 rfl) ?_
    refine xk_pF (xr_V (As := [.int (iI (x))]) (rest := [.ref (ad 5 (0))]) hx hb hml hown hts hK (c_X5_isDrafted hR hG x (by omega)) ms_X5_isDrafted kw_946 (wr_recv hK hR (md_5 hG) rfl rfl) ⟨by decide, by decide⟩ ⟨by decide, by decide⟩ rfl rfl hl.1 rfl (lv_room (Nat.le_of_ble_eq_true rfl)) dX5_notice_15) ?_
    refine xr_ifb_eq (tgt := 31) hx hb dX5_notice_18 (by decide) (fun h2 => ?_) (fun h2 => ?_)
    · skip
      refine lv_iconst (v := iI (2)) hx hb dX5_notice_31 rfl ?_
      refine lv_goto (tgt := 36) hx hb dX5_notice_32 (by decide) ?_
      refine xp_900 (v := 2) hx hb hw5 hown hK hR hS (md_5 hG) (hts _ kw_748) dX5_notice_36 (fun H locs hR hS => ?_)
      refine lv_aload_n hx hb dX5_notice_39 rfl (lv_at hl 0 rfl) ?_
      refine xg_900 (v := 2) hx hb hw5 hown hK hR ((dmM_st (by decide) _ _).mpr (md_5 hG)) (hts _ kw_748) (st_s) dX5_notice_40 ?_
      refine xr_if_le (tgt := 48) hx hb dX5_notice_43 (by decide) (by decide) (fun h3 => absurd h3 (by decide)) (fun _ => ?_)
      refine lv_iconst (v := iI (0)) hx hb dX5_notice_46 rfl ?_
      exact xm_i hx hb hr hlk hS dX5_notice_47 (by exact (mR_k (2) (by ((try unfold mDraft at *); (try unfold mTaken at *); unfold noticeME; (repeat' split) <;> first | rfl | omega)) (by decide)).symm) (by rw [mT_k (2) (by ((try unfold mDraft at *); (try unfold mTaken at *); unfold noticeME; (repeat' split) <;> first | rfl | omega)) (by decide)]; exact hR)
    · skip
      refine lv_aload_n hx hb dX5_notice_21 rfl (lv_at hl 0 rfl) ?_
      refine xg_919 (v := mu 919 0) hx hb hw5 hown hK hR (md_5 hG) (hts _ kw_767) rfl dX5_notice_22 ?_
      have q4 : mu 919 0 = 0 := mh_919 hG
      rw [q4, rv_p (Int.le_refl 0)]
      refine lv_iload_n hx hb dX5_notice_25 rfl (lv_at hl 1 rfl) ?_
      refine xa_1019 (v := mu 1019 x) hx hb hK hR (md_39 hG) (by omega) rfl dX5_notice_26 ?_
      have g5 := mr_1019 hG (x)
      refine lv_iconst (v := iI (-1)) hx hb dX5_notice_27 rfl ?_
      refine xr_icmp_eq (tgt := 35) hx hb dX5_notice_28 (by decide) (by omega) (by omega) (fun h6 => ?_) (fun h6 => ?_)
      · skip
        refine lv_iconst (v := iI (0)) hx hb dX5_notice_35 rfl ?_
        refine xp_900 (v := 0) hx hb hw5 hown hK hR hS (md_5 hG) (hts _ kw_748) dX5_notice_36 (fun H locs hR hS => ?_)
        refine lv_aload_n hx hb dX5_notice_39 rfl (lv_at hl 0 rfl) ?_
        refine xg_900 (v := 0) hx hb hw5 hown hK hR ((dmM_st (by decide) _ _).mpr (md_5 hG)) (hts _ kw_748) (st_s) dX5_notice_40 ?_
        refine xr_if_le (tgt := 48) hx hb dX5_notice_43 (by decide) (by decide) (fun _ => ?_) (fun h7 => absurd h7 (by decide))
        refine lv_aload_n hx hb dX5_notice_48 rfl (lv_at hl 0 rfl) ?_
        refine xg_919 (v := mu 919 0) hx hb hw5 hown hK hR ((dmM_st (by decide) _ _).mpr (md_5 hG)) (hts _ kw_767) ((st_f (by decide)).trans rfl) dX5_notice_49 ?_
        have q8 : mu 919 0 = 0 := mh_919 hG
        rw [q8, rv_p (Int.le_refl 0)]
        refine lv_iload_n hx hb dX5_notice_52 rfl (lv_at hl 1 rfl) ?_
        refine lv_aload_n hx hb dX5_notice_53 rfl (lv_at hl 0 rfl) ?_
        refine xg_901 (v := mu 901 0) hx hb hw5 hown hK hR ((dmM_st (by decide) _ _).mpr (md_5 hG)) (hts _ kw_749) ((st_f (by decide)).trans rfl) dX5_notice_54 ?_
        have g9 := mr_901 hG (0)
        refine xs_1019 (v := mu 901 0) hx hb hK hR hS ((dmM_st (by decide) _ _).mpr (md_39 hG)) (by omega) dX5_notice_57 (fun H locs hR hS => ?_)
        refine lv_aload_n hx hb dX5_notice_58 rfl (lv_at hl 0 rfl) ?_
        refine xg_906 (v := mu 906 0) hx hb hw5 hown hK hR ((dmM_st (by decide) _ _).mpr ((dmM_st (by decide) _ _).mpr (md_5 hG))) (hts _ kw_754) ((st_f (by decide)).trans ((st_f (by decide)).trans rfl)) dX5_notice_59 ?_
        have q10 : mu 906 0 = 0 := mh_906 hG
        rw [q10, rv_p (Int.le_refl 0)]
        refine lv_aload_n hx hb dX5_notice_62 rfl (lv_at hl 0 rfl) ?_
        refine xg_915 (v := mu 915 0) hx hb hw5 hown hK hR ((dmM_st (by decide) _ _).mpr ((dmM_st (by decide) _ _).mpr (md_5 hG))) (hts _ kw_763) ((st_f (by decide)).trans ((st_f (by decide)).trans rfl)) dX5_notice_63 ?_
        have q11 : mu 915 0 = 0 := mh_915 hG
        rw [q11, rv_p (Int.le_refl 0)]
        refine lv_iload_n hx hb dX5_notice_66 rfl (lv_at hl 1 rfl) ?_
        refine xa_1015 (v := mu 1015 x) hx hb hK hR ((dmM_st (by decide) _ _).mpr ((dmM_st (by decide) _ _).mpr (md_35 hG))) (by omega) ((st_f (by decide)).trans ((st_f (by decide)).trans rfl)) dX5_notice_67 ?_
        have g12 := mr_1015 hG (x)
        refine xa_1006 (v := mu 1006 (mu 1015 x)) hx hb hK hR ((dmM_st (by decide) _ _).mpr ((dmM_st (by decide) _ _).mpr (md_26 hG))) (by omega) ((st_f (by decide)).trans ((st_f (by decide)).trans rfl)) dX5_notice_68 ?_
        have g13 := mr_1006 hG (mu 1015 x)
        exact xm_i hx hb hr hlk hS dX5_notice_69 (by refine Eq.trans ?_ (mR_0 (by ((try unfold mDraft at *); (try unfold mTaken at *); unfold noticeME; (repeat' split) <;> first | rfl | omega))).symm; rfl) (by rw [mT_0 (by ((try unfold mDraft at *); (try unfold mTaken at *); unfold noticeME; (repeat' split) <;> first | rfl | omega))]; exact hR)
      · skip
        refine lv_iconst (v := iI (2)) hx hb dX5_notice_31 rfl ?_
        refine lv_goto (tgt := 36) hx hb dX5_notice_32 (by decide) ?_
        refine xp_900 (v := 2) hx hb hw5 hown hK hR hS (md_5 hG) (hts _ kw_748) dX5_notice_36 (fun H locs hR hS => ?_)
        refine lv_aload_n hx hb dX5_notice_39 rfl (lv_at hl 0 rfl) ?_
        refine xg_900 (v := 2) hx hb hw5 hown hK hR ((dmM_st (by decide) _ _).mpr (md_5 hG)) (hts _ kw_748) (st_s) dX5_notice_40 ?_
        refine xr_if_le (tgt := 48) hx hb dX5_notice_43 (by decide) (by decide) (fun h14 => absurd h14 (by decide)) (fun _ => ?_)
        refine lv_iconst (v := iI (0)) hx hb dX5_notice_46 rfl ?_
        exact xm_i hx hb hr hlk hS dX5_notice_47 (by exact (mR_k (2) (by ((try unfold mDraft at *); (try unfold mTaken at *); unfold noticeME; (repeat' split) <;> first | rfl | omega)) (by decide)).symm) (by rw [mT_k (2) (by ((try unfold mDraft at *); (try unfold mTaken at *); unfold noticeME; (repeat' split) <;> first | rfl | omega)) (by decide)]; exact hR)
  · skip
    refine lv_iconst (v := iI (1)) hx hb dX5_notice_9 rfl ?_
    refine lv_goto (tgt := 36) hx hb dX5_notice_10 (by decide) ?_
    refine xp_900 (v := 1) hx hb hw5 hown hK hR hS (md_5 hG) (hts _ kw_748) dX5_notice_36 (fun H locs hR hS => ?_)
    refine lv_aload_n hx hb dX5_notice_39 rfl (lv_at hl 0 rfl) ?_
    refine xg_900 (v := 1) hx hb hw5 hown hK hR ((dmM_st (by decide) _ _).mpr (md_5 hG)) (hts _ kw_748) (st_s) dX5_notice_40 ?_
    refine xr_if_le (tgt := 48) hx hb dX5_notice_43 (by decide) (by decide) (fun h15 => absurd h15 (by decide)) (fun _ => ?_)
    refine lv_iconst (v := iI (0)) hx hb dX5_notice_46 rfl ?_
    exact xm_i hx hb hr hlk hS dX5_notice_47 (by exact (mR_k (1) (by ((try unfold mDraft at *); (try unfold mTaken at *); unfold noticeME; (repeat' split) <;> first | rfl | omega)) (by decide)).symm) (by rw [mT_k (1) (by ((try unfold mDraft at *); (try unfold mTaken at *); unfold noticeME; (repeat' split) <;> first | rfl | omega)) (by decide)]; exact hR)
theorem ms_X5_object : MVi RX5 yX5_object cX5_object 3 (some .int) 1 := ⟨kw_953, kw_951, kw_952, kw_4, rfl, by decide, by decide, by decide +kernel⟩
set_option maxRecDepth 100000 in
set_option maxHeartbeats 4000000 in
theorem c_X5_object {l : Launch} {D : va_G} {cy : Nat → ClassId} {A : Nat → Prop} {ad : Nat → Int → Nat} {mu : Nat → Int → Int} {H : Heap} (hR : RM D cy A ad mu H) (hG : GM mu)  (x : Int) (h_x : in32 x) : Met l yX5_object (Cond.code yX5_object cX5_object 3 (some .int) :: wG) (rmF 2 44 0 0) (Pc D cy H [.ref (ad 5 (0)), .int (iI (x))]) (Qm (some (.int (iI (mR (objectME mu x) (mOpen (st (st mu 900 0 0) 1020 x 1) (mu 1006 (mu 1015 x))))))) (fun H' => RM D cy A ad (mT mu (objectME mu x) (st (st mu 900 0 0) 1020 x 1)) H') A) 0 0 A := by
  refine met_of (la := [(0, .ref (ad 5 (0))), (1, .int (iI (x)))]) (by decide) (Nat.le_of_ble_eq_true rfl) rfl ?_
  intro p e R s m args below meth c ls hRm hx hb hml hr hlk hin hown hts hsH hK hl
  subst hRm
  have hown : s.vm.findClass "TakinghallModel" = some m.cls := hown
  have hw5 : ∀ w ∈ u_ws RX5 TX5 35, w.before args s = true := fun w h => hts w (uw_X5 w h)
  have hS : va_S A s.heap H [] := by rw [hsH]; exact va_S.rf
  have g913 := mr_913 hG 0
  refine lv_aload_n hx hb dX5_object_0 rfl (lv_at hl 0 rfl) ?_
  refine lv_aload_n hx hb dX5_object_1 rfl (lv_at hl 0 rfl) ?_
  refine lv_iload_n hx hb dX5_object_2 rfl (lv_at hl 1 rfl) ?_
  refine xk_pF (xr_V (As := [.int (iI (x))]) (rest := [.ref (ad 5 (0))]) hx hb hml hown hts hK (c_X5_isInterest hR hG x (by omega)) ms_X5_isInterest kw_922 (wr_recv hK hR (md_5 hG) rfl rfl) ⟨by decide, by decide⟩ ⟨by decide, by decide⟩ rfl rfl hl.1 rfl (lv_room (Nat.le_of_ble_eq_true rfl)) dX5_object_3) ?_
  refine xr_ifb_ne (tgt := 13) hx hb dX5_object_6 (by decide) (fun h1 => ?_) (fun h1 => ?_)
  · skip
    refine lv_iconst (v := iI (0)) hx hb dX5_object_13 rfl ?_
    refine xp_900 (v := 0) hx hb hw5 hown hK hR hS (md_5 hG) (hts _ kw_748) dX5_object_14 (fun H locs hR hS => ?_)
    refine lv_aload_n hx hb dX5_object_17 rfl (lv_at hl 0 rfl) ?_
    refine xg_900 (v := 0) hx hb hw5 hown hK hR ((dmM_st (by decide) _ _).mpr (md_5 hG)) (hts _ kw_748) (st_s) dX5_object_18 ?_
    refine xr_if_ne (tgt := 86) hx hb dX5_object_21 (by decide) (by decide) (fun h2 => absurd h2 (by decide)) (fun _ => ?_)
    refine lv_aload_n hx hb dX5_object_24 rfl (lv_at hl 0 rfl) ?_
    refine xg_919 (v := mu 919 0) hx hb hw5 hown hK hR ((dmM_st (by decide) _ _).mpr (md_5 hG)) (hts _ kw_767) ((st_f (by decide)).trans rfl) dX5_object_25 ?_
    have q3 : mu 919 0 = 0 := mh_919 hG
    rw [q3, rv_p (Int.le_refl 0)]
    refine lv_iload_n hx hb dX5_object_28 rfl (lv_at hl 1 rfl) ?_
    refine xa_1019 (v := mu 1019 x) hx hb hK hR ((dmM_st (by decide) _ _).mpr (md_39 hG)) (by omega) ((st_f (by decide)).trans rfl) dX5_object_29 ?_
    have g4 := mr_1019 hG (x)
    refine lv_iconst (v := iI (-1)) hx hb dX5_object_30 rfl ?_
    refine xr_icmp_eq (tgt := 63) hx hb dX5_object_31 (by decide) (by omega) (by omega) (fun h5 => ?_) (fun h5 => ?_)
    · skip
      refine lv_iconst (v := iI (0)) hx hb dX5_object_63 rfl ?_
      refine lv_istore_n (i := 2) (lv' := [(2, .int (iI (0))), (0, .ref (ad 5 (0))), (1, .int (iI (x)))]) hx hb dX5_object_64 rfl hl (by decide) rfl (fun ls hl => ?_)
      refine lv_aload_n hx hb dX5_object_65 rfl (lv_at hl 1 rfl) ?_
      refine lv_iload_n hx hb dX5_object_66 rfl (lv_at hl 0 rfl) ?_
      refine xr_if_eq (tgt := 78) hx hb dX5_object_67 (by decide) (by decide) (fun _ => ?_) (fun h6 => absurd h6 (by decide))
      refine lv_iconst (v := iI (2)) hx hb dX5_object_78 rfl ?_
      refine lv_goto (tgt := 83) hx hb dX5_object_79 (by decide) ?_
      refine xp_900 (v := 2) hx hb hw5 hown hK hR hS ((dmM_st (by decide) _ _).mpr (md_5 hG)) (hts _ kw_748) dX5_object_83 (fun H locs hR hS => ?_)
      rw [st_st] at hR
      refine lv_aload_n hx hb dX5_object_86 rfl (lv_at hl 1 rfl) ?_
      refine xg_900 (v := 2) hx hb hw5 hown hK hR ((dmM_st (by decide) _ _).mpr (md_5 hG)) (hts _ kw_748) (st_s) dX5_object_87 ?_
      refine xr_if_le (tgt := 95) hx hb dX5_object_90 (by decide) (by decide) (fun h7 => absurd h7 (by decide)) (fun _ => ?_)
      refine lv_iconst (v := iI (0)) hx hb dX5_object_93 rfl ?_
      exact xm_i hx hb hr hlk hS dX5_object_94 (by exact (mR_k (2) (by ((try unfold mDraft at *); (try unfold mTaken at *); unfold objectME; (repeat' split) <;> first | rfl | omega)) (by decide)).symm) (by rw [mT_k (2) (by ((try unfold mDraft at *); (try unfold mTaken at *); unfold objectME; (repeat' split) <;> first | rfl | omega)) (by decide)]; exact hR)
    · skip
      refine lv_aload_n hx hb dX5_object_34 rfl (lv_at hl 0 rfl) ?_
      refine xg_901 (v := mu 901 0) hx hb hw5 hown hK hR ((dmM_st (by decide) _ _).mpr (md_5 hG)) (hts _ kw_749) ((st_f (by decide)).trans rfl) dX5_object_35 ?_
      have g8 := mr_901 hG (0)
      refine lv_aload_n hx hb dX5_object_38 rfl (lv_at hl 0 rfl) ?_
      refine xg_919 (v := mu 919 0) hx hb hw5 hown hK hR ((dmM_st (by decide) _ _).mpr (md_5 hG)) (hts _ kw_767) ((st_f (by decide)).trans rfl) dX5_object_39 ?_
      have q9 : mu 919 0 = 0 := mh_919 hG
      rw [q9, rv_p (Int.le_refl 0)]
      refine lv_iload_n hx hb dX5_object_42 rfl (lv_at hl 1 rfl) ?_
      refine xa_1019 (v := mu 1019 x) hx hb hK hR ((dmM_st (by decide) _ _).mpr (md_39 hG)) (by omega) ((st_f (by decide)).trans rfl) dX5_object_43 ?_
      refine xr_isub hx hb dX5_object_44 ?_
      refine lv_bipush (v := iI (21)) hx hb dX5_object_45 (by decide) ?_
      refine xr_icmp_gt (tgt := 63) hx hb dX5_object_47 (by decide) (by omega) (by omega) (fun h10 => ?_) (fun h10 => ?_)
      · skip
        refine lv_iconst (v := iI (0)) hx hb dX5_object_63 rfl ?_
        refine lv_istore_n (i := 2) (lv' := [(2, .int (iI (0))), (0, .ref (ad 5 (0))), (1, .int (iI (x)))]) hx hb dX5_object_64 rfl hl (by decide) rfl (fun ls hl => ?_)
        refine lv_aload_n hx hb dX5_object_65 rfl (lv_at hl 1 rfl) ?_
        refine lv_iload_n hx hb dX5_object_66 rfl (lv_at hl 0 rfl) ?_
        refine xr_if_eq (tgt := 78) hx hb dX5_object_67 (by decide) (by decide) (fun _ => ?_) (fun h11 => absurd h11 (by decide))
        refine lv_iconst (v := iI (2)) hx hb dX5_object_78 rfl ?_
        refine lv_goto (tgt := 83) hx hb dX5_object_79 (by decide) ?_
        refine xp_900 (v := 2) hx hb hw5 hown hK hR hS ((dmM_st (by decide) _ _).mpr (md_5 hG)) (hts _ kw_748) dX5_object_83 (fun H locs hR hS => ?_)
        rw [st_st] at hR
        refine lv_aload_n hx hb dX5_object_86 rfl (lv_at hl 1 rfl) ?_
        refine xg_900 (v := 2) hx hb hw5 hown hK hR ((dmM_st (by decide) _ _).mpr (md_5 hG)) (hts _ kw_748) (st_s) dX5_object_87 ?_
        refine xr_if_le (tgt := 95) hx hb dX5_object_90 (by decide) (by decide) (fun h12 => absurd h12 (by decide)) (fun _ => ?_)
        refine lv_iconst (v := iI (0)) hx hb dX5_object_93 rfl ?_
        exact xm_i hx hb hr hlk hS dX5_object_94 (by exact (mR_k (2) (by ((try unfold mDraft at *); (try unfold mTaken at *); unfold objectME; (repeat' split) <;> first | rfl | omega)) (by decide)).symm) (by rw [mT_k (2) (by ((try unfold mDraft at *); (try unfold mTaken at *); unfold objectME; (repeat' split) <;> first | rfl | omega)) (by decide)]; exact hR)
      · skip
        refine lv_aload_n hx hb dX5_object_50 rfl (lv_at hl 0 rfl) ?_
        refine xg_920 (v := mu 920 0) hx hb hw5 hown hK hR ((dmM_st (by decide) _ _).mpr (md_5 hG)) (hts _ kw_768) ((st_f (by decide)).trans rfl) dX5_object_51 ?_
        have q13 : mu 920 0 = 0 := mh_920 hG
        rw [q13, rv_p (Int.le_refl 0)]
        refine lv_iload_n hx hb dX5_object_54 rfl (lv_at hl 1 rfl) ?_
        refine xa_1020 (v := mu 1020 x) hx hb hK hR ((dmM_st (by decide) _ _).mpr (md_40 hG)) (by omega) ((st_f (by decide)).trans rfl) dX5_object_55 ?_
        have g14 := mr_1020 hG (x)
        refine xr_if_ne (tgt := 63) hx hb dX5_object_56 (by decide) (by omega) (fun h15 => ?_) (fun h15 => ?_)
        · skip
          refine lv_iconst (v := iI (0)) hx hb dX5_object_63 rfl ?_
          refine lv_istore_n (i := 2) (lv' := [(2, .int (iI (0))), (0, .ref (ad 5 (0))), (1, .int (iI (x)))]) hx hb dX5_object_64 rfl hl (by decide) rfl (fun ls hl => ?_)
          refine lv_aload_n hx hb dX5_object_65 rfl (lv_at hl 1 rfl) ?_
          refine lv_iload_n hx hb dX5_object_66 rfl (lv_at hl 0 rfl) ?_
          refine xr_if_eq (tgt := 78) hx hb dX5_object_67 (by decide) (by decide) (fun _ => ?_) (fun h16 => absurd h16 (by decide))
          refine lv_iconst (v := iI (2)) hx hb dX5_object_78 rfl ?_
          refine lv_goto (tgt := 83) hx hb dX5_object_79 (by decide) ?_
          refine xp_900 (v := 2) hx hb hw5 hown hK hR hS ((dmM_st (by decide) _ _).mpr (md_5 hG)) (hts _ kw_748) dX5_object_83 (fun H locs hR hS => ?_)
          rw [st_st] at hR
          refine lv_aload_n hx hb dX5_object_86 rfl (lv_at hl 1 rfl) ?_
          refine xg_900 (v := 2) hx hb hw5 hown hK hR ((dmM_st (by decide) _ _).mpr (md_5 hG)) (hts _ kw_748) (st_s) dX5_object_87 ?_
          refine xr_if_le (tgt := 95) hx hb dX5_object_90 (by decide) (by decide) (fun h17 => absurd h17 (by decide)) (fun _ => ?_)
          refine lv_iconst (v := iI (0)) hx hb dX5_object_93 rfl ?_
          exact xm_i hx hb hr hlk hS dX5_object_94 (by exact (mR_k (2) (by ((try unfold mDraft at *); (try unfold mTaken at *); unfold objectME; (repeat' split) <;> first | rfl | omega)) (by decide)).symm) (by rw [mT_k (2) (by ((try unfold mDraft at *); (try unfold mTaken at *); unfold objectME; (repeat' split) <;> first | rfl | omega)) (by decide)]; exact hR)
        · skip
          refine lv_iconst (v := iI (1)) hx hb dX5_object_59 rfl ?_
          refine lv_goto (tgt := 64) hx hb dX5_object_60 (by decide) ?_
          refine lv_istore_n (i := 2) (lv' := [(2, .int (iI (1))), (0, .ref (ad 5 (0))), (1, .int (iI (x)))]) hx hb dX5_object_64 rfl hl (by decide) rfl (fun ls hl => ?_)
          refine lv_aload_n hx hb dX5_object_65 rfl (lv_at hl 1 rfl) ?_
          refine lv_iload_n hx hb dX5_object_66 rfl (lv_at hl 0 rfl) ?_
          refine xr_if_eq (tgt := 78) hx hb dX5_object_67 (by decide) (by decide) (fun h18 => absurd h18 (by decide)) (fun _ => ?_)
          refine lv_aload_n hx hb dX5_object_70 rfl (lv_at hl 1 rfl) ?_
          refine lv_iload_n hx hb dX5_object_71 rfl (lv_at hl 2 rfl) ?_
          refine xk_pF (xr_V (As := [.int (iI (x))]) (rest := [.ref (ad 5 (0))]) hx hb hml hown hts hK (c_X5_isDrafted hR (gc_900 hG (0) (v := 0) (by omega)) x (by omega)) ms_X5_isDrafted kw_946 (wr_recv hK hR ((dmM_st (by decide) _ _).mpr (md_5 hG)) rfl rfl) ⟨by decide, by decide⟩ ⟨by decide, by decide⟩ rfl rfl hl.1 rfl (lv_room (Nat.le_of_ble_eq_true rfl)) dX5_object_72) ?_
          rw [show (mDraft (st mu 900 (0) (0)) x) = (mDraft mu x) from by first | rfl | (simp only [mSum_9, mOwnB_9, mShare_9, mLeft_9s]; done)]
          refine xr_ifb_ne (tgt := 82) hx hb dX5_object_75 (by decide) (fun h19 => ?_) (fun h19 => ?_)
          · skip
            refine lv_iconst (v := iI (0)) hx hb dX5_object_82 rfl ?_
            refine xp_900 (v := 0) hx hb hw5 hown hK hR hS ((dmM_st (by decide) _ _).mpr (md_5 hG)) (hts _ kw_748) dX5_object_83 (fun H locs hR hS => ?_)
            rw [st_st] at hR
            refine lv_aload_n hx hb dX5_object_86 rfl (lv_at hl 1 rfl) ?_
            refine xg_900 (v := 0) hx hb hw5 hown hK hR ((dmM_st (by decide) _ _).mpr (md_5 hG)) (hts _ kw_748) (st_s) dX5_object_87 ?_
            refine xr_if_le (tgt := 95) hx hb dX5_object_90 (by decide) (by decide) (fun _ => ?_) (fun h20 => absurd h20 (by decide))
            refine lv_aload_n hx hb dX5_object_95 rfl (lv_at hl 1 rfl) ?_
            refine xg_920 (v := mu 920 0) hx hb hw5 hown hK hR ((dmM_st (by decide) _ _).mpr (md_5 hG)) (hts _ kw_768) ((st_f (by decide)).trans rfl) dX5_object_96 ?_
            have q21 : mu 920 0 = 0 := mh_920 hG
            rw [q21, rv_p (Int.le_refl 0)]
            refine lv_iload_n hx hb dX5_object_99 rfl (lv_at hl 2 rfl) ?_
            refine lv_iconst (v := iI (1)) hx hb dX5_object_100 rfl ?_
            refine xs_1020 (v := 1) hx hb hK hR hS ((dmM_st (by decide) _ _).mpr (md_40 hG)) (by omega) dX5_object_101 (fun H locs hR hS => ?_)
            refine lv_aload_n hx hb dX5_object_102 rfl (lv_at hl 1 rfl) ?_
            refine lv_aload_n hx hb dX5_object_103 rfl (lv_at hl 1 rfl) ?_
            refine xg_906 (v := mu 906 0) hx hb hw5 hown hK hR ((dmM_st (by decide) _ _).mpr ((dmM_st (by decide) _ _).mpr (md_5 hG))) (hts _ kw_754) ((st_f (by decide)).trans ((st_f (by decide)).trans rfl)) dX5_object_104 ?_
            have q22 : mu 906 0 = 0 := mh_906 hG
            rw [q22, rv_p (Int.le_refl 0)]
            refine lv_aload_n hx hb dX5_object_107 rfl (lv_at hl 1 rfl) ?_
            refine xg_915 (v := mu 915 0) hx hb hw5 hown hK hR ((dmM_st (by decide) _ _).mpr ((dmM_st (by decide) _ _).mpr (md_5 hG))) (hts _ kw_763) ((st_f (by decide)).trans ((st_f (by decide)).trans rfl)) dX5_object_108 ?_
            have q23 : mu 915 0 = 0 := mh_915 hG
            rw [q23, rv_p (Int.le_refl 0)]
            refine lv_iload_n hx hb dX5_object_111 rfl (lv_at hl 2 rfl) ?_
            refine xa_1015 (v := mu 1015 x) hx hb hK hR ((dmM_st (by decide) _ _).mpr ((dmM_st (by decide) _ _).mpr (md_35 hG))) (by omega) ((st_f (by decide)).trans ((st_f (by decide)).trans rfl)) dX5_object_112 ?_
            have g24 := mr_1015 hG (x)
            refine xa_1006 (v := mu 1006 (mu 1015 x)) hx hb hK hR ((dmM_st (by decide) _ _).mpr ((dmM_st (by decide) _ _).mpr (md_26 hG))) (by omega) ((st_f (by decide)).trans ((st_f (by decide)).trans rfl)) dX5_object_113 ?_
            have g25 := mr_1006 hG (mu 1015 x)
            refine xk_pF (xr_V (As := [.int (iI (mu 1006 (mu 1015 x)))]) (rest := []) hx hb hml hown hts hK (c_X5_openOf hR (gc_1020 (gc_900 hG (0) (v := 0) (by omega)) (x) (v := 1) (by omega)) (mu 1006 (mu 1015 x)) (by omega)) ms_X5_openOf kw_954 (wr_recv hK hR ((dmM_st (by decide) _ _).mpr ((dmM_st (by decide) _ _).mpr (md_5 hG))) rfl rfl) ⟨by decide, by decide⟩ ⟨by decide, by decide⟩ rfl rfl hl.1 rfl (lv_room (by decide)) dX5_object_114) ?_
            exact xm_i hx hb hr hlk hS dX5_object_117 (by refine Eq.trans ?_ (mR_0 (by ((try unfold mDraft at *); (try unfold mTaken at *); unfold objectME; (repeat' split) <;> first | rfl | omega))).symm; rfl) (by rw [mT_0 (by ((try unfold mDraft at *); (try unfold mTaken at *); unfold objectME; (repeat' split) <;> first | rfl | omega))]; exact hR)
          · skip
            refine lv_iconst (v := iI (2)) hx hb dX5_object_78 rfl ?_
            refine lv_goto (tgt := 83) hx hb dX5_object_79 (by decide) ?_
            refine xp_900 (v := 2) hx hb hw5 hown hK hR hS ((dmM_st (by decide) _ _).mpr (md_5 hG)) (hts _ kw_748) dX5_object_83 (fun H locs hR hS => ?_)
            rw [st_st] at hR
            refine lv_aload_n hx hb dX5_object_86 rfl (lv_at hl 1 rfl) ?_
            refine xg_900 (v := 2) hx hb hw5 hown hK hR ((dmM_st (by decide) _ _).mpr (md_5 hG)) (hts _ kw_748) (st_s) dX5_object_87 ?_
            refine xr_if_le (tgt := 95) hx hb dX5_object_90 (by decide) (by decide) (fun h26 => absurd h26 (by decide)) (fun _ => ?_)
            refine lv_iconst (v := iI (0)) hx hb dX5_object_93 rfl ?_
            exact xm_i hx hb hr hlk hS dX5_object_94 (by exact (mR_k (2) (by ((try unfold mDraft at *); (try unfold mTaken at *); unfold objectME; (repeat' split) <;> first | rfl | omega)) (by decide)).symm) (by rw [mT_k (2) (by ((try unfold mDraft at *); (try unfold mTaken at *); unfold objectME; (repeat' split) <;> first | rfl | omega)) (by decide)]; exact hR)
  · skip
    refine lv_iconst (v := iI (1)) hx hb dX5_object_9 rfl ?_
    refine lv_goto (tgt := 14) hx hb dX5_object_10 (by decide) ?_
    refine xp_900 (v := 1) hx hb hw5 hown hK hR hS (md_5 hG) (hts _ kw_748) dX5_object_14 (fun H locs hR hS => ?_)
    refine lv_aload_n hx hb dX5_object_17 rfl (lv_at hl 0 rfl) ?_
    refine xg_900 (v := 1) hx hb hw5 hown hK hR ((dmM_st (by decide) _ _).mpr (md_5 hG)) (hts _ kw_748) (st_s) dX5_object_18 ?_
    refine xr_if_ne (tgt := 86) hx hb dX5_object_21 (by decide) (by decide) (fun _ => ?_) (fun h27 => absurd h27 (by decide))
    refine lv_aload_n hx hb dX5_object_86 rfl (lv_at hl 0 rfl) ?_
    refine xg_900 (v := 1) hx hb hw5 hown hK hR ((dmM_st (by decide) _ _).mpr (md_5 hG)) (hts _ kw_748) (st_s) dX5_object_87 ?_
    refine xr_if_le (tgt := 95) hx hb dX5_object_90 (by decide) (by decide) (fun h28 => absurd h28 (by decide)) (fun _ => ?_)
    refine lv_iconst (v := iI (0)) hx hb dX5_object_93 rfl ?_
    exact xm_i hx hb hr hlk hS dX5_object_94 (by exact (mR_k (1) (by ((try unfold mDraft at *); (try unfold mTaken at *); unfold objectME; (repeat' split) <;> first | rfl | omega)) (by decide)).symm) (by rw [mT_k (1) (by ((try unfold mDraft at *); (try unfold mTaken at *); unfold objectME; (repeat' split) <;> first | rfl | omega)) (by decide)]; exact hR)
theorem ms_X5_hear : MVi RX5 yX5_hear cX5_hear 4 (some .int) 2 := ⟨kw_961, kw_959, kw_960, kw_4, rfl, by decide, by decide, by decide +kernel⟩
set_option maxRecDepth 100000 in
set_option maxHeartbeats 4000000 in
theorem c_X5_hear {l : Launch} {D : va_G} {cy : Nat → ClassId} {A : Nat → Prop} {ad : Nat → Int → Nat} {mu : Nat → Int → Int} {H : Heap} (hR : RM D cy A ad mu H) (hG : GM mu)  (x : Int) (b : Int) (h_x : in32 x) (hb01 : 0 ≤ b ∧ b ≤ 1) : Met l yX5_hear (Cond.code yX5_hear cX5_hear 4 (some .int) :: wG) (rmF 2 44 0 0) (Pc D cy H [.ref (ad 5 (0)), .int (iI (x)), .int (iI (b))]) (Qm (some (.int (iI (mR (hearME mu x) (mOpen (mHearT mu x b) (mu 1006 (mu 1015 x))))))) (fun H' => RM D cy A ad (mT mu (hearME mu x) (mHearT mu x b)) H') A) 0 0 A := by
  refine met_of (la := [(0, .ref (ad 5 (0))), (1, .int (iI (x))), (2, .int (iI (b)))]) (by decide) (Nat.le_of_ble_eq_true rfl) rfl ?_
  intro p e R s m args below meth c ls hRm hx hb hml hr hlk hin hown hts hsH hK hl
  subst hRm
  have hown : s.vm.findClass "TakinghallModel" = some m.cls := hown
  have hw5 : ∀ w ∈ u_ws RX5 TX5 35, w.before args s = true := fun w h => hts w (uw_X5 w h)
  have hS : va_S A s.heap H [] := by rw [hsH]; exact va_S.rf
  have g913 := mr_913 hG 0
  refine lv_aload_n hx hb dX5_hear_0 rfl (lv_at hl 0 rfl) ?_
  refine lv_aload_n hx hb dX5_hear_1 rfl (lv_at hl 0 rfl) ?_
  refine lv_iload_n hx hb dX5_hear_2 rfl (lv_at hl 1 rfl) ?_
  refine xk_pF (xr_V (As := [.int (iI (x))]) (rest := [.ref (ad 5 (0))]) hx hb hml hown hts hK (c_X5_isInterest hR hG x (by omega)) ms_X5_isInterest kw_922 (wr_recv hK hR (md_5 hG) rfl rfl) ⟨by decide, by decide⟩ ⟨by decide, by decide⟩ rfl rfl hl.1 rfl (lv_room (Nat.le_of_ble_eq_true rfl)) dX5_hear_3) ?_
  refine xr_ifb_ne (tgt := 13) hx hb dX5_hear_6 (by decide) (fun h1 => ?_) (fun h1 => ?_)
  · skip
    refine lv_aload_n hx hb dX5_hear_13 rfl (lv_at hl 0 rfl) ?_
    refine xg_920 (v := mu 920 0) hx hb hw5 hown hK hR (md_5 hG) (hts _ kw_768) rfl dX5_hear_14 ?_
    have q2 : mu 920 0 = 0 := mh_920 hG
    rw [q2, rv_p (Int.le_refl 0)]
    refine lv_iload_n hx hb dX5_hear_17 rfl (lv_at hl 1 rfl) ?_
    refine xa_1020 (v := mu 1020 x) hx hb hK hR (md_40 hG) (by omega) rfl dX5_hear_18 ?_
    have g3 := mr_1020 hG (x)
    refine lv_iconst (v := iI (1)) hx hb dX5_hear_19 rfl ?_
    refine xr_icmp_ne (tgt := 31) hx hb dX5_hear_20 (by decide) (by omega) (by omega) (fun h4 => ?_) (fun h4 => ?_)
    · skip
      refine lv_iconst (v := iI (2)) hx hb dX5_hear_31 rfl ?_
      refine lv_goto (tgt := 36) hx hb dX5_hear_32 (by decide) ?_
      refine xp_900 (v := 2) hx hb hw5 hown hK hR hS (md_5 hG) (hts _ kw_748) dX5_hear_36 (fun H locs hR hS => ?_)
      refine lv_aload_n hx hb dX5_hear_39 rfl (lv_at hl 0 rfl) ?_
      refine xg_900 (v := 2) hx hb hw5 hown hK hR ((dmM_st (by decide) _ _).mpr (md_5 hG)) (hts _ kw_748) (st_s) dX5_hear_40 ?_
      refine xr_if_le (tgt := 48) hx hb dX5_hear_43 (by decide) (by decide) (fun h5 => absurd h5 (by decide)) (fun _ => ?_)
      refine lv_iconst (v := iI (0)) hx hb dX5_hear_46 rfl ?_
      exact xm_i hx hb hr hlk hS dX5_hear_47 (by exact (mR_k (2) (by ((try unfold mDraft at *); (try unfold mTaken at *); unfold hearME; (repeat' split) <;> first | rfl | omega)) (by decide)).symm) (by rw [mT_k (2) (by ((try unfold mDraft at *); (try unfold mTaken at *); unfold hearME; (repeat' split) <;> first | rfl | omega)) (by decide)]; exact hR)
    · skip
      refine lv_aload_n hx hb dX5_hear_23 rfl (lv_at hl 0 rfl) ?_
      refine lv_iload_n hx hb dX5_hear_24 rfl (lv_at hl 1 rfl) ?_
      refine xk_pF (xr_V (As := [.int (iI (x))]) (rest := [.ref (ad 5 (0))]) hx hb hml hown hts hK (c_X5_isDrafted hR hG x (by omega)) ms_X5_isDrafted kw_946 (wr_recv hK hR (md_5 hG) rfl rfl) ⟨by decide, by decide⟩ ⟨by decide, by decide⟩ rfl rfl hl.1 rfl (lv_room (Nat.le_of_ble_eq_true rfl)) dX5_hear_25) ?_
      refine xr_ifb_ne (tgt := 35) hx hb dX5_hear_28 (by decide) (fun h6 => ?_) (fun h6 => ?_)
      · skip
        refine lv_iconst (v := iI (0)) hx hb dX5_hear_35 rfl ?_
        refine xp_900 (v := 0) hx hb hw5 hown hK hR hS (md_5 hG) (hts _ kw_748) dX5_hear_36 (fun H locs hR hS => ?_)
        refine lv_aload_n hx hb dX5_hear_39 rfl (lv_at hl 0 rfl) ?_
        refine xg_900 (v := 0) hx hb hw5 hown hK hR ((dmM_st (by decide) _ _).mpr (md_5 hG)) (hts _ kw_748) (st_s) dX5_hear_40 ?_
        refine xr_if_le (tgt := 48) hx hb dX5_hear_43 (by decide) (by decide) (fun _ => ?_) (fun h7 => absurd h7 (by decide))
        refine lv_aload_n hx hb dX5_hear_48 rfl (lv_at hl 0 rfl) ?_
        refine xg_906 (v := mu 906 0) hx hb hw5 hown hK hR ((dmM_st (by decide) _ _).mpr (md_5 hG)) (hts _ kw_754) ((st_f (by decide)).trans rfl) dX5_hear_49 ?_
        have q8 : mu 906 0 = 0 := mh_906 hG
        rw [q8, rv_p (Int.le_refl 0)]
        refine lv_aload_n hx hb dX5_hear_52 rfl (lv_at hl 0 rfl) ?_
        refine xg_915 (v := mu 915 0) hx hb hw5 hown hK hR ((dmM_st (by decide) _ _).mpr (md_5 hG)) (hts _ kw_763) ((st_f (by decide)).trans rfl) dX5_hear_53 ?_
        have q9 : mu 915 0 = 0 := mh_915 hG
        rw [q9, rv_p (Int.le_refl 0)]
        refine lv_iload_n hx hb dX5_hear_56 rfl (lv_at hl 1 rfl) ?_
        refine xa_1015 (v := mu 1015 x) hx hb hK hR ((dmM_st (by decide) _ _).mpr (md_35 hG)) (by omega) ((st_f (by decide)).trans rfl) dX5_hear_57 ?_
        have g10 := mr_1015 hG (x)
        refine xa_1006 (v := mu 1006 (mu 1015 x)) hx hb hK hR ((dmM_st (by decide) _ _).mpr (md_26 hG)) (by omega) ((st_f (by decide)).trans rfl) dX5_hear_58 ?_
        have g11 := mr_1006 hG (mu 1015 x)
        refine lv_istore_n (i := 3) (lv' := [(3, .int (iI (mu 1006 (mu 1015 x)))), (0, .ref (ad 5 (0))), (1, .int (iI (x))), (2, .int (iI (b)))]) hx hb dX5_hear_59 rfl hl (by decide) rfl (fun ls hl => ?_)
        refine lv_iload_n hx hb dX5_hear_60 rfl (lv_at hl 3 rfl) ?_
        refine xr_if_eq (tgt := 77) hx hb dX5_hear_61 (by decide) (by omega) (fun h12 => ?_) (fun h12 => ?_)
        · skip
          refine lv_aload_n hx hb dX5_hear_77 rfl (lv_at hl 1 rfl) ?_
          refine xg_920 (v := mu 920 0) hx hb hw5 hown hK hR ((dmM_st (by decide) _ _).mpr (md_5 hG)) (hts _ kw_768) ((st_f (by decide)).trans rfl) dX5_hear_78 ?_
          have q13 : mu 920 0 = 0 := mh_920 hG
          rw [q13, rv_p (Int.le_refl 0)]
          refine lv_iload_n hx hb dX5_hear_81 rfl (lv_at hl 2 rfl) ?_
          refine lv_iconst (v := iI (2)) hx hb dX5_hear_82 rfl ?_
          refine xs_1020 (v := 2) hx hb hK hR hS ((dmM_st (by decide) _ _).mpr (md_40 hG)) (by omega) dX5_hear_83 (fun H locs hR hS => ?_)
          refine lv_aload_n hx hb dX5_hear_84 rfl (lv_at hl 1 rfl) ?_
          refine lv_iload_n hx hb dX5_hear_85 rfl (lv_at hl 0 rfl) ?_
          refine xk_pF (xr_V (As := [.int (iI (mu 1006 (mu 1015 x)))]) (rest := []) hx hb hml hown hts hK (c_X5_openOf hR (gc_1020 (gc_900 hG (0) (v := 0) (by omega)) (x) (v := 2) (by omega)) (mu 1006 (mu 1015 x)) (by omega)) ms_X5_openOf kw_954 (wr_recv hK hR ((dmM_st (by decide) _ _).mpr ((dmM_st (by decide) _ _).mpr (md_5 hG))) rfl rfl) ⟨by decide, by decide⟩ ⟨by decide, by decide⟩ rfl rfl hl.1 rfl (lv_room (by decide)) dX5_hear_86) ?_
          exact xm_i hx hb hr hlk hS dX5_hear_89 (by refine Eq.trans ?_ (mR_0 (by ((try unfold mDraft at *); (try unfold mTaken at *); unfold hearME; (repeat' split) <;> first | rfl | omega))).symm; unfold mHearT; first | rw [if_pos (by omega)] | rw [if_neg (by omega)]) (by rw [mT_0 (by ((try unfold mDraft at *); (try unfold mTaken at *); unfold hearME; (repeat' split) <;> first | rfl | omega))]; unfold mHearT; first | (rw [if_pos (by omega)]; exact hR) | (rw [if_neg (by omega)]; exact hR))
        · skip
          refine lv_aload_n hx hb dX5_hear_64 rfl (lv_at hl 1 rfl) ?_
          refine lv_aload_n hx hb dX5_hear_65 rfl (lv_at hl 1 rfl) ?_
          refine xg_915 (v := mu 915 0) hx hb hw5 hown hK hR ((dmM_st (by decide) _ _).mpr (md_5 hG)) (hts _ kw_763) ((st_f (by decide)).trans rfl) dX5_hear_66 ?_
          have q14 : mu 915 0 = 0 := mh_915 hG
          rw [q14, rv_p (Int.le_refl 0)]
          refine lv_iload_n hx hb dX5_hear_69 rfl (lv_at hl 2 rfl) ?_
          refine xa_1015 (v := mu 1015 x) hx hb hK hR ((dmM_st (by decide) _ _).mpr (md_35 hG)) (by omega) ((st_f (by decide)).trans rfl) dX5_hear_70 ?_
          refine xk_mF (xr_V (As := [.int (iI (mu 1015 x))]) (rest := []) hx hb hml hown hts hK (c_X5_letGo hR (gc_900 hG (0) (v := 0) (by omega)) (mu 1015 x) (by omega)) ms_X5_letGo kw_962 (wr_recv hK hR ((dmM_st (by decide) _ _).mpr (md_5 hG)) rfl rfl) ⟨by decide, by decide⟩ ⟨by decide, by decide⟩ rfl rfl hl.1 rfl (lv_room (by decide)) dX5_hear_71) hS (fun H locs hR hS hz hq => ?_)
          have G15 : GM (mLgT (st mu 900 (0) (0)) (mu 1015 x)) := gm_lgN (gc_900 hG (0) (v := 0) (by omega)) _ _
          refine lv_goto (tgt := 84) hx hb dX5_hear_74 (by decide) ?_
          refine lv_aload_n hx hb dX5_hear_84 rfl (lv_at hl 1 rfl) ?_
          refine lv_iload_n hx hb dX5_hear_85 rfl (lv_at hl 0 rfl) ?_
          refine xk_pF (xr_V (As := [.int (iI (mu 1006 (mu 1015 x)))]) (rest := []) hx hb hml hown hts hK (c_X5_openOf hR G15 (mu 1006 (mu 1015 x)) (by omega)) ms_X5_openOf kw_954 (wr_recv hK hR (md_5 G15) rfl rfl) ⟨by decide, by decide⟩ ⟨by decide, by decide⟩ rfl rfl hl.1 rfl (lv_room (by decide)) dX5_hear_86) ?_
          exact xm_i hx hb hr hlk hS dX5_hear_89 (by refine Eq.trans ?_ (mR_0 (by ((try unfold mDraft at *); (try unfold mTaken at *); unfold hearME; (repeat' split) <;> first | rfl | omega))).symm; unfold mHearT; first | rw [if_pos (by omega)] | rw [if_neg (by omega)]) (by rw [mT_0 (by ((try unfold mDraft at *); (try unfold mTaken at *); unfold hearME; (repeat' split) <;> first | rfl | omega))]; unfold mHearT; first | (rw [if_pos (by omega)]; exact hR) | (rw [if_neg (by omega)]; exact hR))
      · skip
        refine lv_iconst (v := iI (2)) hx hb dX5_hear_31 rfl ?_
        refine lv_goto (tgt := 36) hx hb dX5_hear_32 (by decide) ?_
        refine xp_900 (v := 2) hx hb hw5 hown hK hR hS (md_5 hG) (hts _ kw_748) dX5_hear_36 (fun H locs hR hS => ?_)
        refine lv_aload_n hx hb dX5_hear_39 rfl (lv_at hl 0 rfl) ?_
        refine xg_900 (v := 2) hx hb hw5 hown hK hR ((dmM_st (by decide) _ _).mpr (md_5 hG)) (hts _ kw_748) (st_s) dX5_hear_40 ?_
        refine xr_if_le (tgt := 48) hx hb dX5_hear_43 (by decide) (by decide) (fun h16 => absurd h16 (by decide)) (fun _ => ?_)
        refine lv_iconst (v := iI (0)) hx hb dX5_hear_46 rfl ?_
        exact xm_i hx hb hr hlk hS dX5_hear_47 (by exact (mR_k (2) (by ((try unfold mDraft at *); (try unfold mTaken at *); unfold hearME; (repeat' split) <;> first | rfl | omega)) (by decide)).symm) (by rw [mT_k (2) (by ((try unfold mDraft at *); (try unfold mTaken at *); unfold hearME; (repeat' split) <;> first | rfl | omega)) (by decide)]; exact hR)
  · skip
    refine lv_iconst (v := iI (1)) hx hb dX5_hear_9 rfl ?_
    refine lv_goto (tgt := 36) hx hb dX5_hear_10 (by decide) ?_
    refine xp_900 (v := 1) hx hb hw5 hown hK hR hS (md_5 hG) (hts _ kw_748) dX5_hear_36 (fun H locs hR hS => ?_)
    refine lv_aload_n hx hb dX5_hear_39 rfl (lv_at hl 0 rfl) ?_
    refine xg_900 (v := 1) hx hb hw5 hown hK hR ((dmM_st (by decide) _ _).mpr (md_5 hG)) (hts _ kw_748) (st_s) dX5_hear_40 ?_
    refine xr_if_le (tgt := 48) hx hb dX5_hear_43 (by decide) (by decide) (fun h17 => absurd h17 (by decide)) (fun _ => ?_)
    refine lv_iconst (v := iI (0)) hx hb dX5_hear_46 rfl ?_
    exact xm_i hx hb hr hlk hS dX5_hear_47 (by exact (mR_k (1) (by ((try unfold mDraft at *); (try unfold mTaken at *); unfold hearME; (repeat' split) <;> first | rfl | omega)) (by decide)).symm) (by rw [mT_k (1) (by ((try unfold mDraft at *); (try unfold mTaken at *); unfold hearME; (repeat' split) <;> first | rfl | omega)) (by decide)]; exact hR)
theorem ms_X5_confirm : MVi RX5 yX5_confirm cX5_confirm 2 (some .int) 1 := ⟨kw_969, kw_967, kw_968, kw_4, rfl, by decide, by decide, by decide +kernel⟩
set_option maxRecDepth 100000 in
set_option maxHeartbeats 4000000 in
theorem c_X5_confirm {l : Launch} {D : va_G} {cy : Nat → ClassId} {A : Nat → Prop} {ad : Nat → Int → Nat} {mu : Nat → Int → Int} {H : Heap} (hR : RM D cy A ad mu H) (hG : GM mu)  (w : Int) (h_w : in32 w) : Met l yX5_confirm (Cond.code yX5_confirm cX5_confirm 2 (some .int) :: wG) (rmF 2 44 0 0) (Pc D cy H [.ref (ad 5 (0)), .int (iI (w))]) (Qm (some (.int (iI (mR (confirmME mu w) (mNeed (st (st (st mu 900 0 0) 1029 w 1) 1030 w (mu 901 0)) w 1))))) (fun H' => RM D cy A ad (mT mu (confirmME mu w) (st (st (st mu 900 0 0) 1029 w 1) 1030 w (mu 901 0))) H') A) 0 0 A := by
  refine met_of (la := [(0, .ref (ad 5 (0))), (1, .int (iI (w)))]) (by decide) (Nat.le_of_ble_eq_true rfl) rfl ?_
  intro p e R s m args below meth c ls hRm hx hb hml hr hlk hin hown hts hsH hK hl
  subst hRm
  have hown : s.vm.findClass "TakinghallModel" = some m.cls := hown
  have hw5 : ∀ w ∈ u_ws RX5 TX5 35, w.before args s = true := fun w h => hts w (uw_X5 w h)
  have hS : va_S A s.heap H [] := by rw [hsH]; exact va_S.rf
  have g913 := mr_913 hG 0
  have g926 := mr_926 hG 0
  refine lv_aload_n hx hb dX5_confirm_0 rfl (lv_at hl 0 rfl) ?_
  refine lv_aload_n hx hb dX5_confirm_1 rfl (lv_at hl 0 rfl) ?_
  refine lv_iload_n hx hb dX5_confirm_2 rfl (lv_at hl 1 rfl) ?_
  refine xk_pF (xr_V (As := [.int (iI (w))]) (rest := [.ref (ad 5 (0))]) hx hb hml hown hts hK (c_X5_isScheme hR hG w (by omega)) ms_X5_isScheme kw_934 (wr_recv hK hR (md_5 hG) rfl rfl) ⟨by decide, by decide⟩ ⟨by decide, by decide⟩ rfl rfl hl.1 rfl (lv_room (Nat.le_of_ble_eq_true rfl)) dX5_confirm_3) ?_
  refine xr_ifb_ne (tgt := 13) hx hb dX5_confirm_6 (by decide) (fun h1 => ?_) (fun h1 => ?_)
  · skip
    refine lv_iconst (v := iI (0)) hx hb dX5_confirm_13 rfl ?_
    refine xp_900 (v := 0) hx hb hw5 hown hK hR hS (md_5 hG) (hts _ kw_748) dX5_confirm_14 (fun H locs hR hS => ?_)
    refine lv_aload_n hx hb dX5_confirm_17 rfl (lv_at hl 0 rfl) ?_
    refine xg_900 (v := 0) hx hb hw5 hown hK hR ((dmM_st (by decide) _ _).mpr (md_5 hG)) (hts _ kw_748) (st_s) dX5_confirm_18 ?_
    refine xr_if_ne (tgt := 60) hx hb dX5_confirm_21 (by decide) (by decide) (fun h2 => absurd h2 (by decide)) (fun _ => ?_)
    refine lv_aload_n hx hb dX5_confirm_24 rfl (lv_at hl 0 rfl) ?_
    refine lv_aload_n hx hb dX5_confirm_25 rfl (lv_at hl 0 rfl) ?_
    refine xg_929 (v := mu 929 0) hx hb hw5 hown hK hR ((dmM_st (by decide) _ _).mpr (md_5 hG)) (hts _ kw_777) ((st_f (by decide)).trans rfl) dX5_confirm_26 ?_
    have q3 : mu 929 0 = 0 := mh_929 hG
    rw [q3, rv_p (Int.le_refl 0)]
    refine lv_iload_n hx hb dX5_confirm_29 rfl (lv_at hl 1 rfl) ?_
    refine xa_1029 (v := mu 1029 w) hx hb hK hR ((dmM_st (by decide) _ _).mpr (md_49 hG)) (by omega) ((st_f (by decide)).trans rfl) dX5_confirm_30 ?_
    have g4 := mr_1029 hG (w)
    refine xr_if_ne (tgt := 52) hx hb dX5_confirm_31 (by decide) (by omega) (fun h5 => ?_) (fun h5 => ?_)
    · skip
      refine lv_iconst (v := iI (2)) hx hb dX5_confirm_52 rfl ?_
      refine lv_goto (tgt := 57) hx hb dX5_confirm_53 (by decide) ?_
      refine xp_900 (v := 2) hx hb hw5 hown hK hR hS ((dmM_st (by decide) _ _).mpr (md_5 hG)) (hts _ kw_748) dX5_confirm_57 (fun H locs hR hS => ?_)
      rw [st_st] at hR
      refine lv_aload_n hx hb dX5_confirm_60 rfl (lv_at hl 0 rfl) ?_
      refine xg_900 (v := 2) hx hb hw5 hown hK hR ((dmM_st (by decide) _ _).mpr (md_5 hG)) (hts _ kw_748) (st_s) dX5_confirm_61 ?_
      refine xr_if_le (tgt := 69) hx hb dX5_confirm_64 (by decide) (by decide) (fun h6 => absurd h6 (by decide)) (fun _ => ?_)
      refine lv_iconst (v := iI (0)) hx hb dX5_confirm_67 rfl ?_
      exact xm_i hx hb hr hlk hS dX5_confirm_68 (by exact (mR_k (2) (by ((try unfold mDraft at *); (try unfold mTaken at *); unfold confirmME; (repeat' split) <;> first | rfl | omega)) (by decide)).symm) (by rw [mT_k (2) (by ((try unfold mDraft at *); (try unfold mTaken at *); unfold confirmME; (repeat' split) <;> first | rfl | omega)) (by decide)]; exact hR)
    · skip
      refine lv_aload_n hx hb dX5_confirm_34 rfl (lv_at hl 0 rfl) ?_
      refine lv_iload_n hx hb dX5_confirm_35 rfl (lv_at hl 1 rfl) ?_
      refine lv_iconst (v := iI (1)) hx hb dX5_confirm_36 rfl ?_
      refine xk_pF (xr_V (As := [.int (iI (w)), .int (iI (1))]) (rest := [.ref (ad 5 (0))]) hx hb hml hown hts hK (c_X5_neededBy hR (gc_900 hG (0) (v := 0) (by omega)) w 1 (by omega) (by omega)) ms_X5_neededBy kw_938 (wr_recv hK hR ((dmM_st (by decide) _ _).mpr (md_5 hG)) rfl rfl) ⟨by decide, by decide⟩ ⟨by decide, by decide⟩ rfl rfl hl.1 rfl (lv_room (Nat.le_of_ble_eq_true rfl)) dX5_confirm_37) ?_
      rw [show (mNeed (st mu 900 (0) (0)) w 1) = (mNeed mu w 1) from by first | rfl | (simp only [mSum_9, mOwnB_9, mShare_9, mLeft_9s]; done)]
      have g7 := mNeed_rng mu (w) (1)
      refine xr_if_eq (tgt := 52) hx hb dX5_confirm_40 (by decide) (by omega) (fun h8 => ?_) (fun h8 => ?_)
      · skip
        refine lv_iconst (v := iI (2)) hx hb dX5_confirm_52 rfl ?_
        refine lv_goto (tgt := 57) hx hb dX5_confirm_53 (by decide) ?_
        refine xp_900 (v := 2) hx hb hw5 hown hK hR hS ((dmM_st (by decide) _ _).mpr (md_5 hG)) (hts _ kw_748) dX5_confirm_57 (fun H locs hR hS => ?_)
        rw [st_st] at hR
        refine lv_aload_n hx hb dX5_confirm_60 rfl (lv_at hl 0 rfl) ?_
        refine xg_900 (v := 2) hx hb hw5 hown hK hR ((dmM_st (by decide) _ _).mpr (md_5 hG)) (hts _ kw_748) (st_s) dX5_confirm_61 ?_
        refine xr_if_le (tgt := 69) hx hb dX5_confirm_64 (by decide) (by decide) (fun h9 => absurd h9 (by decide)) (fun _ => ?_)
        refine lv_iconst (v := iI (0)) hx hb dX5_confirm_67 rfl ?_
        exact xm_i hx hb hr hlk hS dX5_confirm_68 (by exact (mR_k (2) (by ((try unfold mDraft at *); (try unfold mTaken at *); unfold confirmME; (repeat' split) <;> first | rfl | omega)) (by decide)).symm) (by rw [mT_k (2) (by ((try unfold mDraft at *); (try unfold mTaken at *); unfold confirmME; (repeat' split) <;> first | rfl | omega)) (by decide)]; exact hR)
      · skip
        refine lv_aload_n hx hb dX5_confirm_43 rfl (lv_at hl 0 rfl) ?_
        refine lv_iload_n hx hb dX5_confirm_44 rfl (lv_at hl 1 rfl) ?_
        refine xk_pF (xr_V (As := [.int (iI (w))]) (rest := [.ref (ad 5 (0))]) hx hb hml hown hts hK (c_X5_stopper hR (gc_900 hG (0) (v := 0) (by omega)) w (by omega)) ms_X5_stopper kw_970 (wr_recv hK hR ((dmM_st (by decide) _ _).mpr (md_5 hG)) rfl rfl) ⟨by decide, by decide⟩ ⟨by decide, by decide⟩ rfl rfl hl.1 rfl (lv_room (Nat.le_of_ble_eq_true rfl)) dX5_confirm_45) ?_
        rw [show (mStopper (st mu 900 (0) (0)) w) = (mStopper mu w) from by first | rfl | (simp only [mSum_9, mOwnB_9, mShare_9, mLeft_9s]; done)]
        have g10 := mStopper_rng hG (w)
        refine lv_iconst (v := iI (-1)) hx hb dX5_confirm_48 rfl ?_
        refine xr_icmp_eq (tgt := 56) hx hb dX5_confirm_49 (by decide) (by omega) (by omega) (fun h11 => ?_) (fun h11 => ?_)
        · skip
          refine lv_iconst (v := iI (0)) hx hb dX5_confirm_56 rfl ?_
          refine xp_900 (v := 0) hx hb hw5 hown hK hR hS ((dmM_st (by decide) _ _).mpr (md_5 hG)) (hts _ kw_748) dX5_confirm_57 (fun H locs hR hS => ?_)
          rw [st_st] at hR
          refine lv_aload_n hx hb dX5_confirm_60 rfl (lv_at hl 0 rfl) ?_
          refine xg_900 (v := 0) hx hb hw5 hown hK hR ((dmM_st (by decide) _ _).mpr (md_5 hG)) (hts _ kw_748) (st_s) dX5_confirm_61 ?_
          refine xr_if_le (tgt := 69) hx hb dX5_confirm_64 (by decide) (by decide) (fun _ => ?_) (fun h12 => absurd h12 (by decide))
          refine lv_aload_n hx hb dX5_confirm_69 rfl (lv_at hl 0 rfl) ?_
          refine xg_929 (v := mu 929 0) hx hb hw5 hown hK hR ((dmM_st (by decide) _ _).mpr (md_5 hG)) (hts _ kw_777) ((st_f (by decide)).trans rfl) dX5_confirm_70 ?_
          have q13 : mu 929 0 = 0 := mh_929 hG
          rw [q13, rv_p (Int.le_refl 0)]
          refine lv_iload_n hx hb dX5_confirm_73 rfl (lv_at hl 1 rfl) ?_
          refine lv_iconst (v := iI (1)) hx hb dX5_confirm_74 rfl ?_
          refine xs_1029 (v := 1) hx hb hK hR hS ((dmM_st (by decide) _ _).mpr (md_49 hG)) (by omega) dX5_confirm_75 (fun H locs hR hS => ?_)
          refine lv_aload_n hx hb dX5_confirm_76 rfl (lv_at hl 0 rfl) ?_
          refine xg_930 (v := mu 930 0) hx hb hw5 hown hK hR ((dmM_st (by decide) _ _).mpr ((dmM_st (by decide) _ _).mpr (md_5 hG))) (hts _ kw_778) ((st_f (by decide)).trans ((st_f (by decide)).trans rfl)) dX5_confirm_77 ?_
          have q14 : mu 930 0 = 0 := mh_930 hG
          rw [q14, rv_p (Int.le_refl 0)]
          refine lv_iload_n hx hb dX5_confirm_80 rfl (lv_at hl 1 rfl) ?_
          refine lv_aload_n hx hb dX5_confirm_81 rfl (lv_at hl 0 rfl) ?_
          refine xg_901 (v := mu 901 0) hx hb hw5 hown hK hR ((dmM_st (by decide) _ _).mpr ((dmM_st (by decide) _ _).mpr (md_5 hG))) (hts _ kw_749) ((st_f (by decide)).trans ((st_f (by decide)).trans rfl)) dX5_confirm_82 ?_
          have g15 := mr_901 hG (0)
          refine xs_1030 (v := mu 901 0) hx hb hK hR hS ((dmM_st (by decide) _ _).mpr ((dmM_st (by decide) _ _).mpr (md_50 hG))) (by omega) dX5_confirm_85 (fun H locs hR hS => ?_)
          refine lv_aload_n hx hb dX5_confirm_86 rfl (lv_at hl 0 rfl) ?_
          refine lv_iload_n hx hb dX5_confirm_87 rfl (lv_at hl 1 rfl) ?_
          refine lv_iconst (v := iI (1)) hx hb dX5_confirm_88 rfl ?_
          refine xk_pF (xr_V (As := [.int (iI (w)), .int (iI (1))]) (rest := []) hx hb hml hown hts hK (c_X5_neededBy hR (gc_1030 (gc_1029 (gc_900 hG (0) (v := 0) (by omega)) (w) (v := 1) (by omega)) (w) (v := mu 901 0) (by omega)) w 1 (by omega) (by omega)) ms_X5_neededBy kw_938 (wr_recv hK hR ((dmM_st (by decide) _ _).mpr ((dmM_st (by decide) _ _).mpr ((dmM_st (by decide) _ _).mpr (md_5 hG)))) rfl rfl) ⟨by decide, by decide⟩ ⟨by decide, by decide⟩ rfl rfl hl.1 rfl (lv_room (by decide)) dX5_confirm_89) ?_
          have g16 := mNeed_rng (st (st (st mu 900 (0) (0)) 1029 (w) (1)) 1030 (w) (mu 901 0)) (w) (1)
          exact xm_i hx hb hr hlk hS dX5_confirm_92 (by refine Eq.trans ?_ (mR_0 (by ((try unfold mDraft at *); (try unfold mTaken at *); unfold confirmME; (repeat' split) <;> first | rfl | omega))).symm; rfl) (by rw [mT_0 (by ((try unfold mDraft at *); (try unfold mTaken at *); unfold confirmME; (repeat' split) <;> first | rfl | omega))]; exact hR)
        · skip
          refine lv_iconst (v := iI (2)) hx hb dX5_confirm_52 rfl ?_
          refine lv_goto (tgt := 57) hx hb dX5_confirm_53 (by decide) ?_
          refine xp_900 (v := 2) hx hb hw5 hown hK hR hS ((dmM_st (by decide) _ _).mpr (md_5 hG)) (hts _ kw_748) dX5_confirm_57 (fun H locs hR hS => ?_)
          rw [st_st] at hR
          refine lv_aload_n hx hb dX5_confirm_60 rfl (lv_at hl 0 rfl) ?_
          refine xg_900 (v := 2) hx hb hw5 hown hK hR ((dmM_st (by decide) _ _).mpr (md_5 hG)) (hts _ kw_748) (st_s) dX5_confirm_61 ?_
          refine xr_if_le (tgt := 69) hx hb dX5_confirm_64 (by decide) (by decide) (fun h17 => absurd h17 (by decide)) (fun _ => ?_)
          refine lv_iconst (v := iI (0)) hx hb dX5_confirm_67 rfl ?_
          exact xm_i hx hb hr hlk hS dX5_confirm_68 (by exact (mR_k (2) (by ((try unfold mDraft at *); (try unfold mTaken at *); unfold confirmME; (repeat' split) <;> first | rfl | omega)) (by decide)).symm) (by rw [mT_k (2) (by ((try unfold mDraft at *); (try unfold mTaken at *); unfold confirmME; (repeat' split) <;> first | rfl | omega)) (by decide)]; exact hR)
  · skip
    refine lv_iconst (v := iI (1)) hx hb dX5_confirm_9 rfl ?_
    refine lv_goto (tgt := 14) hx hb dX5_confirm_10 (by decide) ?_
    refine xp_900 (v := 1) hx hb hw5 hown hK hR hS (md_5 hG) (hts _ kw_748) dX5_confirm_14 (fun H locs hR hS => ?_)
    refine lv_aload_n hx hb dX5_confirm_17 rfl (lv_at hl 0 rfl) ?_
    refine xg_900 (v := 1) hx hb hw5 hown hK hR ((dmM_st (by decide) _ _).mpr (md_5 hG)) (hts _ kw_748) (st_s) dX5_confirm_18 ?_
    refine xr_if_ne (tgt := 60) hx hb dX5_confirm_21 (by decide) (by decide) (fun _ => ?_) (fun h18 => absurd h18 (by decide))
    refine lv_aload_n hx hb dX5_confirm_60 rfl (lv_at hl 0 rfl) ?_
    refine xg_900 (v := 1) hx hb hw5 hown hK hR ((dmM_st (by decide) _ _).mpr (md_5 hG)) (hts _ kw_748) (st_s) dX5_confirm_61 ?_
    refine xr_if_le (tgt := 69) hx hb dX5_confirm_64 (by decide) (by decide) (fun h19 => absurd h19 (by decide)) (fun _ => ?_)
    refine lv_iconst (v := iI (0)) hx hb dX5_confirm_67 rfl ?_
    exact xm_i hx hb hr hlk hS dX5_confirm_68 (by exact (mR_k (1) (by ((try unfold mDraft at *); (try unfold mTaken at *); unfold confirmME; (repeat' split) <;> first | rfl | omega)) (by decide)).symm) (by rw [mT_k (1) (by ((try unfold mDraft at *); (try unfold mTaken at *); unfold confirmME; (repeat' split) <;> first | rfl | omega)) (by decide)]; exact hR)
theorem ms_X5_whoStops : MVi RX5 yX5_whoStops cX5_whoStops 2 (some .int) 1 := ⟨kw_977, kw_975, kw_976, kw_4, rfl, by decide, by decide, by decide +kernel⟩
set_option maxRecDepth 100000 in
set_option maxHeartbeats 4000000 in
theorem c_X5_whoStops {l : Launch} {D : va_G} {cy : Nat → ClassId} {A : Nat → Prop} {ad : Nat → Int → Nat} {mu : Nat → Int → Int} {H : Heap} (hR : RM D cy A ad mu H) (hG : GM mu)  (w : Int) (h_w : in32 w) : Met l yX5_whoStops (Cond.code yX5_whoStops cX5_whoStops 2 (some .int) :: wG) (rmF 2 44 0 0) (Pc D cy H [.ref (ad 5 (0)), .int (iI (w))]) (Qm (some (.int (iI (mR (sME mu w) (mWhoR mu w))))) (fun H' => RM D cy A ad (st mu 900 0 (sME mu w)) H') A) 0 0 A := by
  refine met_of (la := [(0, .ref (ad 5 (0))), (1, .int (iI (w)))]) (by decide) (Nat.le_of_ble_eq_true rfl) rfl ?_
  intro p e R s m args below meth c ls hRm hx hb hml hr hlk hin hown hts hsH hK hl
  subst hRm
  have hown : s.vm.findClass "TakinghallModel" = some m.cls := hown
  have hw5 : ∀ w ∈ u_ws RX5 TX5 35, w.before args s = true := fun w h => hts w (uw_X5 w h)
  have hS : va_S A s.heap H [] := by rw [hsH]; exact va_S.rf
  have g913 := mr_913 hG 0
  have g926 := mr_926 hG 0
  refine lv_aload_n hx hb dX5_whoStops_0 rfl (lv_at hl 0 rfl) ?_
  refine lv_aload_n hx hb dX5_whoStops_1 rfl (lv_at hl 0 rfl) ?_
  refine lv_iload_n hx hb dX5_whoStops_2 rfl (lv_at hl 1 rfl) ?_
  refine xk_pF (xr_V (As := [.int (iI (w))]) (rest := [.ref (ad 5 (0))]) hx hb hml hown hts hK (c_X5_isScheme hR hG w (by omega)) ms_X5_isScheme kw_934 (wr_recv hK hR (md_5 hG) rfl rfl) ⟨by decide, by decide⟩ ⟨by decide, by decide⟩ rfl rfl hl.1 rfl (lv_room (Nat.le_of_ble_eq_true rfl)) dX5_whoStops_3) ?_
  refine xr_ifb_ne (tgt := 13) hx hb dX5_whoStops_6 (by decide) (fun h1 => ?_) (fun h1 => ?_)
  · skip
    refine lv_iconst (v := iI (0)) hx hb dX5_whoStops_13 rfl ?_
    refine xp_900 (v := 0) hx hb hw5 hown hK hR hS (md_5 hG) (hts _ kw_748) dX5_whoStops_14 (fun H locs hR hS => ?_)
    refine lv_aload_n hx hb dX5_whoStops_17 rfl (lv_at hl 0 rfl) ?_
    refine xg_900 (v := 0) hx hb hw5 hown hK hR ((dmM_st (by decide) _ _).mpr (md_5 hG)) (hts _ kw_748) (st_s) dX5_whoStops_18 ?_
    refine xr_if_le (tgt := 28) hx hb dX5_whoStops_21 (by decide) (by decide) (fun _ => ?_) (fun h2 => absurd h2 (by decide))
    refine lv_aload_n hx hb dX5_whoStops_28 rfl (lv_at hl 0 rfl) ?_
    refine xg_929 (v := mu 929 0) hx hb hw5 hown hK hR ((dmM_st (by decide) _ _).mpr (md_5 hG)) (hts _ kw_777) ((st_f (by decide)).trans rfl) dX5_whoStops_29 ?_
    have q3 : mu 929 0 = 0 := mh_929 hG
    rw [q3, rv_p (Int.le_refl 0)]
    refine lv_iload_n hx hb dX5_whoStops_32 rfl (lv_at hl 1 rfl) ?_
    refine xa_1029 (v := mu 1029 w) hx hb hK hR ((dmM_st (by decide) _ _).mpr (md_49 hG)) (by omega) ((st_f (by decide)).trans rfl) dX5_whoStops_33 ?_
    have g4 := mr_1029 hG (w)
    refine xr_if_ne (tgt := 45) hx hb dX5_whoStops_34 (by decide) (by omega) (fun h5 => ?_) (fun h5 => ?_)
    · skip
      refine lv_iconst (v := iI (-1)) hx hb dX5_whoStops_45 rfl ?_
      exact xm_i hx hb hr hlk hS dX5_whoStops_46 (by refine Eq.trans ?_ (mR_0 (by ((try unfold mDraft at *); (try unfold mTaken at *); unfold sME; (repeat' split) <;> first | rfl | omega))).symm; unfold mWhoR; first | rw [if_pos (by omega)] | rw [if_neg (by omega)]) (by exact cast (congrArg (fun z => RM D cy A ad (st mu 900 0 z) H) (Eq.symm (by ((try unfold mDraft at *); (try unfold mTaken at *); unfold sME; (repeat' split) <;> first | rfl | omega)))) hR)
    · skip
      refine lv_aload_n hx hb dX5_whoStops_37 rfl (lv_at hl 0 rfl) ?_
      refine lv_iload_n hx hb dX5_whoStops_38 rfl (lv_at hl 1 rfl) ?_
      refine xk_pF (xr_V (As := [.int (iI (w))]) (rest := []) hx hb hml hown hts hK (c_X5_stopper hR (gc_900 hG (0) (v := 0) (by omega)) w (by omega)) ms_X5_stopper kw_970 (wr_recv hK hR ((dmM_st (by decide) _ _).mpr (md_5 hG)) rfl rfl) ⟨by decide, by decide⟩ ⟨by decide, by decide⟩ rfl rfl hl.1 rfl (lv_room (by decide)) dX5_whoStops_39) ?_
      rw [show (mStopper (st mu 900 (0) (0)) w) = (mStopper mu w) from by first | rfl | (simp only [mSum_9, mOwnB_9, mShare_9, mLeft_9s]; done)]
      have g6 := mStopper_rng hG (w)
      refine lv_goto (tgt := 46) hx hb dX5_whoStops_42 (by decide) ?_
      exact xm_i hx hb hr hlk hS dX5_whoStops_46 (by refine Eq.trans ?_ (mR_0 (by ((try unfold mDraft at *); (try unfold mTaken at *); unfold sME; (repeat' split) <;> first | rfl | omega))).symm; unfold mWhoR; first | rw [if_pos (by omega)] | rw [if_neg (by omega)]) (by exact cast (congrArg (fun z => RM D cy A ad (st mu 900 0 z) H) (Eq.symm (by ((try unfold mDraft at *); (try unfold mTaken at *); unfold sME; (repeat' split) <;> first | rfl | omega)))) hR)
  · skip
    refine lv_iconst (v := iI (1)) hx hb dX5_whoStops_9 rfl ?_
    refine lv_goto (tgt := 14) hx hb dX5_whoStops_10 (by decide) ?_
    refine xp_900 (v := 1) hx hb hw5 hown hK hR hS (md_5 hG) (hts _ kw_748) dX5_whoStops_14 (fun H locs hR hS => ?_)
    refine lv_aload_n hx hb dX5_whoStops_17 rfl (lv_at hl 0 rfl) ?_
    refine xg_900 (v := 1) hx hb hw5 hown hK hR ((dmM_st (by decide) _ _).mpr (md_5 hG)) (hts _ kw_748) (st_s) dX5_whoStops_18 ?_
    refine xr_if_le (tgt := 28) hx hb dX5_whoStops_21 (by decide) (by decide) (fun h7 => absurd h7 (by decide)) (fun _ => ?_)
    refine lv_iconst (v := iI (0)) hx hb dX5_whoStops_24 rfl ?_
    refine lv_goto (tgt := 46) hx hb dX5_whoStops_25 (by decide) ?_
    exact xm_i hx hb hr hlk hS dX5_whoStops_46 (by exact (mR_k (1) (by ((try unfold mDraft at *); (try unfold mTaken at *); unfold sME; (repeat' split) <;> first | rfl | omega)) (by decide)).symm) (by exact cast (congrArg (fun z => RM D cy A ad (st mu 900 0 z) H) (Eq.symm (by ((try unfold mDraft at *); (try unfold mTaken at *); unfold sME; (repeat' split) <;> first | rfl | omega)))) hR)
theorem ms_X5_schemeOf : MVi RX5 yX5_schemeOf cX5_schemeOf 3 (some .int) 2 := ⟨kw_989, kw_987, kw_988, kw_4, rfl, by decide, by decide, by decide +kernel⟩
set_option maxRecDepth 100000 in
set_option maxHeartbeats 4000000 in
theorem c_X5_schemeOf {l : Launch} {D : va_G} {cy : Nat → ClassId} {A : Nat → Prop} {ad : Nat → Int → Nat} {mu : Nat → Int → Int} {H : Heap} (hR : RM D cy A ad mu H) (hG : GM mu)  (x : Int) (w : Int) (h_x : in32 x) (h_w : in32 w) : Met l yX5_schemeOf (Cond.code yX5_schemeOf cX5_schemeOf 3 (some .int) :: wG) (rmF 2 44 0 0) (Pc D cy H [.ref (ad 5 (0)), .int (iI (x)), .int (iI (w))]) (Qm (some (.int (iI (mR (schemeOfME mu x w) (mSchemeR mu x w))))) (fun H' => RM D cy A ad (st mu 900 0 (schemeOfME mu x w)) H') A) 0 0 A := by
  refine met_of (la := [(0, .ref (ad 5 (0))), (1, .int (iI (x))), (2, .int (iI (w)))]) (by decide) (Nat.le_of_ble_eq_true rfl) rfl ?_
  intro p e R s m args below meth c ls hRm hx hb hml hr hlk hin hown hts hsH hK hl
  subst hRm
  have hown : s.vm.findClass "TakinghallModel" = some m.cls := hown
  have hw5 : ∀ w ∈ u_ws RX5 TX5 35, w.before args s = true := fun w h => hts w (uw_X5 w h)
  have hS : va_S A s.heap H [] := by rw [hsH]; exact va_S.rf
  have g926 := mr_926 hG 0
  refine lv_aload_n hx hb dX5_schemeOf_0 rfl (lv_at hl 0 rfl) ?_
  refine lv_aload_n hx hb dX5_schemeOf_1 rfl (lv_at hl 0 rfl) ?_
  refine lv_iload_n hx hb dX5_schemeOf_2 rfl (lv_at hl 1 rfl) ?_
  refine xk_pF (xr_V (As := [.int (iI (x))]) (rest := [.ref (ad 5 (0))]) hx hb hml hown hts hK (c_X5_isScheme hR hG x (by omega)) ms_X5_isScheme kw_934 (wr_recv hK hR (md_5 hG) rfl rfl) ⟨by decide, by decide⟩ ⟨by decide, by decide⟩ rfl rfl hl.1 rfl (lv_room (Nat.le_of_ble_eq_true rfl)) dX5_schemeOf_3) ?_
  refine xr_ifb_ne (tgt := 13) hx hb dX5_schemeOf_6 (by decide) (fun h1 => ?_) (fun h1 => ?_)
  · skip
    refine lv_aload_n hx hb dX5_schemeOf_13 rfl (lv_at hl 0 rfl) ?_
    refine lv_iload_n hx hb dX5_schemeOf_14 rfl (lv_at hl 2 rfl) ?_
    refine lv_iconst (v := iI (0)) hx hb dX5_schemeOf_15 rfl ?_
    refine lv_iconst (v := iI (3)) hx hb dX5_schemeOf_16 rfl ?_
    refine xk_pF (xr_V (As := [.int (iI (w)), .int (iI (0)), .int (iI (3))]) (rest := [.ref (ad 5 (0))]) hx hb hml hown hts hK (c_X5_between hR hG w 0 3 (by omega) (by omega) (by omega)) ms_X5_between kw_869 (wr_recv hK hR (md_5 hG) rfl rfl) ⟨by decide, by decide⟩ ⟨by decide, by decide⟩ rfl rfl hl.1 rfl (lv_room (Nat.le_of_ble_eq_true rfl)) dX5_schemeOf_17) ?_
    refine xr_ifb_ne (tgt := 27) hx hb dX5_schemeOf_20 (by decide) (fun h2 => ?_) (fun h2 => ?_)
    · skip
      refine lv_iconst (v := iI (0)) hx hb dX5_schemeOf_27 rfl ?_
      refine xp_900 (v := 0) hx hb hw5 hown hK hR hS (md_5 hG) (hts _ kw_748) dX5_schemeOf_28 (fun H locs hR hS => ?_)
      refine lv_aload_n hx hb dX5_schemeOf_31 rfl (lv_at hl 0 rfl) ?_
      refine xg_900 (v := 0) hx hb hw5 hown hK hR ((dmM_st (by decide) _ _).mpr (md_5 hG)) (hts _ kw_748) (st_s) dX5_schemeOf_32 ?_
      refine xr_if_le (tgt := 40) hx hb dX5_schemeOf_35 (by decide) (by decide) (fun _ => ?_) (fun h3 => absurd h3 (by decide))
      refine lv_iload_n hx hb dX5_schemeOf_40 rfl (lv_at hl 2 rfl) ?_
      refine xr_if_ne (tgt := 53) hx hb dX5_schemeOf_41 (by decide) (by omega) (fun h4 => ?_) (fun h4 => ?_)
      · skip
        refine lv_iload_n hx hb dX5_schemeOf_53 rfl (lv_at hl 2 rfl) ?_
        refine lv_iconst (v := iI (1)) hx hb dX5_schemeOf_54 rfl ?_
        refine xr_icmp_ne (tgt := 67) hx hb dX5_schemeOf_55 (by decide) (by omega) (by omega) (fun h5 => ?_) (fun h5 => ?_)
        · skip
          refine lv_iload_n hx hb dX5_schemeOf_67 rfl (lv_at hl 2 rfl) ?_
          refine lv_iconst (v := iI (2)) hx hb dX5_schemeOf_68 rfl ?_
          refine xr_icmp_ne (tgt := 81) hx hb dX5_schemeOf_69 (by decide) (by omega) (by omega) (fun h6 => ?_) (fun h6 => ?_)
          · skip
            refine lv_aload_n hx hb dX5_schemeOf_81 rfl (lv_at hl 0 rfl) ?_
            refine xg_931 (v := mu 931 0) hx hb hw5 hown hK hR ((dmM_st (by decide) _ _).mpr (md_5 hG)) (hts _ kw_779) ((st_f (by decide)).trans rfl) dX5_schemeOf_82 ?_
            have q7 : mu 931 0 = 0 := mh_931 hG
            rw [q7, rv_p (Int.le_refl 0)]
            refine lv_iload_n hx hb dX5_schemeOf_85 rfl (lv_at hl 1 rfl) ?_
            refine xa_1031 (v := mu 1031 x) hx hb hK hR ((dmM_st (by decide) _ _).mpr (md_51 hG)) (by omega) ((st_f (by decide)).trans rfl) dX5_schemeOf_86 ?_
            have g8 := mr_1031 hG (x)
            exact xm_i hx hb hr hlk hS dX5_schemeOf_87 (by refine Eq.trans ?_ (mR_0 (by ((try unfold mDraft at *); (try unfold mTaken at *); unfold schemeOfME; (repeat' split) <;> first | rfl | omega))).symm; unfold mSchemeR; (repeat' split) <;> omega) (by exact cast (congrArg (fun z => RM D cy A ad (st mu 900 0 z) H) (Eq.symm (by ((try unfold mDraft at *); (try unfold mTaken at *); unfold schemeOfME; (repeat' split) <;> first | rfl | omega)))) hR)
          · skip
            refine lv_aload_n hx hb dX5_schemeOf_72 rfl (lv_at hl 0 rfl) ?_
            refine xg_930 (v := mu 930 0) hx hb hw5 hown hK hR ((dmM_st (by decide) _ _).mpr (md_5 hG)) (hts _ kw_778) ((st_f (by decide)).trans rfl) dX5_schemeOf_73 ?_
            have q9 : mu 930 0 = 0 := mh_930 hG
            rw [q9, rv_p (Int.le_refl 0)]
            refine lv_iload_n hx hb dX5_schemeOf_76 rfl (lv_at hl 1 rfl) ?_
            refine xa_1030 (v := mu 1030 x) hx hb hK hR ((dmM_st (by decide) _ _).mpr (md_50 hG)) (by omega) ((st_f (by decide)).trans rfl) dX5_schemeOf_77 ?_
            have g10 := mr_1030 hG (x)
            refine lv_goto (tgt := 87) hx hb dX5_schemeOf_78 (by decide) ?_
            exact xm_i hx hb hr hlk hS dX5_schemeOf_87 (by refine Eq.trans ?_ (mR_0 (by ((try unfold mDraft at *); (try unfold mTaken at *); unfold schemeOfME; (repeat' split) <;> first | rfl | omega))).symm; unfold mSchemeR; (repeat' split) <;> omega) (by exact cast (congrArg (fun z => RM D cy A ad (st mu 900 0 z) H) (Eq.symm (by ((try unfold mDraft at *); (try unfold mTaken at *); unfold schemeOfME; (repeat' split) <;> first | rfl | omega)))) hR)
        · skip
          refine lv_aload_n hx hb dX5_schemeOf_58 rfl (lv_at hl 0 rfl) ?_
          refine lv_iload_n hx hb dX5_schemeOf_59 rfl (lv_at hl 1 rfl) ?_
          refine lv_iconst (v := iI (0)) hx hb dX5_schemeOf_60 rfl ?_
          refine xk_pF (xr_V (As := [.int (iI (x)), .int (iI (0))]) (rest := []) hx hb hml hown hts hK (c_X5_neededBy hR (gc_900 hG (0) (v := 0) (by omega)) x 0 (by omega) (by omega)) ms_X5_neededBy kw_938 (wr_recv hK hR ((dmM_st (by decide) _ _).mpr (md_5 hG)) rfl rfl) ⟨by decide, by decide⟩ ⟨by decide, by decide⟩ rfl rfl hl.1 rfl (lv_room (by decide)) dX5_schemeOf_61) ?_
          rw [show (mNeed (st mu 900 (0) (0)) x 0) = (mNeed mu x 0) from by first | rfl | (simp only [mSum_9, mOwnB_9, mShare_9, mLeft_9s]; done)]
          have g11 := mNeed_rng mu (x) (0)
          refine lv_goto (tgt := 87) hx hb dX5_schemeOf_64 (by decide) ?_
          exact xm_i hx hb hr hlk hS dX5_schemeOf_87 (by refine Eq.trans ?_ (mR_0 (by ((try unfold mDraft at *); (try unfold mTaken at *); unfold schemeOfME; (repeat' split) <;> first | rfl | omega))).symm; unfold mSchemeR; (repeat' split) <;> omega) (by exact cast (congrArg (fun z => RM D cy A ad (st mu 900 0 z) H) (Eq.symm (by ((try unfold mDraft at *); (try unfold mTaken at *); unfold schemeOfME; (repeat' split) <;> first | rfl | omega)))) hR)
      · skip
        refine lv_aload_n hx hb dX5_schemeOf_44 rfl (lv_at hl 0 rfl) ?_
        refine xg_929 (v := mu 929 0) hx hb hw5 hown hK hR ((dmM_st (by decide) _ _).mpr (md_5 hG)) (hts _ kw_777) ((st_f (by decide)).trans rfl) dX5_schemeOf_45 ?_
        have q12 : mu 929 0 = 0 := mh_929 hG
        rw [q12, rv_p (Int.le_refl 0)]
        refine lv_iload_n hx hb dX5_schemeOf_48 rfl (lv_at hl 1 rfl) ?_
        refine xa_1029 (v := mu 1029 x) hx hb hK hR ((dmM_st (by decide) _ _).mpr (md_49 hG)) (by omega) ((st_f (by decide)).trans rfl) dX5_schemeOf_49 ?_
        have g13 := mr_1029 hG (x)
        refine lv_goto (tgt := 87) hx hb dX5_schemeOf_50 (by decide) ?_
        exact xm_i hx hb hr hlk hS dX5_schemeOf_87 (by refine Eq.trans ?_ (mR_0 (by ((try unfold mDraft at *); (try unfold mTaken at *); unfold schemeOfME; (repeat' split) <;> first | rfl | omega))).symm; unfold mSchemeR; (repeat' split) <;> omega) (by exact cast (congrArg (fun z => RM D cy A ad (st mu 900 0 z) H) (Eq.symm (by ((try unfold mDraft at *); (try unfold mTaken at *); unfold schemeOfME; (repeat' split) <;> first | rfl | omega)))) hR)
    · skip
      refine lv_iconst (v := iI (2)) hx hb dX5_schemeOf_23 rfl ?_
      refine lv_goto (tgt := 28) hx hb dX5_schemeOf_24 (by decide) ?_
      refine xp_900 (v := 2) hx hb hw5 hown hK hR hS (md_5 hG) (hts _ kw_748) dX5_schemeOf_28 (fun H locs hR hS => ?_)
      refine lv_aload_n hx hb dX5_schemeOf_31 rfl (lv_at hl 0 rfl) ?_
      refine xg_900 (v := 2) hx hb hw5 hown hK hR ((dmM_st (by decide) _ _).mpr (md_5 hG)) (hts _ kw_748) (st_s) dX5_schemeOf_32 ?_
      refine xr_if_le (tgt := 40) hx hb dX5_schemeOf_35 (by decide) (by decide) (fun h14 => absurd h14 (by decide)) (fun _ => ?_)
      refine lv_iconst (v := iI (0)) hx hb dX5_schemeOf_38 rfl ?_
      exact xm_i hx hb hr hlk hS dX5_schemeOf_39 (by exact (mR_k (2) (by ((try unfold mDraft at *); (try unfold mTaken at *); unfold schemeOfME; (repeat' split) <;> first | rfl | omega)) (by decide)).symm) (by exact cast (congrArg (fun z => RM D cy A ad (st mu 900 0 z) H) (Eq.symm (by ((try unfold mDraft at *); (try unfold mTaken at *); unfold schemeOfME; (repeat' split) <;> first | rfl | omega)))) hR)
  · skip
    refine lv_iconst (v := iI (1)) hx hb dX5_schemeOf_9 rfl ?_
    refine lv_goto (tgt := 28) hx hb dX5_schemeOf_10 (by decide) ?_
    refine xp_900 (v := 1) hx hb hw5 hown hK hR hS (md_5 hG) (hts _ kw_748) dX5_schemeOf_28 (fun H locs hR hS => ?_)
    refine lv_aload_n hx hb dX5_schemeOf_31 rfl (lv_at hl 0 rfl) ?_
    refine xg_900 (v := 1) hx hb hw5 hown hK hR ((dmM_st (by decide) _ _).mpr (md_5 hG)) (hts _ kw_748) (st_s) dX5_schemeOf_32 ?_
    refine xr_if_le (tgt := 40) hx hb dX5_schemeOf_35 (by decide) (by decide) (fun h15 => absurd h15 (by decide)) (fun _ => ?_)
    refine lv_iconst (v := iI (0)) hx hb dX5_schemeOf_38 rfl ?_
    exact xm_i hx hb hr hlk hS dX5_schemeOf_39 (by exact (mR_k (1) (by ((try unfold mDraft at *); (try unfold mTaken at *); unfold schemeOfME; (repeat' split) <;> first | rfl | omega)) (by decide)).symm) (by exact cast (congrArg (fun z => RM D cy A ad (st mu 900 0 z) H) (Eq.symm (by ((try unfold mDraft at *); (try unfold mTaken at *); unfold schemeOfME; (repeat' split) <;> first | rfl | omega)))) hR)
theorem ms_X5_enter : MVi RX5 yX5_enter cX5_enter 4 (some .int) 1 := ⟨kw_993, kw_991, kw_992, kw_4, rfl, by decide, by decide, by decide +kernel⟩
set_option maxRecDepth 100000 in
set_option maxHeartbeats 4000000 in
theorem c_X5_enter {l : Launch} {D : va_G} {cy : Nat → ClassId} {A : Nat → Prop} {ad : Nat → Int → Nat} {mu : Nat → Int → Int} {H : Heap} (hR : RM D cy A ad mu H) (hG : GM mu)  (x : Int) (h_x : in32 x) : Met l yX5_enter (Cond.code yX5_enter cX5_enter 4 (some .int) :: wG) (rmF 4 95 0 0) (Pc D cy H [.ref (ad 5 (0)), .int (iI (x))]) (Qm (some (.int (iI (mR (enterME mu x) (mtk3 (st mu 900 0 0) x 1012 x))))) (fun H' => RM D cy A ad (mT mu (enterME mu x) (mtkT (st mu 900 0 0) x)) H') A) 0 0 A := by
  refine met_of (la := [(0, .ref (ad 5 (0))), (1, .int (iI (x)))]) (by decide) (Nat.le_of_ble_eq_true rfl) rfl ?_
  intro p e R s m args below meth c ls hRm hx hb hml hr hlk hin hown hts hsH hK hl
  subst hRm
  have hown : s.vm.findClass "TakinghallModel" = some m.cls := hown
  have hw5 : ∀ w ∈ u_ws RX5 TX5 35, w.before args s = true := fun w h => hts w (uw_X5 w h)
  have hS : va_S A s.heap H [] := by rw [hsH]; exact va_S.rf
  refine lv_aload_n hx hb dX5_enter_0 rfl (lv_at hl 0 rfl) ?_
  refine lv_aload_n hx hb dX5_enter_1 rfl (lv_at hl 0 rfl) ?_
  refine lv_iload_n hx hb dX5_enter_2 rfl (lv_at hl 1 rfl) ?_
  refine xk_pF (xr_V (As := [.int (iI (x))]) (rest := [.ref (ad 5 (0))]) hx hb hml hown hts hK (c_X5_isPlot hR hG x (by omega)) ms_X5_isPlot kw_865 (wr_recv hK hR (md_5 hG) rfl rfl) ⟨by decide, by decide⟩ ⟨by decide, by decide⟩ rfl rfl hl.1 rfl (lv_room (Nat.le_of_ble_eq_true rfl)) dX5_enter_3) ?_
  refine xr_ifb_ne (tgt := 13) hx hb dX5_enter_6 (by decide) (fun h1 => ?_) (fun h1 => ?_)
  · skip
    refine lv_iconst (v := iI (0)) hx hb dX5_enter_13 rfl ?_
    refine xp_900 (v := 0) hx hb hw5 hown hK hR hS (md_5 hG) (hts _ kw_748) dX5_enter_14 (fun H locs hR hS => ?_)
    refine lv_aload_n hx hb dX5_enter_17 rfl (lv_at hl 0 rfl) ?_
    refine xg_900 (v := 0) hx hb hw5 hown hK hR ((dmM_st (by decide) _ _).mpr (md_5 hG)) (hts _ kw_748) (st_s) dX5_enter_18 ?_
    refine xr_if_ne (tgt := 91) hx hb dX5_enter_21 (by decide) (by decide) (fun h2 => absurd h2 (by decide)) (fun _ => ?_)
    refine lv_aload_n hx hb dX5_enter_24 rfl (lv_at hl 0 rfl) ?_
    refine xg_906 (v := mu 906 0) hx hb hw5 hown hK hR ((dmM_st (by decide) _ _).mpr (md_5 hG)) (hts _ kw_754) ((st_f (by decide)).trans rfl) dX5_enter_25 ?_
    have q3 : mu 906 0 = 0 := mh_906 hG
    rw [q3, rv_p (Int.le_refl 0)]
    refine lv_iload_n hx hb dX5_enter_28 rfl (lv_at hl 1 rfl) ?_
    refine xa_1006 (v := mu 1006 x) hx hb hK hR ((dmM_st (by decide) _ _).mpr (md_26 hG)) (by omega) ((st_f (by decide)).trans rfl) dX5_enter_29 ?_
    have g4 := mr_1006 hG (x)
    refine lv_istore_n (i := 2) (lv' := [(2, .int (iI (mu 1006 x))), (0, .ref (ad 5 (0))), (1, .int (iI (x)))]) hx hb dX5_enter_30 rfl hl (by decide) rfl (fun ls hl => ?_)
    refine lv_aload_n hx hb dX5_enter_31 rfl (lv_at hl 1 rfl) ?_
    refine xg_905 (v := mu 905 0) hx hb hw5 hown hK hR ((dmM_st (by decide) _ _).mpr (md_5 hG)) (hts _ kw_753) ((st_f (by decide)).trans rfl) dX5_enter_32 ?_
    have q5 : mu 905 0 = 0 := mh_905 hG
    rw [q5, rv_p (Int.le_refl 0)]
    refine lv_iload_n hx hb dX5_enter_35 rfl (lv_at hl 2 rfl) ?_
    refine xa_1005 (v := mu 1005 x) hx hb hK hR ((dmM_st (by decide) _ _).mpr (md_25 hG)) (by omega) ((st_f (by decide)).trans rfl) dX5_enter_36 ?_
    have g6 := mr_1005 hG (x)
    refine xr_if_ne (tgt := 76) hx hb dX5_enter_37 (by decide) (by omega) (fun h7 => ?_) (fun h7 => ?_)
    · skip
      refine lv_iconst (v := iI (0)) hx hb dX5_enter_76 rfl ?_
      refine lv_istore_n (i := 3) (lv' := [(3, .int (iI (0))), (2, .int (iI (mu 1006 x))), (0, .ref (ad 5 (0))), (1, .int (iI (x)))]) hx hb dX5_enter_77 rfl hl (by decide) rfl (fun ls hl => ?_)
      refine lv_aload_n hx hb dX5_enter_78 rfl (lv_at hl 2 rfl) ?_
      refine lv_iload_n hx hb dX5_enter_79 rfl (lv_at hl 0 rfl) ?_
      refine xr_if_eq (tgt := 87) hx hb dX5_enter_80 (by decide) (by decide) (fun _ => ?_) (fun h8 => absurd h8 (by decide))
      refine lv_iconst (v := iI (2)) hx hb dX5_enter_87 rfl ?_
      refine xp_900 (v := 2) hx hb hw5 hown hK hR hS ((dmM_st (by decide) _ _).mpr (md_5 hG)) (hts _ kw_748) dX5_enter_88 (fun H locs hR hS => ?_)
      rw [st_st] at hR
      refine lv_aload_n hx hb dX5_enter_91 rfl (lv_at hl 2 rfl) ?_
      refine xg_900 (v := 2) hx hb hw5 hown hK hR ((dmM_st (by decide) _ _).mpr (md_5 hG)) (hts _ kw_748) (st_s) dX5_enter_92 ?_
      refine xr_if_le (tgt := 102) hx hb dX5_enter_95 (by decide) (by decide) (fun h9 => absurd h9 (by decide)) (fun _ => ?_)
      refine lv_iconst (v := iI (0)) hx hb dX5_enter_98 rfl ?_
      refine lv_goto (tgt := 107) hx hb dX5_enter_99 (by decide) ?_
      exact xm_i hx hb hr hlk hS dX5_enter_107 (by exact (mR_k (2) (by ((try unfold mDraft at *); (try unfold mTaken at *); unfold enterME; (repeat' split) <;> first | rfl | omega)) (by decide)).symm) (by rw [mT_k (2) (by ((try unfold mDraft at *); (try unfold mTaken at *); unfold enterME; (repeat' split) <;> first | rfl | omega)) (by decide)]; exact hR)
    · skip
      refine lv_iload_n hx hb dX5_enter_40 rfl (lv_at hl 0 rfl) ?_
      refine lv_iconst (v := iI (-1)) hx hb dX5_enter_41 rfl ?_
      refine xr_icmp_eq (tgt := 76) hx hb dX5_enter_42 (by decide) (by omega) (by omega) (fun h10 => ?_) (fun h10 => ?_)
      · skip
        refine lv_iconst (v := iI (0)) hx hb dX5_enter_76 rfl ?_
        refine lv_istore_n (i := 3) (lv' := [(3, .int (iI (0))), (2, .int (iI (mu 1006 x))), (0, .ref (ad 5 (0))), (1, .int (iI (x)))]) hx hb dX5_enter_77 rfl hl (by decide) rfl (fun ls hl => ?_)
        refine lv_aload_n hx hb dX5_enter_78 rfl (lv_at hl 2 rfl) ?_
        refine lv_iload_n hx hb dX5_enter_79 rfl (lv_at hl 0 rfl) ?_
        refine xr_if_eq (tgt := 87) hx hb dX5_enter_80 (by decide) (by decide) (fun _ => ?_) (fun h11 => absurd h11 (by decide))
        refine lv_iconst (v := iI (2)) hx hb dX5_enter_87 rfl ?_
        refine xp_900 (v := 2) hx hb hw5 hown hK hR hS ((dmM_st (by decide) _ _).mpr (md_5 hG)) (hts _ kw_748) dX5_enter_88 (fun H locs hR hS => ?_)
        rw [st_st] at hR
        refine lv_aload_n hx hb dX5_enter_91 rfl (lv_at hl 2 rfl) ?_
        refine xg_900 (v := 2) hx hb hw5 hown hK hR ((dmM_st (by decide) _ _).mpr (md_5 hG)) (hts _ kw_748) (st_s) dX5_enter_92 ?_
        refine xr_if_le (tgt := 102) hx hb dX5_enter_95 (by decide) (by decide) (fun h12 => absurd h12 (by decide)) (fun _ => ?_)
        refine lv_iconst (v := iI (0)) hx hb dX5_enter_98 rfl ?_
        refine lv_goto (tgt := 107) hx hb dX5_enter_99 (by decide) ?_
        exact xm_i hx hb hr hlk hS dX5_enter_107 (by exact (mR_k (2) (by ((try unfold mDraft at *); (try unfold mTaken at *); unfold enterME; (repeat' split) <;> first | rfl | omega)) (by decide)).symm) (by rw [mT_k (2) (by ((try unfold mDraft at *); (try unfold mTaken at *); unfold enterME; (repeat' split) <;> first | rfl | omega)) (by decide)]; exact hR)
      · skip
        refine lv_aload_n hx hb dX5_enter_45 rfl (lv_at hl 1 rfl) ?_
        refine xg_929 (v := mu 929 0) hx hb hw5 hown hK hR ((dmM_st (by decide) _ _).mpr (md_5 hG)) (hts _ kw_777) ((st_f (by decide)).trans rfl) dX5_enter_46 ?_
        have q13 : mu 929 0 = 0 := mh_929 hG
        rw [q13, rv_p (Int.le_refl 0)]
        refine lv_iload_n hx hb dX5_enter_49 rfl (lv_at hl 0 rfl) ?_
        refine xa_1029 (v := mu 1029 (mu 1006 x)) hx hb hK hR ((dmM_st (by decide) _ _).mpr (md_49 hG)) (by omega) ((st_f (by decide)).trans rfl) dX5_enter_50 ?_
        have g14 := mr_1029 hG (mu 1006 x)
        refine lv_iconst (v := iI (1)) hx hb dX5_enter_51 rfl ?_
        refine xr_icmp_ne (tgt := 76) hx hb dX5_enter_52 (by decide) (by omega) (by omega) (fun h15 => ?_) (fun h15 => ?_)
        · skip
          refine lv_iconst (v := iI (0)) hx hb dX5_enter_76 rfl ?_
          refine lv_istore_n (i := 3) (lv' := [(3, .int (iI (0))), (2, .int (iI (mu 1006 x))), (0, .ref (ad 5 (0))), (1, .int (iI (x)))]) hx hb dX5_enter_77 rfl hl (by decide) rfl (fun ls hl => ?_)
          refine lv_aload_n hx hb dX5_enter_78 rfl (lv_at hl 2 rfl) ?_
          refine lv_iload_n hx hb dX5_enter_79 rfl (lv_at hl 0 rfl) ?_
          refine xr_if_eq (tgt := 87) hx hb dX5_enter_80 (by decide) (by decide) (fun _ => ?_) (fun h16 => absurd h16 (by decide))
          refine lv_iconst (v := iI (2)) hx hb dX5_enter_87 rfl ?_
          refine xp_900 (v := 2) hx hb hw5 hown hK hR hS ((dmM_st (by decide) _ _).mpr (md_5 hG)) (hts _ kw_748) dX5_enter_88 (fun H locs hR hS => ?_)
          rw [st_st] at hR
          refine lv_aload_n hx hb dX5_enter_91 rfl (lv_at hl 2 rfl) ?_
          refine xg_900 (v := 2) hx hb hw5 hown hK hR ((dmM_st (by decide) _ _).mpr (md_5 hG)) (hts _ kw_748) (st_s) dX5_enter_92 ?_
          refine xr_if_le (tgt := 102) hx hb dX5_enter_95 (by decide) (by decide) (fun h17 => absurd h17 (by decide)) (fun _ => ?_)
          refine lv_iconst (v := iI (0)) hx hb dX5_enter_98 rfl ?_
          refine lv_goto (tgt := 107) hx hb dX5_enter_99 (by decide) ?_
          exact xm_i hx hb hr hlk hS dX5_enter_107 (by exact (mR_k (2) (by ((try unfold mDraft at *); (try unfold mTaken at *); unfold enterME; (repeat' split) <;> first | rfl | omega)) (by decide)).symm) (by rw [mT_k (2) (by ((try unfold mDraft at *); (try unfold mTaken at *); unfold enterME; (repeat' split) <;> first | rfl | omega)) (by decide)]; exact hR)
        · skip
          refine lv_aload_n hx hb dX5_enter_55 rfl (lv_at hl 1 rfl) ?_
          refine xg_901 (v := mu 901 0) hx hb hw5 hown hK hR ((dmM_st (by decide) _ _).mpr (md_5 hG)) (hts _ kw_749) ((st_f (by decide)).trans rfl) dX5_enter_56 ?_
          have g18 := mr_901 hG (0)
          refine lv_aload_n hx hb dX5_enter_59 rfl (lv_at hl 1 rfl) ?_
          refine xg_930 (v := mu 930 0) hx hb hw5 hown hK hR ((dmM_st (by decide) _ _).mpr (md_5 hG)) (hts _ kw_778) ((st_f (by decide)).trans rfl) dX5_enter_60 ?_
          have q19 : mu 930 0 = 0 := mh_930 hG
          rw [q19, rv_p (Int.le_refl 0)]
          refine lv_iload_n hx hb dX5_enter_63 rfl (lv_at hl 0 rfl) ?_
          refine xa_1030 (v := mu 1030 (mu 1006 x)) hx hb hK hR ((dmM_st (by decide) _ _).mpr (md_50 hG)) (by omega) ((st_f (by decide)).trans rfl) dX5_enter_64 ?_
          have g20 := mr_1030 hG (mu 1006 x)
          refine xr_isub hx hb dX5_enter_65 ?_
          refine lv_sipush (v := iI (1095)) hx hb dX5_enter_66 (by decide) ?_
          refine xr_icmp_gt (tgt := 76) hx hb dX5_enter_69 (by decide) (by omega) (by omega) (fun h21 => ?_) (fun h21 => ?_)
          · skip
            refine lv_iconst (v := iI (0)) hx hb dX5_enter_76 rfl ?_
            refine lv_istore_n (i := 3) (lv' := [(3, .int (iI (0))), (2, .int (iI (mu 1006 x))), (0, .ref (ad 5 (0))), (1, .int (iI (x)))]) hx hb dX5_enter_77 rfl hl (by decide) rfl (fun ls hl => ?_)
            refine lv_aload_n hx hb dX5_enter_78 rfl (lv_at hl 2 rfl) ?_
            refine lv_iload_n hx hb dX5_enter_79 rfl (lv_at hl 0 rfl) ?_
            refine xr_if_eq (tgt := 87) hx hb dX5_enter_80 (by decide) (by decide) (fun _ => ?_) (fun h22 => absurd h22 (by decide))
            refine lv_iconst (v := iI (2)) hx hb dX5_enter_87 rfl ?_
            refine xp_900 (v := 2) hx hb hw5 hown hK hR hS ((dmM_st (by decide) _ _).mpr (md_5 hG)) (hts _ kw_748) dX5_enter_88 (fun H locs hR hS => ?_)
            rw [st_st] at hR
            refine lv_aload_n hx hb dX5_enter_91 rfl (lv_at hl 2 rfl) ?_
            refine xg_900 (v := 2) hx hb hw5 hown hK hR ((dmM_st (by decide) _ _).mpr (md_5 hG)) (hts _ kw_748) (st_s) dX5_enter_92 ?_
            refine xr_if_le (tgt := 102) hx hb dX5_enter_95 (by decide) (by decide) (fun h23 => absurd h23 (by decide)) (fun _ => ?_)
            refine lv_iconst (v := iI (0)) hx hb dX5_enter_98 rfl ?_
            refine lv_goto (tgt := 107) hx hb dX5_enter_99 (by decide) ?_
            exact xm_i hx hb hr hlk hS dX5_enter_107 (by exact (mR_k (2) (by ((try unfold mDraft at *); (try unfold mTaken at *); unfold enterME; (repeat' split) <;> first | rfl | omega)) (by decide)).symm) (by rw [mT_k (2) (by ((try unfold mDraft at *); (try unfold mTaken at *); unfold enterME; (repeat' split) <;> first | rfl | omega)) (by decide)]; exact hR)
          · skip
            refine lv_iconst (v := iI (1)) hx hb dX5_enter_72 rfl ?_
            refine lv_goto (tgt := 77) hx hb dX5_enter_73 (by decide) ?_
            refine lv_istore_n (i := 3) (lv' := [(3, .int (iI (1))), (2, .int (iI (mu 1006 x))), (0, .ref (ad 5 (0))), (1, .int (iI (x)))]) hx hb dX5_enter_77 rfl hl (by decide) rfl (fun ls hl => ?_)
            refine lv_aload_n hx hb dX5_enter_78 rfl (lv_at hl 2 rfl) ?_
            refine lv_iload_n hx hb dX5_enter_79 rfl (lv_at hl 0 rfl) ?_
            refine xr_if_eq (tgt := 87) hx hb dX5_enter_80 (by decide) (by decide) (fun h24 => absurd h24 (by decide)) (fun _ => ?_)
            refine lv_iconst (v := iI (0)) hx hb dX5_enter_83 rfl ?_
            refine lv_goto (tgt := 88) hx hb dX5_enter_84 (by decide) ?_
            refine xp_900 (v := 0) hx hb hw5 hown hK hR hS ((dmM_st (by decide) _ _).mpr (md_5 hG)) (hts _ kw_748) dX5_enter_88 (fun H locs hR hS => ?_)
            rw [st_st] at hR
            refine lv_aload_n hx hb dX5_enter_91 rfl (lv_at hl 2 rfl) ?_
            refine xg_900 (v := 0) hx hb hw5 hown hK hR ((dmM_st (by decide) _ _).mpr (md_5 hG)) (hts _ kw_748) (st_s) dX5_enter_92 ?_
            refine xr_if_le (tgt := 102) hx hb dX5_enter_95 (by decide) (by decide) (fun _ => ?_) (fun h25 => absurd h25 (by decide))
            refine lv_aload_n hx hb dX5_enter_102 rfl (lv_at hl 2 rfl) ?_
            refine lv_iload_n hx hb dX5_enter_103 rfl (lv_at hl 3 rfl) ?_
            refine xk_mF (xr_V (As := [.int (iI (x))]) (rest := []) hx hb hml hown hts hK (c_X5_take hR (gc_900 hG (0) (v := 0) (by omega)) x (by omega) (by first | omega | (have z : 0 ≤ mu 1006 x := (by omega); exact z))) ms_X5_take kw_994 (wr_recv hK hR ((dmM_st (by decide) _ _).mpr (md_5 hG)) rfl rfl) ⟨by decide, by decide⟩ ⟨by decide, by decide⟩ rfl rfl hl.1 rfl (lv_room (by decide)) dX5_enter_104) hS (fun H locs hR hS hz hq => ?_)
            show W p l e (rmF 4 95 0 0) s m args below meth c H locs (0 + 0) (0 + 0) _ (F0 m (104 + 3) ls (.int (iI (mtk3 (st mu 900 (0) (0)) x 1012 x)) :: []))
            have G26 : GM (mtkT (st mu 900 (0) (0)) x) := gm_tkT (gc_900 hG (0) (v := 0) (by omega)) _
            exact xm_i hx hb hr hlk hS dX5_enter_107 (by refine Eq.trans ?_ (mR_0 (by ((try unfold mDraft at *); (try unfold mTaken at *); unfold enterME; (repeat' split) <;> first | rfl | omega))).symm; rfl) (by rw [mT_0 (by ((try unfold mDraft at *); (try unfold mTaken at *); unfold enterME; (repeat' split) <;> first | rfl | omega))]; exact hR)
  · skip
    refine lv_iconst (v := iI (1)) hx hb dX5_enter_9 rfl ?_
    refine lv_goto (tgt := 14) hx hb dX5_enter_10 (by decide) ?_
    refine xp_900 (v := 1) hx hb hw5 hown hK hR hS (md_5 hG) (hts _ kw_748) dX5_enter_14 (fun H locs hR hS => ?_)
    refine lv_aload_n hx hb dX5_enter_17 rfl (lv_at hl 0 rfl) ?_
    refine xg_900 (v := 1) hx hb hw5 hown hK hR ((dmM_st (by decide) _ _).mpr (md_5 hG)) (hts _ kw_748) (st_s) dX5_enter_18 ?_
    refine xr_if_ne (tgt := 91) hx hb dX5_enter_21 (by decide) (by decide) (fun _ => ?_) (fun h27 => absurd h27 (by decide))
    refine lv_aload_n hx hb dX5_enter_91 rfl (lv_at hl 0 rfl) ?_
    refine xg_900 (v := 1) hx hb hw5 hown hK hR ((dmM_st (by decide) _ _).mpr (md_5 hG)) (hts _ kw_748) (st_s) dX5_enter_92 ?_
    refine xr_if_le (tgt := 102) hx hb dX5_enter_95 (by decide) (by decide) (fun h28 => absurd h28 (by decide)) (fun _ => ?_)
    refine lv_iconst (v := iI (0)) hx hb dX5_enter_98 rfl ?_
    refine lv_goto (tgt := 107) hx hb dX5_enter_99 (by decide) ?_
    exact xm_i hx hb hr hlk hS dX5_enter_107 (by exact (mR_k (1) (by ((try unfold mDraft at *); (try unfold mTaken at *); unfold enterME; (repeat' split) <;> first | rfl | omega)) (by decide)).symm) (by rw [mT_k (1) (by ((try unfold mDraft at *); (try unfold mTaken at *); unfold enterME; (repeat' split) <;> first | rfl | omega)) (by decide)]; exact hR)
theorem ms_X5_blight : MVi RX5 yX5_blight cX5_blight 4 (some .int) 1 := ⟨kw_1019, kw_1017, kw_1018, kw_4, rfl, by decide, by decide, by decide +kernel⟩
set_option maxRecDepth 100000 in
set_option maxHeartbeats 4000000 in
theorem c_X5_blight {l : Launch} {D : va_G} {cy : Nat → ClassId} {A : Nat → Prop} {ad : Nat → Int → Nat} {mu : Nat → Int → Int} {H : Heap} (hR : RM D cy A ad mu H) (hG : GM mu)  (x : Int) (h_x : in32 x) : Met l yX5_blight (Cond.code yX5_blight cX5_blight 4 (some .int) :: wG) (rmF 4 95 0 0) (Pc D cy H [.ref (ad 5 (0)), .int (iI (x))]) (Qm (some (.int (iI (mR (blightME mu x) (mtk3 (st (st mu 900 0 0) 1007 (mu 1015 x) 100) (mu 1015 x) 1012 (mu 1015 x)))))) (fun H' => RM D cy A ad (mT mu (blightME mu x) (mtkT (st (st mu 900 0 0) 1007 (mu 1015 x) 100) (mu 1015 x))) H') A) 0 0 A := by
  refine met_of (la := [(0, .ref (ad 5 (0))), (1, .int (iI (x)))]) (by decide) (Nat.le_of_ble_eq_true rfl) rfl ?_
  intro p e R s m args below meth c ls hRm hx hb hml hr hlk hin hown hts hsH hK hl
  subst hRm
  have hown : s.vm.findClass "TakinghallModel" = some m.cls := hown
  have hw5 : ∀ w ∈ u_ws RX5 TX5 35, w.before args s = true := fun w h => hts w (uw_X5 w h)
  have hS : va_S A s.heap H [] := by rw [hsH]; exact va_S.rf
  have g913 := mr_913 hG 0
  refine lv_aload_n hx hb dX5_blight_0 rfl (lv_at hl 0 rfl) ?_
  refine lv_aload_n hx hb dX5_blight_1 rfl (lv_at hl 0 rfl) ?_
  refine lv_iload_n hx hb dX5_blight_2 rfl (lv_at hl 1 rfl) ?_
  refine xk_pF (xr_V (As := [.int (iI (x))]) (rest := [.ref (ad 5 (0))]) hx hb hml hown hts hK (c_X5_isInterest hR hG x (by omega)) ms_X5_isInterest kw_922 (wr_recv hK hR (md_5 hG) rfl rfl) ⟨by decide, by decide⟩ ⟨by decide, by decide⟩ rfl rfl hl.1 rfl (lv_room (Nat.le_of_ble_eq_true rfl)) dX5_blight_3) ?_
  refine xr_ifb_ne (tgt := 13) hx hb dX5_blight_6 (by decide) (fun h1 => ?_) (fun h1 => ?_)
  · skip
    refine lv_aload_n hx hb dX5_blight_13 rfl (lv_at hl 0 rfl) ?_
    refine xg_914 (v := mu 914 0) hx hb hw5 hown hK hR (md_5 hG) (hts _ kw_762) rfl dX5_blight_14 ?_
    have q2 : mu 914 0 = 0 := mh_914 hG
    rw [q2, rv_p (Int.le_refl 0)]
    refine lv_iload_n hx hb dX5_blight_17 rfl (lv_at hl 1 rfl) ?_
    refine xa_1014 (v := mu 1014 x) hx hb hK hR (md_34 hG) (by omega) rfl dX5_blight_18 ?_
    have g3 := mr_1014 hG (x)
    refine xr_if_eq (tgt := 26) hx hb dX5_blight_19 (by decide) (by omega) (fun h4 => ?_) (fun h4 => ?_)
    · skip
      refine lv_iconst (v := iI (0)) hx hb dX5_blight_26 rfl ?_
      refine xp_900 (v := 0) hx hb hw5 hown hK hR hS (md_5 hG) (hts _ kw_748) dX5_blight_27 (fun H locs hR hS => ?_)
      refine lv_aload_n hx hb dX5_blight_30 rfl (lv_at hl 0 rfl) ?_
      refine xg_900 (v := 0) hx hb hw5 hown hK hR ((dmM_st (by decide) _ _).mpr (md_5 hG)) (hts _ kw_748) (st_s) dX5_blight_31 ?_
      refine xr_if_ne (tgt := 109) hx hb dX5_blight_34 (by decide) (by decide) (fun h5 => absurd h5 (by decide)) (fun _ => ?_)
      refine lv_aload_n hx hb dX5_blight_37 rfl (lv_at hl 0 rfl) ?_
      refine xg_915 (v := mu 915 0) hx hb hw5 hown hK hR ((dmM_st (by decide) _ _).mpr (md_5 hG)) (hts _ kw_763) ((st_f (by decide)).trans rfl) dX5_blight_38 ?_
      have q6 : mu 915 0 = 0 := mh_915 hG
      rw [q6, rv_p (Int.le_refl 0)]
      refine lv_iload_n hx hb dX5_blight_41 rfl (lv_at hl 1 rfl) ?_
      refine xa_1015 (v := mu 1015 x) hx hb hK hR ((dmM_st (by decide) _ _).mpr (md_35 hG)) (by omega) ((st_f (by decide)).trans rfl) dX5_blight_42 ?_
      have g7 := mr_1015 hG (x)
      refine lv_istore_n (i := 2) (lv' := [(2, .int (iI (mu 1015 x))), (0, .ref (ad 5 (0))), (1, .int (iI (x)))]) hx hb dX5_blight_43 rfl hl (by decide) rfl (fun ls hl => ?_)
      refine lv_aload_n hx hb dX5_blight_44 rfl (lv_at hl 1 rfl) ?_
      refine xg_905 (v := mu 905 0) hx hb hw5 hown hK hR ((dmM_st (by decide) _ _).mpr (md_5 hG)) (hts _ kw_753) ((st_f (by decide)).trans rfl) dX5_blight_45 ?_
      have q8 : mu 905 0 = 0 := mh_905 hG
      rw [q8, rv_p (Int.le_refl 0)]
      refine lv_iload_n hx hb dX5_blight_48 rfl (lv_at hl 0 rfl) ?_
      refine xa_1005 (v := mu 1005 (mu 1015 x)) hx hb hK hR ((dmM_st (by decide) _ _).mpr (md_25 hG)) (by omega) ((st_f (by decide)).trans rfl) dX5_blight_49 ?_
      have g9 := mr_1005 hG (mu 1015 x)
      refine xr_if_ne (tgt := 94) hx hb dX5_blight_50 (by decide) (by omega) (fun h10 => ?_) (fun h10 => ?_)
      · skip
        refine lv_iconst (v := iI (0)) hx hb dX5_blight_94 rfl ?_
        refine lv_istore_n (i := 3) (lv' := [(3, .int (iI (0))), (2, .int (iI (mu 1015 x))), (0, .ref (ad 5 (0))), (1, .int (iI (x)))]) hx hb dX5_blight_95 rfl hl (by decide) rfl (fun ls hl => ?_)
        refine lv_aload_n hx hb dX5_blight_96 rfl (lv_at hl 2 rfl) ?_
        refine lv_iload_n hx hb dX5_blight_97 rfl (lv_at hl 0 rfl) ?_
        refine xr_if_eq (tgt := 105) hx hb dX5_blight_98 (by decide) (by decide) (fun _ => ?_) (fun h11 => absurd h11 (by decide))
        refine lv_iconst (v := iI (3)) hx hb dX5_blight_105 rfl ?_
        refine xp_900 (v := 3) hx hb hw5 hown hK hR hS ((dmM_st (by decide) _ _).mpr (md_5 hG)) (hts _ kw_748) dX5_blight_106 (fun H locs hR hS => ?_)
        rw [st_st] at hR
        refine lv_aload_n hx hb dX5_blight_109 rfl (lv_at hl 2 rfl) ?_
        refine xg_900 (v := 3) hx hb hw5 hown hK hR ((dmM_st (by decide) _ _).mpr (md_5 hG)) (hts _ kw_748) (st_s) dX5_blight_110 ?_
        refine xr_if_le (tgt := 118) hx hb dX5_blight_113 (by decide) (by decide) (fun h12 => absurd h12 (by decide)) (fun _ => ?_)
        refine lv_iconst (v := iI (0)) hx hb dX5_blight_116 rfl ?_
        exact xm_i hx hb hr hlk hS dX5_blight_117 (by exact (mR_k (3) (by ((try unfold mDraft at *); (try unfold mTaken at *); unfold blightME; (repeat' split) <;> first | rfl | omega)) (by decide)).symm) (by rw [mT_k (3) (by ((try unfold mDraft at *); (try unfold mTaken at *); unfold blightME; (repeat' split) <;> first | rfl | omega)) (by decide)]; exact hR)
      · skip
        refine lv_aload_n hx hb dX5_blight_53 rfl (lv_at hl 1 rfl) ?_
        refine xg_904 (v := mu 904 0) hx hb hw5 hown hK hR ((dmM_st (by decide) _ _).mpr (md_5 hG)) (hts _ kw_752) ((st_f (by decide)).trans rfl) dX5_blight_54 ?_
        have q13 : mu 904 0 = 0 := mh_904 hG
        rw [q13, rv_p (Int.le_refl 0)]
        refine lv_iload_n hx hb dX5_blight_57 rfl (lv_at hl 0 rfl) ?_
        refine xa_1004 (v := mu 1004 (mu 1015 x)) hx hb hK hR ((dmM_st (by decide) _ _).mpr (md_24 hG)) (by omega) ((st_f (by decide)).trans rfl) dX5_blight_58 ?_
        have g14 := mr_1004 hG (mu 1015 x)
        refine lv_iconst (v := iI (1)) hx hb dX5_blight_59 rfl ?_
        refine xr_icmp_ne (tgt := 94) hx hb dX5_blight_60 (by decide) (by omega) (by omega) (fun h15 => ?_) (fun h15 => ?_)
        · skip
          refine lv_iconst (v := iI (0)) hx hb dX5_blight_94 rfl ?_
          refine lv_istore_n (i := 3) (lv' := [(3, .int (iI (0))), (2, .int (iI (mu 1015 x))), (0, .ref (ad 5 (0))), (1, .int (iI (x)))]) hx hb dX5_blight_95 rfl hl (by decide) rfl (fun ls hl => ?_)
          refine lv_aload_n hx hb dX5_blight_96 rfl (lv_at hl 2 rfl) ?_
          refine lv_iload_n hx hb dX5_blight_97 rfl (lv_at hl 0 rfl) ?_
          refine xr_if_eq (tgt := 105) hx hb dX5_blight_98 (by decide) (by decide) (fun _ => ?_) (fun h16 => absurd h16 (by decide))
          refine lv_iconst (v := iI (3)) hx hb dX5_blight_105 rfl ?_
          refine xp_900 (v := 3) hx hb hw5 hown hK hR hS ((dmM_st (by decide) _ _).mpr (md_5 hG)) (hts _ kw_748) dX5_blight_106 (fun H locs hR hS => ?_)
          rw [st_st] at hR
          refine lv_aload_n hx hb dX5_blight_109 rfl (lv_at hl 2 rfl) ?_
          refine xg_900 (v := 3) hx hb hw5 hown hK hR ((dmM_st (by decide) _ _).mpr (md_5 hG)) (hts _ kw_748) (st_s) dX5_blight_110 ?_
          refine xr_if_le (tgt := 118) hx hb dX5_blight_113 (by decide) (by decide) (fun h17 => absurd h17 (by decide)) (fun _ => ?_)
          refine lv_iconst (v := iI (0)) hx hb dX5_blight_116 rfl ?_
          exact xm_i hx hb hr hlk hS dX5_blight_117 (by exact (mR_k (3) (by ((try unfold mDraft at *); (try unfold mTaken at *); unfold blightME; (repeat' split) <;> first | rfl | omega)) (by decide)).symm) (by rw [mT_k (3) (by ((try unfold mDraft at *); (try unfold mTaken at *); unfold blightME; (repeat' split) <;> first | rfl | omega)) (by decide)]; exact hR)
        · skip
          refine lv_aload_n hx hb dX5_blight_63 rfl (lv_at hl 1 rfl) ?_
          refine xg_906 (v := mu 906 0) hx hb hw5 hown hK hR ((dmM_st (by decide) _ _).mpr (md_5 hG)) (hts _ kw_754) ((st_f (by decide)).trans rfl) dX5_blight_64 ?_
          have q18 : mu 906 0 = 0 := mh_906 hG
          rw [q18, rv_p (Int.le_refl 0)]
          refine lv_iload_n hx hb dX5_blight_67 rfl (lv_at hl 0 rfl) ?_
          refine xa_1006 (v := mu 1006 (mu 1015 x)) hx hb hK hR ((dmM_st (by decide) _ _).mpr (md_26 hG)) (by omega) ((st_f (by decide)).trans rfl) dX5_blight_68 ?_
          have g19 := mr_1006 hG (mu 1015 x)
          refine lv_iconst (v := iI (-1)) hx hb dX5_blight_69 rfl ?_
          refine xr_icmp_eq (tgt := 94) hx hb dX5_blight_70 (by decide) (by omega) (by omega) (fun h20 => ?_) (fun h20 => ?_)
          · skip
            refine lv_iconst (v := iI (0)) hx hb dX5_blight_94 rfl ?_
            refine lv_istore_n (i := 3) (lv' := [(3, .int (iI (0))), (2, .int (iI (mu 1015 x))), (0, .ref (ad 5 (0))), (1, .int (iI (x)))]) hx hb dX5_blight_95 rfl hl (by decide) rfl (fun ls hl => ?_)
            refine lv_aload_n hx hb dX5_blight_96 rfl (lv_at hl 2 rfl) ?_
            refine lv_iload_n hx hb dX5_blight_97 rfl (lv_at hl 0 rfl) ?_
            refine xr_if_eq (tgt := 105) hx hb dX5_blight_98 (by decide) (by decide) (fun _ => ?_) (fun h21 => absurd h21 (by decide))
            refine lv_iconst (v := iI (3)) hx hb dX5_blight_105 rfl ?_
            refine xp_900 (v := 3) hx hb hw5 hown hK hR hS ((dmM_st (by decide) _ _).mpr (md_5 hG)) (hts _ kw_748) dX5_blight_106 (fun H locs hR hS => ?_)
            rw [st_st] at hR
            refine lv_aload_n hx hb dX5_blight_109 rfl (lv_at hl 2 rfl) ?_
            refine xg_900 (v := 3) hx hb hw5 hown hK hR ((dmM_st (by decide) _ _).mpr (md_5 hG)) (hts _ kw_748) (st_s) dX5_blight_110 ?_
            refine xr_if_le (tgt := 118) hx hb dX5_blight_113 (by decide) (by decide) (fun h22 => absurd h22 (by decide)) (fun _ => ?_)
            refine lv_iconst (v := iI (0)) hx hb dX5_blight_116 rfl ?_
            exact xm_i hx hb hr hlk hS dX5_blight_117 (by exact (mR_k (3) (by ((try unfold mDraft at *); (try unfold mTaken at *); unfold blightME; (repeat' split) <;> first | rfl | omega)) (by decide)).symm) (by rw [mT_k (3) (by ((try unfold mDraft at *); (try unfold mTaken at *); unfold blightME; (repeat' split) <;> first | rfl | omega)) (by decide)]; exact hR)
          · skip
            refine lv_aload_n hx hb dX5_blight_73 rfl (lv_at hl 1 rfl) ?_
            refine xg_901 (v := mu 901 0) hx hb hw5 hown hK hR ((dmM_st (by decide) _ _).mpr (md_5 hG)) (hts _ kw_749) ((st_f (by decide)).trans rfl) dX5_blight_74 ?_
            have g23 := mr_901 hG (0)
            refine lv_aload_n hx hb dX5_blight_77 rfl (lv_at hl 1 rfl) ?_
            refine xg_917 (v := mu 917 0) hx hb hw5 hown hK hR ((dmM_st (by decide) _ _).mpr (md_5 hG)) (hts _ kw_765) ((st_f (by decide)).trans rfl) dX5_blight_78 ?_
            have q24 : mu 917 0 = 0 := mh_917 hG
            rw [q24, rv_p (Int.le_refl 0)]
            refine lv_iload_n hx hb dX5_blight_81 rfl (lv_at hl 2 rfl) ?_
            refine xa_1017 (v := mu 1017 x) hx hb hK hR ((dmM_st (by decide) _ _).mpr (md_37 hG)) (by omega) ((st_f (by decide)).trans rfl) dX5_blight_82 ?_
            have g25 := mr_1017 hG (x)
            refine xr_isub hx hb dX5_blight_83 ?_
            refine lv_sipush (v := iI (180)) hx hb dX5_blight_84 (by decide) ?_
            refine xr_icmp_lt (tgt := 94) hx hb dX5_blight_87 (by decide) (by omega) (by omega) (fun h26 => ?_) (fun h26 => ?_)
            · skip
              refine lv_iconst (v := iI (0)) hx hb dX5_blight_94 rfl ?_
              refine lv_istore_n (i := 3) (lv' := [(3, .int (iI (0))), (2, .int (iI (mu 1015 x))), (0, .ref (ad 5 (0))), (1, .int (iI (x)))]) hx hb dX5_blight_95 rfl hl (by decide) rfl (fun ls hl => ?_)
              refine lv_aload_n hx hb dX5_blight_96 rfl (lv_at hl 2 rfl) ?_
              refine lv_iload_n hx hb dX5_blight_97 rfl (lv_at hl 0 rfl) ?_
              refine xr_if_eq (tgt := 105) hx hb dX5_blight_98 (by decide) (by decide) (fun _ => ?_) (fun h27 => absurd h27 (by decide))
              refine lv_iconst (v := iI (3)) hx hb dX5_blight_105 rfl ?_
              refine xp_900 (v := 3) hx hb hw5 hown hK hR hS ((dmM_st (by decide) _ _).mpr (md_5 hG)) (hts _ kw_748) dX5_blight_106 (fun H locs hR hS => ?_)
              rw [st_st] at hR
              refine lv_aload_n hx hb dX5_blight_109 rfl (lv_at hl 2 rfl) ?_
              refine xg_900 (v := 3) hx hb hw5 hown hK hR ((dmM_st (by decide) _ _).mpr (md_5 hG)) (hts _ kw_748) (st_s) dX5_blight_110 ?_
              refine xr_if_le (tgt := 118) hx hb dX5_blight_113 (by decide) (by decide) (fun h28 => absurd h28 (by decide)) (fun _ => ?_)
              refine lv_iconst (v := iI (0)) hx hb dX5_blight_116 rfl ?_
              exact xm_i hx hb hr hlk hS dX5_blight_117 (by exact (mR_k (3) (by ((try unfold mDraft at *); (try unfold mTaken at *); unfold blightME; (repeat' split) <;> first | rfl | omega)) (by decide)).symm) (by rw [mT_k (3) (by ((try unfold mDraft at *); (try unfold mTaken at *); unfold blightME; (repeat' split) <;> first | rfl | omega)) (by decide)]; exact hR)
            · skip
              refine lv_iconst (v := iI (1)) hx hb dX5_blight_90 rfl ?_
              refine lv_goto (tgt := 95) hx hb dX5_blight_91 (by decide) ?_
              refine lv_istore_n (i := 3) (lv' := [(3, .int (iI (1))), (2, .int (iI (mu 1015 x))), (0, .ref (ad 5 (0))), (1, .int (iI (x)))]) hx hb dX5_blight_95 rfl hl (by decide) rfl (fun ls hl => ?_)
              refine lv_aload_n hx hb dX5_blight_96 rfl (lv_at hl 2 rfl) ?_
              refine lv_iload_n hx hb dX5_blight_97 rfl (lv_at hl 0 rfl) ?_
              refine xr_if_eq (tgt := 105) hx hb dX5_blight_98 (by decide) (by decide) (fun h29 => absurd h29 (by decide)) (fun _ => ?_)
              refine lv_iconst (v := iI (0)) hx hb dX5_blight_101 rfl ?_
              refine lv_goto (tgt := 106) hx hb dX5_blight_102 (by decide) ?_
              refine xp_900 (v := 0) hx hb hw5 hown hK hR hS ((dmM_st (by decide) _ _).mpr (md_5 hG)) (hts _ kw_748) dX5_blight_106 (fun H locs hR hS => ?_)
              rw [st_st] at hR
              refine lv_aload_n hx hb dX5_blight_109 rfl (lv_at hl 2 rfl) ?_
              refine xg_900 (v := 0) hx hb hw5 hown hK hR ((dmM_st (by decide) _ _).mpr (md_5 hG)) (hts _ kw_748) (st_s) dX5_blight_110 ?_
              refine xr_if_le (tgt := 118) hx hb dX5_blight_113 (by decide) (by decide) (fun _ => ?_) (fun h30 => absurd h30 (by decide))
              refine lv_aload_n hx hb dX5_blight_118 rfl (lv_at hl 2 rfl) ?_
              refine xg_907 (v := mu 907 0) hx hb hw5 hown hK hR ((dmM_st (by decide) _ _).mpr (md_5 hG)) (hts _ kw_755) ((st_f (by decide)).trans rfl) dX5_blight_119 ?_
              have q31 : mu 907 0 = 0 := mh_907 hG
              rw [q31, rv_p (Int.le_refl 0)]
              refine lv_aload_n hx hb dX5_blight_122 rfl (lv_at hl 2 rfl) ?_
              refine xg_915 (v := mu 915 0) hx hb hw5 hown hK hR ((dmM_st (by decide) _ _).mpr (md_5 hG)) (hts _ kw_763) ((st_f (by decide)).trans rfl) dX5_blight_123 ?_
              have q32 : mu 915 0 = 0 := mh_915 hG
              rw [q32, rv_p (Int.le_refl 0)]
              refine lv_iload_n hx hb dX5_blight_126 rfl (lv_at hl 3 rfl) ?_
              refine xa_1015 (v := mu 1015 x) hx hb hK hR ((dmM_st (by decide) _ _).mpr (md_35 hG)) (by omega) ((st_f (by decide)).trans rfl) dX5_blight_127 ?_
              refine lv_bipush (v := iI (100)) hx hb dX5_blight_128 (by decide) ?_
              refine xs_1007 (v := 100) hx hb hK hR hS ((dmM_st (by decide) _ _).mpr (md_27 hG)) (by omega) dX5_blight_130 (fun H locs hR hS => ?_)
              refine lv_aload_n hx hb dX5_blight_131 rfl (lv_at hl 2 rfl) ?_
              refine lv_aload_n hx hb dX5_blight_132 rfl (lv_at hl 2 rfl) ?_
              refine xg_915 (v := mu 915 0) hx hb hw5 hown hK hR ((dmM_st (by decide) _ _).mpr ((dmM_st (by decide) _ _).mpr (md_5 hG))) (hts _ kw_763) ((st_f (by decide)).trans ((st_f (by decide)).trans rfl)) dX5_blight_133 ?_
              have q33 : mu 915 0 = 0 := mh_915 hG
              rw [q33, rv_p (Int.le_refl 0)]
              refine lv_iload_n hx hb dX5_blight_136 rfl (lv_at hl 3 rfl) ?_
              refine xa_1015 (v := mu 1015 x) hx hb hK hR ((dmM_st (by decide) _ _).mpr ((dmM_st (by decide) _ _).mpr (md_35 hG))) (by omega) ((st_f (by decide)).trans ((st_f (by decide)).trans rfl)) dX5_blight_137 ?_
              refine xk_mF (xr_V (As := [.int (iI (mu 1015 x))]) (rest := []) hx hb hml hown hts hK (c_X5_take hR (gc_1007 (gc_900 hG (0) (v := 0) (by omega)) (mu 1015 x) (v := 100) (by omega)) (mu 1015 x) (by omega) (by first | omega | (have z : 0 ≤ mu 1006 (mu 1015 x) := (by omega); exact z))) ms_X5_take kw_994 (wr_recv hK hR ((dmM_st (by decide) _ _).mpr ((dmM_st (by decide) _ _).mpr (md_5 hG))) rfl rfl) ⟨by decide, by decide⟩ ⟨by decide, by decide⟩ rfl rfl hl.1 rfl (lv_room (by decide)) dX5_blight_138) hS (fun H locs hR hS hz hq => ?_)
              show W p l e (rmF 4 95 0 0) s m args below meth c H locs (0 + 0) (0 + 0) _ (F0 m (138 + 3) ls (.int (iI (mtk3 (st (st mu 900 (0) (0)) 1007 (mu 1015 x) (100)) (mu 1015 x) 1012 (mu 1015 x))) :: []))
              have G34 : GM (mtkT (st (st mu 900 (0) (0)) 1007 (mu 1015 x) (100)) (mu 1015 x)) := gm_tkT (gc_1007 (gc_900 hG (0) (v := 0) (by omega)) (mu 1015 x) (v := 100) (by omega)) _
              exact xm_i hx hb hr hlk hS dX5_blight_141 (by refine Eq.trans ?_ (mR_0 (by ((try unfold mDraft at *); (try unfold mTaken at *); unfold blightME; (repeat' split) <;> first | rfl | omega))).symm; rfl) (by rw [mT_0 (by ((try unfold mDraft at *); (try unfold mTaken at *); unfold blightME; (repeat' split) <;> first | rfl | omega))]; exact hR)
    · skip
      refine lv_iconst (v := iI (2)) hx hb dX5_blight_22 rfl ?_
      refine lv_goto (tgt := 27) hx hb dX5_blight_23 (by decide) ?_
      refine xp_900 (v := 2) hx hb hw5 hown hK hR hS (md_5 hG) (hts _ kw_748) dX5_blight_27 (fun H locs hR hS => ?_)
      refine lv_aload_n hx hb dX5_blight_30 rfl (lv_at hl 0 rfl) ?_
      refine xg_900 (v := 2) hx hb hw5 hown hK hR ((dmM_st (by decide) _ _).mpr (md_5 hG)) (hts _ kw_748) (st_s) dX5_blight_31 ?_
      refine xr_if_ne (tgt := 109) hx hb dX5_blight_34 (by decide) (by decide) (fun _ => ?_) (fun h35 => absurd h35 (by decide))
      refine lv_aload_n hx hb dX5_blight_109 rfl (lv_at hl 0 rfl) ?_
      refine xg_900 (v := 2) hx hb hw5 hown hK hR ((dmM_st (by decide) _ _).mpr (md_5 hG)) (hts _ kw_748) (st_s) dX5_blight_110 ?_
      refine xr_if_le (tgt := 118) hx hb dX5_blight_113 (by decide) (by decide) (fun h36 => absurd h36 (by decide)) (fun _ => ?_)
      refine lv_iconst (v := iI (0)) hx hb dX5_blight_116 rfl ?_
      exact xm_i hx hb hr hlk hS dX5_blight_117 (by exact (mR_k (2) (by ((try unfold mDraft at *); (try unfold mTaken at *); unfold blightME; (repeat' split) <;> first | rfl | omega)) (by decide)).symm) (by rw [mT_k (2) (by ((try unfold mDraft at *); (try unfold mTaken at *); unfold blightME; (repeat' split) <;> first | rfl | omega)) (by decide)]; exact hR)
  · skip
    refine lv_iconst (v := iI (1)) hx hb dX5_blight_9 rfl ?_
    refine lv_goto (tgt := 27) hx hb dX5_blight_10 (by decide) ?_
    refine xp_900 (v := 1) hx hb hw5 hown hK hR hS (md_5 hG) (hts _ kw_748) dX5_blight_27 (fun H locs hR hS => ?_)
    refine lv_aload_n hx hb dX5_blight_30 rfl (lv_at hl 0 rfl) ?_
    refine xg_900 (v := 1) hx hb hw5 hown hK hR ((dmM_st (by decide) _ _).mpr (md_5 hG)) (hts _ kw_748) (st_s) dX5_blight_31 ?_
    refine xr_if_ne (tgt := 109) hx hb dX5_blight_34 (by decide) (by decide) (fun _ => ?_) (fun h37 => absurd h37 (by decide))
    refine lv_aload_n hx hb dX5_blight_109 rfl (lv_at hl 0 rfl) ?_
    refine xg_900 (v := 1) hx hb hw5 hown hK hR ((dmM_st (by decide) _ _).mpr (md_5 hG)) (hts _ kw_748) (st_s) dX5_blight_110 ?_
    refine xr_if_le (tgt := 118) hx hb dX5_blight_113 (by decide) (by decide) (fun h38 => absurd h38 (by decide)) (fun _ => ?_)
    refine lv_iconst (v := iI (0)) hx hb dX5_blight_116 rfl ?_
    exact xm_i hx hb hr hlk hS dX5_blight_117 (by exact (mR_k (1) (by ((try unfold mDraft at *); (try unfold mTaken at *); unfold blightME; (repeat' split) <;> first | rfl | omega)) (by decide)).symm) (by rw [mT_k (1) (by ((try unfold mDraft at *); (try unfold mTaken at *); unfold blightME; (repeat' split) <;> first | rfl | omega)) (by decide)]; exact hR)
theorem ms_X5_works : MVi RX5 yX5_works cX5_works 4 (some .int) 1 := ⟨kw_1023, kw_1021, kw_1022, kw_4, rfl, by decide, by decide, by decide +kernel⟩
set_option maxRecDepth 100000 in
set_option maxHeartbeats 4000000 in
theorem c_X5_works {l : Launch} {D : va_G} {cy : Nat → ClassId} {A : Nat → Prop} {ad : Nat → Int → Nat} {mu : Nat → Int → Int} {H : Heap} (hR : RM D cy A ad mu H) (hG : GM mu)  (x : Int) (h_x : in32 x) : Met l yX5_works (Cond.code yX5_works cX5_works 4 (some .int) :: wG) (rmF 2 44 0 0) (Pc D cy H [.ref (ad 5 (0)), .int (iI (x))]) (Qm (some (.int (iI (mR (worksME mu x) (mWorks (st (st mu 900 0 0) 1009 x 1)))))) (fun H' => RM D cy A ad (mT mu (worksME mu x) (st (st mu 900 0 0) 1009 x 1)) H') A) 0 0 A := by
  refine met_of (la := [(0, .ref (ad 5 (0))), (1, .int (iI (x)))]) (by decide) (Nat.le_of_ble_eq_true rfl) rfl ?_
  intro p e R s m args below meth c ls hRm hx hb hml hr hlk hin hown hts hsH hK hl
  subst hRm
  have hown : s.vm.findClass "TakinghallModel" = some m.cls := hown
  have hw5 : ∀ w ∈ u_ws RX5 TX5 35, w.before args s = true := fun w h => hts w (uw_X5 w h)
  have hS : va_S A s.heap H [] := by rw [hsH]; exact va_S.rf
  refine lv_aload_n hx hb dX5_works_0 rfl (lv_at hl 0 rfl) ?_
  refine lv_aload_n hx hb dX5_works_1 rfl (lv_at hl 0 rfl) ?_
  refine lv_iload_n hx hb dX5_works_2 rfl (lv_at hl 1 rfl) ?_
  refine xk_pF (xr_V (As := [.int (iI (x))]) (rest := [.ref (ad 5 (0))]) hx hb hml hown hts hK (c_X5_isPlot hR hG x (by omega)) ms_X5_isPlot kw_865 (wr_recv hK hR (md_5 hG) rfl rfl) ⟨by decide, by decide⟩ ⟨by decide, by decide⟩ rfl rfl hl.1 rfl (lv_room (Nat.le_of_ble_eq_true rfl)) dX5_works_3) ?_
  refine xr_ifb_ne (tgt := 13) hx hb dX5_works_6 (by decide) (fun h1 => ?_) (fun h1 => ?_)
  · skip
    refine lv_aload_n hx hb dX5_works_13 rfl (lv_at hl 0 rfl) ?_
    refine xg_905 (v := mu 905 0) hx hb hw5 hown hK hR (md_5 hG) (hts _ kw_753) rfl dX5_works_14 ?_
    have q2 : mu 905 0 = 0 := mh_905 hG
    rw [q2, rv_p (Int.le_refl 0)]
    refine lv_iload_n hx hb dX5_works_17 rfl (lv_at hl 1 rfl) ?_
    refine xa_1005 (v := mu 1005 x) hx hb hK hR (md_25 hG) (by omega) rfl dX5_works_18 ?_
    have g3 := mr_1005 hG (x)
    refine lv_iconst (v := iI (1)) hx hb dX5_works_19 rfl ?_
    refine xr_icmp_ne (tgt := 42) hx hb dX5_works_20 (by decide) (by omega) (by omega) (fun h4 => ?_) (fun h4 => ?_)
    · skip
      refine lv_iconst (v := iI (2)) hx hb dX5_works_42 rfl ?_
      refine lv_goto (tgt := 47) hx hb dX5_works_43 (by decide) ?_
      refine xp_900 (v := 2) hx hb hw5 hown hK hR hS (md_5 hG) (hts _ kw_748) dX5_works_47 (fun H locs hR hS => ?_)
      refine lv_aload_n hx hb dX5_works_50 rfl (lv_at hl 0 rfl) ?_
      refine xg_900 (v := 2) hx hb hw5 hown hK hR ((dmM_st (by decide) _ _).mpr (md_5 hG)) (hts _ kw_748) (st_s) dX5_works_51 ?_
      refine xr_if_le (tgt := 59) hx hb dX5_works_54 (by decide) (by decide) (fun h5 => absurd h5 (by decide)) (fun _ => ?_)
      refine lv_iconst (v := iI (0)) hx hb dX5_works_57 rfl ?_
      exact xm_i hx hb hr hlk hS dX5_works_58 (by exact (mR_k (2) (by ((try unfold mDraft at *); (try unfold mTaken at *); unfold worksME; (repeat' split) <;> first | rfl | omega)) (by decide)).symm) (by rw [mT_k (2) (by ((try unfold mDraft at *); (try unfold mTaken at *); unfold worksME; (repeat' split) <;> first | rfl | omega)) (by decide)]; exact hR)
    · skip
      refine lv_aload_n hx hb dX5_works_23 rfl (lv_at hl 0 rfl) ?_
      refine xg_909 (v := mu 909 0) hx hb hw5 hown hK hR (md_5 hG) (hts _ kw_757) rfl dX5_works_24 ?_
      have q6 : mu 909 0 = 0 := mh_909 hG
      rw [q6, rv_p (Int.le_refl 0)]
      refine lv_iload_n hx hb dX5_works_27 rfl (lv_at hl 1 rfl) ?_
      refine xa_1009 (v := mu 1009 x) hx hb hK hR (md_29 hG) (by omega) rfl dX5_works_28 ?_
      have g7 := mr_1009 hG (x)
      refine xr_if_ne (tgt := 42) hx hb dX5_works_29 (by decide) (by omega) (fun h8 => ?_) (fun h8 => ?_)
      · skip
        refine lv_iconst (v := iI (2)) hx hb dX5_works_42 rfl ?_
        refine lv_goto (tgt := 47) hx hb dX5_works_43 (by decide) ?_
        refine xp_900 (v := 2) hx hb hw5 hown hK hR hS (md_5 hG) (hts _ kw_748) dX5_works_47 (fun H locs hR hS => ?_)
        refine lv_aload_n hx hb dX5_works_50 rfl (lv_at hl 0 rfl) ?_
        refine xg_900 (v := 2) hx hb hw5 hown hK hR ((dmM_st (by decide) _ _).mpr (md_5 hG)) (hts _ kw_748) (st_s) dX5_works_51 ?_
        refine xr_if_le (tgt := 59) hx hb dX5_works_54 (by decide) (by decide) (fun h9 => absurd h9 (by decide)) (fun _ => ?_)
        refine lv_iconst (v := iI (0)) hx hb dX5_works_57 rfl ?_
        exact xm_i hx hb hr hlk hS dX5_works_58 (by exact (mR_k (2) (by ((try unfold mDraft at *); (try unfold mTaken at *); unfold worksME; (repeat' split) <;> first | rfl | omega)) (by decide)).symm) (by rw [mT_k (2) (by ((try unfold mDraft at *); (try unfold mTaken at *); unfold worksME; (repeat' split) <;> first | rfl | omega)) (by decide)]; exact hR)
      · skip
        refine lv_aload_n hx hb dX5_works_32 rfl (lv_at hl 0 rfl) ?_
        refine xg_906 (v := mu 906 0) hx hb hw5 hown hK hR (md_5 hG) (hts _ kw_754) rfl dX5_works_33 ?_
        have q10 : mu 906 0 = 0 := mh_906 hG
        rw [q10, rv_p (Int.le_refl 0)]
        refine lv_iload_n hx hb dX5_works_36 rfl (lv_at hl 1 rfl) ?_
        refine xa_1006 (v := mu 1006 x) hx hb hK hR (md_26 hG) (by omega) rfl dX5_works_37 ?_
        have g11 := mr_1006 hG (x)
        refine lv_iconst (v := iI (-1)) hx hb dX5_works_38 rfl ?_
        refine xr_icmp_ne (tgt := 46) hx hb dX5_works_39 (by decide) (by omega) (by omega) (fun h12 => ?_) (fun h12 => ?_)
        · skip
          refine lv_iconst (v := iI (0)) hx hb dX5_works_46 rfl ?_
          refine xp_900 (v := 0) hx hb hw5 hown hK hR hS (md_5 hG) (hts _ kw_748) dX5_works_47 (fun H locs hR hS => ?_)
          refine lv_aload_n hx hb dX5_works_50 rfl (lv_at hl 0 rfl) ?_
          refine xg_900 (v := 0) hx hb hw5 hown hK hR ((dmM_st (by decide) _ _).mpr (md_5 hG)) (hts _ kw_748) (st_s) dX5_works_51 ?_
          refine xr_if_le (tgt := 59) hx hb dX5_works_54 (by decide) (by decide) (fun _ => ?_) (fun h13 => absurd h13 (by decide))
          refine lv_aload_n hx hb dX5_works_59 rfl (lv_at hl 0 rfl) ?_
          refine xg_909 (v := mu 909 0) hx hb hw5 hown hK hR ((dmM_st (by decide) _ _).mpr (md_5 hG)) (hts _ kw_757) ((st_f (by decide)).trans rfl) dX5_works_60 ?_
          have q14 : mu 909 0 = 0 := mh_909 hG
          rw [q14, rv_p (Int.le_refl 0)]
          refine lv_iload_n hx hb dX5_works_63 rfl (lv_at hl 1 rfl) ?_
          refine lv_iconst (v := iI (1)) hx hb dX5_works_64 rfl ?_
          refine xs_1009 (v := 1) hx hb hK hR hS ((dmM_st (by decide) _ _).mpr (md_29 hG)) (by omega) (by omega) dX5_works_65 (fun H locs hR hS => ?_)
          have G9 : GM (st (st mu 900 (0) (0)) 1009 (x) (1)) := (gc_1009 (gc_900 hG (0) (v := 0) (by omega)) (x) (v := 1) (by omega))
          refine lv_iconst (v := iI (0)) hx hb dX5_works_66 rfl ?_
          refine lv_istore_n (i := 2) (lv' := [(2, .int (iI (0))), (0, .ref (ad 5 (0))), (1, .int (iI (x)))]) hx hb dX5_works_67 rfl hl (by decide) rfl (fun ls hl => ?_)
          refine lv_iconst (v := iI (0)) hx hb dX5_works_68 rfl ?_
          refine lv_istore_n (i := 3) (lv' := [(3, .int (iI (0))), (2, .int (iI (0))), (0, .ref (ad 5 (0))), (1, .int (iI (x)))]) hx hb dX5_works_69 rfl hl (by decide) rfl (fun ls hl => ?_)
          have loop70 : ∀ (n : Nat) (i : Int) (acc : Int), 0 ≤ i → i ≤ 36 → acc = sumN (fun q => bI (st (st mu 900 0 0) 1009 x 1 1009 q ≠ 0)) i.toNat → (36 - i).toNat < n → ∀ ls : Array Slot, lv_has ls 4 [(0, .ref (ad 5 (0))), (1, .int (iI (x))), (2, .int (iI (acc))), (3, .int (iI (i)))] → W p l e (rmF 2 44 0 0) s m args below meth c H locs 0 0 (MQ below (Qm (some (.int (iI (mR (worksME mu x) (mWorks (st (st mu 900 0 0) 1009 x 1)))))) (fun H' => RM D cy A ad (mT mu (worksME mu x) (st (st mu 900 0 0) 1009 x 1)) H') A) args s 0 0 A) (F0 m 70 ls []) := by
            intro n
            induction n with
            | zero =>
              intro i acc hi0 hi1 hacc hn ls hl
              exact absurd hn (Nat.not_lt_zero _)
            | succ n ih =>
              intro i acc hi0 hi1 hacc hn ls hl
              refine lv_iload_n hx hb dX5_works_70 rfl (lv_at hl 3 rfl) ?_
              refine lv_bipush (v := iI (36)) hx hb dX5_works_71 (by decide) ?_
              refine xr_icmp_ge (tgt := 99) hx hb dX5_works_73 (by decide) (by omega) (by omega) (fun h15 => ?_) (fun h15 => ?_)
              · skip
                refine lv_iload_n hx hb dX5_works_99 rfl (lv_at hl 2 rfl) ?_
                exact xm_i hx hb hr hlk hS dX5_works_100 (by refine Eq.trans ?_ (mR_0 (by ((try unfold mDraft at *); (try unfold mTaken at *); unfold worksME; (repeat' split) <;> first | rfl | omega))).symm; have e : i = 36 := (by omega); subst e; exact hacc) (by rw [mT_0 (by ((try unfold mDraft at *); (try unfold mTaken at *); unfold worksME; (repeat' split) <;> first | rfl | omega))]; exact hR)
              · skip
                refine lv_iload_n hx hb dX5_works_76 rfl (lv_at hl 2 rfl) ?_
                refine lv_aload_n hx hb dX5_works_77 rfl (lv_at hl 0 rfl) ?_
                refine xg_909 (v := (st (st mu 900 (0) (0)) 1009 (x) (1)) 909 0) hx hb hw5 hown hK hR (md_5 G9) (hts _ kw_757) rfl dX5_works_78 ?_
                have q16 : (st (st mu 900 (0) (0)) 1009 (x) (1)) 909 0 = 0 := mh_909 G9
                rw [q16, rv_p (Int.le_refl 0)]
                refine lv_iload_n hx hb dX5_works_81 rfl (lv_at hl 3 rfl) ?_
                refine xa_1009 (v := (st (st mu 900 (0) (0)) 1009 (x) (1)) 1009 i) hx hb hK hR (md_29 G9) (by omega) rfl dX5_works_82 ?_
                have g17 := mr_1009 G9 (i)
                refine xr_if_eq (tgt := 90) hx hb dX5_works_83 (by decide) (by omega) (fun h18 => ?_) (fun h18 => ?_)
                · skip
                  refine lv_iconst (v := iI (0)) hx hb dX5_works_90 rfl ?_
                  refine xr_iadd hx hb dX5_works_91 ?_
                  refine lv_istore_n (i := 2) (lv' := [(2, .int (iI (acc + 0))), (0, .ref (ad 5 (0))), (1, .int (iI (x))), (3, .int (iI (i)))]) hx hb dX5_works_92 rfl hl (by decide) rfl (fun ls hl => ?_)
                  refine lv_iinc (v := iI (i + (1))) (lv' := [(3, .int (iI (i + (1)))), (2, .int (iI (acc + 0))), (0, .ref (ad 5 (0))), (1, .int (iI (x)))]) hx hb dX5_works_93 hl (k := 3) rfl (iI_add _ _) (by decide) rfl (fun ls hl => ?_)
                  refine lv_goto (tgt := 70) hx hb dX5_works_96 (by decide) ?_
                  exact ih (i + 1) (acc + 0) (by omega) (by omega) (sum_t hi0 hacc (by first | exact (bI_t (by assumption)).symm | exact bI_f (by assumption) | exact (bI_f (by omega)).symm | exact (bI_t (by omega)).symm)) (by omega) ls (lv_sub hl [2, 3, 1, 0] rfl)
                · skip
                  refine lv_iconst (v := iI (1)) hx hb dX5_works_86 rfl ?_
                  refine lv_goto (tgt := 91) hx hb dX5_works_87 (by decide) ?_
                  refine xr_iadd hx hb dX5_works_91 ?_
                  refine lv_istore_n (i := 2) (lv' := [(2, .int (iI (acc + 1))), (0, .ref (ad 5 (0))), (1, .int (iI (x))), (3, .int (iI (i)))]) hx hb dX5_works_92 rfl hl (by decide) rfl (fun ls hl => ?_)
                  refine lv_iinc (v := iI (i + (1))) (lv' := [(3, .int (iI (i + (1)))), (2, .int (iI (acc + 1))), (0, .ref (ad 5 (0))), (1, .int (iI (x)))]) hx hb dX5_works_93 hl (k := 3) rfl (iI_add _ _) (by decide) rfl (fun ls hl => ?_)
                  refine lv_goto (tgt := 70) hx hb dX5_works_96 (by decide) ?_
                  exact ih (i + 1) (acc + 1) (by omega) (by omega) (sum_t hi0 hacc (by first | exact (bI_t (by assumption)).symm | exact bI_f (by assumption) | exact (bI_f (by omega)).symm | exact (bI_t (by omega)).symm)) (by omega) ls (lv_sub hl [2, 3, 1, 0] rfl)
          exact loop70 _ 0 0 (by decide) (by omega) rfl (Nat.lt_succ_self _) ls (lv_sub hl [2, 3, 1, 0] rfl)
        · skip
          refine lv_iconst (v := iI (2)) hx hb dX5_works_42 rfl ?_
          refine lv_goto (tgt := 47) hx hb dX5_works_43 (by decide) ?_
          refine xp_900 (v := 2) hx hb hw5 hown hK hR hS (md_5 hG) (hts _ kw_748) dX5_works_47 (fun H locs hR hS => ?_)
          refine lv_aload_n hx hb dX5_works_50 rfl (lv_at hl 0 rfl) ?_
          refine xg_900 (v := 2) hx hb hw5 hown hK hR ((dmM_st (by decide) _ _).mpr (md_5 hG)) (hts _ kw_748) (st_s) dX5_works_51 ?_
          refine xr_if_le (tgt := 59) hx hb dX5_works_54 (by decide) (by decide) (fun h19 => absurd h19 (by decide)) (fun _ => ?_)
          refine lv_iconst (v := iI (0)) hx hb dX5_works_57 rfl ?_
          exact xm_i hx hb hr hlk hS dX5_works_58 (by exact (mR_k (2) (by ((try unfold mDraft at *); (try unfold mTaken at *); unfold worksME; (repeat' split) <;> first | rfl | omega)) (by decide)).symm) (by rw [mT_k (2) (by ((try unfold mDraft at *); (try unfold mTaken at *); unfold worksME; (repeat' split) <;> first | rfl | omega)) (by decide)]; exact hR)
  · skip
    refine lv_iconst (v := iI (1)) hx hb dX5_works_9 rfl ?_
    refine lv_goto (tgt := 47) hx hb dX5_works_10 (by decide) ?_
    refine xp_900 (v := 1) hx hb hw5 hown hK hR hS (md_5 hG) (hts _ kw_748) dX5_works_47 (fun H locs hR hS => ?_)
    refine lv_aload_n hx hb dX5_works_50 rfl (lv_at hl 0 rfl) ?_
    refine xg_900 (v := 1) hx hb hw5 hown hK hR ((dmM_st (by decide) _ _).mpr (md_5 hG)) (hts _ kw_748) (st_s) dX5_works_51 ?_
    refine xr_if_le (tgt := 59) hx hb dX5_works_54 (by decide) (by decide) (fun h20 => absurd h20 (by decide)) (fun _ => ?_)
    refine lv_iconst (v := iI (0)) hx hb dX5_works_57 rfl ?_
    exact xm_i hx hb hr hlk hS dX5_works_58 (by exact (mR_k (1) (by ((try unfold mDraft at *); (try unfold mTaken at *); unfold worksME; (repeat' split) <;> first | rfl | omega)) (by decide)).symm) (by rw [mT_k (1) (by ((try unfold mDraft at *); (try unfold mTaken at *); unfold worksME; (repeat' split) <;> first | rfl | omega)) (by decide)]; exact hR)
theorem ms_X5_sumAnew : MVi RX5 yX5_sumAnew cX5_sumAnew 2 (some .long) 1 := ⟨kw_1027, kw_1025, kw_1026, kw_4, rfl, by decide, by decide, by decide +kernel⟩
set_option maxRecDepth 100000 in
set_option maxHeartbeats 4000000 in
theorem c_X5_sumAnew {l : Launch} {D : va_G} {cy : Nat → ClassId} {A : Nat → Prop} {ad : Nat → Int → Nat} {mu : Nat → Int → Int} {H : Heap} (hR : RM D cy A ad mu H) (hG : GM mu)  (x : Int) (h_x : in32 x) : Met l yX5_sumAnew (Cond.code yX5_sumAnew cX5_sumAnew 2 (some .long) :: wG) (rmF 3 71 0 0) (Pc D cy H [.ref (ad 5 (0)), .int (iI (x))]) (Qm (some (.long (lI (mR (iME mu x) (mAnewR mu x))))) (fun H' => RM D cy A ad (st mu 900 0 (iME mu x)) H') A) 0 0 A := by
  refine met_of (la := [(0, .ref (ad 5 (0))), (1, .int (iI (x)))]) (by decide) (Nat.le_of_ble_eq_true rfl) rfl ?_
  intro p e R s m args below meth c ls hRm hx hb hml hr hlk hin hown hts hsH hK hl
  subst hRm
  have hown : s.vm.findClass "TakinghallModel" = some m.cls := hown
  have hw5 : ∀ w ∈ u_ws RX5 TX5 35, w.before args s = true := fun w h => hts w (uw_X5 w h)
  have hS : va_S A s.heap H [] := by rw [hsH]; exact va_S.rf
  have g913 := mr_913 hG 0
  refine lv_aload_n hx hb dX5_sumAnew_0 rfl (lv_at hl 0 rfl) ?_
  refine lv_aload_n hx hb dX5_sumAnew_1 rfl (lv_at hl 0 rfl) ?_
  refine lv_iload_n hx hb dX5_sumAnew_2 rfl (lv_at hl 1 rfl) ?_
  refine xk_pF (xr_V (As := [.int (iI (x))]) (rest := [.ref (ad 5 (0))]) hx hb hml hown hts hK (c_X5_isInterest hR hG x (by omega)) ms_X5_isInterest kw_922 (wr_recv hK hR (md_5 hG) rfl rfl) ⟨by decide, by decide⟩ ⟨by decide, by decide⟩ rfl rfl hl.1 rfl (lv_room (Nat.le_of_ble_eq_true rfl)) dX5_sumAnew_3) ?_
  refine xr_ifb_ne (tgt := 13) hx hb dX5_sumAnew_6 (by decide) (fun h1 => ?_) (fun h1 => ?_)
  · skip
    refine lv_iconst (v := iI (0)) hx hb dX5_sumAnew_13 rfl ?_
    refine xp_900 (v := 0) hx hb hw5 hown hK hR hS (md_5 hG) (hts _ kw_748) dX5_sumAnew_14 (fun H locs hR hS => ?_)
    refine lv_aload_n hx hb dX5_sumAnew_17 rfl (lv_at hl 0 rfl) ?_
    refine xg_900 (v := 0) hx hb hw5 hown hK hR ((dmM_st (by decide) _ _).mpr (md_5 hG)) (hts _ kw_748) (st_s) dX5_sumAnew_18 ?_
    refine xr_if_gt (tgt := 32) hx hb dX5_sumAnew_21 (by decide) (by decide) (fun h2 => absurd h2 (by decide)) (fun _ => ?_)
    refine lv_aload_n hx hb dX5_sumAnew_24 rfl (lv_at hl 0 rfl) ?_
    refine lv_iload_n hx hb dX5_sumAnew_25 rfl (lv_at hl 1 rfl) ?_
    refine xk_pF (xr_V (As := [.int (iI (x))]) (rest := []) hx hb hml hown hts hK (c_X5_wasTaken hR (gc_900 hG (0) (v := 0) (by omega)) x (by omega)) ms_X5_wasTaken kw_1028 (wr_recv hK hR ((dmM_st (by decide) _ _).mpr (md_5 hG)) rfl rfl) ⟨by decide, by decide⟩ ⟨by decide, by decide⟩ rfl rfl hl.1 rfl (lv_room (by decide)) dX5_sumAnew_26) ?_
    rw [show (mTaken (st mu 900 (0) (0)) x) = (mTaken mu x) from by first | rfl | (simp only [mSum_9, mOwnB_9, mShare_9, mLeft_9s]; done)]
    refine xr_ifb_ne (tgt := 36) hx hb dX5_sumAnew_29 (by decide) (fun h3 => ?_) (fun h3 => ?_)
    · skip
      refine lv_aload_n hx hb dX5_sumAnew_36 rfl (lv_at hl 0 rfl) ?_
      refine lv_iload_n hx hb dX5_sumAnew_37 rfl (lv_at hl 1 rfl) ?_
      refine xk_pF (xr_V (As := [.int (iI (x))]) (rest := []) hx hb hml hown hts hK (c_X5_sumOf hR (gc_900 hG (0) (v := 0) (by omega)) x (by omega)) ms_X5_sumOf kw_1006 (wr_recv hK hR ((dmM_st (by decide) _ _).mpr (md_5 hG)) rfl rfl) ⟨by decide, by decide⟩ ⟨by decide, by decide⟩ rfl rfl hl.1 rfl (lv_room (by decide)) dX5_sumAnew_38) ?_
      rw [show (mSum (st mu 900 (0) (0)) x) = (mSum mu x) from by first | rfl | (simp only [mSum_9, mOwnB_9, mShare_9, mLeft_9s]; done)]
      have g4 := mSum_rng hG (i := (x))
      exact xm_l hx hb hr hlk hS dX5_sumAnew_41 (by refine Eq.trans ?_ (mR_0 (by ((try unfold mDraft at *); (try unfold mTaken at *); unfold iME; (repeat' split) <;> first | rfl | omega))).symm; unfold mAnewR; first | rw [if_pos (by unfold mTaken at *; omega)] | rw [if_neg (by unfold mTaken at *; omega)]) (by exact cast (congrArg (fun z => RM D cy A ad (st mu 900 0 z) H) (Eq.symm (by ((try unfold mDraft at *); (try unfold mTaken at *); unfold iME; (repeat' split) <;> first | rfl | omega)))) hR)
    · skip
      refine lv_lconst (v := lI (0)) hx hb dX5_sumAnew_32 (by decide) ?_
      refine lv_goto (tgt := 41) hx hb dX5_sumAnew_33 (by decide) ?_
      exact xm_l hx hb hr hlk hS dX5_sumAnew_41 (by refine Eq.trans ?_ (mR_0 (by ((try unfold mDraft at *); (try unfold mTaken at *); unfold iME; (repeat' split) <;> first | rfl | omega))).symm; unfold mAnewR; first | rw [if_pos (by unfold mTaken at *; omega)] | rw [if_neg (by unfold mTaken at *; omega)]) (by exact cast (congrArg (fun z => RM D cy A ad (st mu 900 0 z) H) (Eq.symm (by ((try unfold mDraft at *); (try unfold mTaken at *); unfold iME; (repeat' split) <;> first | rfl | omega)))) hR)
  · skip
    refine lv_iconst (v := iI (1)) hx hb dX5_sumAnew_9 rfl ?_
    refine lv_goto (tgt := 14) hx hb dX5_sumAnew_10 (by decide) ?_
    refine xp_900 (v := 1) hx hb hw5 hown hK hR hS (md_5 hG) (hts _ kw_748) dX5_sumAnew_14 (fun H locs hR hS => ?_)
    refine lv_aload_n hx hb dX5_sumAnew_17 rfl (lv_at hl 0 rfl) ?_
    refine xg_900 (v := 1) hx hb hw5 hown hK hR ((dmM_st (by decide) _ _).mpr (md_5 hG)) (hts _ kw_748) (st_s) dX5_sumAnew_18 ?_
    refine xr_if_gt (tgt := 32) hx hb dX5_sumAnew_21 (by decide) (by decide) (fun _ => ?_) (fun h5 => absurd h5 (by decide))
    refine lv_lconst (v := lI (0)) hx hb dX5_sumAnew_32 (by decide) ?_
    refine lv_goto (tgt := 41) hx hb dX5_sumAnew_33 (by decide) ?_
    exact xm_l hx hb hr hlk hS dX5_sumAnew_41 (by exact (mR_k (1) (by ((try unfold mDraft at *); (try unfold mTaken at *); unfold iME; (repeat' split) <;> first | rfl | omega)) (by decide)).symm) (by exact cast (congrArg (fun z => RM D cy A ad (st mu 900 0 z) H) (Eq.symm (by ((try unfold mDraft at *); (try unfold mTaken at *); unfold iME; (repeat' split) <;> first | rfl | omega)))) hR)
theorem ms_X5_owed : MVi RX5 yX5_owed cX5_owed 2 (some .long) 1 := ⟨kw_1035, kw_1033, kw_1034, kw_4, rfl, by decide, by decide, by decide +kernel⟩
set_option maxRecDepth 100000 in
set_option maxHeartbeats 4000000 in
theorem c_X5_owed {l : Launch} {D : va_G} {cy : Nat → ClassId} {A : Nat → Prop} {ad : Nat → Int → Nat} {mu : Nat → Int → Int} {H : Heap} (hR : RM D cy A ad mu H) (hG : GM mu)  (x : Int) (h_x : in32 x) : Met l yX5_owed (Cond.code yX5_owed cX5_owed 2 (some .long) :: wG) (rmF 2 50 0 0) (Pc D cy H [.ref (ad 5 (0)), .int (iI (x))]) (Qm (some (.long (lI (mR (iME mu x) (mOwed mu x))))) (fun H' => RM D cy A ad (st mu 900 0 (iME mu x)) H') A) 0 0 A := by
  refine met_of (la := [(0, .ref (ad 5 (0))), (1, .int (iI (x)))]) (by decide) (Nat.le_of_ble_eq_true rfl) rfl ?_
  intro p e R s m args below meth c ls hRm hx hb hml hr hlk hin hown hts hsH hK hl
  subst hRm
  have hown : s.vm.findClass "TakinghallModel" = some m.cls := hown
  have hw5 : ∀ w ∈ u_ws RX5 TX5 35, w.before args s = true := fun w h => hts w (uw_X5 w h)
  have hS : va_S A s.heap H [] := by rw [hsH]; exact va_S.rf
  have g913 := mr_913 hG 0
  refine lv_aload_n hx hb dX5_owed_0 rfl (lv_at hl 0 rfl) ?_
  refine lv_aload_n hx hb dX5_owed_1 rfl (lv_at hl 0 rfl) ?_
  refine lv_iload_n hx hb dX5_owed_2 rfl (lv_at hl 1 rfl) ?_
  refine xk_pF (xr_V (As := [.int (iI (x))]) (rest := [.ref (ad 5 (0))]) hx hb hml hown hts hK (c_X5_isInterest hR hG x (by omega)) ms_X5_isInterest kw_922 (wr_recv hK hR (md_5 hG) rfl rfl) ⟨by decide, by decide⟩ ⟨by decide, by decide⟩ rfl rfl hl.1 rfl (lv_room (Nat.le_of_ble_eq_true rfl)) dX5_owed_3) ?_
  refine xr_ifb_ne (tgt := 13) hx hb dX5_owed_6 (by decide) (fun h1 => ?_) (fun h1 => ?_)
  · skip
    refine lv_iconst (v := iI (0)) hx hb dX5_owed_13 rfl ?_
    refine xp_900 (v := 0) hx hb hw5 hown hK hR hS (md_5 hG) (hts _ kw_748) dX5_owed_14 (fun H locs hR hS => ?_)
    refine lv_aload_n hx hb dX5_owed_17 rfl (lv_at hl 0 rfl) ?_
    refine xg_900 (v := 0) hx hb hw5 hown hK hR ((dmM_st (by decide) _ _).mpr (md_5 hG)) (hts _ kw_748) (st_s) dX5_owed_18 ?_
    refine xr_if_le (tgt := 28) hx hb dX5_owed_21 (by decide) (by decide) (fun _ => ?_) (fun h2 => absurd h2 (by decide))
    refine lv_aload_n hx hb dX5_owed_28 rfl (lv_at hl 0 rfl) ?_
    refine lv_iload_n hx hb dX5_owed_29 rfl (lv_at hl 1 rfl) ?_
    refine xk_pF (xr_V (As := [.int (iI (x))]) (rest := []) hx hb hml hown hts hK (c_X5_owedTo hR (gc_900 hG (0) (v := 0) (by omega)) x (by omega)) ms_X5_owedTo kw_1036 (wr_recv hK hR ((dmM_st (by decide) _ _).mpr (md_5 hG)) rfl rfl) ⟨by decide, by decide⟩ ⟨by decide, by decide⟩ rfl rfl hl.1 rfl (lv_room (by decide)) dX5_owed_30) ?_
    rw [show (mOwed (st mu 900 (0) (0)) x) = (mOwed mu x) from by first | rfl | (simp only [mSum_9, mOwnB_9, mShare_9, mLeft_9s]; done)]
    have g3 := mOwed_rng hG (x)
    exact xm_l hx hb hr hlk hS dX5_owed_33 (by refine Eq.trans ?_ (mR_0 (by ((try unfold mDraft at *); (try unfold mTaken at *); unfold iME; (repeat' split) <;> first | rfl | omega))).symm; rfl) (by exact cast (congrArg (fun z => RM D cy A ad (st mu 900 0 z) H) (Eq.symm (by ((try unfold mDraft at *); (try unfold mTaken at *); unfold iME; (repeat' split) <;> first | rfl | omega)))) hR)
  · skip
    refine lv_iconst (v := iI (1)) hx hb dX5_owed_9 rfl ?_
    refine lv_goto (tgt := 14) hx hb dX5_owed_10 (by decide) ?_
    refine xp_900 (v := 1) hx hb hw5 hown hK hR hS (md_5 hG) (hts _ kw_748) dX5_owed_14 (fun H locs hR hS => ?_)
    refine lv_aload_n hx hb dX5_owed_17 rfl (lv_at hl 0 rfl) ?_
    refine xg_900 (v := 1) hx hb hw5 hown hK hR ((dmM_st (by decide) _ _).mpr (md_5 hG)) (hts _ kw_748) (st_s) dX5_owed_18 ?_
    refine xr_if_le (tgt := 28) hx hb dX5_owed_21 (by decide) (by decide) (fun h4 => absurd h4 (by decide)) (fun _ => ?_)
    refine lv_lconst (v := lI (0)) hx hb dX5_owed_24 (by decide) ?_
    refine lv_goto (tgt := 33) hx hb dX5_owed_25 (by decide) ?_
    exact xm_l hx hb hr hlk hS dX5_owed_33 (by exact (mR_k (1) (by ((try unfold mDraft at *); (try unfold mTaken at *); unfold iME; (repeat' split) <;> first | rfl | omega)) (by decide)).symm) (by exact cast (congrArg (fun z => RM D cy A ad (st mu 900 0 z) H) (Eq.symm (by ((try unfold mDraft at *); (try unfold mTaken at *); unfold iME; (repeat' split) <;> first | rfl | omega)))) hR)
theorem ms_X5_advance : MVi RX5 yX5_advance cX5_advance 2 (some .long) 1 := ⟨kw_1049, kw_1047, kw_1048, kw_4, rfl, by decide, by decide, by decide +kernel⟩
set_option maxRecDepth 100000 in
set_option maxHeartbeats 4000000 in
theorem c_X5_advance {l : Launch} {D : va_G} {cy : Nat → ClassId} {A : Nat → Prop} {ad : Nat → Int → Nat} {mu : Nat → Int → Int} {H : Heap} (hR : RM D cy A ad mu H) (hG : GM mu)  (x : Int) (h_x : in32 x) : Met l yX5_advance (Cond.code yX5_advance cX5_advance 2 (some .long) :: wG) (rmF 2 44 0 0) (Pc D cy H [.ref (ad 5 (0)), .int (iI (x))]) (Qm (some (.long (lI (mR (advME mu x) (mu 1021 x * 90 / 100))))) (fun H' => RM D cy A ad (mT mu (advME mu x) (st (st (st (st mu 900 0 0) 1023 x (mu 1021 x * 90 / 100)) 1024 x (mu 901 0)) 1022 x (mu 1022 x + mu 1021 x * 90 / 100))) H') A) 0 0 A := by
  refine met_of (la := [(0, .ref (ad 5 (0))), (1, .int (iI (x)))]) (by decide) (Nat.le_of_ble_eq_true rfl) rfl ?_
  intro p e R s m args below meth c ls hRm hx hb hml hr hlk hin hown hts hsH hK hl
  subst hRm
  have hown : s.vm.findClass "TakinghallModel" = some m.cls := hown
  have hw5 : ∀ w ∈ u_ws RX5 TX5 35, w.before args s = true := fun w h => hts w (uw_X5 w h)
  have hS : va_S A s.heap H [] := by rw [hsH]; exact va_S.rf
  have g913 := mr_913 hG 0
  refine lv_aload_n hx hb dX5_advance_0 rfl (lv_at hl 0 rfl) ?_
  refine lv_aload_n hx hb dX5_advance_1 rfl (lv_at hl 0 rfl) ?_
  refine lv_iload_n hx hb dX5_advance_2 rfl (lv_at hl 1 rfl) ?_
  refine xk_pF (xr_V (As := [.int (iI (x))]) (rest := [.ref (ad 5 (0))]) hx hb hml hown hts hK (c_X5_isInterest hR hG x (by omega)) ms_X5_isInterest kw_922 (wr_recv hK hR (md_5 hG) rfl rfl) ⟨by decide, by decide⟩ ⟨by decide, by decide⟩ rfl rfl hl.1 rfl (lv_room (Nat.le_of_ble_eq_true rfl)) dX5_advance_3) ?_
  refine xr_ifb_ne (tgt := 13) hx hb dX5_advance_6 (by decide) (fun h1 => ?_) (fun h1 => ?_)
  · skip
    refine lv_aload_n hx hb dX5_advance_13 rfl (lv_at hl 0 rfl) ?_
    refine lv_iload_n hx hb dX5_advance_14 rfl (lv_at hl 1 rfl) ?_
    refine xk_pF (xr_V (As := [.int (iI (x))]) (rest := [.ref (ad 5 (0))]) hx hb hml hown hts hK (c_X5_wasTaken hR hG x (by omega)) ms_X5_wasTaken kw_1028 (wr_recv hK hR (md_5 hG) rfl rfl) ⟨by decide, by decide⟩ ⟨by decide, by decide⟩ rfl rfl hl.1 rfl (lv_room (Nat.le_of_ble_eq_true rfl)) dX5_advance_15) ?_
    refine xr_ifb_eq (tgt := 40) hx hb dX5_advance_18 (by decide) (fun h2 => ?_) (fun h2 => ?_)
    · skip
      refine lv_iconst (v := iI (2)) hx hb dX5_advance_40 rfl ?_
      refine lv_goto (tgt := 45) hx hb dX5_advance_41 (by decide) ?_
      refine xp_900 (v := 2) hx hb hw5 hown hK hR hS (md_5 hG) (hts _ kw_748) dX5_advance_45 (fun H locs hR hS => ?_)
      refine lv_aload_n hx hb dX5_advance_48 rfl (lv_at hl 0 rfl) ?_
      refine xg_900 (v := 2) hx hb hw5 hown hK hR ((dmM_st (by decide) _ _).mpr (md_5 hG)) (hts _ kw_748) (st_s) dX5_advance_49 ?_
      refine xr_if_le (tgt := 57) hx hb dX5_advance_52 (by decide) (by decide) (fun h3 => absurd h3 (by decide)) (fun _ => ?_)
      refine lv_lconst (v := lI (0)) hx hb dX5_advance_55 (by decide) ?_
      exact xm_l hx hb hr hlk hS dX5_advance_56 (by exact (mR_k (2) (by ((try unfold mDraft at *); (try unfold mTaken at *); unfold advME; (repeat' split) <;> first | rfl | omega)) (by decide)).symm) (by rw [mT_k (2) (by ((try unfold mDraft at *); (try unfold mTaken at *); unfold advME; (repeat' split) <;> first | rfl | omega)) (by decide)]; exact hR)
    · skip
      refine lv_aload_n hx hb dX5_advance_21 rfl (lv_at hl 0 rfl) ?_
      refine xg_924 (v := mu 924 0) hx hb hw5 hown hK hR (md_5 hG) (hts _ kw_772) rfl dX5_advance_22 ?_
      have q4 : mu 924 0 = 0 := mh_924 hG
      rw [q4, rv_p (Int.le_refl 0)]
      refine lv_iload_n hx hb dX5_advance_25 rfl (lv_at hl 1 rfl) ?_
      refine xa_1024 (v := mu 1024 x) hx hb hK hR (md_44 hG) (by omega) rfl dX5_advance_26 ?_
      have g5 := mr_1024 hG (x)
      refine lv_iconst (v := iI (-1)) hx hb dX5_advance_27 rfl ?_
      refine xr_icmp_ne (tgt := 40) hx hb dX5_advance_28 (by decide) (by omega) (by omega) (fun h6 => ?_) (fun h6 => ?_)
      · skip
        refine lv_iconst (v := iI (2)) hx hb dX5_advance_40 rfl ?_
        refine lv_goto (tgt := 45) hx hb dX5_advance_41 (by decide) ?_
        refine xp_900 (v := 2) hx hb hw5 hown hK hR hS (md_5 hG) (hts _ kw_748) dX5_advance_45 (fun H locs hR hS => ?_)
        refine lv_aload_n hx hb dX5_advance_48 rfl (lv_at hl 0 rfl) ?_
        refine xg_900 (v := 2) hx hb hw5 hown hK hR ((dmM_st (by decide) _ _).mpr (md_5 hG)) (hts _ kw_748) (st_s) dX5_advance_49 ?_
        refine xr_if_le (tgt := 57) hx hb dX5_advance_52 (by decide) (by decide) (fun h7 => absurd h7 (by decide)) (fun _ => ?_)
        refine lv_lconst (v := lI (0)) hx hb dX5_advance_55 (by decide) ?_
        exact xm_l hx hb hr hlk hS dX5_advance_56 (by exact (mR_k (2) (by ((try unfold mDraft at *); (try unfold mTaken at *); unfold advME; (repeat' split) <;> first | rfl | omega)) (by decide)).symm) (by rw [mT_k (2) (by ((try unfold mDraft at *); (try unfold mTaken at *); unfold advME; (repeat' split) <;> first | rfl | omega)) (by decide)]; exact hR)
      · skip
        refine lv_aload_n hx hb dX5_advance_31 rfl (lv_at hl 0 rfl) ?_
        refine xg_925 (v := mu 925 0) hx hb hw5 hown hK hR (md_5 hG) (hts _ kw_773) rfl dX5_advance_32 ?_
        have q8 : mu 925 0 = 0 := mh_925 hG
        rw [q8, rv_p (Int.le_refl 0)]
        refine lv_iload_n hx hb dX5_advance_35 rfl (lv_at hl 1 rfl) ?_
        refine xa_1025 (v := mu 1025 x) hx hb hK hR (md_45 hG) (by omega) rfl dX5_advance_36 ?_
        have g9 := mr_1025 hG (x)
        refine xr_if_eq (tgt := 44) hx hb dX5_advance_37 (by decide) (by omega) (fun h10 => ?_) (fun h10 => ?_)
        · skip
          refine lv_iconst (v := iI (0)) hx hb dX5_advance_44 rfl ?_
          refine xp_900 (v := 0) hx hb hw5 hown hK hR hS (md_5 hG) (hts _ kw_748) dX5_advance_45 (fun H locs hR hS => ?_)
          refine lv_aload_n hx hb dX5_advance_48 rfl (lv_at hl 0 rfl) ?_
          refine xg_900 (v := 0) hx hb hw5 hown hK hR ((dmM_st (by decide) _ _).mpr (md_5 hG)) (hts _ kw_748) (st_s) dX5_advance_49 ?_
          refine xr_if_le (tgt := 57) hx hb dX5_advance_52 (by decide) (by decide) (fun _ => ?_) (fun h11 => absurd h11 (by decide))
          refine lv_aload_n hx hb dX5_advance_57 rfl (lv_at hl 0 rfl) ?_
          refine xg_923 (v := mu 923 0) hx hb hw5 hown hK hR ((dmM_st (by decide) _ _).mpr (md_5 hG)) (hts _ kw_771) ((st_f (by decide)).trans rfl) dX5_advance_58 ?_
          have q12 : mu 923 0 = 0 := mh_923 hG
          rw [q12, rv_p (Int.le_refl 0)]
          refine lv_iload_n hx hb dX5_advance_61 rfl (lv_at hl 1 rfl) ?_
          refine lv_aload_n hx hb dX5_advance_62 rfl (lv_at hl 0 rfl) ?_
          refine xg_921 (v := mu 921 0) hx hb hw5 hown hK hR ((dmM_st (by decide) _ _).mpr (md_5 hG)) (hts _ kw_769) ((st_f (by decide)).trans rfl) dX5_advance_63 ?_
          have q13 : mu 921 0 = 0 := mh_921 hG
          rw [q13, rv_p (Int.le_refl 0)]
          refine lv_iload_n hx hb dX5_advance_66 rfl (lv_at hl 1 rfl) ?_
          refine xa_1021 (v := mu 1021 x) hx hb hK hR ((dmM_st (by decide) _ _).mpr (md_41 hG)) (by omega) ((st_f (by decide)).trans rfl) dX5_advance_67 ?_
          have g14 := mr_1021 hG (x)
          refine lv_ldc2 (v := lI (90)) hx hb hown (hts _ kw_1050) dX5_advance_68 ?_
          refine xr_lmul hx hb dX5_advance_71 ?_
          refine lv_ldc2 (v := lI (100)) hx hb hown (hts _ kw_1014) dX5_advance_72 ?_
          refine xr_ldiv hx hb dX5_advance_75 (by omega) (by omega) ?_
          refine xs_1023 (v := ((mu 1021 x) * 90) / 100) hx hb hK hR hS ((dmM_st (by decide) _ _).mpr (md_43 hG)) (by omega) dX5_advance_76 (fun H locs hR hS => ?_)
          refine lv_aload_n hx hb dX5_advance_77 rfl (lv_at hl 0 rfl) ?_
          refine xg_924 (v := mu 924 0) hx hb hw5 hown hK hR ((dmM_st (by decide) _ _).mpr ((dmM_st (by decide) _ _).mpr (md_5 hG))) (hts _ kw_772) ((st_f (by decide)).trans ((st_f (by decide)).trans rfl)) dX5_advance_78 ?_
          have q15 : mu 924 0 = 0 := mh_924 hG
          rw [q15, rv_p (Int.le_refl 0)]
          refine lv_iload_n hx hb dX5_advance_81 rfl (lv_at hl 1 rfl) ?_
          refine lv_aload_n hx hb dX5_advance_82 rfl (lv_at hl 0 rfl) ?_
          refine xg_901 (v := mu 901 0) hx hb hw5 hown hK hR ((dmM_st (by decide) _ _).mpr ((dmM_st (by decide) _ _).mpr (md_5 hG))) (hts _ kw_749) ((st_f (by decide)).trans ((st_f (by decide)).trans rfl)) dX5_advance_83 ?_
          have g16 := mr_901 hG (0)
          refine xs_1024 (v := mu 901 0) hx hb hK hR hS ((dmM_st (by decide) _ _).mpr ((dmM_st (by decide) _ _).mpr (md_44 hG))) (by omega) dX5_advance_86 (fun H locs hR hS => ?_)
          refine lv_aload_n hx hb dX5_advance_87 rfl (lv_at hl 0 rfl) ?_
          refine xg_922 (v := mu 922 0) hx hb hw5 hown hK hR ((dmM_st (by decide) _ _).mpr ((dmM_st (by decide) _ _).mpr ((dmM_st (by decide) _ _).mpr (md_5 hG)))) (hts _ kw_770) ((st_f (by decide)).trans ((st_f (by decide)).trans ((st_f (by decide)).trans rfl))) dX5_advance_88 ?_
          have q17 : mu 922 0 = 0 := mh_922 hG
          rw [q17, rv_p (Int.le_refl 0)]
          refine lv_iload_n hx hb dX5_advance_91 rfl (lv_at hl 1 rfl) ?_
          refine lv_dup2_11 hx hb dX5_advance_92 rfl rfl ?_
          refine xa_1022 (v := mu 1022 x) hx hb hK hR ((dmM_st (by decide) _ _).mpr ((dmM_st (by decide) _ _).mpr ((dmM_st (by decide) _ _).mpr (md_42 hG)))) (by omega) ((st_f (by decide)).trans ((st_f (by decide)).trans ((st_f (by decide)).trans rfl))) dX5_advance_93 ?_
          refine lv_aload_n hx hb dX5_advance_94 rfl (lv_at hl 0 rfl) ?_
          refine xg_923 (v := mu 923 0) hx hb hw5 hown hK hR ((dmM_st (by decide) _ _).mpr ((dmM_st (by decide) _ _).mpr ((dmM_st (by decide) _ _).mpr (md_5 hG)))) (hts _ kw_771) ((st_f (by decide)).trans ((st_f (by decide)).trans ((st_f (by decide)).trans rfl))) dX5_advance_95 ?_
          have q18 : mu 923 0 = 0 := mh_923 hG
          rw [q18, rv_p (Int.le_refl 0)]
          refine lv_iload_n hx hb dX5_advance_98 rfl (lv_at hl 1 rfl) ?_
          refine xa_1023 (v := ((mu 1021 x) * 90) / 100) hx hb hK hR ((dmM_st (by decide) _ _).mpr ((dmM_st (by decide) _ _).mpr ((dmM_st (by decide) _ _).mpr (md_43 hG)))) (by omega) ((st_f (by decide)).trans (st_s)) dX5_advance_99 ?_
          refine xr_ladd hx hb dX5_advance_100 ?_
          refine xs_1022 (v := (mu 1022 x) + (((mu 1021 x) * 90) / 100)) hx hb hK hR hS ((dmM_st (by decide) _ _).mpr ((dmM_st (by decide) _ _).mpr ((dmM_st (by decide) _ _).mpr (md_42 hG)))) (by omega) dX5_advance_101 (fun H locs hR hS => ?_)
          refine lv_aload_n hx hb dX5_advance_102 rfl (lv_at hl 0 rfl) ?_
          refine xg_923 (v := mu 923 0) hx hb hw5 hown hK hR ((dmM_st (by decide) _ _).mpr ((dmM_st (by decide) _ _).mpr ((dmM_st (by decide) _ _).mpr ((dmM_st (by decide) _ _).mpr (md_5 hG))))) (hts _ kw_771) ((st_f (by decide)).trans ((st_f (by decide)).trans ((st_f (by decide)).trans ((st_f (by decide)).trans rfl)))) dX5_advance_103 ?_
          have q19 : mu 923 0 = 0 := mh_923 hG
          rw [q19, rv_p (Int.le_refl 0)]
          refine lv_iload_n hx hb dX5_advance_106 rfl (lv_at hl 1 rfl) ?_
          refine xa_1023 (v := ((mu 1021 x) * 90) / 100) hx hb hK hR ((dmM_st (by decide) _ _).mpr ((dmM_st (by decide) _ _).mpr ((dmM_st (by decide) _ _).mpr ((dmM_st (by decide) _ _).mpr (md_43 hG))))) (by omega) ((st_f (by decide)).trans ((st_f (by decide)).trans (st_s))) dX5_advance_107 ?_
          exact xm_l hx hb hr hlk hS dX5_advance_108 (by refine Eq.trans ?_ (mR_0 (by ((try unfold mDraft at *); (try unfold mTaken at *); unfold advME; (repeat' split) <;> first | rfl | omega))).symm; rfl) (by rw [mT_0 (by ((try unfold mDraft at *); (try unfold mTaken at *); unfold advME; (repeat' split) <;> first | rfl | omega))]; exact hR)
        · skip
          refine lv_iconst (v := iI (2)) hx hb dX5_advance_40 rfl ?_
          refine lv_goto (tgt := 45) hx hb dX5_advance_41 (by decide) ?_
          refine xp_900 (v := 2) hx hb hw5 hown hK hR hS (md_5 hG) (hts _ kw_748) dX5_advance_45 (fun H locs hR hS => ?_)
          refine lv_aload_n hx hb dX5_advance_48 rfl (lv_at hl 0 rfl) ?_
          refine xg_900 (v := 2) hx hb hw5 hown hK hR ((dmM_st (by decide) _ _).mpr (md_5 hG)) (hts _ kw_748) (st_s) dX5_advance_49 ?_
          refine xr_if_le (tgt := 57) hx hb dX5_advance_52 (by decide) (by decide) (fun h20 => absurd h20 (by decide)) (fun _ => ?_)
          refine lv_lconst (v := lI (0)) hx hb dX5_advance_55 (by decide) ?_
          exact xm_l hx hb hr hlk hS dX5_advance_56 (by exact (mR_k (2) (by ((try unfold mDraft at *); (try unfold mTaken at *); unfold advME; (repeat' split) <;> first | rfl | omega)) (by decide)).symm) (by rw [mT_k (2) (by ((try unfold mDraft at *); (try unfold mTaken at *); unfold advME; (repeat' split) <;> first | rfl | omega)) (by decide)]; exact hR)
  · skip
    refine lv_iconst (v := iI (1)) hx hb dX5_advance_9 rfl ?_
    refine lv_goto (tgt := 45) hx hb dX5_advance_10 (by decide) ?_
    refine xp_900 (v := 1) hx hb hw5 hown hK hR hS (md_5 hG) (hts _ kw_748) dX5_advance_45 (fun H locs hR hS => ?_)
    refine lv_aload_n hx hb dX5_advance_48 rfl (lv_at hl 0 rfl) ?_
    refine xg_900 (v := 1) hx hb hw5 hown hK hR ((dmM_st (by decide) _ _).mpr (md_5 hG)) (hts _ kw_748) (st_s) dX5_advance_49 ?_
    refine xr_if_le (tgt := 57) hx hb dX5_advance_52 (by decide) (by decide) (fun h21 => absurd h21 (by decide)) (fun _ => ?_)
    refine lv_lconst (v := lI (0)) hx hb dX5_advance_55 (by decide) ?_
    exact xm_l hx hb hr hlk hS dX5_advance_56 (by exact (mR_k (1) (by ((try unfold mDraft at *); (try unfold mTaken at *); unfold advME; (repeat' split) <;> first | rfl | omega)) (by decide)).symm) (by rw [mT_k (1) (by ((try unfold mDraft at *); (try unfold mTaken at *); unfold advME; (repeat' split) <;> first | rfl | omega)) (by decide)]; exact hR)
theorem ms_X5_settle : MVi RX5 yX5_settle cX5_settle 4 (some .long) 1 := ⟨kw_1054, kw_1052, kw_1053, kw_4, rfl, by decide, by decide, by decide +kernel⟩
set_option maxRecDepth 100000 in
set_option maxHeartbeats 4000000 in
theorem c_X5_settle {l : Launch} {D : va_G} {cy : Nat → ClassId} {A : Nat → Prop} {ad : Nat → Int → Nat} {mu : Nat → Int → Int} {H : Heap} (hR : RM D cy A ad mu H) (hG : GM mu)  (x : Int) (h_x : in32 x) : Met l yX5_settle (Cond.code yX5_settle cX5_settle 4 (some .long) :: wG) (rmF 2 50 0 0) (Pc D cy H [.ref (ad 5 (0)), .int (iI (x))]) (Qm (some (.long (lI (mR (setME mu x) (mOwed mu x))))) (fun H' => RM D cy A ad (mT mu (setME mu x) (st (st (st mu 900 0 0) 1022 x (mu 1022 x + mOwed mu x)) 1025 x 1)) H') A) 0 0 A := by
  refine met_of (la := [(0, .ref (ad 5 (0))), (1, .int (iI (x)))]) (by decide) (Nat.le_of_ble_eq_true rfl) rfl ?_
  intro p e R s m args below meth c ls hRm hx hb hml hr hlk hin hown hts hsH hK hl
  subst hRm
  have hown : s.vm.findClass "TakinghallModel" = some m.cls := hown
  have hw5 : ∀ w ∈ u_ws RX5 TX5 35, w.before args s = true := fun w h => hts w (uw_X5 w h)
  have hS : va_S A s.heap H [] := by rw [hsH]; exact va_S.rf
  have g913 := mr_913 hG 0
  refine lv_aload_n hx hb dX5_settle_0 rfl (lv_at hl 0 rfl) ?_
  refine lv_aload_n hx hb dX5_settle_1 rfl (lv_at hl 0 rfl) ?_
  refine lv_iload_n hx hb dX5_settle_2 rfl (lv_at hl 1 rfl) ?_
  refine xk_pF (xr_V (As := [.int (iI (x))]) (rest := [.ref (ad 5 (0))]) hx hb hml hown hts hK (c_X5_isInterest hR hG x (by omega)) ms_X5_isInterest kw_922 (wr_recv hK hR (md_5 hG) rfl rfl) ⟨by decide, by decide⟩ ⟨by decide, by decide⟩ rfl rfl hl.1 rfl (lv_room (Nat.le_of_ble_eq_true rfl)) dX5_settle_3) ?_
  refine xr_ifb_ne (tgt := 13) hx hb dX5_settle_6 (by decide) (fun h1 => ?_) (fun h1 => ?_)
  · skip
    refine lv_aload_n hx hb dX5_settle_13 rfl (lv_at hl 0 rfl) ?_
    refine lv_iload_n hx hb dX5_settle_14 rfl (lv_at hl 1 rfl) ?_
    refine xk_pF (xr_V (As := [.int (iI (x))]) (rest := [.ref (ad 5 (0))]) hx hb hml hown hts hK (c_X5_wasTaken hR hG x (by omega)) ms_X5_wasTaken kw_1028 (wr_recv hK hR (md_5 hG) rfl rfl) ⟨by decide, by decide⟩ ⟨by decide, by decide⟩ rfl rfl hl.1 rfl (lv_room (Nat.le_of_ble_eq_true rfl)) dX5_settle_15) ?_
    refine xr_ifb_eq (tgt := 30) hx hb dX5_settle_18 (by decide) (fun h2 => ?_) (fun h2 => ?_)
    · skip
      refine lv_iconst (v := iI (2)) hx hb dX5_settle_30 rfl ?_
      refine lv_goto (tgt := 35) hx hb dX5_settle_31 (by decide) ?_
      refine xp_900 (v := 2) hx hb hw5 hown hK hR hS (md_5 hG) (hts _ kw_748) dX5_settle_35 (fun H locs hR hS => ?_)
      refine lv_aload_n hx hb dX5_settle_38 rfl (lv_at hl 0 rfl) ?_
      refine xg_900 (v := 2) hx hb hw5 hown hK hR ((dmM_st (by decide) _ _).mpr (md_5 hG)) (hts _ kw_748) (st_s) dX5_settle_39 ?_
      refine xr_if_le (tgt := 47) hx hb dX5_settle_42 (by decide) (by decide) (fun h3 => absurd h3 (by decide)) (fun _ => ?_)
      refine lv_lconst (v := lI (0)) hx hb dX5_settle_45 (by decide) ?_
      exact xm_l hx hb hr hlk hS dX5_settle_46 (by exact (mR_k (2) (by ((try unfold mDraft at *); (try unfold mTaken at *); unfold setME; (repeat' split) <;> first | rfl | omega)) (by decide)).symm) (by rw [mT_k (2) (by ((try unfold mDraft at *); (try unfold mTaken at *); unfold setME; (repeat' split) <;> first | rfl | omega)) (by decide)]; exact hR)
    · skip
      refine lv_aload_n hx hb dX5_settle_21 rfl (lv_at hl 0 rfl) ?_
      refine xg_925 (v := mu 925 0) hx hb hw5 hown hK hR (md_5 hG) (hts _ kw_773) rfl dX5_settle_22 ?_
      have q4 : mu 925 0 = 0 := mh_925 hG
      rw [q4, rv_p (Int.le_refl 0)]
      refine lv_iload_n hx hb dX5_settle_25 rfl (lv_at hl 1 rfl) ?_
      refine xa_1025 (v := mu 1025 x) hx hb hK hR (md_45 hG) (by omega) rfl dX5_settle_26 ?_
      have g5 := mr_1025 hG (x)
      refine xr_if_eq (tgt := 34) hx hb dX5_settle_27 (by decide) (by omega) (fun h6 => ?_) (fun h6 => ?_)
      · skip
        refine lv_iconst (v := iI (0)) hx hb dX5_settle_34 rfl ?_
        refine xp_900 (v := 0) hx hb hw5 hown hK hR hS (md_5 hG) (hts _ kw_748) dX5_settle_35 (fun H locs hR hS => ?_)
        refine lv_aload_n hx hb dX5_settle_38 rfl (lv_at hl 0 rfl) ?_
        refine xg_900 (v := 0) hx hb hw5 hown hK hR ((dmM_st (by decide) _ _).mpr (md_5 hG)) (hts _ kw_748) (st_s) dX5_settle_39 ?_
        refine xr_if_le (tgt := 47) hx hb dX5_settle_42 (by decide) (by decide) (fun _ => ?_) (fun h7 => absurd h7 (by decide))
        refine lv_aload_n hx hb dX5_settle_47 rfl (lv_at hl 0 rfl) ?_
        refine lv_iload_n hx hb dX5_settle_48 rfl (lv_at hl 1 rfl) ?_
        refine xk_pF (xr_V (As := [.int (iI (x))]) (rest := []) hx hb hml hown hts hK (c_X5_owedTo hR (gc_900 hG (0) (v := 0) (by omega)) x (by omega)) ms_X5_owedTo kw_1036 (wr_recv hK hR ((dmM_st (by decide) _ _).mpr (md_5 hG)) rfl rfl) ⟨by decide, by decide⟩ ⟨by decide, by decide⟩ rfl rfl hl.1 rfl (lv_room (by decide)) dX5_settle_49) ?_
        rw [show (mOwed (st mu 900 (0) (0)) x) = (mOwed mu x) from by first | rfl | (simp only [mSum_9, mOwnB_9, mShare_9, mLeft_9s]; done)]
        have g8 := mOwed_rng hG (x)
        refine lv_lstore_n (i := 2) (lv' := [(2, .long (lI (mOwed mu x))), (0, .ref (ad 5 (0))), (1, .int (iI (x)))]) hx hb dX5_settle_52 rfl hl (by decide) rfl (fun ls hl => ?_)
        refine lv_aload_n hx hb dX5_settle_53 rfl (lv_at hl 1 rfl) ?_
        refine xg_922 (v := mu 922 0) hx hb hw5 hown hK hR ((dmM_st (by decide) _ _).mpr (md_5 hG)) (hts _ kw_770) ((st_f (by decide)).trans rfl) dX5_settle_54 ?_
        have q9 : mu 922 0 = 0 := mh_922 hG
        rw [q9, rv_p (Int.le_refl 0)]
        refine lv_iload_n hx hb dX5_settle_57 rfl (lv_at hl 2 rfl) ?_
        refine lv_dup2_11 hx hb dX5_settle_58 rfl rfl ?_
        refine xa_1022 (v := mu 1022 x) hx hb hK hR ((dmM_st (by decide) _ _).mpr (md_42 hG)) (by omega) ((st_f (by decide)).trans rfl) dX5_settle_59 ?_
        refine lv_lload_n hx hb dX5_settle_60 rfl (lv_at hl 0 rfl) ?_
        refine xr_ladd hx hb dX5_settle_61 ?_
        refine xs_1022 (v := (mu 1022 x) + (mOwed mu x)) hx hb hK hR hS ((dmM_st (by decide) _ _).mpr (md_42 hG)) (by omega) dX5_settle_62 (fun H locs hR hS => ?_)
        refine lv_aload_n hx hb dX5_settle_63 rfl (lv_at hl 1 rfl) ?_
        refine xg_925 (v := mu 925 0) hx hb hw5 hown hK hR ((dmM_st (by decide) _ _).mpr ((dmM_st (by decide) _ _).mpr (md_5 hG))) (hts _ kw_773) ((st_f (by decide)).trans ((st_f (by decide)).trans rfl)) dX5_settle_64 ?_
        have q10 : mu 925 0 = 0 := mh_925 hG
        rw [q10, rv_p (Int.le_refl 0)]
        refine lv_iload_n hx hb dX5_settle_67 rfl (lv_at hl 2 rfl) ?_
        refine lv_iconst (v := iI (1)) hx hb dX5_settle_68 rfl ?_
        refine xs_1025 (v := 1) hx hb hK hR hS ((dmM_st (by decide) _ _).mpr ((dmM_st (by decide) _ _).mpr (md_45 hG))) (by omega) (by omega) dX5_settle_69 (fun H locs hR hS => ?_)
        refine lv_lload_n hx hb dX5_settle_70 rfl (lv_at hl 0 rfl) ?_
        exact xm_l hx hb hr hlk hS dX5_settle_71 (by refine Eq.trans ?_ (mR_0 (by ((try unfold mDraft at *); (try unfold mTaken at *); unfold setME; (repeat' split) <;> first | rfl | omega))).symm; rfl) (by rw [mT_0 (by ((try unfold mDraft at *); (try unfold mTaken at *); unfold setME; (repeat' split) <;> first | rfl | omega))]; exact hR)
      · skip
        refine lv_iconst (v := iI (2)) hx hb dX5_settle_30 rfl ?_
        refine lv_goto (tgt := 35) hx hb dX5_settle_31 (by decide) ?_
        refine xp_900 (v := 2) hx hb hw5 hown hK hR hS (md_5 hG) (hts _ kw_748) dX5_settle_35 (fun H locs hR hS => ?_)
        refine lv_aload_n hx hb dX5_settle_38 rfl (lv_at hl 0 rfl) ?_
        refine xg_900 (v := 2) hx hb hw5 hown hK hR ((dmM_st (by decide) _ _).mpr (md_5 hG)) (hts _ kw_748) (st_s) dX5_settle_39 ?_
        refine xr_if_le (tgt := 47) hx hb dX5_settle_42 (by decide) (by decide) (fun h11 => absurd h11 (by decide)) (fun _ => ?_)
        refine lv_lconst (v := lI (0)) hx hb dX5_settle_45 (by decide) ?_
        exact xm_l hx hb hr hlk hS dX5_settle_46 (by exact (mR_k (2) (by ((try unfold mDraft at *); (try unfold mTaken at *); unfold setME; (repeat' split) <;> first | rfl | omega)) (by decide)).symm) (by rw [mT_k (2) (by ((try unfold mDraft at *); (try unfold mTaken at *); unfold setME; (repeat' split) <;> first | rfl | omega)) (by decide)]; exact hR)
  · skip
    refine lv_iconst (v := iI (1)) hx hb dX5_settle_9 rfl ?_
    refine lv_goto (tgt := 35) hx hb dX5_settle_10 (by decide) ?_
    refine xp_900 (v := 1) hx hb hw5 hown hK hR hS (md_5 hG) (hts _ kw_748) dX5_settle_35 (fun H locs hR hS => ?_)
    refine lv_aload_n hx hb dX5_settle_38 rfl (lv_at hl 0 rfl) ?_
    refine xg_900 (v := 1) hx hb hw5 hown hK hR ((dmM_st (by decide) _ _).mpr (md_5 hG)) (hts _ kw_748) (st_s) dX5_settle_39 ?_
    refine xr_if_le (tgt := 47) hx hb dX5_settle_42 (by decide) (by decide) (fun h12 => absurd h12 (by decide)) (fun _ => ?_)
    refine lv_lconst (v := lI (0)) hx hb dX5_settle_45 (by decide) ?_
    exact xm_l hx hb hr hlk hS dX5_settle_46 (by exact (mR_k (1) (by ((try unfold mDraft at *); (try unfold mTaken at *); unfold setME; (repeat' split) <;> first | rfl | omega)) (by decide)).symm) (by rw [mT_k (1) (by ((try unfold mDraft at *); (try unfold mTaken at *); unfold setME; (repeat' split) <;> first | rfl | omega)) (by decide)]; exact hR)
theorem ms_X5_refuse : MVi RX5 yX5_refuse cX5_refuse 2 (some .int) 1 := ⟨kw_1058, kw_1056, kw_1057, kw_4, rfl, by decide, by decide, by decide +kernel⟩
set_option maxRecDepth 100000 in
set_option maxHeartbeats 4000000 in
theorem c_X5_refuse {l : Launch} {D : va_G} {cy : Nat → ClassId} {A : Nat → Prop} {ad : Nat → Int → Nat} {mu : Nat → Int → Int} {H : Heap} (hR : RM D cy A ad mu H) (hG : GM mu)  (x : Int) (h_x : in32 x) : Met l yX5_refuse (Cond.code yX5_refuse cX5_refuse 2 (some .int) :: wG) (rmF 2 44 0 0) (Pc D cy H [.ref (ad 5 (0)), .int (iI (x))]) (Qm (some (.int (iI (mR (offME mu x) (mOwnB mu x (mu 1010 x)))))) (fun H' => RM D cy A ad (mT mu (offME mu x) (st (st (st mu 900 0 0) 1010 x (mOwnB mu x (mu 1010 x))) 1011 x (if mOwnB mu x (mu 1010 x) = -1 then 0 else mu 1011 x))) H') A) 0 0 A := by
  refine met_of (la := [(0, .ref (ad 5 (0))), (1, .int (iI (x)))]) (by decide) (Nat.le_of_ble_eq_true rfl) rfl ?_
  intro p e R s m args below meth c ls hRm hx hb hml hr hlk hin hown hts hsH hK hl
  subst hRm
  have hown : s.vm.findClass "TakinghallModel" = some m.cls := hown
  have hw5 : ∀ w ∈ u_ws RX5 TX5 35, w.before args s = true := fun w h => hts w (uw_X5 w h)
  have hS : va_S A s.heap H [] := by rw [hsH]; exact va_S.rf
  have g913 := mr_913 hG 0
  refine lv_aload_n hx hb dX5_refuse_0 rfl (lv_at hl 0 rfl) ?_
  refine lv_aload_n hx hb dX5_refuse_1 rfl (lv_at hl 0 rfl) ?_
  refine lv_iload_n hx hb dX5_refuse_2 rfl (lv_at hl 1 rfl) ?_
  refine xk_pF (xr_V (As := [.int (iI (x))]) (rest := [.ref (ad 5 (0))]) hx hb hml hown hts hK (c_X5_isPlot hR hG x (by omega)) ms_X5_isPlot kw_865 (wr_recv hK hR (md_5 hG) rfl rfl) ⟨by decide, by decide⟩ ⟨by decide, by decide⟩ rfl rfl hl.1 rfl (lv_room (Nat.le_of_ble_eq_true rfl)) dX5_refuse_3) ?_
  refine xr_ifb_ne (tgt := 13) hx hb dX5_refuse_6 (by decide) (fun h1 => ?_) (fun h1 => ?_)
  · skip
    refine lv_aload_n hx hb dX5_refuse_13 rfl (lv_at hl 0 rfl) ?_
    refine xg_910 (v := mu 910 0) hx hb hw5 hown hK hR (md_5 hG) (hts _ kw_758) rfl dX5_refuse_14 ?_
    have q2 : mu 910 0 = 0 := mh_910 hG
    rw [q2, rv_p (Int.le_refl 0)]
    refine lv_iload_n hx hb dX5_refuse_17 rfl (lv_at hl 1 rfl) ?_
    refine xa_1010 (v := mu 1010 x) hx hb hK hR (md_30 hG) (by omega) rfl dX5_refuse_18 ?_
    have g3 := mr_1010 hG (x)
    refine lv_iconst (v := iI (-1)) hx hb dX5_refuse_19 rfl ?_
    refine xr_icmp_ne (tgt := 27) hx hb dX5_refuse_20 (by decide) (by omega) (by omega) (fun h4 => ?_) (fun h4 => ?_)
    · skip
      refine lv_iconst (v := iI (0)) hx hb dX5_refuse_27 rfl ?_
      refine xp_900 (v := 0) hx hb hw5 hown hK hR hS (md_5 hG) (hts _ kw_748) dX5_refuse_28 (fun H locs hR hS => ?_)
      refine lv_aload_n hx hb dX5_refuse_31 rfl (lv_at hl 0 rfl) ?_
      refine xg_900 (v := 0) hx hb hw5 hown hK hR ((dmM_st (by decide) _ _).mpr (md_5 hG)) (hts _ kw_748) (st_s) dX5_refuse_32 ?_
      refine xr_if_le (tgt := 40) hx hb dX5_refuse_35 (by decide) (by decide) (fun _ => ?_) (fun h5 => absurd h5 (by decide))
      refine lv_aload_n hx hb dX5_refuse_40 rfl (lv_at hl 0 rfl) ?_
      refine xg_910 (v := mu 910 0) hx hb hw5 hown hK hR ((dmM_st (by decide) _ _).mpr (md_5 hG)) (hts _ kw_758) ((st_f (by decide)).trans rfl) dX5_refuse_41 ?_
      have q6 : mu 910 0 = 0 := mh_910 hG
      rw [q6, rv_p (Int.le_refl 0)]
      refine lv_iload_n hx hb dX5_refuse_44 rfl (lv_at hl 1 rfl) ?_
      refine lv_aload_n hx hb dX5_refuse_45 rfl (lv_at hl 0 rfl) ?_
      refine lv_iload_n hx hb dX5_refuse_46 rfl (lv_at hl 1 rfl) ?_
      refine lv_aload_n hx hb dX5_refuse_47 rfl (lv_at hl 0 rfl) ?_
      refine xg_910 (v := mu 910 0) hx hb hw5 hown hK hR ((dmM_st (by decide) _ _).mpr (md_5 hG)) (hts _ kw_758) ((st_f (by decide)).trans rfl) dX5_refuse_48 ?_
      have q7 : mu 910 0 = 0 := mh_910 hG
      rw [q7, rv_p (Int.le_refl 0)]
      refine lv_iload_n hx hb dX5_refuse_51 rfl (lv_at hl 1 rfl) ?_
      refine xa_1010 (v := mu 1010 x) hx hb hK hR ((dmM_st (by decide) _ _).mpr (md_30 hG)) (by omega) ((st_f (by decide)).trans rfl) dX5_refuse_52 ?_
      refine xk_pF (xr_V (As := [.int (iI (x)), .int (iI (mu 1010 x))]) (rest := [.int (iI (x)), .ref (ad 30 (0))]) hx hb hml hown hts hK (c_X5_ownerBehind hR (gc_900 hG (0) (v := 0) (by omega)) x (mu 1010 x) (by omega) (by omega)) ms_X5_ownerBehind kw_982 (wr_recv hK hR ((dmM_st (by decide) _ _).mpr (md_5 hG)) rfl rfl) ⟨by decide, by decide⟩ ⟨by decide, by decide⟩ rfl rfl hl.1 rfl (lv_room (Nat.le_of_ble_eq_true rfl)) dX5_refuse_53) ?_
      rw [show (mOwnB (st mu 900 (0) (0)) x (mu 1010 x)) = (mOwnB mu x (mu 1010 x)) from by first | rfl | (simp only [mSum_9, mOwnB_9, mShare_9, mLeft_9s]; done)]
      have g8 := mOwnB_rng hG (x) ((mu 1010 x))
      refine xs_1010 (v := mOwnB mu x (mu 1010 x)) hx hb hK hR hS ((dmM_st (by decide) _ _).mpr (md_30 hG)) (by omega) dX5_refuse_56 (fun H locs hR hS => ?_)
      refine lv_aload_n hx hb dX5_refuse_57 rfl (lv_at hl 0 rfl) ?_
      refine xg_911 (v := mu 911 0) hx hb hw5 hown hK hR ((dmM_st (by decide) _ _).mpr ((dmM_st (by decide) _ _).mpr (md_5 hG))) (hts _ kw_759) ((st_f (by decide)).trans ((st_f (by decide)).trans rfl)) dX5_refuse_58 ?_
      have q9 : mu 911 0 = 0 := mh_911 hG
      rw [q9, rv_p (Int.le_refl 0)]
      refine lv_iload_n hx hb dX5_refuse_61 rfl (lv_at hl 1 rfl) ?_
      refine lv_aload_n hx hb dX5_refuse_62 rfl (lv_at hl 0 rfl) ?_
      refine xg_910 (v := mu 910 0) hx hb hw5 hown hK hR ((dmM_st (by decide) _ _).mpr ((dmM_st (by decide) _ _).mpr (md_5 hG))) (hts _ kw_758) ((st_f (by decide)).trans ((st_f (by decide)).trans rfl)) dX5_refuse_63 ?_
      have q10 : mu 910 0 = 0 := mh_910 hG
      rw [q10, rv_p (Int.le_refl 0)]
      refine lv_iload_n hx hb dX5_refuse_66 rfl (lv_at hl 1 rfl) ?_
      refine xa_1010 (v := mOwnB mu x (mu 1010 x)) hx hb hK hR ((dmM_st (by decide) _ _).mpr ((dmM_st (by decide) _ _).mpr (md_30 hG))) (by omega) (st_s) dX5_refuse_67 ?_
      refine lv_iconst (v := iI (-1)) hx hb dX5_refuse_68 rfl ?_
      refine xr_icmp_ne (tgt := 76) hx hb dX5_refuse_69 (by decide) (by omega) (by omega) (fun h11 => ?_) (fun h11 => ?_)
      · skip
        refine lv_aload_n hx hb dX5_refuse_76 rfl (lv_at hl 0 rfl) ?_
        refine xg_911 (v := mu 911 0) hx hb hw5 hown hK hR ((dmM_st (by decide) _ _).mpr ((dmM_st (by decide) _ _).mpr (md_5 hG))) (hts _ kw_759) ((st_f (by decide)).trans ((st_f (by decide)).trans rfl)) dX5_refuse_77 ?_
        have q12 : mu 911 0 = 0 := mh_911 hG
        rw [q12, rv_p (Int.le_refl 0)]
        refine lv_iload_n hx hb dX5_refuse_80 rfl (lv_at hl 1 rfl) ?_
        refine xa_1011 (v := mu 1011 x) hx hb hK hR ((dmM_st (by decide) _ _).mpr ((dmM_st (by decide) _ _).mpr (md_31 hG))) (by omega) ((st_f (by decide)).trans ((st_f (by decide)).trans rfl)) dX5_refuse_81 ?_
        have g13 := mr_1011 hG (x)
        refine xs_1011 (v := mu 1011 x) hx hb hK hR hS ((dmM_st (by decide) _ _).mpr ((dmM_st (by decide) _ _).mpr (md_31 hG))) (by omega) dX5_refuse_82 (fun H locs hR hS => ?_)
        refine lv_aload_n hx hb dX5_refuse_83 rfl (lv_at hl 0 rfl) ?_
        refine xg_910 (v := mu 910 0) hx hb hw5 hown hK hR ((dmM_st (by decide) _ _).mpr ((dmM_st (by decide) _ _).mpr ((dmM_st (by decide) _ _).mpr (md_5 hG)))) (hts _ kw_758) ((st_f (by decide)).trans ((st_f (by decide)).trans ((st_f (by decide)).trans rfl))) dX5_refuse_84 ?_
        have q14 : mu 910 0 = 0 := mh_910 hG
        rw [q14, rv_p (Int.le_refl 0)]
        refine lv_iload_n hx hb dX5_refuse_87 rfl (lv_at hl 1 rfl) ?_
        refine xa_1010 (v := mOwnB mu x (mu 1010 x)) hx hb hK hR ((dmM_st (by decide) _ _).mpr ((dmM_st (by decide) _ _).mpr ((dmM_st (by decide) _ _).mpr (md_30 hG)))) (by omega) ((st_f (by decide)).trans (st_s)) dX5_refuse_88 ?_
        exact xm_i hx hb hr hlk hS dX5_refuse_89 (by refine Eq.trans ?_ (mR_0 (by ((try unfold mDraft at *); (try unfold mTaken at *); unfold offME; (repeat' split) <;> first | rfl | omega))).symm; rfl) (by rw [mT_0 (by ((try unfold mDraft at *); (try unfold mTaken at *); unfold offME; (repeat' split) <;> first | rfl | omega))]; first | (rw [if_pos (by omega)]; exact hR) | (rw [if_neg (by omega)]; exact hR))
      · skip
        refine lv_iconst (v := iI (0)) hx hb dX5_refuse_72 rfl ?_
        refine lv_goto (tgt := 82) hx hb dX5_refuse_73 (by decide) ?_
        refine xs_1011 (v := 0) hx hb hK hR hS ((dmM_st (by decide) _ _).mpr ((dmM_st (by decide) _ _).mpr (md_31 hG))) (by omega) dX5_refuse_82 (fun H locs hR hS => ?_)
        refine lv_aload_n hx hb dX5_refuse_83 rfl (lv_at hl 0 rfl) ?_
        refine xg_910 (v := mu 910 0) hx hb hw5 hown hK hR ((dmM_st (by decide) _ _).mpr ((dmM_st (by decide) _ _).mpr ((dmM_st (by decide) _ _).mpr (md_5 hG)))) (hts _ kw_758) ((st_f (by decide)).trans ((st_f (by decide)).trans ((st_f (by decide)).trans rfl))) dX5_refuse_84 ?_
        have q15 : mu 910 0 = 0 := mh_910 hG
        rw [q15, rv_p (Int.le_refl 0)]
        refine lv_iload_n hx hb dX5_refuse_87 rfl (lv_at hl 1 rfl) ?_
        refine xa_1010 (v := mOwnB mu x (mu 1010 x)) hx hb hK hR ((dmM_st (by decide) _ _).mpr ((dmM_st (by decide) _ _).mpr ((dmM_st (by decide) _ _).mpr (md_30 hG)))) (by omega) ((st_f (by decide)).trans (st_s)) dX5_refuse_88 ?_
        exact xm_i hx hb hr hlk hS dX5_refuse_89 (by refine Eq.trans ?_ (mR_0 (by ((try unfold mDraft at *); (try unfold mTaken at *); unfold offME; (repeat' split) <;> first | rfl | omega))).symm; rfl) (by rw [mT_0 (by ((try unfold mDraft at *); (try unfold mTaken at *); unfold offME; (repeat' split) <;> first | rfl | omega))]; first | (rw [if_pos (by omega)]; exact hR) | (rw [if_neg (by omega)]; exact hR))
    · skip
      refine lv_iconst (v := iI (2)) hx hb dX5_refuse_23 rfl ?_
      refine lv_goto (tgt := 28) hx hb dX5_refuse_24 (by decide) ?_
      refine xp_900 (v := 2) hx hb hw5 hown hK hR hS (md_5 hG) (hts _ kw_748) dX5_refuse_28 (fun H locs hR hS => ?_)
      refine lv_aload_n hx hb dX5_refuse_31 rfl (lv_at hl 0 rfl) ?_
      refine xg_900 (v := 2) hx hb hw5 hown hK hR ((dmM_st (by decide) _ _).mpr (md_5 hG)) (hts _ kw_748) (st_s) dX5_refuse_32 ?_
      refine xr_if_le (tgt := 40) hx hb dX5_refuse_35 (by decide) (by decide) (fun h16 => absurd h16 (by decide)) (fun _ => ?_)
      refine lv_iconst (v := iI (0)) hx hb dX5_refuse_38 rfl ?_
      exact xm_i hx hb hr hlk hS dX5_refuse_39 (by exact (mR_k (2) (by ((try unfold mDraft at *); (try unfold mTaken at *); unfold offME; (repeat' split) <;> first | rfl | omega)) (by decide)).symm) (by rw [mT_k (2) (by ((try unfold mDraft at *); (try unfold mTaken at *); unfold offME; (repeat' split) <;> first | rfl | omega)) (by decide)]; exact hR)
  · skip
    refine lv_iconst (v := iI (1)) hx hb dX5_refuse_9 rfl ?_
    refine lv_goto (tgt := 28) hx hb dX5_refuse_10 (by decide) ?_
    refine xp_900 (v := 1) hx hb hw5 hown hK hR hS (md_5 hG) (hts _ kw_748) dX5_refuse_28 (fun H locs hR hS => ?_)
    refine lv_aload_n hx hb dX5_refuse_31 rfl (lv_at hl 0 rfl) ?_
    refine xg_900 (v := 1) hx hb hw5 hown hK hR ((dmM_st (by decide) _ _).mpr (md_5 hG)) (hts _ kw_748) (st_s) dX5_refuse_32 ?_
    refine xr_if_le (tgt := 40) hx hb dX5_refuse_35 (by decide) (by decide) (fun h17 => absurd h17 (by decide)) (fun _ => ?_)
    refine lv_iconst (v := iI (0)) hx hb dX5_refuse_38 rfl ?_
    exact xm_i hx hb hr hlk hS dX5_refuse_39 (by exact (mR_k (1) (by ((try unfold mDraft at *); (try unfold mTaken at *); unfold offME; (repeat' split) <;> first | rfl | omega)) (by decide)).symm) (by rw [mT_k (1) (by ((try unfold mDraft at *); (try unfold mTaken at *); unfold offME; (repeat' split) <;> first | rfl | omega)) (by decide)]; exact hR)
theorem ms_X5_accept : MVi RX5 yX5_accept cX5_accept 3 (some .int) 1 := ⟨kw_1062, kw_1060, kw_1061, kw_4, rfl, by decide, by decide, by decide +kernel⟩
set_option maxRecDepth 100000 in
set_option maxHeartbeats 4000000 in
theorem c_X5_accept {l : Launch} {D : va_G} {cy : Nat → ClassId} {A : Nat → Prop} {ad : Nat → Int → Nat} {mu : Nat → Int → Int} {H : Heap} (hR : RM D cy A ad mu H) (hG : GM mu)  (x : Int) (h_x : in32 x) : Met l yX5_accept (Cond.code yX5_accept cX5_accept 3 (some .int) :: wG) (rmF 2 44 0 0) (Pc D cy H [.ref (ad 5 (0)), .int (iI (x))]) (Qm (some (.int (iI (mR (offME mu x) (mu 1011 x))))) (fun H' => RM D cy A ad (mT mu (offME mu x) (st (st (st (st (st mu 900 0 0) 933 0 (mu 933 0 + mu 1011 x)) 1005 x 2) 1010 x (-1)) 1011 x 0)) H') A) 0 0 A := by
  refine met_of (la := [(0, .ref (ad 5 (0))), (1, .int (iI (x)))]) (by decide) (Nat.le_of_ble_eq_true rfl) rfl ?_
  intro p e R s m args below meth c ls hRm hx hb hml hr hlk hin hown hts hsH hK hl
  subst hRm
  have hown : s.vm.findClass "TakinghallModel" = some m.cls := hown
  have hw5 : ∀ w ∈ u_ws RX5 TX5 35, w.before args s = true := fun w h => hts w (uw_X5 w h)
  have hS : va_S A s.heap H [] := by rw [hsH]; exact va_S.rf
  refine lv_aload_n hx hb dX5_accept_0 rfl (lv_at hl 0 rfl) ?_
  refine lv_aload_n hx hb dX5_accept_1 rfl (lv_at hl 0 rfl) ?_
  refine lv_iload_n hx hb dX5_accept_2 rfl (lv_at hl 1 rfl) ?_
  refine xk_pF (xr_V (As := [.int (iI (x))]) (rest := [.ref (ad 5 (0))]) hx hb hml hown hts hK (c_X5_isPlot hR hG x (by omega)) ms_X5_isPlot kw_865 (wr_recv hK hR (md_5 hG) rfl rfl) ⟨by decide, by decide⟩ ⟨by decide, by decide⟩ rfl rfl hl.1 rfl (lv_room (Nat.le_of_ble_eq_true rfl)) dX5_accept_3) ?_
  refine xr_ifb_ne (tgt := 13) hx hb dX5_accept_6 (by decide) (fun h1 => ?_) (fun h1 => ?_)
  · skip
    refine lv_aload_n hx hb dX5_accept_13 rfl (lv_at hl 0 rfl) ?_
    refine xg_910 (v := mu 910 0) hx hb hw5 hown hK hR (md_5 hG) (hts _ kw_758) rfl dX5_accept_14 ?_
    have q2 : mu 910 0 = 0 := mh_910 hG
    rw [q2, rv_p (Int.le_refl 0)]
    refine lv_iload_n hx hb dX5_accept_17 rfl (lv_at hl 1 rfl) ?_
    refine xa_1010 (v := mu 1010 x) hx hb hK hR (md_30 hG) (by omega) rfl dX5_accept_18 ?_
    have g3 := mr_1010 hG (x)
    refine lv_iconst (v := iI (-1)) hx hb dX5_accept_19 rfl ?_
    refine xr_icmp_ne (tgt := 27) hx hb dX5_accept_20 (by decide) (by omega) (by omega) (fun h4 => ?_) (fun h4 => ?_)
    · skip
      refine lv_iconst (v := iI (0)) hx hb dX5_accept_27 rfl ?_
      refine xp_900 (v := 0) hx hb hw5 hown hK hR hS (md_5 hG) (hts _ kw_748) dX5_accept_28 (fun H locs hR hS => ?_)
      refine lv_aload_n hx hb dX5_accept_31 rfl (lv_at hl 0 rfl) ?_
      refine xg_900 (v := 0) hx hb hw5 hown hK hR ((dmM_st (by decide) _ _).mpr (md_5 hG)) (hts _ kw_748) (st_s) dX5_accept_32 ?_
      refine xr_if_le (tgt := 40) hx hb dX5_accept_35 (by decide) (by decide) (fun _ => ?_) (fun h5 => absurd h5 (by decide))
      refine lv_aload_n hx hb dX5_accept_40 rfl (lv_at hl 0 rfl) ?_
      refine xg_911 (v := mu 911 0) hx hb hw5 hown hK hR ((dmM_st (by decide) _ _).mpr (md_5 hG)) (hts _ kw_759) ((st_f (by decide)).trans rfl) dX5_accept_41 ?_
      have q6 : mu 911 0 = 0 := mh_911 hG
      rw [q6, rv_p (Int.le_refl 0)]
      refine lv_iload_n hx hb dX5_accept_44 rfl (lv_at hl 1 rfl) ?_
      refine xa_1011 (v := mu 1011 x) hx hb hK hR ((dmM_st (by decide) _ _).mpr (md_31 hG)) (by omega) ((st_f (by decide)).trans rfl) dX5_accept_45 ?_
      have g7 := mr_1011 hG (x)
      refine lv_istore_n (i := 2) (lv' := [(2, .int (iI (mu 1011 x))), (0, .ref (ad 5 (0))), (1, .int (iI (x)))]) hx hb dX5_accept_46 rfl hl (by decide) rfl (fun ls hl => ?_)
      refine lv_aload_n hx hb dX5_accept_47 rfl (lv_at hl 1 rfl) ?_
      refine lv_dup hx hb dX5_accept_48 rfl ?_
      refine xg_933 (v := mu 933 0) hx hb hw5 hown hK hR ((dmM_st (by decide) _ _).mpr (md_5 hG)) (hts _ kw_781) ((st_f (by decide)).trans rfl) dX5_accept_49 ?_
      refine lv_iload_n hx hb dX5_accept_52 rfl (lv_at hl 0 rfl) ?_
      refine xr_i2l hx hb dX5_accept_53 (by omega) ?_
      refine xr_ladd hx hb dX5_accept_54 ?_
      refine xp_933 (v := (mu 933 0) + (mu 1011 x)) hx hb hw5 hown hK hR hS ((dmM_st (by decide) _ _).mpr (md_5 hG)) (hts _ kw_781) dX5_accept_55 (fun H locs hR hS => ?_)
      refine lv_aload_n hx hb dX5_accept_58 rfl (lv_at hl 1 rfl) ?_
      refine xg_905 (v := mu 905 0) hx hb hw5 hown hK hR ((dmM_st (by decide) _ _).mpr ((dmM_st (by decide) _ _).mpr (md_5 hG))) (hts _ kw_753) ((st_f (by decide)).trans ((st_f (by decide)).trans rfl)) dX5_accept_59 ?_
      have q8 : mu 905 0 = 0 := mh_905 hG
      rw [q8, rv_p (Int.le_refl 0)]
      refine lv_iload_n hx hb dX5_accept_62 rfl (lv_at hl 2 rfl) ?_
      refine lv_iconst (v := iI (2)) hx hb dX5_accept_63 rfl ?_
      refine xs_1005 (v := 2) hx hb hK hR hS ((dmM_st (by decide) _ _).mpr ((dmM_st (by decide) _ _).mpr (md_25 hG))) (by omega) dX5_accept_64 (fun H locs hR hS => ?_)
      refine lv_aload_n hx hb dX5_accept_65 rfl (lv_at hl 1 rfl) ?_
      refine xg_910 (v := mu 910 0) hx hb hw5 hown hK hR ((dmM_st (by decide) _ _).mpr ((dmM_st (by decide) _ _).mpr ((dmM_st (by decide) _ _).mpr (md_5 hG)))) (hts _ kw_758) ((st_f (by decide)).trans ((st_f (by decide)).trans ((st_f (by decide)).trans rfl))) dX5_accept_66 ?_
      have q9 : mu 910 0 = 0 := mh_910 hG
      rw [q9, rv_p (Int.le_refl 0)]
      refine lv_iload_n hx hb dX5_accept_69 rfl (lv_at hl 2 rfl) ?_
      refine lv_iconst (v := iI (-1)) hx hb dX5_accept_70 rfl ?_
      refine xs_1010 (v := -1) hx hb hK hR hS ((dmM_st (by decide) _ _).mpr ((dmM_st (by decide) _ _).mpr ((dmM_st (by decide) _ _).mpr (md_30 hG)))) (by omega) dX5_accept_71 (fun H locs hR hS => ?_)
      refine lv_aload_n hx hb dX5_accept_72 rfl (lv_at hl 1 rfl) ?_
      refine xg_911 (v := mu 911 0) hx hb hw5 hown hK hR ((dmM_st (by decide) _ _).mpr ((dmM_st (by decide) _ _).mpr ((dmM_st (by decide) _ _).mpr ((dmM_st (by decide) _ _).mpr (md_5 hG))))) (hts _ kw_759) ((st_f (by decide)).trans ((st_f (by decide)).trans ((st_f (by decide)).trans ((st_f (by decide)).trans rfl)))) dX5_accept_73 ?_
      have q10 : mu 911 0 = 0 := mh_911 hG
      rw [q10, rv_p (Int.le_refl 0)]
      refine lv_iload_n hx hb dX5_accept_76 rfl (lv_at hl 2 rfl) ?_
      refine lv_iconst (v := iI (0)) hx hb dX5_accept_77 rfl ?_
      refine xs_1011 (v := 0) hx hb hK hR hS ((dmM_st (by decide) _ _).mpr ((dmM_st (by decide) _ _).mpr ((dmM_st (by decide) _ _).mpr ((dmM_st (by decide) _ _).mpr (md_31 hG))))) (by omega) dX5_accept_78 (fun H locs hR hS => ?_)
      refine lv_iload_n hx hb dX5_accept_79 rfl (lv_at hl 0 rfl) ?_
      exact xm_i hx hb hr hlk hS dX5_accept_80 (by refine Eq.trans ?_ (mR_0 (by ((try unfold mDraft at *); (try unfold mTaken at *); unfold offME; (repeat' split) <;> first | rfl | omega))).symm; rfl) (by rw [mT_0 (by ((try unfold mDraft at *); (try unfold mTaken at *); unfold offME; (repeat' split) <;> first | rfl | omega))]; exact hR)
    · skip
      refine lv_iconst (v := iI (2)) hx hb dX5_accept_23 rfl ?_
      refine lv_goto (tgt := 28) hx hb dX5_accept_24 (by decide) ?_
      refine xp_900 (v := 2) hx hb hw5 hown hK hR hS (md_5 hG) (hts _ kw_748) dX5_accept_28 (fun H locs hR hS => ?_)
      refine lv_aload_n hx hb dX5_accept_31 rfl (lv_at hl 0 rfl) ?_
      refine xg_900 (v := 2) hx hb hw5 hown hK hR ((dmM_st (by decide) _ _).mpr (md_5 hG)) (hts _ kw_748) (st_s) dX5_accept_32 ?_
      refine xr_if_le (tgt := 40) hx hb dX5_accept_35 (by decide) (by decide) (fun h11 => absurd h11 (by decide)) (fun _ => ?_)
      refine lv_iconst (v := iI (0)) hx hb dX5_accept_38 rfl ?_
      exact xm_i hx hb hr hlk hS dX5_accept_39 (by exact (mR_k (2) (by ((try unfold mDraft at *); (try unfold mTaken at *); unfold offME; (repeat' split) <;> first | rfl | omega)) (by decide)).symm) (by rw [mT_k (2) (by ((try unfold mDraft at *); (try unfold mTaken at *); unfold offME; (repeat' split) <;> first | rfl | omega)) (by decide)]; exact hR)
  · skip
    refine lv_iconst (v := iI (1)) hx hb dX5_accept_9 rfl ?_
    refine lv_goto (tgt := 28) hx hb dX5_accept_10 (by decide) ?_
    refine xp_900 (v := 1) hx hb hw5 hown hK hR hS (md_5 hG) (hts _ kw_748) dX5_accept_28 (fun H locs hR hS => ?_)
    refine lv_aload_n hx hb dX5_accept_31 rfl (lv_at hl 0 rfl) ?_
    refine xg_900 (v := 1) hx hb hw5 hown hK hR ((dmM_st (by decide) _ _).mpr (md_5 hG)) (hts _ kw_748) (st_s) dX5_accept_32 ?_
    refine xr_if_le (tgt := 40) hx hb dX5_accept_35 (by decide) (by decide) (fun h12 => absurd h12 (by decide)) (fun _ => ?_)
    refine lv_iconst (v := iI (0)) hx hb dX5_accept_38 rfl ?_
    exact xm_i hx hb hr hlk hS dX5_accept_39 (by exact (mR_k (1) (by ((try unfold mDraft at *); (try unfold mTaken at *); unfold offME; (repeat' split) <;> first | rfl | omega)) (by decide)).symm) (by rw [mT_k (1) (by ((try unfold mDraft at *); (try unfold mTaken at *); unfold offME; (repeat' split) <;> first | rfl | omega)) (by decide)]; exact hR)
theorem ms_X5_today : MVi RX5 yX5_today cX5_today 1 (some .int) 0 := ⟨kw_1070, kw_1068, kw_1069, kw_4, rfl, by decide, by decide, by decide +kernel⟩
set_option maxRecDepth 100000 in
set_option maxHeartbeats 4000000 in
theorem c_X5_today {l : Launch} {D : va_G} {cy : Nat → ClassId} {A : Nat → Prop} {ad : Nat → Int → Nat} {mu : Nat → Int → Int} {H : Heap} (hR : RM D cy A ad mu H) (hG : GM mu)    : Met l yX5_today (Cond.code yX5_today cX5_today 1 (some .int) :: wG) (rmF 0 0 0 0) (Pc D cy H [.ref (ad 5 (0))]) (Qm (some (.int (iI (mR ((0 : Int)) (mu 901 0))))) (fun H' => RM D cy A ad (st mu 900 0 ((0 : Int))) H') A) 0 0 A := by
  refine met_of (la := [(0, .ref (ad 5 (0)))]) (by decide) (Nat.le_of_ble_eq_true rfl) rfl ?_
  intro p e R s m args below meth c ls hRm hx hb hml hr hlk hin hown hts hsH hK hl
  subst hRm
  have hown : s.vm.findClass "TakinghallModel" = some m.cls := hown
  have hw5 : ∀ w ∈ u_ws RX5 TX5 35, w.before args s = true := fun w h => hts w (uw_X5 w h)
  have hS : va_S A s.heap H [] := by rw [hsH]; exact va_S.rf
  refine lv_aload_n hx hb dX5_today_0 rfl (lv_at hl 0 rfl) ?_
  refine lv_iconst (v := iI (0)) hx hb dX5_today_1 rfl ?_
  refine xp_900 (v := 0) hx hb hw5 hown hK hR hS (md_5 hG) (hts _ kw_748) dX5_today_2 (fun H locs hR hS => ?_)
  refine lv_aload_n hx hb dX5_today_5 rfl (lv_at hl 0 rfl) ?_
  refine xg_901 (v := mu 901 0) hx hb hw5 hown hK hR ((dmM_st (by decide) _ _).mpr (md_5 hG)) (hts _ kw_749) ((st_f (by decide)).trans rfl) dX5_today_6 ?_
  have g1 := mr_901 hG (0)
  exact xm_i hx hb hr hlk hS dX5_today_9 (by refine Eq.trans ?_ (mR_0 (by ((try unfold mDraft at *); (try unfold mTaken at *); rfl))).symm; rfl) (by exact cast (congrArg (fun z => RM D cy A ad (st mu 900 0 z) H) (Eq.symm (by ((try unfold mDraft at *); (try unfold mTaken at *); rfl)))) hR)
theorem ms_X5_total : MVi RX5 yX5_total cX5_total 5 (some .long) 1 := ⟨kw_1074, kw_1072, kw_1073, kw_4, rfl, by decide, by decide, by decide +kernel⟩
set_option maxRecDepth 100000 in
set_option maxHeartbeats 4000000 in
theorem c_X5_total {l : Launch} {D : va_G} {cy : Nat → ClassId} {A : Nat → Prop} {ad : Nat → Int → Nat} {mu : Nat → Int → Int} {H : Heap} (hR : RM D cy A ad mu H) (hG : GM mu)  (w : Int) (h_w : in32 w) : Met l yX5_total (Cond.code yX5_total cX5_total 5 (some .long) :: wG) (rmF 1 23 0 0) (Pc D cy H [.ref (ad 5 (0)), .int (iI (w))]) (Qm (some (.long (lI (mR (totME w) (mTot2 mu w 36))))) (fun H' => RM D cy A ad (st mu 900 0 (totME w)) H') A) 0 0 A := by
  refine met_of (la := [(0, .ref (ad 5 (0))), (1, .int (iI (w)))]) (by decide) (Nat.le_of_ble_eq_true rfl) rfl ?_
  intro p e R s m args below meth c ls hRm hx hb hml hr hlk hin hown hts hsH hK hl
  subst hRm
  have hown : s.vm.findClass "TakinghallModel" = some m.cls := hown
  have hw5 : ∀ w ∈ u_ws RX5 TX5 35, w.before args s = true := fun w h => hts w (uw_X5 w h)
  have hS : va_S A s.heap H [] := by rw [hsH]; exact va_S.rf
  have g913 := mr_913 hG 0
  refine lv_aload_n hx hb dX5_total_0 rfl (lv_at hl 0 rfl) ?_
  refine lv_aload_n hx hb dX5_total_1 rfl (lv_at hl 0 rfl) ?_
  refine lv_iload_n hx hb dX5_total_2 rfl (lv_at hl 1 rfl) ?_
  refine lv_iconst (v := iI (0)) hx hb dX5_total_3 rfl ?_
  refine lv_iconst (v := iI (4)) hx hb dX5_total_4 rfl ?_
  refine xk_pF (xr_V (As := [.int (iI (w)), .int (iI (0)), .int (iI (4))]) (rest := [.ref (ad 5 (0))]) hx hb hml hown hts hK (c_X5_between hR hG w 0 4 (by omega) (by omega) (by omega)) ms_X5_between kw_869 (wr_recv hK hR (md_5 hG) rfl rfl) ⟨by decide, by decide⟩ ⟨by decide, by decide⟩ rfl rfl hl.1 rfl (lv_room (Nat.le_of_ble_eq_true rfl)) dX5_total_5) ?_
  refine xr_ifb_ne (tgt := 15) hx hb dX5_total_8 (by decide) (fun h1 => ?_) (fun h1 => ?_)
  · skip
    refine lv_iconst (v := iI (0)) hx hb dX5_total_15 rfl ?_
    refine xp_900 (v := 0) hx hb hw5 hown hK hR hS (md_5 hG) (hts _ kw_748) dX5_total_16 (fun H locs hR hS => ?_)
    refine lv_iload_n hx hb dX5_total_19 rfl (lv_at hl 1 rfl) ?_
    refine lv_iconst (v := iI (2)) hx hb dX5_total_20 rfl ?_
    refine xr_icmp_ne (tgt := 31) hx hb dX5_total_21 (by decide) (by omega) (by omega) (fun h2 => ?_) (fun h2 => ?_)
    · skip
      refine lv_iload_n hx hb dX5_total_31 rfl (lv_at hl 1 rfl) ?_
      refine lv_iconst (v := iI (3)) hx hb dX5_total_32 rfl ?_
      refine xr_icmp_ne (tgt := 43) hx hb dX5_total_33 (by decide) (by omega) (by omega) (fun h3 => ?_) (fun h3 => ?_)
      · skip
        refine lv_lconst (v := lI (0)) hx hb dX5_total_43 (by decide) ?_
        refine lv_lstore_n (i := 2) (lv' := [(2, .long (lI (0))), (0, .ref (ad 5 (0))), (1, .int (iI (w)))]) hx hb dX5_total_44 rfl hl (by decide) rfl (fun ls hl => ?_)
        refine lv_iconst (v := iI (0)) hx hb dX5_total_45 rfl ?_
        refine lv_istore (i := 4) (lv' := [(4, .int (iI (0))), (2, .long (lI (0))), (0, .ref (ad 5 (0))), (1, .int (iI (w)))]) hx hb dX5_total_46 hl (by decide) rfl (fun ls hl => ?_)
        have loop48 : ∀ (n : Nat) (i : Int) (acc : Int), 0 ≤ i → i ≤ mu 913 0 → acc = mTot1 mu w (i.toNat) → (mu 913 0 - i).toNat < n → ∀ ls : Array Slot, lv_has ls 5 [(0, .ref (ad 5 (0))), (1, .int (iI (w))), (2, .long (lI (acc))), (4, .int (iI (i)))] → W p l e (rmF 1 23 0 0) s m args below meth c H locs 0 0 (MQ below (Qm (some (.long (lI (mR (totME w) (mTot2 mu w 36))))) (fun H' => RM D cy A ad (st mu 900 0 (totME w)) H') A) args s 0 0 A) (F0 m 48 ls []) := by
          intro n
          induction n with
          | zero =>
            intro i acc hi0 hi1 hacc hn ls hl
            exact absurd hn (Nat.not_lt_zero _)
          | succ n ih =>
            intro i acc hi0 hi1 hacc hn ls hl
            refine lv_iload hx hb dX5_total_48 (lv_at hl 3 rfl) ?_
            refine lv_aload_n hx hb dX5_total_50 rfl (lv_at hl 0 rfl) ?_
            refine xg_913 (v := mu 913 0) hx hb hw5 hown hK hR ((dmM_st (by decide) _ _).mpr (md_5 hG)) (hts _ kw_761) ((st_f (by decide)).trans rfl) dX5_total_51 ?_
            have g4 := mr_913 hG (0)
            refine xr_icmp_ge (tgt := 96) hx hb dX5_total_54 (by decide) (by omega) (by omega) (fun h5 => ?_) (fun h5 => ?_)
            · skip
              refine lv_iconst (v := iI (0)) hx hb dX5_total_96 rfl ?_
              refine lv_istore (i := 4) (lv' := [(4, .int (iI (0))), (0, .ref (ad 5 (0))), (1, .int (iI (w))), (2, .long (lI (acc)))]) hx hb dX5_total_97 hl (by decide) rfl (fun ls hl => ?_)
              have loop99 : ∀ (n : Nat) (i : Int) (acc : Int), 0 ≤ i → i ≤ 36 → acc = mTot2 mu w (i.toNat) → (36 - i).toNat < n → ∀ ls : Array Slot, lv_has ls 5 [(0, .ref (ad 5 (0))), (1, .int (iI (w))), (2, .long (lI (acc))), (4, .int (iI (i)))] → W p l e (rmF 1 23 0 0) s m args below meth c H locs 0 0 (MQ below (Qm (some (.long (lI (mR (totME w) (mTot2 mu w 36))))) (fun H' => RM D cy A ad (st mu 900 0 (totME w)) H') A) args s 0 0 A) (F0 m 99 ls []) := by
                intro n
                induction n with
                | zero =>
                  intro i acc hi0 hi1 hacc hn ls hl
                  exact absurd hn (Nat.not_lt_zero _)
                | succ n ih =>
                  intro i acc hi0 hi1 hacc hn ls hl
                  refine lv_iload hx hb dX5_total_99 (lv_at hl 3 rfl) ?_
                  refine lv_bipush (v := iI (36)) hx hb dX5_total_101 (by decide) ?_
                  refine xr_icmp_ge (tgt := 131) hx hb dX5_total_103 (by decide) (by omega) (by omega) (fun h6 => ?_) (fun h6 => ?_)
                  · skip
                    refine lv_aload_n hx hb dX5_total_131 rfl (lv_at hl 0 rfl) ?_
                    refine xg_900 (v := 0) hx hb hw5 hown hK hR ((dmM_st (by decide) _ _).mpr (md_5 hG)) (hts _ kw_748) (st_s) dX5_total_132 ?_
                    refine xr_if_le (tgt := 142) hx hb dX5_total_135 (by decide) (by decide) (fun _ => ?_) (fun h7 => absurd h7 (by decide))
                    refine lv_lload_n hx hb dX5_total_142 rfl (lv_at hl 2 rfl) ?_
                    exact xm_l hx hb hr hlk hS dX5_total_143 (by refine Eq.trans ?_ (mR_0 (by ((try unfold mDraft at *); (try unfold mTaken at *); unfold totME; (repeat' split) <;> first | rfl | omega))).symm; have e : i = 36 := (by omega); subst e; exact hacc) (by exact cast (congrArg (fun z => RM D cy A ad (st mu 900 0 z) H) (Eq.symm (by ((try unfold mDraft at *); (try unfold mTaken at *); unfold totME; (repeat' split) <;> first | rfl | omega)))) hR)
                  · skip
                    refine lv_lload_n hx hb dX5_total_106 rfl (lv_at hl 2 rfl) ?_
                    refine lv_iload_n hx hb dX5_total_107 rfl (lv_at hl 1 rfl) ?_
                    refine lv_iconst (v := iI (4)) hx hb dX5_total_108 rfl ?_
                    refine xr_icmp_ne (tgt := 122) hx hb dX5_total_109 (by decide) (by omega) (by omega) (fun h8 => ?_) (fun h8 => ?_)
                    · skip
                      refine lv_lconst (v := lI (0)) hx hb dX5_total_122 (by decide) ?_
                      refine xr_ladd hx hb dX5_total_123 ?_
                      refine lv_lstore_n (i := 2) (lv' := [(2, .long (lI (acc + 0))), (0, .ref (ad 5 (0))), (1, .int (iI (w))), (4, .int (iI (i)))]) hx hb dX5_total_124 rfl hl (by decide) rfl (fun ls hl => ?_)
                      refine lv_iinc (v := iI (i + (1))) (lv' := [(4, .int (iI (i + (1)))), (2, .long (lI (acc + 0))), (0, .ref (ad 5 (0))), (1, .int (iI (w)))]) hx hb dX5_total_125 hl (k := 3) rfl (iI_add _ _) (by decide) rfl (fun ls hl => ?_)
                      refine lv_goto (tgt := 99) hx hb dX5_total_128 (by decide) ?_
                      exact ih (i + 1) (acc + 0) (by omega) (by omega) (by rw [mTot2_s hi0, ← hacc]; first | (exfalso; omega) | rw [if_pos (by omega)] | rw [if_neg (by omega)]) (by omega) ls (lv_sub hl [2, 3, 1, 0] rfl)
                    · skip
                      refine lv_aload_n hx hb dX5_total_112 rfl (lv_at hl 0 rfl) ?_
                      refine xg_912 (v := mu 912 0) hx hb hw5 hown hK hR ((dmM_st (by decide) _ _).mpr (md_5 hG)) (hts _ kw_760) ((st_f (by decide)).trans rfl) dX5_total_113 ?_
                      have q9 : mu 912 0 = 0 := mh_912 hG
                      rw [q9, rv_p (Int.le_refl 0)]
                      refine lv_iload hx hb dX5_total_116 (lv_at hl 3 rfl) ?_
                      refine xa_1012 (v := mu 1012 i) hx hb hK hR ((dmM_st (by decide) _ _).mpr (md_32 hG)) (by omega) ((st_f (by decide)).trans rfl) dX5_total_118 ?_
                      have g10 := mr_1012 hG (i)
                      refine lv_goto (tgt := 123) hx hb dX5_total_119 (by decide) ?_
                      refine xr_ladd hx hb dX5_total_123 ?_
                      refine lv_lstore_n (i := 2) (lv' := [(2, .long (lI (acc + (mu 1012 i)))), (0, .ref (ad 5 (0))), (1, .int (iI (w))), (4, .int (iI (i)))]) hx hb dX5_total_124 rfl hl (by decide) rfl (fun ls hl => ?_)
                      refine lv_iinc (v := iI (i + (1))) (lv' := [(4, .int (iI (i + (1)))), (2, .long (lI (acc + (mu 1012 i)))), (0, .ref (ad 5 (0))), (1, .int (iI (w)))]) hx hb dX5_total_125 hl (k := 3) rfl (iI_add _ _) (by decide) rfl (fun ls hl => ?_)
                      refine lv_goto (tgt := 99) hx hb dX5_total_128 (by decide) ?_
                      exact ih (i + 1) (acc + (mu 1012 i)) (by omega) (by omega) (by rw [mTot2_s hi0, ← hacc]; first | (exfalso; omega) | rw [if_pos (by omega)] | rw [if_neg (by omega)]) (by omega) ls (lv_sub hl [2, 3, 1, 0] rfl)
              exact loop99 _ 0 acc (by decide) (by omega) (mTot2_0 (by have e : i = mu 913 0 := (by omega); rw [e] at hacc; exact hacc)) (Nat.lt_succ_self _) ls (lv_sub hl [1, 2, 3, 0] rfl)
            · skip
              refine lv_lload_n hx hb dX5_total_57 rfl (lv_at hl 2 rfl) ?_
              refine lv_iload_n hx hb dX5_total_58 rfl (lv_at hl 1 rfl) ?_
              refine xr_if_ne (tgt := 72) hx hb dX5_total_59 (by decide) (by omega) (fun h11 => ?_) (fun h11 => ?_)
              · skip
                refine lv_iload_n hx hb dX5_total_72 rfl (lv_at hl 1 rfl) ?_
                refine lv_iconst (v := iI (1)) hx hb dX5_total_73 rfl ?_
                refine xr_icmp_ne (tgt := 87) hx hb dX5_total_74 (by decide) (by omega) (by omega) (fun h12 => ?_) (fun h12 => ?_)
                · skip
                  refine lv_lconst (v := lI (0)) hx hb dX5_total_87 (by decide) ?_
                  refine xr_ladd hx hb dX5_total_88 ?_
                  refine lv_lstore_n (i := 2) (lv' := [(2, .long (lI (acc + 0))), (0, .ref (ad 5 (0))), (1, .int (iI (w))), (4, .int (iI (i)))]) hx hb dX5_total_89 rfl hl (by decide) rfl (fun ls hl => ?_)
                  refine lv_iinc (v := iI (i + (1))) (lv' := [(4, .int (iI (i + (1)))), (2, .long (lI (acc + 0))), (0, .ref (ad 5 (0))), (1, .int (iI (w)))]) hx hb dX5_total_90 hl (k := 3) rfl (iI_add _ _) (by decide) rfl (fun ls hl => ?_)
                  refine lv_goto (tgt := 48) hx hb dX5_total_93 (by decide) ?_
                  exact ih (i + 1) (acc + 0) (by omega) (by omega) (by rw [mTot1_s hi0, ← hacc]; first | (exfalso; omega) | rw [if_pos (by omega)] | rw [if_neg (by omega), if_pos (by omega)] | rw [if_neg (by omega), if_neg (by omega)]) (by omega) ls (lv_sub hl [2, 3, 1, 0] rfl)
                · skip
                  refine lv_aload_n hx hb dX5_total_77 rfl (lv_at hl 0 rfl) ?_
                  refine xg_922 (v := mu 922 0) hx hb hw5 hown hK hR ((dmM_st (by decide) _ _).mpr (md_5 hG)) (hts _ kw_770) ((st_f (by decide)).trans rfl) dX5_total_78 ?_
                  have q13 : mu 922 0 = 0 := mh_922 hG
                  rw [q13, rv_p (Int.le_refl 0)]
                  refine lv_iload hx hb dX5_total_81 (lv_at hl 3 rfl) ?_
                  refine xa_1022 (v := mu 1022 i) hx hb hK hR ((dmM_st (by decide) _ _).mpr (md_42 hG)) (by omega) ((st_f (by decide)).trans rfl) dX5_total_83 ?_
                  refine lv_goto (tgt := 88) hx hb dX5_total_84 (by decide) ?_
                  refine xr_ladd hx hb dX5_total_88 ?_
                  refine lv_lstore_n (i := 2) (lv' := [(2, .long (lI (acc + (mu 1022 i)))), (0, .ref (ad 5 (0))), (1, .int (iI (w))), (4, .int (iI (i)))]) hx hb dX5_total_89 rfl hl (by decide) rfl (fun ls hl => ?_)
                  refine lv_iinc (v := iI (i + (1))) (lv' := [(4, .int (iI (i + (1)))), (2, .long (lI (acc + (mu 1022 i)))), (0, .ref (ad 5 (0))), (1, .int (iI (w)))]) hx hb dX5_total_90 hl (k := 3) rfl (iI_add _ _) (by decide) rfl (fun ls hl => ?_)
                  refine lv_goto (tgt := 48) hx hb dX5_total_93 (by decide) ?_
                  exact ih (i + 1) (acc + (mu 1022 i)) (by omega) (by omega) (by rw [mTot1_s hi0, ← hacc]; first | (exfalso; omega) | rw [if_pos (by omega)] | rw [if_neg (by omega), if_pos (by omega)] | rw [if_neg (by omega), if_neg (by omega)]) (by omega) ls (lv_sub hl [2, 3, 1, 0] rfl)
              · skip
                refine lv_aload_n hx hb dX5_total_62 rfl (lv_at hl 0 rfl) ?_
                refine xg_921 (v := mu 921 0) hx hb hw5 hown hK hR ((dmM_st (by decide) _ _).mpr (md_5 hG)) (hts _ kw_769) ((st_f (by decide)).trans rfl) dX5_total_63 ?_
                have q14 : mu 921 0 = 0 := mh_921 hG
                rw [q14, rv_p (Int.le_refl 0)]
                refine lv_iload hx hb dX5_total_66 (lv_at hl 3 rfl) ?_
                refine xa_1021 (v := mu 1021 i) hx hb hK hR ((dmM_st (by decide) _ _).mpr (md_41 hG)) (by omega) ((st_f (by decide)).trans rfl) dX5_total_68 ?_
                have g15 := mr_1021 hG (i)
                refine lv_goto (tgt := 88) hx hb dX5_total_69 (by decide) ?_
                refine xr_ladd hx hb dX5_total_88 ?_
                refine lv_lstore_n (i := 2) (lv' := [(2, .long (lI (acc + (mu 1021 i)))), (0, .ref (ad 5 (0))), (1, .int (iI (w))), (4, .int (iI (i)))]) hx hb dX5_total_89 rfl hl (by decide) rfl (fun ls hl => ?_)
                refine lv_iinc (v := iI (i + (1))) (lv' := [(4, .int (iI (i + (1)))), (2, .long (lI (acc + (mu 1021 i)))), (0, .ref (ad 5 (0))), (1, .int (iI (w)))]) hx hb dX5_total_90 hl (k := 3) rfl (iI_add _ _) (by decide) rfl (fun ls hl => ?_)
                refine lv_goto (tgt := 48) hx hb dX5_total_93 (by decide) ?_
                exact ih (i + 1) (acc + (mu 1021 i)) (by omega) (by omega) (by rw [mTot1_s hi0, ← hacc]; first | (exfalso; omega) | rw [if_pos (by omega)] | rw [if_neg (by omega), if_pos (by omega)] | rw [if_neg (by omega), if_neg (by omega)]) (by omega) ls (lv_sub hl [2, 3, 1, 0] rfl)
        exact loop48 _ 0 0 (by decide) (by omega) (by unfold mTot1; show _ = _ + (0 : Int); (repeat' split) <;> omega) (Nat.lt_succ_self _) ls (lv_sub hl [2, 3, 1, 0] rfl)
      · skip
        refine lv_aload_n hx hb dX5_total_36 rfl (lv_at hl 0 rfl) ?_
        refine xg_933 (v := mu 933 0) hx hb hw5 hown hK hR ((dmM_st (by decide) _ _).mpr (md_5 hG)) (hts _ kw_781) ((st_f (by decide)).trans rfl) dX5_total_37 ?_
        refine lv_goto (tgt := 44) hx hb dX5_total_40 (by decide) ?_
        refine lv_lstore_n (i := 2) (lv' := [(2, .long (lI (mu 933 0))), (0, .ref (ad 5 (0))), (1, .int (iI (w)))]) hx hb dX5_total_44 rfl hl (by decide) rfl (fun ls hl => ?_)
        refine lv_iconst (v := iI (0)) hx hb dX5_total_45 rfl ?_
        refine lv_istore (i := 4) (lv' := [(4, .int (iI (0))), (2, .long (lI (mu 933 0))), (0, .ref (ad 5 (0))), (1, .int (iI (w)))]) hx hb dX5_total_46 hl (by decide) rfl (fun ls hl => ?_)
        have loop48 : ∀ (n : Nat) (i : Int) (acc : Int), 0 ≤ i → i ≤ mu 913 0 → acc = mTot1 mu w (i.toNat) → (mu 913 0 - i).toNat < n → ∀ ls : Array Slot, lv_has ls 5 [(0, .ref (ad 5 (0))), (1, .int (iI (w))), (2, .long (lI (acc))), (4, .int (iI (i)))] → W p l e (rmF 1 23 0 0) s m args below meth c H locs 0 0 (MQ below (Qm (some (.long (lI (mR (totME w) (mTot2 mu w 36))))) (fun H' => RM D cy A ad (st mu 900 0 (totME w)) H') A) args s 0 0 A) (F0 m 48 ls []) := by
          intro n
          induction n with
          | zero =>
            intro i acc hi0 hi1 hacc hn ls hl
            exact absurd hn (Nat.not_lt_zero _)
          | succ n ih =>
            intro i acc hi0 hi1 hacc hn ls hl
            refine lv_iload hx hb dX5_total_48 (lv_at hl 3 rfl) ?_
            refine lv_aload_n hx hb dX5_total_50 rfl (lv_at hl 0 rfl) ?_
            refine xg_913 (v := mu 913 0) hx hb hw5 hown hK hR ((dmM_st (by decide) _ _).mpr (md_5 hG)) (hts _ kw_761) ((st_f (by decide)).trans rfl) dX5_total_51 ?_
            have g16 := mr_913 hG (0)
            refine xr_icmp_ge (tgt := 96) hx hb dX5_total_54 (by decide) (by omega) (by omega) (fun h17 => ?_) (fun h17 => ?_)
            · skip
              refine lv_iconst (v := iI (0)) hx hb dX5_total_96 rfl ?_
              refine lv_istore (i := 4) (lv' := [(4, .int (iI (0))), (0, .ref (ad 5 (0))), (1, .int (iI (w))), (2, .long (lI (acc)))]) hx hb dX5_total_97 hl (by decide) rfl (fun ls hl => ?_)
              have loop99 : ∀ (n : Nat) (i : Int) (acc : Int), 0 ≤ i → i ≤ 36 → acc = mTot2 mu w (i.toNat) → (36 - i).toNat < n → ∀ ls : Array Slot, lv_has ls 5 [(0, .ref (ad 5 (0))), (1, .int (iI (w))), (2, .long (lI (acc))), (4, .int (iI (i)))] → W p l e (rmF 1 23 0 0) s m args below meth c H locs 0 0 (MQ below (Qm (some (.long (lI (mR (totME w) (mTot2 mu w 36))))) (fun H' => RM D cy A ad (st mu 900 0 (totME w)) H') A) args s 0 0 A) (F0 m 99 ls []) := by
                intro n
                induction n with
                | zero =>
                  intro i acc hi0 hi1 hacc hn ls hl
                  exact absurd hn (Nat.not_lt_zero _)
                | succ n ih =>
                  intro i acc hi0 hi1 hacc hn ls hl
                  refine lv_iload hx hb dX5_total_99 (lv_at hl 3 rfl) ?_
                  refine lv_bipush (v := iI (36)) hx hb dX5_total_101 (by decide) ?_
                  refine xr_icmp_ge (tgt := 131) hx hb dX5_total_103 (by decide) (by omega) (by omega) (fun h18 => ?_) (fun h18 => ?_)
                  · skip
                    refine lv_aload_n hx hb dX5_total_131 rfl (lv_at hl 0 rfl) ?_
                    refine xg_900 (v := 0) hx hb hw5 hown hK hR ((dmM_st (by decide) _ _).mpr (md_5 hG)) (hts _ kw_748) (st_s) dX5_total_132 ?_
                    refine xr_if_le (tgt := 142) hx hb dX5_total_135 (by decide) (by decide) (fun _ => ?_) (fun h19 => absurd h19 (by decide))
                    refine lv_lload_n hx hb dX5_total_142 rfl (lv_at hl 2 rfl) ?_
                    exact xm_l hx hb hr hlk hS dX5_total_143 (by refine Eq.trans ?_ (mR_0 (by ((try unfold mDraft at *); (try unfold mTaken at *); unfold totME; (repeat' split) <;> first | rfl | omega))).symm; have e : i = 36 := (by omega); subst e; exact hacc) (by exact cast (congrArg (fun z => RM D cy A ad (st mu 900 0 z) H) (Eq.symm (by ((try unfold mDraft at *); (try unfold mTaken at *); unfold totME; (repeat' split) <;> first | rfl | omega)))) hR)
                  · skip
                    refine lv_lload_n hx hb dX5_total_106 rfl (lv_at hl 2 rfl) ?_
                    refine lv_iload_n hx hb dX5_total_107 rfl (lv_at hl 1 rfl) ?_
                    refine lv_iconst (v := iI (4)) hx hb dX5_total_108 rfl ?_
                    refine xr_icmp_ne (tgt := 122) hx hb dX5_total_109 (by decide) (by omega) (by omega) (fun h20 => ?_) (fun h20 => ?_)
                    · skip
                      refine lv_lconst (v := lI (0)) hx hb dX5_total_122 (by decide) ?_
                      refine xr_ladd hx hb dX5_total_123 ?_
                      refine lv_lstore_n (i := 2) (lv' := [(2, .long (lI (acc + 0))), (0, .ref (ad 5 (0))), (1, .int (iI (w))), (4, .int (iI (i)))]) hx hb dX5_total_124 rfl hl (by decide) rfl (fun ls hl => ?_)
                      refine lv_iinc (v := iI (i + (1))) (lv' := [(4, .int (iI (i + (1)))), (2, .long (lI (acc + 0))), (0, .ref (ad 5 (0))), (1, .int (iI (w)))]) hx hb dX5_total_125 hl (k := 3) rfl (iI_add _ _) (by decide) rfl (fun ls hl => ?_)
                      refine lv_goto (tgt := 99) hx hb dX5_total_128 (by decide) ?_
                      exact ih (i + 1) (acc + 0) (by omega) (by omega) (by rw [mTot2_s hi0, ← hacc]; first | (exfalso; omega) | rw [if_pos (by omega)] | rw [if_neg (by omega)]) (by omega) ls (lv_sub hl [2, 3, 1, 0] rfl)
                    · skip
                      refine lv_aload_n hx hb dX5_total_112 rfl (lv_at hl 0 rfl) ?_
                      refine xg_912 (v := mu 912 0) hx hb hw5 hown hK hR ((dmM_st (by decide) _ _).mpr (md_5 hG)) (hts _ kw_760) ((st_f (by decide)).trans rfl) dX5_total_113 ?_
                      have q21 : mu 912 0 = 0 := mh_912 hG
                      rw [q21, rv_p (Int.le_refl 0)]
                      refine lv_iload hx hb dX5_total_116 (lv_at hl 3 rfl) ?_
                      refine xa_1012 (v := mu 1012 i) hx hb hK hR ((dmM_st (by decide) _ _).mpr (md_32 hG)) (by omega) ((st_f (by decide)).trans rfl) dX5_total_118 ?_
                      have g22 := mr_1012 hG (i)
                      refine lv_goto (tgt := 123) hx hb dX5_total_119 (by decide) ?_
                      refine xr_ladd hx hb dX5_total_123 ?_
                      refine lv_lstore_n (i := 2) (lv' := [(2, .long (lI (acc + (mu 1012 i)))), (0, .ref (ad 5 (0))), (1, .int (iI (w))), (4, .int (iI (i)))]) hx hb dX5_total_124 rfl hl (by decide) rfl (fun ls hl => ?_)
                      refine lv_iinc (v := iI (i + (1))) (lv' := [(4, .int (iI (i + (1)))), (2, .long (lI (acc + (mu 1012 i)))), (0, .ref (ad 5 (0))), (1, .int (iI (w)))]) hx hb dX5_total_125 hl (k := 3) rfl (iI_add _ _) (by decide) rfl (fun ls hl => ?_)
                      refine lv_goto (tgt := 99) hx hb dX5_total_128 (by decide) ?_
                      exact ih (i + 1) (acc + (mu 1012 i)) (by omega) (by omega) (by rw [mTot2_s hi0, ← hacc]; first | (exfalso; omega) | rw [if_pos (by omega)] | rw [if_neg (by omega)]) (by omega) ls (lv_sub hl [2, 3, 1, 0] rfl)
              exact loop99 _ 0 acc (by decide) (by omega) (mTot2_0 (by have e : i = mu 913 0 := (by omega); rw [e] at hacc; exact hacc)) (Nat.lt_succ_self _) ls (lv_sub hl [1, 2, 3, 0] rfl)
            · skip
              refine lv_lload_n hx hb dX5_total_57 rfl (lv_at hl 2 rfl) ?_
              refine lv_iload_n hx hb dX5_total_58 rfl (lv_at hl 1 rfl) ?_
              refine xr_if_ne (tgt := 72) hx hb dX5_total_59 (by decide) (by omega) (fun h23 => ?_) (fun h23 => ?_)
              · skip
                refine lv_iload_n hx hb dX5_total_72 rfl (lv_at hl 1 rfl) ?_
                refine lv_iconst (v := iI (1)) hx hb dX5_total_73 rfl ?_
                refine xr_icmp_ne (tgt := 87) hx hb dX5_total_74 (by decide) (by omega) (by omega) (fun h24 => ?_) (fun h24 => ?_)
                · skip
                  refine lv_lconst (v := lI (0)) hx hb dX5_total_87 (by decide) ?_
                  refine xr_ladd hx hb dX5_total_88 ?_
                  refine lv_lstore_n (i := 2) (lv' := [(2, .long (lI (acc + 0))), (0, .ref (ad 5 (0))), (1, .int (iI (w))), (4, .int (iI (i)))]) hx hb dX5_total_89 rfl hl (by decide) rfl (fun ls hl => ?_)
                  refine lv_iinc (v := iI (i + (1))) (lv' := [(4, .int (iI (i + (1)))), (2, .long (lI (acc + 0))), (0, .ref (ad 5 (0))), (1, .int (iI (w)))]) hx hb dX5_total_90 hl (k := 3) rfl (iI_add _ _) (by decide) rfl (fun ls hl => ?_)
                  refine lv_goto (tgt := 48) hx hb dX5_total_93 (by decide) ?_
                  exact ih (i + 1) (acc + 0) (by omega) (by omega) (by rw [mTot1_s hi0, ← hacc]; first | (exfalso; omega) | rw [if_pos (by omega)] | rw [if_neg (by omega), if_pos (by omega)] | rw [if_neg (by omega), if_neg (by omega)]) (by omega) ls (lv_sub hl [2, 3, 1, 0] rfl)
                · skip
                  refine lv_aload_n hx hb dX5_total_77 rfl (lv_at hl 0 rfl) ?_
                  refine xg_922 (v := mu 922 0) hx hb hw5 hown hK hR ((dmM_st (by decide) _ _).mpr (md_5 hG)) (hts _ kw_770) ((st_f (by decide)).trans rfl) dX5_total_78 ?_
                  have q25 : mu 922 0 = 0 := mh_922 hG
                  rw [q25, rv_p (Int.le_refl 0)]
                  refine lv_iload hx hb dX5_total_81 (lv_at hl 3 rfl) ?_
                  refine xa_1022 (v := mu 1022 i) hx hb hK hR ((dmM_st (by decide) _ _).mpr (md_42 hG)) (by omega) ((st_f (by decide)).trans rfl) dX5_total_83 ?_
                  refine lv_goto (tgt := 88) hx hb dX5_total_84 (by decide) ?_
                  refine xr_ladd hx hb dX5_total_88 ?_
                  refine lv_lstore_n (i := 2) (lv' := [(2, .long (lI (acc + (mu 1022 i)))), (0, .ref (ad 5 (0))), (1, .int (iI (w))), (4, .int (iI (i)))]) hx hb dX5_total_89 rfl hl (by decide) rfl (fun ls hl => ?_)
                  refine lv_iinc (v := iI (i + (1))) (lv' := [(4, .int (iI (i + (1)))), (2, .long (lI (acc + (mu 1022 i)))), (0, .ref (ad 5 (0))), (1, .int (iI (w)))]) hx hb dX5_total_90 hl (k := 3) rfl (iI_add _ _) (by decide) rfl (fun ls hl => ?_)
                  refine lv_goto (tgt := 48) hx hb dX5_total_93 (by decide) ?_
                  exact ih (i + 1) (acc + (mu 1022 i)) (by omega) (by omega) (by rw [mTot1_s hi0, ← hacc]; first | (exfalso; omega) | rw [if_pos (by omega)] | rw [if_neg (by omega), if_pos (by omega)] | rw [if_neg (by omega), if_neg (by omega)]) (by omega) ls (lv_sub hl [2, 3, 1, 0] rfl)
              · skip
                refine lv_aload_n hx hb dX5_total_62 rfl (lv_at hl 0 rfl) ?_
                refine xg_921 (v := mu 921 0) hx hb hw5 hown hK hR ((dmM_st (by decide) _ _).mpr (md_5 hG)) (hts _ kw_769) ((st_f (by decide)).trans rfl) dX5_total_63 ?_
                have q26 : mu 921 0 = 0 := mh_921 hG
                rw [q26, rv_p (Int.le_refl 0)]
                refine lv_iload hx hb dX5_total_66 (lv_at hl 3 rfl) ?_
                refine xa_1021 (v := mu 1021 i) hx hb hK hR ((dmM_st (by decide) _ _).mpr (md_41 hG)) (by omega) ((st_f (by decide)).trans rfl) dX5_total_68 ?_
                have g27 := mr_1021 hG (i)
                refine lv_goto (tgt := 88) hx hb dX5_total_69 (by decide) ?_
                refine xr_ladd hx hb dX5_total_88 ?_
                refine lv_lstore_n (i := 2) (lv' := [(2, .long (lI (acc + (mu 1021 i)))), (0, .ref (ad 5 (0))), (1, .int (iI (w))), (4, .int (iI (i)))]) hx hb dX5_total_89 rfl hl (by decide) rfl (fun ls hl => ?_)
                refine lv_iinc (v := iI (i + (1))) (lv' := [(4, .int (iI (i + (1)))), (2, .long (lI (acc + (mu 1021 i)))), (0, .ref (ad 5 (0))), (1, .int (iI (w)))]) hx hb dX5_total_90 hl (k := 3) rfl (iI_add _ _) (by decide) rfl (fun ls hl => ?_)
                refine lv_goto (tgt := 48) hx hb dX5_total_93 (by decide) ?_
                exact ih (i + 1) (acc + (mu 1021 i)) (by omega) (by omega) (by rw [mTot1_s hi0, ← hacc]; first | (exfalso; omega) | rw [if_pos (by omega)] | rw [if_neg (by omega), if_pos (by omega)] | rw [if_neg (by omega), if_neg (by omega)]) (by omega) ls (lv_sub hl [2, 3, 1, 0] rfl)
        exact loop48 _ 0 (mu 933 0) (by decide) (by omega) (by unfold mTot1; show _ = _ + (0 : Int); (repeat' split) <;> omega) (Nat.lt_succ_self _) ls (lv_sub hl [2, 3, 1, 0] rfl)
    · skip
      refine lv_aload_n hx hb dX5_total_24 rfl (lv_at hl 0 rfl) ?_
      refine xg_932 (v := mu 932 0) hx hb hw5 hown hK hR ((dmM_st (by decide) _ _).mpr (md_5 hG)) (hts _ kw_780) ((st_f (by decide)).trans rfl) dX5_total_25 ?_
      refine lv_goto (tgt := 44) hx hb dX5_total_28 (by decide) ?_
      refine lv_lstore_n (i := 2) (lv' := [(2, .long (lI (mu 932 0))), (0, .ref (ad 5 (0))), (1, .int (iI (w)))]) hx hb dX5_total_44 rfl hl (by decide) rfl (fun ls hl => ?_)
      refine lv_iconst (v := iI (0)) hx hb dX5_total_45 rfl ?_
      refine lv_istore (i := 4) (lv' := [(4, .int (iI (0))), (2, .long (lI (mu 932 0))), (0, .ref (ad 5 (0))), (1, .int (iI (w)))]) hx hb dX5_total_46 hl (by decide) rfl (fun ls hl => ?_)
      have loop48 : ∀ (n : Nat) (i : Int) (acc : Int), 0 ≤ i → i ≤ mu 913 0 → acc = mTot1 mu w (i.toNat) → (mu 913 0 - i).toNat < n → ∀ ls : Array Slot, lv_has ls 5 [(0, .ref (ad 5 (0))), (1, .int (iI (w))), (2, .long (lI (acc))), (4, .int (iI (i)))] → W p l e (rmF 1 23 0 0) s m args below meth c H locs 0 0 (MQ below (Qm (some (.long (lI (mR (totME w) (mTot2 mu w 36))))) (fun H' => RM D cy A ad (st mu 900 0 (totME w)) H') A) args s 0 0 A) (F0 m 48 ls []) := by
        intro n
        induction n with
        | zero =>
          intro i acc hi0 hi1 hacc hn ls hl
          exact absurd hn (Nat.not_lt_zero _)
        | succ n ih =>
          intro i acc hi0 hi1 hacc hn ls hl
          refine lv_iload hx hb dX5_total_48 (lv_at hl 3 rfl) ?_
          refine lv_aload_n hx hb dX5_total_50 rfl (lv_at hl 0 rfl) ?_
          refine xg_913 (v := mu 913 0) hx hb hw5 hown hK hR ((dmM_st (by decide) _ _).mpr (md_5 hG)) (hts _ kw_761) ((st_f (by decide)).trans rfl) dX5_total_51 ?_
          have g28 := mr_913 hG (0)
          refine xr_icmp_ge (tgt := 96) hx hb dX5_total_54 (by decide) (by omega) (by omega) (fun h29 => ?_) (fun h29 => ?_)
          · skip
            refine lv_iconst (v := iI (0)) hx hb dX5_total_96 rfl ?_
            refine lv_istore (i := 4) (lv' := [(4, .int (iI (0))), (0, .ref (ad 5 (0))), (1, .int (iI (w))), (2, .long (lI (acc)))]) hx hb dX5_total_97 hl (by decide) rfl (fun ls hl => ?_)
            have loop99 : ∀ (n : Nat) (i : Int) (acc : Int), 0 ≤ i → i ≤ 36 → acc = mTot2 mu w (i.toNat) → (36 - i).toNat < n → ∀ ls : Array Slot, lv_has ls 5 [(0, .ref (ad 5 (0))), (1, .int (iI (w))), (2, .long (lI (acc))), (4, .int (iI (i)))] → W p l e (rmF 1 23 0 0) s m args below meth c H locs 0 0 (MQ below (Qm (some (.long (lI (mR (totME w) (mTot2 mu w 36))))) (fun H' => RM D cy A ad (st mu 900 0 (totME w)) H') A) args s 0 0 A) (F0 m 99 ls []) := by
              intro n
              induction n with
              | zero =>
                intro i acc hi0 hi1 hacc hn ls hl
                exact absurd hn (Nat.not_lt_zero _)
              | succ n ih =>
                intro i acc hi0 hi1 hacc hn ls hl
                refine lv_iload hx hb dX5_total_99 (lv_at hl 3 rfl) ?_
                refine lv_bipush (v := iI (36)) hx hb dX5_total_101 (by decide) ?_
                refine xr_icmp_ge (tgt := 131) hx hb dX5_total_103 (by decide) (by omega) (by omega) (fun h30 => ?_) (fun h30 => ?_)
                · skip
                  refine lv_aload_n hx hb dX5_total_131 rfl (lv_at hl 0 rfl) ?_
                  refine xg_900 (v := 0) hx hb hw5 hown hK hR ((dmM_st (by decide) _ _).mpr (md_5 hG)) (hts _ kw_748) (st_s) dX5_total_132 ?_
                  refine xr_if_le (tgt := 142) hx hb dX5_total_135 (by decide) (by decide) (fun _ => ?_) (fun h31 => absurd h31 (by decide))
                  refine lv_lload_n hx hb dX5_total_142 rfl (lv_at hl 2 rfl) ?_
                  exact xm_l hx hb hr hlk hS dX5_total_143 (by refine Eq.trans ?_ (mR_0 (by ((try unfold mDraft at *); (try unfold mTaken at *); unfold totME; (repeat' split) <;> first | rfl | omega))).symm; have e : i = 36 := (by omega); subst e; exact hacc) (by exact cast (congrArg (fun z => RM D cy A ad (st mu 900 0 z) H) (Eq.symm (by ((try unfold mDraft at *); (try unfold mTaken at *); unfold totME; (repeat' split) <;> first | rfl | omega)))) hR)
                · skip
                  refine lv_lload_n hx hb dX5_total_106 rfl (lv_at hl 2 rfl) ?_
                  refine lv_iload_n hx hb dX5_total_107 rfl (lv_at hl 1 rfl) ?_
                  refine lv_iconst (v := iI (4)) hx hb dX5_total_108 rfl ?_
                  refine xr_icmp_ne (tgt := 122) hx hb dX5_total_109 (by decide) (by omega) (by omega) (fun h32 => ?_) (fun h32 => ?_)
                  · skip
                    refine lv_lconst (v := lI (0)) hx hb dX5_total_122 (by decide) ?_
                    refine xr_ladd hx hb dX5_total_123 ?_
                    refine lv_lstore_n (i := 2) (lv' := [(2, .long (lI (acc + 0))), (0, .ref (ad 5 (0))), (1, .int (iI (w))), (4, .int (iI (i)))]) hx hb dX5_total_124 rfl hl (by decide) rfl (fun ls hl => ?_)
                    refine lv_iinc (v := iI (i + (1))) (lv' := [(4, .int (iI (i + (1)))), (2, .long (lI (acc + 0))), (0, .ref (ad 5 (0))), (1, .int (iI (w)))]) hx hb dX5_total_125 hl (k := 3) rfl (iI_add _ _) (by decide) rfl (fun ls hl => ?_)
                    refine lv_goto (tgt := 99) hx hb dX5_total_128 (by decide) ?_
                    exact ih (i + 1) (acc + 0) (by omega) (by omega) (by rw [mTot2_s hi0, ← hacc]; first | (exfalso; omega) | rw [if_pos (by omega)] | rw [if_neg (by omega)]) (by omega) ls (lv_sub hl [2, 3, 1, 0] rfl)
                  · skip
                    refine lv_aload_n hx hb dX5_total_112 rfl (lv_at hl 0 rfl) ?_
                    refine xg_912 (v := mu 912 0) hx hb hw5 hown hK hR ((dmM_st (by decide) _ _).mpr (md_5 hG)) (hts _ kw_760) ((st_f (by decide)).trans rfl) dX5_total_113 ?_
                    have q33 : mu 912 0 = 0 := mh_912 hG
                    rw [q33, rv_p (Int.le_refl 0)]
                    refine lv_iload hx hb dX5_total_116 (lv_at hl 3 rfl) ?_
                    refine xa_1012 (v := mu 1012 i) hx hb hK hR ((dmM_st (by decide) _ _).mpr (md_32 hG)) (by omega) ((st_f (by decide)).trans rfl) dX5_total_118 ?_
                    have g34 := mr_1012 hG (i)
                    refine lv_goto (tgt := 123) hx hb dX5_total_119 (by decide) ?_
                    refine xr_ladd hx hb dX5_total_123 ?_
                    refine lv_lstore_n (i := 2) (lv' := [(2, .long (lI (acc + (mu 1012 i)))), (0, .ref (ad 5 (0))), (1, .int (iI (w))), (4, .int (iI (i)))]) hx hb dX5_total_124 rfl hl (by decide) rfl (fun ls hl => ?_)
                    refine lv_iinc (v := iI (i + (1))) (lv' := [(4, .int (iI (i + (1)))), (2, .long (lI (acc + (mu 1012 i)))), (0, .ref (ad 5 (0))), (1, .int (iI (w)))]) hx hb dX5_total_125 hl (k := 3) rfl (iI_add _ _) (by decide) rfl (fun ls hl => ?_)
                    refine lv_goto (tgt := 99) hx hb dX5_total_128 (by decide) ?_
                    exact ih (i + 1) (acc + (mu 1012 i)) (by omega) (by omega) (by rw [mTot2_s hi0, ← hacc]; first | (exfalso; omega) | rw [if_pos (by omega)] | rw [if_neg (by omega)]) (by omega) ls (lv_sub hl [2, 3, 1, 0] rfl)
            exact loop99 _ 0 acc (by decide) (by omega) (mTot2_0 (by have e : i = mu 913 0 := (by omega); rw [e] at hacc; exact hacc)) (Nat.lt_succ_self _) ls (lv_sub hl [1, 2, 3, 0] rfl)
          · skip
            refine lv_lload_n hx hb dX5_total_57 rfl (lv_at hl 2 rfl) ?_
            refine lv_iload_n hx hb dX5_total_58 rfl (lv_at hl 1 rfl) ?_
            refine xr_if_ne (tgt := 72) hx hb dX5_total_59 (by decide) (by omega) (fun h35 => ?_) (fun h35 => ?_)
            · skip
              refine lv_iload_n hx hb dX5_total_72 rfl (lv_at hl 1 rfl) ?_
              refine lv_iconst (v := iI (1)) hx hb dX5_total_73 rfl ?_
              refine xr_icmp_ne (tgt := 87) hx hb dX5_total_74 (by decide) (by omega) (by omega) (fun h36 => ?_) (fun h36 => ?_)
              · skip
                refine lv_lconst (v := lI (0)) hx hb dX5_total_87 (by decide) ?_
                refine xr_ladd hx hb dX5_total_88 ?_
                refine lv_lstore_n (i := 2) (lv' := [(2, .long (lI (acc + 0))), (0, .ref (ad 5 (0))), (1, .int (iI (w))), (4, .int (iI (i)))]) hx hb dX5_total_89 rfl hl (by decide) rfl (fun ls hl => ?_)
                refine lv_iinc (v := iI (i + (1))) (lv' := [(4, .int (iI (i + (1)))), (2, .long (lI (acc + 0))), (0, .ref (ad 5 (0))), (1, .int (iI (w)))]) hx hb dX5_total_90 hl (k := 3) rfl (iI_add _ _) (by decide) rfl (fun ls hl => ?_)
                refine lv_goto (tgt := 48) hx hb dX5_total_93 (by decide) ?_
                exact ih (i + 1) (acc + 0) (by omega) (by omega) (by rw [mTot1_s hi0, ← hacc]; first | (exfalso; omega) | rw [if_pos (by omega)] | rw [if_neg (by omega), if_pos (by omega)] | rw [if_neg (by omega), if_neg (by omega)]) (by omega) ls (lv_sub hl [2, 3, 1, 0] rfl)
              · skip
                refine lv_aload_n hx hb dX5_total_77 rfl (lv_at hl 0 rfl) ?_
                refine xg_922 (v := mu 922 0) hx hb hw5 hown hK hR ((dmM_st (by decide) _ _).mpr (md_5 hG)) (hts _ kw_770) ((st_f (by decide)).trans rfl) dX5_total_78 ?_
                have q37 : mu 922 0 = 0 := mh_922 hG
                rw [q37, rv_p (Int.le_refl 0)]
                refine lv_iload hx hb dX5_total_81 (lv_at hl 3 rfl) ?_
                refine xa_1022 (v := mu 1022 i) hx hb hK hR ((dmM_st (by decide) _ _).mpr (md_42 hG)) (by omega) ((st_f (by decide)).trans rfl) dX5_total_83 ?_
                refine lv_goto (tgt := 88) hx hb dX5_total_84 (by decide) ?_
                refine xr_ladd hx hb dX5_total_88 ?_
                refine lv_lstore_n (i := 2) (lv' := [(2, .long (lI (acc + (mu 1022 i)))), (0, .ref (ad 5 (0))), (1, .int (iI (w))), (4, .int (iI (i)))]) hx hb dX5_total_89 rfl hl (by decide) rfl (fun ls hl => ?_)
                refine lv_iinc (v := iI (i + (1))) (lv' := [(4, .int (iI (i + (1)))), (2, .long (lI (acc + (mu 1022 i)))), (0, .ref (ad 5 (0))), (1, .int (iI (w)))]) hx hb dX5_total_90 hl (k := 3) rfl (iI_add _ _) (by decide) rfl (fun ls hl => ?_)
                refine lv_goto (tgt := 48) hx hb dX5_total_93 (by decide) ?_
                exact ih (i + 1) (acc + (mu 1022 i)) (by omega) (by omega) (by rw [mTot1_s hi0, ← hacc]; first | (exfalso; omega) | rw [if_pos (by omega)] | rw [if_neg (by omega), if_pos (by omega)] | rw [if_neg (by omega), if_neg (by omega)]) (by omega) ls (lv_sub hl [2, 3, 1, 0] rfl)
            · skip
              refine lv_aload_n hx hb dX5_total_62 rfl (lv_at hl 0 rfl) ?_
              refine xg_921 (v := mu 921 0) hx hb hw5 hown hK hR ((dmM_st (by decide) _ _).mpr (md_5 hG)) (hts _ kw_769) ((st_f (by decide)).trans rfl) dX5_total_63 ?_
              have q38 : mu 921 0 = 0 := mh_921 hG
              rw [q38, rv_p (Int.le_refl 0)]
              refine lv_iload hx hb dX5_total_66 (lv_at hl 3 rfl) ?_
              refine xa_1021 (v := mu 1021 i) hx hb hK hR ((dmM_st (by decide) _ _).mpr (md_41 hG)) (by omega) ((st_f (by decide)).trans rfl) dX5_total_68 ?_
              have g39 := mr_1021 hG (i)
              refine lv_goto (tgt := 88) hx hb dX5_total_69 (by decide) ?_
              refine xr_ladd hx hb dX5_total_88 ?_
              refine lv_lstore_n (i := 2) (lv' := [(2, .long (lI (acc + (mu 1021 i)))), (0, .ref (ad 5 (0))), (1, .int (iI (w))), (4, .int (iI (i)))]) hx hb dX5_total_89 rfl hl (by decide) rfl (fun ls hl => ?_)
              refine lv_iinc (v := iI (i + (1))) (lv' := [(4, .int (iI (i + (1)))), (2, .long (lI (acc + (mu 1021 i)))), (0, .ref (ad 5 (0))), (1, .int (iI (w)))]) hx hb dX5_total_90 hl (k := 3) rfl (iI_add _ _) (by decide) rfl (fun ls hl => ?_)
              refine lv_goto (tgt := 48) hx hb dX5_total_93 (by decide) ?_
              exact ih (i + 1) (acc + (mu 1021 i)) (by omega) (by omega) (by rw [mTot1_s hi0, ← hacc]; first | (exfalso; omega) | rw [if_pos (by omega)] | rw [if_neg (by omega), if_pos (by omega)] | rw [if_neg (by omega), if_neg (by omega)]) (by omega) ls (lv_sub hl [2, 3, 1, 0] rfl)
      exact loop48 _ 0 (mu 932 0) (by decide) (by omega) (by unfold mTot1; show _ = _ + (0 : Int); (repeat' split) <;> omega) (Nat.lt_succ_self _) ls (lv_sub hl [2, 3, 1, 0] rfl)
  · skip
    refine lv_iconst (v := iI (1)) hx hb dX5_total_11 rfl ?_
    refine lv_goto (tgt := 16) hx hb dX5_total_12 (by decide) ?_
    refine xp_900 (v := 1) hx hb hw5 hown hK hR hS (md_5 hG) (hts _ kw_748) dX5_total_16 (fun H locs hR hS => ?_)
    refine lv_iload_n hx hb dX5_total_19 rfl (lv_at hl 1 rfl) ?_
    refine lv_iconst (v := iI (2)) hx hb dX5_total_20 rfl ?_
    refine xr_icmp_ne (tgt := 31) hx hb dX5_total_21 (by decide) (by omega) (by omega) (fun h40 => ?_) (fun h40 => ?_)
    · skip
      refine lv_iload_n hx hb dX5_total_31 rfl (lv_at hl 1 rfl) ?_
      refine lv_iconst (v := iI (3)) hx hb dX5_total_32 rfl ?_
      refine xr_icmp_ne (tgt := 43) hx hb dX5_total_33 (by decide) (by omega) (by omega) (fun h41 => ?_) (fun h41 => ?_)
      · skip
        refine lv_lconst (v := lI (0)) hx hb dX5_total_43 (by decide) ?_
        refine lv_lstore_n (i := 2) (lv' := [(2, .long (lI (0))), (0, .ref (ad 5 (0))), (1, .int (iI (w)))]) hx hb dX5_total_44 rfl hl (by decide) rfl (fun ls hl => ?_)
        refine lv_iconst (v := iI (0)) hx hb dX5_total_45 rfl ?_
        refine lv_istore (i := 4) (lv' := [(4, .int (iI (0))), (2, .long (lI (0))), (0, .ref (ad 5 (0))), (1, .int (iI (w)))]) hx hb dX5_total_46 hl (by decide) rfl (fun ls hl => ?_)
        have loop48 : ∀ (n : Nat) (i : Int) (acc : Int), 0 ≤ i → i ≤ mu 913 0 → acc = mTot1 mu w (i.toNat) → (mu 913 0 - i).toNat < n → ∀ ls : Array Slot, lv_has ls 5 [(0, .ref (ad 5 (0))), (1, .int (iI (w))), (2, .long (lI (acc))), (4, .int (iI (i)))] → W p l e (rmF 1 23 0 0) s m args below meth c H locs 0 0 (MQ below (Qm (some (.long (lI (mR (totME w) (mTot2 mu w 36))))) (fun H' => RM D cy A ad (st mu 900 0 (totME w)) H') A) args s 0 0 A) (F0 m 48 ls []) := by
          intro n
          induction n with
          | zero =>
            intro i acc hi0 hi1 hacc hn ls hl
            exact absurd hn (Nat.not_lt_zero _)
          | succ n ih =>
            intro i acc hi0 hi1 hacc hn ls hl
            refine lv_iload hx hb dX5_total_48 (lv_at hl 3 rfl) ?_
            refine lv_aload_n hx hb dX5_total_50 rfl (lv_at hl 0 rfl) ?_
            refine xg_913 (v := mu 913 0) hx hb hw5 hown hK hR ((dmM_st (by decide) _ _).mpr (md_5 hG)) (hts _ kw_761) ((st_f (by decide)).trans rfl) dX5_total_51 ?_
            have g42 := mr_913 hG (0)
            refine xr_icmp_ge (tgt := 96) hx hb dX5_total_54 (by decide) (by omega) (by omega) (fun h43 => ?_) (fun h43 => ?_)
            · skip
              refine lv_iconst (v := iI (0)) hx hb dX5_total_96 rfl ?_
              refine lv_istore (i := 4) (lv' := [(4, .int (iI (0))), (0, .ref (ad 5 (0))), (1, .int (iI (w))), (2, .long (lI (acc)))]) hx hb dX5_total_97 hl (by decide) rfl (fun ls hl => ?_)
              have loop99 : ∀ (n : Nat) (i : Int) (acc : Int), 0 ≤ i → i ≤ 36 → acc = mTot2 mu w (i.toNat) → (36 - i).toNat < n → ∀ ls : Array Slot, lv_has ls 5 [(0, .ref (ad 5 (0))), (1, .int (iI (w))), (2, .long (lI (acc))), (4, .int (iI (i)))] → W p l e (rmF 1 23 0 0) s m args below meth c H locs 0 0 (MQ below (Qm (some (.long (lI (mR (totME w) (mTot2 mu w 36))))) (fun H' => RM D cy A ad (st mu 900 0 (totME w)) H') A) args s 0 0 A) (F0 m 99 ls []) := by
                intro n
                induction n with
                | zero =>
                  intro i acc hi0 hi1 hacc hn ls hl
                  exact absurd hn (Nat.not_lt_zero _)
                | succ n ih =>
                  intro i acc hi0 hi1 hacc hn ls hl
                  refine lv_iload hx hb dX5_total_99 (lv_at hl 3 rfl) ?_
                  refine lv_bipush (v := iI (36)) hx hb dX5_total_101 (by decide) ?_
                  refine xr_icmp_ge (tgt := 131) hx hb dX5_total_103 (by decide) (by omega) (by omega) (fun h44 => ?_) (fun h44 => ?_)
                  · skip
                    refine lv_aload_n hx hb dX5_total_131 rfl (lv_at hl 0 rfl) ?_
                    refine xg_900 (v := 1) hx hb hw5 hown hK hR ((dmM_st (by decide) _ _).mpr (md_5 hG)) (hts _ kw_748) (st_s) dX5_total_132 ?_
                    refine xr_if_le (tgt := 142) hx hb dX5_total_135 (by decide) (by decide) (fun h45 => absurd h45 (by decide)) (fun _ => ?_)
                    refine lv_lconst (v := lI (0)) hx hb dX5_total_138 (by decide) ?_
                    refine lv_goto (tgt := 143) hx hb dX5_total_139 (by decide) ?_
                    exact xm_l hx hb hr hlk hS dX5_total_143 (by exact (mR_k (1) (by ((try unfold mDraft at *); (try unfold mTaken at *); unfold totME; (repeat' split) <;> first | rfl | omega)) (by decide)).symm) (by exact cast (congrArg (fun z => RM D cy A ad (st mu 900 0 z) H) (Eq.symm (by ((try unfold mDraft at *); (try unfold mTaken at *); unfold totME; (repeat' split) <;> first | rfl | omega)))) hR)
                  · skip
                    refine lv_lload_n hx hb dX5_total_106 rfl (lv_at hl 2 rfl) ?_
                    refine lv_iload_n hx hb dX5_total_107 rfl (lv_at hl 1 rfl) ?_
                    refine lv_iconst (v := iI (4)) hx hb dX5_total_108 rfl ?_
                    refine xr_icmp_ne (tgt := 122) hx hb dX5_total_109 (by decide) (by omega) (by omega) (fun h46 => ?_) (fun h46 => ?_)
                    · skip
                      refine lv_lconst (v := lI (0)) hx hb dX5_total_122 (by decide) ?_
                      refine xr_ladd hx hb dX5_total_123 ?_
                      refine lv_lstore_n (i := 2) (lv' := [(2, .long (lI (acc + 0))), (0, .ref (ad 5 (0))), (1, .int (iI (w))), (4, .int (iI (i)))]) hx hb dX5_total_124 rfl hl (by decide) rfl (fun ls hl => ?_)
                      refine lv_iinc (v := iI (i + (1))) (lv' := [(4, .int (iI (i + (1)))), (2, .long (lI (acc + 0))), (0, .ref (ad 5 (0))), (1, .int (iI (w)))]) hx hb dX5_total_125 hl (k := 3) rfl (iI_add _ _) (by decide) rfl (fun ls hl => ?_)
                      refine lv_goto (tgt := 99) hx hb dX5_total_128 (by decide) ?_
                      exact ih (i + 1) (acc + 0) (by omega) (by omega) (by rw [mTot2_s hi0, ← hacc]; first | (exfalso; omega) | rw [if_pos (by omega)] | rw [if_neg (by omega)]) (by omega) ls (lv_sub hl [2, 3, 1, 0] rfl)
                    · skip
                      refine lv_aload_n hx hb dX5_total_112 rfl (lv_at hl 0 rfl) ?_
                      refine xg_912 (v := mu 912 0) hx hb hw5 hown hK hR ((dmM_st (by decide) _ _).mpr (md_5 hG)) (hts _ kw_760) ((st_f (by decide)).trans rfl) dX5_total_113 ?_
                      have q47 : mu 912 0 = 0 := mh_912 hG
                      rw [q47, rv_p (Int.le_refl 0)]
                      refine lv_iload hx hb dX5_total_116 (lv_at hl 3 rfl) ?_
                      refine xa_1012 (v := mu 1012 i) hx hb hK hR ((dmM_st (by decide) _ _).mpr (md_32 hG)) (by omega) ((st_f (by decide)).trans rfl) dX5_total_118 ?_
                      have g48 := mr_1012 hG (i)
                      refine lv_goto (tgt := 123) hx hb dX5_total_119 (by decide) ?_
                      refine xr_ladd hx hb dX5_total_123 ?_
                      refine lv_lstore_n (i := 2) (lv' := [(2, .long (lI (acc + (mu 1012 i)))), (0, .ref (ad 5 (0))), (1, .int (iI (w))), (4, .int (iI (i)))]) hx hb dX5_total_124 rfl hl (by decide) rfl (fun ls hl => ?_)
                      refine lv_iinc (v := iI (i + (1))) (lv' := [(4, .int (iI (i + (1)))), (2, .long (lI (acc + (mu 1012 i)))), (0, .ref (ad 5 (0))), (1, .int (iI (w)))]) hx hb dX5_total_125 hl (k := 3) rfl (iI_add _ _) (by decide) rfl (fun ls hl => ?_)
                      refine lv_goto (tgt := 99) hx hb dX5_total_128 (by decide) ?_
                      exact ih (i + 1) (acc + (mu 1012 i)) (by omega) (by omega) (by rw [mTot2_s hi0, ← hacc]; first | (exfalso; omega) | rw [if_pos (by omega)] | rw [if_neg (by omega)]) (by omega) ls (lv_sub hl [2, 3, 1, 0] rfl)
              exact loop99 _ 0 acc (by decide) (by omega) (mTot2_0 (by have e : i = mu 913 0 := (by omega); rw [e] at hacc; exact hacc)) (Nat.lt_succ_self _) ls (lv_sub hl [1, 2, 3, 0] rfl)
            · skip
              refine lv_lload_n hx hb dX5_total_57 rfl (lv_at hl 2 rfl) ?_
              refine lv_iload_n hx hb dX5_total_58 rfl (lv_at hl 1 rfl) ?_
              refine xr_if_ne (tgt := 72) hx hb dX5_total_59 (by decide) (by omega) (fun h49 => ?_) (fun h49 => ?_)
              · skip
                refine lv_iload_n hx hb dX5_total_72 rfl (lv_at hl 1 rfl) ?_
                refine lv_iconst (v := iI (1)) hx hb dX5_total_73 rfl ?_
                refine xr_icmp_ne (tgt := 87) hx hb dX5_total_74 (by decide) (by omega) (by omega) (fun h50 => ?_) (fun h50 => ?_)
                · skip
                  refine lv_lconst (v := lI (0)) hx hb dX5_total_87 (by decide) ?_
                  refine xr_ladd hx hb dX5_total_88 ?_
                  refine lv_lstore_n (i := 2) (lv' := [(2, .long (lI (acc + 0))), (0, .ref (ad 5 (0))), (1, .int (iI (w))), (4, .int (iI (i)))]) hx hb dX5_total_89 rfl hl (by decide) rfl (fun ls hl => ?_)
                  refine lv_iinc (v := iI (i + (1))) (lv' := [(4, .int (iI (i + (1)))), (2, .long (lI (acc + 0))), (0, .ref (ad 5 (0))), (1, .int (iI (w)))]) hx hb dX5_total_90 hl (k := 3) rfl (iI_add _ _) (by decide) rfl (fun ls hl => ?_)
                  refine lv_goto (tgt := 48) hx hb dX5_total_93 (by decide) ?_
                  exact ih (i + 1) (acc + 0) (by omega) (by omega) (by rw [mTot1_s hi0, ← hacc]; first | (exfalso; omega) | rw [if_pos (by omega)] | rw [if_neg (by omega), if_pos (by omega)] | rw [if_neg (by omega), if_neg (by omega)]) (by omega) ls (lv_sub hl [2, 3, 1, 0] rfl)
                · skip
                  refine lv_aload_n hx hb dX5_total_77 rfl (lv_at hl 0 rfl) ?_
                  refine xg_922 (v := mu 922 0) hx hb hw5 hown hK hR ((dmM_st (by decide) _ _).mpr (md_5 hG)) (hts _ kw_770) ((st_f (by decide)).trans rfl) dX5_total_78 ?_
                  have q51 : mu 922 0 = 0 := mh_922 hG
                  rw [q51, rv_p (Int.le_refl 0)]
                  refine lv_iload hx hb dX5_total_81 (lv_at hl 3 rfl) ?_
                  refine xa_1022 (v := mu 1022 i) hx hb hK hR ((dmM_st (by decide) _ _).mpr (md_42 hG)) (by omega) ((st_f (by decide)).trans rfl) dX5_total_83 ?_
                  refine lv_goto (tgt := 88) hx hb dX5_total_84 (by decide) ?_
                  refine xr_ladd hx hb dX5_total_88 ?_
                  refine lv_lstore_n (i := 2) (lv' := [(2, .long (lI (acc + (mu 1022 i)))), (0, .ref (ad 5 (0))), (1, .int (iI (w))), (4, .int (iI (i)))]) hx hb dX5_total_89 rfl hl (by decide) rfl (fun ls hl => ?_)
                  refine lv_iinc (v := iI (i + (1))) (lv' := [(4, .int (iI (i + (1)))), (2, .long (lI (acc + (mu 1022 i)))), (0, .ref (ad 5 (0))), (1, .int (iI (w)))]) hx hb dX5_total_90 hl (k := 3) rfl (iI_add _ _) (by decide) rfl (fun ls hl => ?_)
                  refine lv_goto (tgt := 48) hx hb dX5_total_93 (by decide) ?_
                  exact ih (i + 1) (acc + (mu 1022 i)) (by omega) (by omega) (by rw [mTot1_s hi0, ← hacc]; first | (exfalso; omega) | rw [if_pos (by omega)] | rw [if_neg (by omega), if_pos (by omega)] | rw [if_neg (by omega), if_neg (by omega)]) (by omega) ls (lv_sub hl [2, 3, 1, 0] rfl)
              · skip
                refine lv_aload_n hx hb dX5_total_62 rfl (lv_at hl 0 rfl) ?_
                refine xg_921 (v := mu 921 0) hx hb hw5 hown hK hR ((dmM_st (by decide) _ _).mpr (md_5 hG)) (hts _ kw_769) ((st_f (by decide)).trans rfl) dX5_total_63 ?_
                have q52 : mu 921 0 = 0 := mh_921 hG
                rw [q52, rv_p (Int.le_refl 0)]
                refine lv_iload hx hb dX5_total_66 (lv_at hl 3 rfl) ?_
                refine xa_1021 (v := mu 1021 i) hx hb hK hR ((dmM_st (by decide) _ _).mpr (md_41 hG)) (by omega) ((st_f (by decide)).trans rfl) dX5_total_68 ?_
                have g53 := mr_1021 hG (i)
                refine lv_goto (tgt := 88) hx hb dX5_total_69 (by decide) ?_
                refine xr_ladd hx hb dX5_total_88 ?_
                refine lv_lstore_n (i := 2) (lv' := [(2, .long (lI (acc + (mu 1021 i)))), (0, .ref (ad 5 (0))), (1, .int (iI (w))), (4, .int (iI (i)))]) hx hb dX5_total_89 rfl hl (by decide) rfl (fun ls hl => ?_)
                refine lv_iinc (v := iI (i + (1))) (lv' := [(4, .int (iI (i + (1)))), (2, .long (lI (acc + (mu 1021 i)))), (0, .ref (ad 5 (0))), (1, .int (iI (w)))]) hx hb dX5_total_90 hl (k := 3) rfl (iI_add _ _) (by decide) rfl (fun ls hl => ?_)
                refine lv_goto (tgt := 48) hx hb dX5_total_93 (by decide) ?_
                exact ih (i + 1) (acc + (mu 1021 i)) (by omega) (by omega) (by rw [mTot1_s hi0, ← hacc]; first | (exfalso; omega) | rw [if_pos (by omega)] | rw [if_neg (by omega), if_pos (by omega)] | rw [if_neg (by omega), if_neg (by omega)]) (by omega) ls (lv_sub hl [2, 3, 1, 0] rfl)
        exact loop48 _ 0 0 (by decide) (by omega) (by unfold mTot1; show _ = _ + (0 : Int); (repeat' split) <;> omega) (Nat.lt_succ_self _) ls (lv_sub hl [2, 3, 1, 0] rfl)
      · skip
        refine lv_aload_n hx hb dX5_total_36 rfl (lv_at hl 0 rfl) ?_
        refine xg_933 (v := mu 933 0) hx hb hw5 hown hK hR ((dmM_st (by decide) _ _).mpr (md_5 hG)) (hts _ kw_781) ((st_f (by decide)).trans rfl) dX5_total_37 ?_
        refine lv_goto (tgt := 44) hx hb dX5_total_40 (by decide) ?_
        refine lv_lstore_n (i := 2) (lv' := [(2, .long (lI (mu 933 0))), (0, .ref (ad 5 (0))), (1, .int (iI (w)))]) hx hb dX5_total_44 rfl hl (by decide) rfl (fun ls hl => ?_)
        refine lv_iconst (v := iI (0)) hx hb dX5_total_45 rfl ?_
        refine lv_istore (i := 4) (lv' := [(4, .int (iI (0))), (2, .long (lI (mu 933 0))), (0, .ref (ad 5 (0))), (1, .int (iI (w)))]) hx hb dX5_total_46 hl (by decide) rfl (fun ls hl => ?_)
        have loop48 : ∀ (n : Nat) (i : Int) (acc : Int), 0 ≤ i → i ≤ mu 913 0 → acc = mTot1 mu w (i.toNat) → (mu 913 0 - i).toNat < n → ∀ ls : Array Slot, lv_has ls 5 [(0, .ref (ad 5 (0))), (1, .int (iI (w))), (2, .long (lI (acc))), (4, .int (iI (i)))] → W p l e (rmF 1 23 0 0) s m args below meth c H locs 0 0 (MQ below (Qm (some (.long (lI (mR (totME w) (mTot2 mu w 36))))) (fun H' => RM D cy A ad (st mu 900 0 (totME w)) H') A) args s 0 0 A) (F0 m 48 ls []) := by
          intro n
          induction n with
          | zero =>
            intro i acc hi0 hi1 hacc hn ls hl
            exact absurd hn (Nat.not_lt_zero _)
          | succ n ih =>
            intro i acc hi0 hi1 hacc hn ls hl
            refine lv_iload hx hb dX5_total_48 (lv_at hl 3 rfl) ?_
            refine lv_aload_n hx hb dX5_total_50 rfl (lv_at hl 0 rfl) ?_
            refine xg_913 (v := mu 913 0) hx hb hw5 hown hK hR ((dmM_st (by decide) _ _).mpr (md_5 hG)) (hts _ kw_761) ((st_f (by decide)).trans rfl) dX5_total_51 ?_
            have g54 := mr_913 hG (0)
            refine xr_icmp_ge (tgt := 96) hx hb dX5_total_54 (by decide) (by omega) (by omega) (fun h55 => ?_) (fun h55 => ?_)
            · skip
              refine lv_iconst (v := iI (0)) hx hb dX5_total_96 rfl ?_
              refine lv_istore (i := 4) (lv' := [(4, .int (iI (0))), (0, .ref (ad 5 (0))), (1, .int (iI (w))), (2, .long (lI (acc)))]) hx hb dX5_total_97 hl (by decide) rfl (fun ls hl => ?_)
              have loop99 : ∀ (n : Nat) (i : Int) (acc : Int), 0 ≤ i → i ≤ 36 → acc = mTot2 mu w (i.toNat) → (36 - i).toNat < n → ∀ ls : Array Slot, lv_has ls 5 [(0, .ref (ad 5 (0))), (1, .int (iI (w))), (2, .long (lI (acc))), (4, .int (iI (i)))] → W p l e (rmF 1 23 0 0) s m args below meth c H locs 0 0 (MQ below (Qm (some (.long (lI (mR (totME w) (mTot2 mu w 36))))) (fun H' => RM D cy A ad (st mu 900 0 (totME w)) H') A) args s 0 0 A) (F0 m 99 ls []) := by
                intro n
                induction n with
                | zero =>
                  intro i acc hi0 hi1 hacc hn ls hl
                  exact absurd hn (Nat.not_lt_zero _)
                | succ n ih =>
                  intro i acc hi0 hi1 hacc hn ls hl
                  refine lv_iload hx hb dX5_total_99 (lv_at hl 3 rfl) ?_
                  refine lv_bipush (v := iI (36)) hx hb dX5_total_101 (by decide) ?_
                  refine xr_icmp_ge (tgt := 131) hx hb dX5_total_103 (by decide) (by omega) (by omega) (fun h56 => ?_) (fun h56 => ?_)
                  · skip
                    refine lv_aload_n hx hb dX5_total_131 rfl (lv_at hl 0 rfl) ?_
                    refine xg_900 (v := 1) hx hb hw5 hown hK hR ((dmM_st (by decide) _ _).mpr (md_5 hG)) (hts _ kw_748) (st_s) dX5_total_132 ?_
                    refine xr_if_le (tgt := 142) hx hb dX5_total_135 (by decide) (by decide) (fun h57 => absurd h57 (by decide)) (fun _ => ?_)
                    refine lv_lconst (v := lI (0)) hx hb dX5_total_138 (by decide) ?_
                    refine lv_goto (tgt := 143) hx hb dX5_total_139 (by decide) ?_
                    exact xm_l hx hb hr hlk hS dX5_total_143 (by exact (mR_k (1) (by ((try unfold mDraft at *); (try unfold mTaken at *); unfold totME; (repeat' split) <;> first | rfl | omega)) (by decide)).symm) (by exact cast (congrArg (fun z => RM D cy A ad (st mu 900 0 z) H) (Eq.symm (by ((try unfold mDraft at *); (try unfold mTaken at *); unfold totME; (repeat' split) <;> first | rfl | omega)))) hR)
                  · skip
                    refine lv_lload_n hx hb dX5_total_106 rfl (lv_at hl 2 rfl) ?_
                    refine lv_iload_n hx hb dX5_total_107 rfl (lv_at hl 1 rfl) ?_
                    refine lv_iconst (v := iI (4)) hx hb dX5_total_108 rfl ?_
                    refine xr_icmp_ne (tgt := 122) hx hb dX5_total_109 (by decide) (by omega) (by omega) (fun h58 => ?_) (fun h58 => ?_)
                    · skip
                      refine lv_lconst (v := lI (0)) hx hb dX5_total_122 (by decide) ?_
                      refine xr_ladd hx hb dX5_total_123 ?_
                      refine lv_lstore_n (i := 2) (lv' := [(2, .long (lI (acc + 0))), (0, .ref (ad 5 (0))), (1, .int (iI (w))), (4, .int (iI (i)))]) hx hb dX5_total_124 rfl hl (by decide) rfl (fun ls hl => ?_)
                      refine lv_iinc (v := iI (i + (1))) (lv' := [(4, .int (iI (i + (1)))), (2, .long (lI (acc + 0))), (0, .ref (ad 5 (0))), (1, .int (iI (w)))]) hx hb dX5_total_125 hl (k := 3) rfl (iI_add _ _) (by decide) rfl (fun ls hl => ?_)
                      refine lv_goto (tgt := 99) hx hb dX5_total_128 (by decide) ?_
                      exact ih (i + 1) (acc + 0) (by omega) (by omega) (by rw [mTot2_s hi0, ← hacc]; first | (exfalso; omega) | rw [if_pos (by omega)] | rw [if_neg (by omega)]) (by omega) ls (lv_sub hl [2, 3, 1, 0] rfl)
                    · skip
                      refine lv_aload_n hx hb dX5_total_112 rfl (lv_at hl 0 rfl) ?_
                      refine xg_912 (v := mu 912 0) hx hb hw5 hown hK hR ((dmM_st (by decide) _ _).mpr (md_5 hG)) (hts _ kw_760) ((st_f (by decide)).trans rfl) dX5_total_113 ?_
                      have q59 : mu 912 0 = 0 := mh_912 hG
                      rw [q59, rv_p (Int.le_refl 0)]
                      refine lv_iload hx hb dX5_total_116 (lv_at hl 3 rfl) ?_
                      refine xa_1012 (v := mu 1012 i) hx hb hK hR ((dmM_st (by decide) _ _).mpr (md_32 hG)) (by omega) ((st_f (by decide)).trans rfl) dX5_total_118 ?_
                      have g60 := mr_1012 hG (i)
                      refine lv_goto (tgt := 123) hx hb dX5_total_119 (by decide) ?_
                      refine xr_ladd hx hb dX5_total_123 ?_
                      refine lv_lstore_n (i := 2) (lv' := [(2, .long (lI (acc + (mu 1012 i)))), (0, .ref (ad 5 (0))), (1, .int (iI (w))), (4, .int (iI (i)))]) hx hb dX5_total_124 rfl hl (by decide) rfl (fun ls hl => ?_)
                      refine lv_iinc (v := iI (i + (1))) (lv' := [(4, .int (iI (i + (1)))), (2, .long (lI (acc + (mu 1012 i)))), (0, .ref (ad 5 (0))), (1, .int (iI (w)))]) hx hb dX5_total_125 hl (k := 3) rfl (iI_add _ _) (by decide) rfl (fun ls hl => ?_)
                      refine lv_goto (tgt := 99) hx hb dX5_total_128 (by decide) ?_
                      exact ih (i + 1) (acc + (mu 1012 i)) (by omega) (by omega) (by rw [mTot2_s hi0, ← hacc]; first | (exfalso; omega) | rw [if_pos (by omega)] | rw [if_neg (by omega)]) (by omega) ls (lv_sub hl [2, 3, 1, 0] rfl)
              exact loop99 _ 0 acc (by decide) (by omega) (mTot2_0 (by have e : i = mu 913 0 := (by omega); rw [e] at hacc; exact hacc)) (Nat.lt_succ_self _) ls (lv_sub hl [1, 2, 3, 0] rfl)
            · skip
              refine lv_lload_n hx hb dX5_total_57 rfl (lv_at hl 2 rfl) ?_
              refine lv_iload_n hx hb dX5_total_58 rfl (lv_at hl 1 rfl) ?_
              refine xr_if_ne (tgt := 72) hx hb dX5_total_59 (by decide) (by omega) (fun h61 => ?_) (fun h61 => ?_)
              · skip
                refine lv_iload_n hx hb dX5_total_72 rfl (lv_at hl 1 rfl) ?_
                refine lv_iconst (v := iI (1)) hx hb dX5_total_73 rfl ?_
                refine xr_icmp_ne (tgt := 87) hx hb dX5_total_74 (by decide) (by omega) (by omega) (fun h62 => ?_) (fun h62 => ?_)
                · skip
                  refine lv_lconst (v := lI (0)) hx hb dX5_total_87 (by decide) ?_
                  refine xr_ladd hx hb dX5_total_88 ?_
                  refine lv_lstore_n (i := 2) (lv' := [(2, .long (lI (acc + 0))), (0, .ref (ad 5 (0))), (1, .int (iI (w))), (4, .int (iI (i)))]) hx hb dX5_total_89 rfl hl (by decide) rfl (fun ls hl => ?_)
                  refine lv_iinc (v := iI (i + (1))) (lv' := [(4, .int (iI (i + (1)))), (2, .long (lI (acc + 0))), (0, .ref (ad 5 (0))), (1, .int (iI (w)))]) hx hb dX5_total_90 hl (k := 3) rfl (iI_add _ _) (by decide) rfl (fun ls hl => ?_)
                  refine lv_goto (tgt := 48) hx hb dX5_total_93 (by decide) ?_
                  exact ih (i + 1) (acc + 0) (by omega) (by omega) (by rw [mTot1_s hi0, ← hacc]; first | (exfalso; omega) | rw [if_pos (by omega)] | rw [if_neg (by omega), if_pos (by omega)] | rw [if_neg (by omega), if_neg (by omega)]) (by omega) ls (lv_sub hl [2, 3, 1, 0] rfl)
                · skip
                  refine lv_aload_n hx hb dX5_total_77 rfl (lv_at hl 0 rfl) ?_
                  refine xg_922 (v := mu 922 0) hx hb hw5 hown hK hR ((dmM_st (by decide) _ _).mpr (md_5 hG)) (hts _ kw_770) ((st_f (by decide)).trans rfl) dX5_total_78 ?_
                  have q63 : mu 922 0 = 0 := mh_922 hG
                  rw [q63, rv_p (Int.le_refl 0)]
                  refine lv_iload hx hb dX5_total_81 (lv_at hl 3 rfl) ?_
                  refine xa_1022 (v := mu 1022 i) hx hb hK hR ((dmM_st (by decide) _ _).mpr (md_42 hG)) (by omega) ((st_f (by decide)).trans rfl) dX5_total_83 ?_
                  refine lv_goto (tgt := 88) hx hb dX5_total_84 (by decide) ?_
                  refine xr_ladd hx hb dX5_total_88 ?_
                  refine lv_lstore_n (i := 2) (lv' := [(2, .long (lI (acc + (mu 1022 i)))), (0, .ref (ad 5 (0))), (1, .int (iI (w))), (4, .int (iI (i)))]) hx hb dX5_total_89 rfl hl (by decide) rfl (fun ls hl => ?_)
                  refine lv_iinc (v := iI (i + (1))) (lv' := [(4, .int (iI (i + (1)))), (2, .long (lI (acc + (mu 1022 i)))), (0, .ref (ad 5 (0))), (1, .int (iI (w)))]) hx hb dX5_total_90 hl (k := 3) rfl (iI_add _ _) (by decide) rfl (fun ls hl => ?_)
                  refine lv_goto (tgt := 48) hx hb dX5_total_93 (by decide) ?_
                  exact ih (i + 1) (acc + (mu 1022 i)) (by omega) (by omega) (by rw [mTot1_s hi0, ← hacc]; first | (exfalso; omega) | rw [if_pos (by omega)] | rw [if_neg (by omega), if_pos (by omega)] | rw [if_neg (by omega), if_neg (by omega)]) (by omega) ls (lv_sub hl [2, 3, 1, 0] rfl)
              · skip
                refine lv_aload_n hx hb dX5_total_62 rfl (lv_at hl 0 rfl) ?_
                refine xg_921 (v := mu 921 0) hx hb hw5 hown hK hR ((dmM_st (by decide) _ _).mpr (md_5 hG)) (hts _ kw_769) ((st_f (by decide)).trans rfl) dX5_total_63 ?_
                have q64 : mu 921 0 = 0 := mh_921 hG
                rw [q64, rv_p (Int.le_refl 0)]
                refine lv_iload hx hb dX5_total_66 (lv_at hl 3 rfl) ?_
                refine xa_1021 (v := mu 1021 i) hx hb hK hR ((dmM_st (by decide) _ _).mpr (md_41 hG)) (by omega) ((st_f (by decide)).trans rfl) dX5_total_68 ?_
                have g65 := mr_1021 hG (i)
                refine lv_goto (tgt := 88) hx hb dX5_total_69 (by decide) ?_
                refine xr_ladd hx hb dX5_total_88 ?_
                refine lv_lstore_n (i := 2) (lv' := [(2, .long (lI (acc + (mu 1021 i)))), (0, .ref (ad 5 (0))), (1, .int (iI (w))), (4, .int (iI (i)))]) hx hb dX5_total_89 rfl hl (by decide) rfl (fun ls hl => ?_)
                refine lv_iinc (v := iI (i + (1))) (lv' := [(4, .int (iI (i + (1)))), (2, .long (lI (acc + (mu 1021 i)))), (0, .ref (ad 5 (0))), (1, .int (iI (w)))]) hx hb dX5_total_90 hl (k := 3) rfl (iI_add _ _) (by decide) rfl (fun ls hl => ?_)
                refine lv_goto (tgt := 48) hx hb dX5_total_93 (by decide) ?_
                exact ih (i + 1) (acc + (mu 1021 i)) (by omega) (by omega) (by rw [mTot1_s hi0, ← hacc]; first | (exfalso; omega) | rw [if_pos (by omega)] | rw [if_neg (by omega), if_pos (by omega)] | rw [if_neg (by omega), if_neg (by omega)]) (by omega) ls (lv_sub hl [2, 3, 1, 0] rfl)
        exact loop48 _ 0 (mu 933 0) (by decide) (by omega) (by unfold mTot1; show _ = _ + (0 : Int); (repeat' split) <;> omega) (Nat.lt_succ_self _) ls (lv_sub hl [2, 3, 1, 0] rfl)
    · skip
      refine lv_aload_n hx hb dX5_total_24 rfl (lv_at hl 0 rfl) ?_
      refine xg_932 (v := mu 932 0) hx hb hw5 hown hK hR ((dmM_st (by decide) _ _).mpr (md_5 hG)) (hts _ kw_780) ((st_f (by decide)).trans rfl) dX5_total_25 ?_
      refine lv_goto (tgt := 44) hx hb dX5_total_28 (by decide) ?_
      refine lv_lstore_n (i := 2) (lv' := [(2, .long (lI (mu 932 0))), (0, .ref (ad 5 (0))), (1, .int (iI (w)))]) hx hb dX5_total_44 rfl hl (by decide) rfl (fun ls hl => ?_)
      refine lv_iconst (v := iI (0)) hx hb dX5_total_45 rfl ?_
      refine lv_istore (i := 4) (lv' := [(4, .int (iI (0))), (2, .long (lI (mu 932 0))), (0, .ref (ad 5 (0))), (1, .int (iI (w)))]) hx hb dX5_total_46 hl (by decide) rfl (fun ls hl => ?_)
      have loop48 : ∀ (n : Nat) (i : Int) (acc : Int), 0 ≤ i → i ≤ mu 913 0 → acc = mTot1 mu w (i.toNat) → (mu 913 0 - i).toNat < n → ∀ ls : Array Slot, lv_has ls 5 [(0, .ref (ad 5 (0))), (1, .int (iI (w))), (2, .long (lI (acc))), (4, .int (iI (i)))] → W p l e (rmF 1 23 0 0) s m args below meth c H locs 0 0 (MQ below (Qm (some (.long (lI (mR (totME w) (mTot2 mu w 36))))) (fun H' => RM D cy A ad (st mu 900 0 (totME w)) H') A) args s 0 0 A) (F0 m 48 ls []) := by
        intro n
        induction n with
        | zero =>
          intro i acc hi0 hi1 hacc hn ls hl
          exact absurd hn (Nat.not_lt_zero _)
        | succ n ih =>
          intro i acc hi0 hi1 hacc hn ls hl
          refine lv_iload hx hb dX5_total_48 (lv_at hl 3 rfl) ?_
          refine lv_aload_n hx hb dX5_total_50 rfl (lv_at hl 0 rfl) ?_
          refine xg_913 (v := mu 913 0) hx hb hw5 hown hK hR ((dmM_st (by decide) _ _).mpr (md_5 hG)) (hts _ kw_761) ((st_f (by decide)).trans rfl) dX5_total_51 ?_
          have g66 := mr_913 hG (0)
          refine xr_icmp_ge (tgt := 96) hx hb dX5_total_54 (by decide) (by omega) (by omega) (fun h67 => ?_) (fun h67 => ?_)
          · skip
            refine lv_iconst (v := iI (0)) hx hb dX5_total_96 rfl ?_
            refine lv_istore (i := 4) (lv' := [(4, .int (iI (0))), (0, .ref (ad 5 (0))), (1, .int (iI (w))), (2, .long (lI (acc)))]) hx hb dX5_total_97 hl (by decide) rfl (fun ls hl => ?_)
            have loop99 : ∀ (n : Nat) (i : Int) (acc : Int), 0 ≤ i → i ≤ 36 → acc = mTot2 mu w (i.toNat) → (36 - i).toNat < n → ∀ ls : Array Slot, lv_has ls 5 [(0, .ref (ad 5 (0))), (1, .int (iI (w))), (2, .long (lI (acc))), (4, .int (iI (i)))] → W p l e (rmF 1 23 0 0) s m args below meth c H locs 0 0 (MQ below (Qm (some (.long (lI (mR (totME w) (mTot2 mu w 36))))) (fun H' => RM D cy A ad (st mu 900 0 (totME w)) H') A) args s 0 0 A) (F0 m 99 ls []) := by
              intro n
              induction n with
              | zero =>
                intro i acc hi0 hi1 hacc hn ls hl
                exact absurd hn (Nat.not_lt_zero _)
              | succ n ih =>
                intro i acc hi0 hi1 hacc hn ls hl
                refine lv_iload hx hb dX5_total_99 (lv_at hl 3 rfl) ?_
                refine lv_bipush (v := iI (36)) hx hb dX5_total_101 (by decide) ?_
                refine xr_icmp_ge (tgt := 131) hx hb dX5_total_103 (by decide) (by omega) (by omega) (fun h68 => ?_) (fun h68 => ?_)
                · skip
                  refine lv_aload_n hx hb dX5_total_131 rfl (lv_at hl 0 rfl) ?_
                  refine xg_900 (v := 1) hx hb hw5 hown hK hR ((dmM_st (by decide) _ _).mpr (md_5 hG)) (hts _ kw_748) (st_s) dX5_total_132 ?_
                  refine xr_if_le (tgt := 142) hx hb dX5_total_135 (by decide) (by decide) (fun h69 => absurd h69 (by decide)) (fun _ => ?_)
                  refine lv_lconst (v := lI (0)) hx hb dX5_total_138 (by decide) ?_
                  refine lv_goto (tgt := 143) hx hb dX5_total_139 (by decide) ?_
                  exact xm_l hx hb hr hlk hS dX5_total_143 (by exact (mR_k (1) (by ((try unfold mDraft at *); (try unfold mTaken at *); unfold totME; (repeat' split) <;> first | rfl | omega)) (by decide)).symm) (by exact cast (congrArg (fun z => RM D cy A ad (st mu 900 0 z) H) (Eq.symm (by ((try unfold mDraft at *); (try unfold mTaken at *); unfold totME; (repeat' split) <;> first | rfl | omega)))) hR)
                · skip
                  refine lv_lload_n hx hb dX5_total_106 rfl (lv_at hl 2 rfl) ?_
                  refine lv_iload_n hx hb dX5_total_107 rfl (lv_at hl 1 rfl) ?_
                  refine lv_iconst (v := iI (4)) hx hb dX5_total_108 rfl ?_
                  refine xr_icmp_ne (tgt := 122) hx hb dX5_total_109 (by decide) (by omega) (by omega) (fun h70 => ?_) (fun h70 => ?_)
                  · skip
                    refine lv_lconst (v := lI (0)) hx hb dX5_total_122 (by decide) ?_
                    refine xr_ladd hx hb dX5_total_123 ?_
                    refine lv_lstore_n (i := 2) (lv' := [(2, .long (lI (acc + 0))), (0, .ref (ad 5 (0))), (1, .int (iI (w))), (4, .int (iI (i)))]) hx hb dX5_total_124 rfl hl (by decide) rfl (fun ls hl => ?_)
                    refine lv_iinc (v := iI (i + (1))) (lv' := [(4, .int (iI (i + (1)))), (2, .long (lI (acc + 0))), (0, .ref (ad 5 (0))), (1, .int (iI (w)))]) hx hb dX5_total_125 hl (k := 3) rfl (iI_add _ _) (by decide) rfl (fun ls hl => ?_)
                    refine lv_goto (tgt := 99) hx hb dX5_total_128 (by decide) ?_
                    exact ih (i + 1) (acc + 0) (by omega) (by omega) (by rw [mTot2_s hi0, ← hacc]; first | (exfalso; omega) | rw [if_pos (by omega)] | rw [if_neg (by omega)]) (by omega) ls (lv_sub hl [2, 3, 1, 0] rfl)
                  · skip
                    refine lv_aload_n hx hb dX5_total_112 rfl (lv_at hl 0 rfl) ?_
                    refine xg_912 (v := mu 912 0) hx hb hw5 hown hK hR ((dmM_st (by decide) _ _).mpr (md_5 hG)) (hts _ kw_760) ((st_f (by decide)).trans rfl) dX5_total_113 ?_
                    have q71 : mu 912 0 = 0 := mh_912 hG
                    rw [q71, rv_p (Int.le_refl 0)]
                    refine lv_iload hx hb dX5_total_116 (lv_at hl 3 rfl) ?_
                    refine xa_1012 (v := mu 1012 i) hx hb hK hR ((dmM_st (by decide) _ _).mpr (md_32 hG)) (by omega) ((st_f (by decide)).trans rfl) dX5_total_118 ?_
                    have g72 := mr_1012 hG (i)
                    refine lv_goto (tgt := 123) hx hb dX5_total_119 (by decide) ?_
                    refine xr_ladd hx hb dX5_total_123 ?_
                    refine lv_lstore_n (i := 2) (lv' := [(2, .long (lI (acc + (mu 1012 i)))), (0, .ref (ad 5 (0))), (1, .int (iI (w))), (4, .int (iI (i)))]) hx hb dX5_total_124 rfl hl (by decide) rfl (fun ls hl => ?_)
                    refine lv_iinc (v := iI (i + (1))) (lv' := [(4, .int (iI (i + (1)))), (2, .long (lI (acc + (mu 1012 i)))), (0, .ref (ad 5 (0))), (1, .int (iI (w)))]) hx hb dX5_total_125 hl (k := 3) rfl (iI_add _ _) (by decide) rfl (fun ls hl => ?_)
                    refine lv_goto (tgt := 99) hx hb dX5_total_128 (by decide) ?_
                    exact ih (i + 1) (acc + (mu 1012 i)) (by omega) (by omega) (by rw [mTot2_s hi0, ← hacc]; first | (exfalso; omega) | rw [if_pos (by omega)] | rw [if_neg (by omega)]) (by omega) ls (lv_sub hl [2, 3, 1, 0] rfl)
            exact loop99 _ 0 acc (by decide) (by omega) (mTot2_0 (by have e : i = mu 913 0 := (by omega); rw [e] at hacc; exact hacc)) (Nat.lt_succ_self _) ls (lv_sub hl [1, 2, 3, 0] rfl)
          · skip
            refine lv_lload_n hx hb dX5_total_57 rfl (lv_at hl 2 rfl) ?_
            refine lv_iload_n hx hb dX5_total_58 rfl (lv_at hl 1 rfl) ?_
            refine xr_if_ne (tgt := 72) hx hb dX5_total_59 (by decide) (by omega) (fun h73 => ?_) (fun h73 => ?_)
            · skip
              refine lv_iload_n hx hb dX5_total_72 rfl (lv_at hl 1 rfl) ?_
              refine lv_iconst (v := iI (1)) hx hb dX5_total_73 rfl ?_
              refine xr_icmp_ne (tgt := 87) hx hb dX5_total_74 (by decide) (by omega) (by omega) (fun h74 => ?_) (fun h74 => ?_)
              · skip
                refine lv_lconst (v := lI (0)) hx hb dX5_total_87 (by decide) ?_
                refine xr_ladd hx hb dX5_total_88 ?_
                refine lv_lstore_n (i := 2) (lv' := [(2, .long (lI (acc + 0))), (0, .ref (ad 5 (0))), (1, .int (iI (w))), (4, .int (iI (i)))]) hx hb dX5_total_89 rfl hl (by decide) rfl (fun ls hl => ?_)
                refine lv_iinc (v := iI (i + (1))) (lv' := [(4, .int (iI (i + (1)))), (2, .long (lI (acc + 0))), (0, .ref (ad 5 (0))), (1, .int (iI (w)))]) hx hb dX5_total_90 hl (k := 3) rfl (iI_add _ _) (by decide) rfl (fun ls hl => ?_)
                refine lv_goto (tgt := 48) hx hb dX5_total_93 (by decide) ?_
                exact ih (i + 1) (acc + 0) (by omega) (by omega) (by rw [mTot1_s hi0, ← hacc]; first | (exfalso; omega) | rw [if_pos (by omega)] | rw [if_neg (by omega), if_pos (by omega)] | rw [if_neg (by omega), if_neg (by omega)]) (by omega) ls (lv_sub hl [2, 3, 1, 0] rfl)
              · skip
                refine lv_aload_n hx hb dX5_total_77 rfl (lv_at hl 0 rfl) ?_
                refine xg_922 (v := mu 922 0) hx hb hw5 hown hK hR ((dmM_st (by decide) _ _).mpr (md_5 hG)) (hts _ kw_770) ((st_f (by decide)).trans rfl) dX5_total_78 ?_
                have q75 : mu 922 0 = 0 := mh_922 hG
                rw [q75, rv_p (Int.le_refl 0)]
                refine lv_iload hx hb dX5_total_81 (lv_at hl 3 rfl) ?_
                refine xa_1022 (v := mu 1022 i) hx hb hK hR ((dmM_st (by decide) _ _).mpr (md_42 hG)) (by omega) ((st_f (by decide)).trans rfl) dX5_total_83 ?_
                refine lv_goto (tgt := 88) hx hb dX5_total_84 (by decide) ?_
                refine xr_ladd hx hb dX5_total_88 ?_
                refine lv_lstore_n (i := 2) (lv' := [(2, .long (lI (acc + (mu 1022 i)))), (0, .ref (ad 5 (0))), (1, .int (iI (w))), (4, .int (iI (i)))]) hx hb dX5_total_89 rfl hl (by decide) rfl (fun ls hl => ?_)
                refine lv_iinc (v := iI (i + (1))) (lv' := [(4, .int (iI (i + (1)))), (2, .long (lI (acc + (mu 1022 i)))), (0, .ref (ad 5 (0))), (1, .int (iI (w)))]) hx hb dX5_total_90 hl (k := 3) rfl (iI_add _ _) (by decide) rfl (fun ls hl => ?_)
                refine lv_goto (tgt := 48) hx hb dX5_total_93 (by decide) ?_
                exact ih (i + 1) (acc + (mu 1022 i)) (by omega) (by omega) (by rw [mTot1_s hi0, ← hacc]; first | (exfalso; omega) | rw [if_pos (by omega)] | rw [if_neg (by omega), if_pos (by omega)] | rw [if_neg (by omega), if_neg (by omega)]) (by omega) ls (lv_sub hl [2, 3, 1, 0] rfl)
            · skip
              refine lv_aload_n hx hb dX5_total_62 rfl (lv_at hl 0 rfl) ?_
              refine xg_921 (v := mu 921 0) hx hb hw5 hown hK hR ((dmM_st (by decide) _ _).mpr (md_5 hG)) (hts _ kw_769) ((st_f (by decide)).trans rfl) dX5_total_63 ?_
              have q76 : mu 921 0 = 0 := mh_921 hG
              rw [q76, rv_p (Int.le_refl 0)]
              refine lv_iload hx hb dX5_total_66 (lv_at hl 3 rfl) ?_
              refine xa_1021 (v := mu 1021 i) hx hb hK hR ((dmM_st (by decide) _ _).mpr (md_41 hG)) (by omega) ((st_f (by decide)).trans rfl) dX5_total_68 ?_
              have g77 := mr_1021 hG (i)
              refine lv_goto (tgt := 88) hx hb dX5_total_69 (by decide) ?_
              refine xr_ladd hx hb dX5_total_88 ?_
              refine lv_lstore_n (i := 2) (lv' := [(2, .long (lI (acc + (mu 1021 i)))), (0, .ref (ad 5 (0))), (1, .int (iI (w))), (4, .int (iI (i)))]) hx hb dX5_total_89 rfl hl (by decide) rfl (fun ls hl => ?_)
              refine lv_iinc (v := iI (i + (1))) (lv' := [(4, .int (iI (i + (1)))), (2, .long (lI (acc + (mu 1021 i)))), (0, .ref (ad 5 (0))), (1, .int (iI (w)))]) hx hb dX5_total_90 hl (k := 3) rfl (iI_add _ _) (by decide) rfl (fun ls hl => ?_)
              refine lv_goto (tgt := 48) hx hb dX5_total_93 (by decide) ?_
              exact ih (i + 1) (acc + (mu 1021 i)) (by omega) (by omega) (by rw [mTot1_s hi0, ← hacc]; first | (exfalso; omega) | rw [if_pos (by omega)] | rw [if_neg (by omega), if_pos (by omega)] | rw [if_neg (by omega), if_neg (by omega)]) (by omega) ls (lv_sub hl [2, 3, 1, 0] rfl)
      exact loop48 _ 0 (mu 932 0) (by decide) (by omega) (by unfold mTot1; show _ = _ + (0 : Int); (repeat' split) <;> omega) (Nat.lt_succ_self _) ls (lv_sub hl [2, 3, 1, 0] rfl)
theorem ms_X5_creditors : MVi RX5 yX5_creditors cX5_creditors 4 (some .int) 1 := ⟨kw_1078, kw_1076, kw_1077, kw_4, rfl, by decide, by decide, by decide +kernel⟩
set_option maxRecDepth 100000 in
set_option maxHeartbeats 4000000 in
theorem c_X5_creditors {l : Launch} {D : va_G} {cy : Nat → ClassId} {A : Nat → Prop} {ad : Nat → Int → Nat} {mu : Nat → Int → Int} {H : Heap} (hR : RM D cy A ad mu H) (hG : GM mu)  (u : Int) (h_u : in32 u) : Met l yX5_creditors (Cond.code yX5_creditors cX5_creditors 4 (some .int) :: wG) (rmF 2 50 0 0) (Pc D cy H [.ref (ad 5 (0)), .int (iI (u))]) (Qm (some (.int (iI (mR (credME u) (mCred mu u))))) (fun H' => RM D cy A ad (st mu 900 0 (credME u)) H') A) 0 0 A := by
  refine met_of (la := [(0, .ref (ad 5 (0))), (1, .int (iI (u)))]) (by decide) (Nat.le_of_ble_eq_true rfl) rfl ?_
  intro p e R s m args below meth c ls hRm hx hb hml hr hlk hin hown hts hsH hK hl
  subst hRm
  have hown : s.vm.findClass "TakinghallModel" = some m.cls := hown
  have hw5 : ∀ w ∈ u_ws RX5 TX5 35, w.before args s = true := fun w h => hts w (uw_X5 w h)
  have hS : va_S A s.heap H [] := by rw [hsH]; exact va_S.rf
  have g913 := mr_913 hG 0
  refine lv_aload_n hx hb dX5_creditors_0 rfl (lv_at hl 0 rfl) ?_
  refine lv_aload_n hx hb dX5_creditors_1 rfl (lv_at hl 0 rfl) ?_
  refine lv_iload_n hx hb dX5_creditors_2 rfl (lv_at hl 1 rfl) ?_
  refine lv_iconst (v := iI (0)) hx hb dX5_creditors_3 rfl ?_
  refine lv_bipush (v := iI (9)) hx hb dX5_creditors_4 (by decide) ?_
  refine xk_pF (xr_V (As := [.int (iI (u)), .int (iI (0)), .int (iI (9))]) (rest := [.ref (ad 5 (0))]) hx hb hml hown hts hK (c_X5_between hR hG u 0 9 (by omega) (by omega) (by omega)) ms_X5_between kw_869 (wr_recv hK hR (md_5 hG) rfl rfl) ⟨by decide, by decide⟩ ⟨by decide, by decide⟩ rfl rfl hl.1 rfl (lv_room (Nat.le_of_ble_eq_true rfl)) dX5_creditors_6) ?_
  refine xr_ifb_ne (tgt := 16) hx hb dX5_creditors_9 (by decide) (fun h1 => ?_) (fun h1 => ?_)
  · skip
    refine lv_iconst (v := iI (0)) hx hb dX5_creditors_16 rfl ?_
    refine xp_900 (v := 0) hx hb hw5 hown hK hR hS (md_5 hG) (hts _ kw_748) dX5_creditors_17 (fun H locs hR hS => ?_)
    refine lv_iconst (v := iI (0)) hx hb dX5_creditors_20 rfl ?_
    refine lv_istore_n (i := 2) (lv' := [(2, .int (iI (0))), (0, .ref (ad 5 (0))), (1, .int (iI (u)))]) hx hb dX5_creditors_21 rfl hl (by decide) rfl (fun ls hl => ?_)
    refine lv_iconst (v := iI (0)) hx hb dX5_creditors_22 rfl ?_
    refine lv_istore_n (i := 3) (lv' := [(3, .int (iI (0))), (2, .int (iI (0))), (0, .ref (ad 5 (0))), (1, .int (iI (u)))]) hx hb dX5_creditors_23 rfl hl (by decide) rfl (fun ls hl => ?_)
    have loop24 : ∀ (n : Nat) (i : Int) (acc : Int), 0 ≤ i → i ≤ mu 913 0 → acc = sumN (fun q => bI (mu 1016 q = u ∧ 0 < mOwed mu q)) i.toNat → (mu 913 0 - i).toNat < n → ∀ ls : Array Slot, lv_has ls 4 [(0, .ref (ad 5 (0))), (1, .int (iI (u))), (2, .int (iI (acc))), (3, .int (iI (i)))] → W p l e (rmF 2 50 0 0) s m args below meth c H locs 0 0 (MQ below (Qm (some (.int (iI (mR (credME u) (mCred mu u))))) (fun H' => RM D cy A ad (st mu 900 0 (credME u)) H') A) args s 0 0 A) (F0 m 24 ls []) := by
      intro n
      induction n with
      | zero =>
        intro i acc hi0 hi1 hacc hn ls hl
        exact absurd hn (Nat.not_lt_zero _)
      | succ n ih =>
        intro i acc hi0 hi1 hacc hn ls hl
        refine lv_iload_n hx hb dX5_creditors_24 rfl (lv_at hl 3 rfl) ?_
        refine lv_aload_n hx hb dX5_creditors_25 rfl (lv_at hl 0 rfl) ?_
        refine xg_913 (v := mu 913 0) hx hb hw5 hown hK hR ((dmM_st (by decide) _ _).mpr (md_5 hG)) (hts _ kw_761) ((st_f (by decide)).trans rfl) dX5_creditors_26 ?_
        have g2 := mr_913 hG (0)
        refine xr_icmp_ge (tgt := 66) hx hb dX5_creditors_29 (by decide) (by omega) (by omega) (fun h3 => ?_) (fun h3 => ?_)
        · skip
          refine lv_aload_n hx hb dX5_creditors_66 rfl (lv_at hl 0 rfl) ?_
          refine xg_900 (v := 0) hx hb hw5 hown hK hR ((dmM_st (by decide) _ _).mpr (md_5 hG)) (hts _ kw_748) (st_s) dX5_creditors_67 ?_
          refine xr_if_le (tgt := 77) hx hb dX5_creditors_70 (by decide) (by decide) (fun _ => ?_) (fun h4 => absurd h4 (by decide))
          refine lv_iload_n hx hb dX5_creditors_77 rfl (lv_at hl 2 rfl) ?_
          exact xm_i hx hb hr hlk hS dX5_creditors_78 (by refine Eq.trans ?_ (mR_0 (by ((try unfold mDraft at *); (try unfold mTaken at *); unfold credME; (repeat' split) <;> first | rfl | omega))).symm; have e : i = mu 913 0 := (by omega); rw [e] at hacc; exact hacc) (by exact cast (congrArg (fun z => RM D cy A ad (st mu 900 0 z) H) (Eq.symm (by ((try unfold mDraft at *); (try unfold mTaken at *); unfold credME; (repeat' split) <;> first | rfl | omega)))) hR)
        · skip
          refine lv_iload_n hx hb dX5_creditors_32 rfl (lv_at hl 2 rfl) ?_
          refine lv_aload_n hx hb dX5_creditors_33 rfl (lv_at hl 0 rfl) ?_
          refine xg_916 (v := mu 916 0) hx hb hw5 hown hK hR ((dmM_st (by decide) _ _).mpr (md_5 hG)) (hts _ kw_764) ((st_f (by decide)).trans rfl) dX5_creditors_34 ?_
          have q5 : mu 916 0 = 0 := mh_916 hG
          rw [q5, rv_p (Int.le_refl 0)]
          refine lv_iload_n hx hb dX5_creditors_37 rfl (lv_at hl 3 rfl) ?_
          refine xa_1016 (v := mu 1016 i) hx hb hK hR ((dmM_st (by decide) _ _).mpr (md_36 hG)) (by omega) ((st_f (by decide)).trans rfl) dX5_creditors_38 ?_
          have g6 := mr_1016 hG (i)
          refine lv_iload_n hx hb dX5_creditors_39 rfl (lv_at hl 1 rfl) ?_
          refine xr_icmp_ne (tgt := 57) hx hb dX5_creditors_40 (by decide) (by omega) (by omega) (fun h7 => ?_) (fun h7 => ?_)
          · skip
            refine lv_iconst (v := iI (0)) hx hb dX5_creditors_57 rfl ?_
            refine xr_iadd hx hb dX5_creditors_58 ?_
            refine lv_istore_n (i := 2) (lv' := [(2, .int (iI (acc + 0))), (0, .ref (ad 5 (0))), (1, .int (iI (u))), (3, .int (iI (i)))]) hx hb dX5_creditors_59 rfl hl (by decide) rfl (fun ls hl => ?_)
            refine lv_iinc (v := iI (i + (1))) (lv' := [(3, .int (iI (i + (1)))), (2, .int (iI (acc + 0))), (0, .ref (ad 5 (0))), (1, .int (iI (u)))]) hx hb dX5_creditors_60 hl (k := 3) rfl (iI_add _ _) (by decide) rfl (fun ls hl => ?_)
            refine lv_goto (tgt := 24) hx hb dX5_creditors_63 (by decide) ?_
            exact ih (i + 1) (acc + 0) (by omega) (by omega) (sum_t hi0 hacc (by first | exact (bI_t (by omega)).symm | exact bI_f (by omega) | exact (bI_f (by omega)).symm)) (by omega) ls (lv_sub hl [2, 3, 1, 0] rfl)
          · skip
            refine lv_aload_n hx hb dX5_creditors_43 rfl (lv_at hl 0 rfl) ?_
            refine lv_iload_n hx hb dX5_creditors_44 rfl (lv_at hl 3 rfl) ?_
            refine xk_pF (xr_V (As := [.int (iI (i))]) (rest := [.int (iI (acc))]) hx hb hml hown hts hK (c_X5_owedTo hR (gc_900 hG (0) (v := 0) (by omega)) i (by omega)) ms_X5_owedTo kw_1036 (wr_recv hK hR ((dmM_st (by decide) _ _).mpr (md_5 hG)) rfl rfl) ⟨by decide, by decide⟩ ⟨by decide, by decide⟩ rfl rfl hl.1 rfl (lv_room (Nat.le_of_ble_eq_true rfl)) dX5_creditors_45) ?_
            rw [show (mOwed (st mu 900 (0) (0)) i) = (mOwed mu i) from by first | rfl | (simp only [mSum_9, mOwnB_9, mShare_9, mLeft_9s]; done)]
            have g8 := mOwed_rng hG (i)
            refine lv_lconst (v := lI (0)) hx hb dX5_creditors_48 (by decide) ?_
            refine xr_lcmp hx hb dX5_creditors_49 (by omega) (by omega) (fun y9 h10 => ?_)
            refine xr_if_le (tgt := 57) hx hb dX5_creditors_50 (by decide) (by omega) (fun h11 => ?_) (fun h11 => ?_)
            · skip
              refine lv_iconst (v := iI (0)) hx hb dX5_creditors_57 rfl ?_
              refine xr_iadd hx hb dX5_creditors_58 ?_
              refine lv_istore_n (i := 2) (lv' := [(2, .int (iI (acc + 0))), (0, .ref (ad 5 (0))), (1, .int (iI (u))), (3, .int (iI (i)))]) hx hb dX5_creditors_59 rfl hl (by decide) rfl (fun ls hl => ?_)
              refine lv_iinc (v := iI (i + (1))) (lv' := [(3, .int (iI (i + (1)))), (2, .int (iI (acc + 0))), (0, .ref (ad 5 (0))), (1, .int (iI (u)))]) hx hb dX5_creditors_60 hl (k := 3) rfl (iI_add _ _) (by decide) rfl (fun ls hl => ?_)
              refine lv_goto (tgt := 24) hx hb dX5_creditors_63 (by decide) ?_
              exact ih (i + 1) (acc + 0) (by omega) (by omega) (sum_t hi0 hacc (by first | exact (bI_t (by omega)).symm | exact bI_f (by omega) | exact (bI_f (by omega)).symm)) (by omega) ls (lv_sub hl [2, 3, 1, 0] rfl)
            · skip
              refine lv_iconst (v := iI (1)) hx hb dX5_creditors_53 rfl ?_
              refine lv_goto (tgt := 58) hx hb dX5_creditors_54 (by decide) ?_
              refine xr_iadd hx hb dX5_creditors_58 ?_
              refine lv_istore_n (i := 2) (lv' := [(2, .int (iI (acc + 1))), (0, .ref (ad 5 (0))), (1, .int (iI (u))), (3, .int (iI (i)))]) hx hb dX5_creditors_59 rfl hl (by decide) rfl (fun ls hl => ?_)
              refine lv_iinc (v := iI (i + (1))) (lv' := [(3, .int (iI (i + (1)))), (2, .int (iI (acc + 1))), (0, .ref (ad 5 (0))), (1, .int (iI (u)))]) hx hb dX5_creditors_60 hl (k := 3) rfl (iI_add _ _) (by decide) rfl (fun ls hl => ?_)
              refine lv_goto (tgt := 24) hx hb dX5_creditors_63 (by decide) ?_
              exact ih (i + 1) (acc + 1) (by omega) (by omega) (sum_t hi0 hacc (by first | exact (bI_t (by omega)).symm | exact bI_f (by omega) | exact (bI_f (by omega)).symm)) (by omega) ls (lv_sub hl [2, 3, 1, 0] rfl)
    exact loop24 _ 0 0 (by decide) (by omega) rfl (Nat.lt_succ_self _) ls (lv_sub hl [2, 3, 1, 0] rfl)
  · skip
    refine lv_iconst (v := iI (1)) hx hb dX5_creditors_12 rfl ?_
    refine lv_goto (tgt := 17) hx hb dX5_creditors_13 (by decide) ?_
    refine xp_900 (v := 1) hx hb hw5 hown hK hR hS (md_5 hG) (hts _ kw_748) dX5_creditors_17 (fun H locs hR hS => ?_)
    refine lv_iconst (v := iI (0)) hx hb dX5_creditors_20 rfl ?_
    refine lv_istore_n (i := 2) (lv' := [(2, .int (iI (0))), (0, .ref (ad 5 (0))), (1, .int (iI (u)))]) hx hb dX5_creditors_21 rfl hl (by decide) rfl (fun ls hl => ?_)
    refine lv_iconst (v := iI (0)) hx hb dX5_creditors_22 rfl ?_
    refine lv_istore_n (i := 3) (lv' := [(3, .int (iI (0))), (2, .int (iI (0))), (0, .ref (ad 5 (0))), (1, .int (iI (u)))]) hx hb dX5_creditors_23 rfl hl (by decide) rfl (fun ls hl => ?_)
    have loop24 : ∀ (n : Nat) (i : Int) (acc : Int), 0 ≤ i → i ≤ mu 913 0 → acc = sumN (fun q => bI (mu 1016 q = u ∧ 0 < mOwed mu q)) i.toNat → (mu 913 0 - i).toNat < n → ∀ ls : Array Slot, lv_has ls 4 [(0, .ref (ad 5 (0))), (1, .int (iI (u))), (2, .int (iI (acc))), (3, .int (iI (i)))] → W p l e (rmF 2 50 0 0) s m args below meth c H locs 0 0 (MQ below (Qm (some (.int (iI (mR (credME u) (mCred mu u))))) (fun H' => RM D cy A ad (st mu 900 0 (credME u)) H') A) args s 0 0 A) (F0 m 24 ls []) := by
      intro n
      induction n with
      | zero =>
        intro i acc hi0 hi1 hacc hn ls hl
        exact absurd hn (Nat.not_lt_zero _)
      | succ n ih =>
        intro i acc hi0 hi1 hacc hn ls hl
        refine lv_iload_n hx hb dX5_creditors_24 rfl (lv_at hl 3 rfl) ?_
        refine lv_aload_n hx hb dX5_creditors_25 rfl (lv_at hl 0 rfl) ?_
        refine xg_913 (v := mu 913 0) hx hb hw5 hown hK hR ((dmM_st (by decide) _ _).mpr (md_5 hG)) (hts _ kw_761) ((st_f (by decide)).trans rfl) dX5_creditors_26 ?_
        have g12 := mr_913 hG (0)
        refine xr_icmp_ge (tgt := 66) hx hb dX5_creditors_29 (by decide) (by omega) (by omega) (fun h13 => ?_) (fun h13 => ?_)
        · skip
          refine lv_aload_n hx hb dX5_creditors_66 rfl (lv_at hl 0 rfl) ?_
          refine xg_900 (v := 1) hx hb hw5 hown hK hR ((dmM_st (by decide) _ _).mpr (md_5 hG)) (hts _ kw_748) (st_s) dX5_creditors_67 ?_
          refine xr_if_le (tgt := 77) hx hb dX5_creditors_70 (by decide) (by decide) (fun h14 => absurd h14 (by decide)) (fun _ => ?_)
          refine lv_iconst (v := iI (0)) hx hb dX5_creditors_73 rfl ?_
          refine lv_goto (tgt := 78) hx hb dX5_creditors_74 (by decide) ?_
          exact xm_i hx hb hr hlk hS dX5_creditors_78 (by exact (mR_k (1) (by ((try unfold mDraft at *); (try unfold mTaken at *); unfold credME; (repeat' split) <;> first | rfl | omega)) (by decide)).symm) (by exact cast (congrArg (fun z => RM D cy A ad (st mu 900 0 z) H) (Eq.symm (by ((try unfold mDraft at *); (try unfold mTaken at *); unfold credME; (repeat' split) <;> first | rfl | omega)))) hR)
        · skip
          refine lv_iload_n hx hb dX5_creditors_32 rfl (lv_at hl 2 rfl) ?_
          refine lv_aload_n hx hb dX5_creditors_33 rfl (lv_at hl 0 rfl) ?_
          refine xg_916 (v := mu 916 0) hx hb hw5 hown hK hR ((dmM_st (by decide) _ _).mpr (md_5 hG)) (hts _ kw_764) ((st_f (by decide)).trans rfl) dX5_creditors_34 ?_
          have q15 : mu 916 0 = 0 := mh_916 hG
          rw [q15, rv_p (Int.le_refl 0)]
          refine lv_iload_n hx hb dX5_creditors_37 rfl (lv_at hl 3 rfl) ?_
          refine xa_1016 (v := mu 1016 i) hx hb hK hR ((dmM_st (by decide) _ _).mpr (md_36 hG)) (by omega) ((st_f (by decide)).trans rfl) dX5_creditors_38 ?_
          have g16 := mr_1016 hG (i)
          refine lv_iload_n hx hb dX5_creditors_39 rfl (lv_at hl 1 rfl) ?_
          refine xr_icmp_ne (tgt := 57) hx hb dX5_creditors_40 (by decide) (by omega) (by omega) (fun h17 => ?_) (fun h17 => ?_)
          · skip
            refine lv_iconst (v := iI (0)) hx hb dX5_creditors_57 rfl ?_
            refine xr_iadd hx hb dX5_creditors_58 ?_
            refine lv_istore_n (i := 2) (lv' := [(2, .int (iI (acc + 0))), (0, .ref (ad 5 (0))), (1, .int (iI (u))), (3, .int (iI (i)))]) hx hb dX5_creditors_59 rfl hl (by decide) rfl (fun ls hl => ?_)
            refine lv_iinc (v := iI (i + (1))) (lv' := [(3, .int (iI (i + (1)))), (2, .int (iI (acc + 0))), (0, .ref (ad 5 (0))), (1, .int (iI (u)))]) hx hb dX5_creditors_60 hl (k := 3) rfl (iI_add _ _) (by decide) rfl (fun ls hl => ?_)
            refine lv_goto (tgt := 24) hx hb dX5_creditors_63 (by decide) ?_
            exact ih (i + 1) (acc + 0) (by omega) (by omega) (sum_t hi0 hacc (by first | exact (bI_t (by omega)).symm | exact bI_f (by omega) | exact (bI_f (by omega)).symm)) (by omega) ls (lv_sub hl [2, 3, 1, 0] rfl)
          · skip
            refine lv_aload_n hx hb dX5_creditors_43 rfl (lv_at hl 0 rfl) ?_
            refine lv_iload_n hx hb dX5_creditors_44 rfl (lv_at hl 3 rfl) ?_
            refine xk_pF (xr_V (As := [.int (iI (i))]) (rest := [.int (iI (acc))]) hx hb hml hown hts hK (c_X5_owedTo hR (gc_900 hG (0) (v := 1) (by omega)) i (by omega)) ms_X5_owedTo kw_1036 (wr_recv hK hR ((dmM_st (by decide) _ _).mpr (md_5 hG)) rfl rfl) ⟨by decide, by decide⟩ ⟨by decide, by decide⟩ rfl rfl hl.1 rfl (lv_room (Nat.le_of_ble_eq_true rfl)) dX5_creditors_45) ?_
            rw [show (mOwed (st mu 900 (0) (1)) i) = (mOwed mu i) from by first | rfl | (simp only [mSum_9, mOwnB_9, mShare_9, mLeft_9s]; done)]
            have g18 := mOwed_rng hG (i)
            refine lv_lconst (v := lI (0)) hx hb dX5_creditors_48 (by decide) ?_
            refine xr_lcmp hx hb dX5_creditors_49 (by omega) (by omega) (fun y19 h20 => ?_)
            refine xr_if_le (tgt := 57) hx hb dX5_creditors_50 (by decide) (by omega) (fun h21 => ?_) (fun h21 => ?_)
            · skip
              refine lv_iconst (v := iI (0)) hx hb dX5_creditors_57 rfl ?_
              refine xr_iadd hx hb dX5_creditors_58 ?_
              refine lv_istore_n (i := 2) (lv' := [(2, .int (iI (acc + 0))), (0, .ref (ad 5 (0))), (1, .int (iI (u))), (3, .int (iI (i)))]) hx hb dX5_creditors_59 rfl hl (by decide) rfl (fun ls hl => ?_)
              refine lv_iinc (v := iI (i + (1))) (lv' := [(3, .int (iI (i + (1)))), (2, .int (iI (acc + 0))), (0, .ref (ad 5 (0))), (1, .int (iI (u)))]) hx hb dX5_creditors_60 hl (k := 3) rfl (iI_add _ _) (by decide) rfl (fun ls hl => ?_)
              refine lv_goto (tgt := 24) hx hb dX5_creditors_63 (by decide) ?_
              exact ih (i + 1) (acc + 0) (by omega) (by omega) (sum_t hi0 hacc (by first | exact (bI_t (by omega)).symm | exact bI_f (by omega) | exact (bI_f (by omega)).symm)) (by omega) ls (lv_sub hl [2, 3, 1, 0] rfl)
            · skip
              refine lv_iconst (v := iI (1)) hx hb dX5_creditors_53 rfl ?_
              refine lv_goto (tgt := 58) hx hb dX5_creditors_54 (by decide) ?_
              refine xr_iadd hx hb dX5_creditors_58 ?_
              refine lv_istore_n (i := 2) (lv' := [(2, .int (iI (acc + 1))), (0, .ref (ad 5 (0))), (1, .int (iI (u))), (3, .int (iI (i)))]) hx hb dX5_creditors_59 rfl hl (by decide) rfl (fun ls hl => ?_)
              refine lv_iinc (v := iI (i + (1))) (lv' := [(3, .int (iI (i + (1)))), (2, .int (iI (acc + 1))), (0, .ref (ad 5 (0))), (1, .int (iI (u)))]) hx hb dX5_creditors_60 hl (k := 3) rfl (iI_add _ _) (by decide) rfl (fun ls hl => ?_)
              refine lv_goto (tgt := 24) hx hb dX5_creditors_63 (by decide) ?_
              exact ih (i + 1) (acc + 1) (by omega) (by omega) (sum_t hi0 hacc (by first | exact (bI_t (by omega)).symm | exact bI_f (by omega) | exact (bI_f (by omega)).symm)) (by omega) ls (lv_sub hl [2, 3, 1, 0] rfl)
    exact loop24 _ 0 0 (by decide) (by omega) rfl (Nat.lt_succ_self _) ls (lv_sub hl [2, 3, 1, 0] rfl)
