theorem ms_X5_between : MVi RX5 yX5_between cX5_between 4 (some .boolean) 3 := ⟨kw_872, kw_871, kp_27, kw_4, rfl, by decide, by decide, by decide +kernel⟩
set_option maxRecDepth 100000 in
set_option maxHeartbeats 4000000 in
theorem c_X5_between {l : Launch} {D : va_G} {cy : Nat → ClassId} {A : Nat → Prop} {ad : Nat → Int → Nat} {mu : Nat → Int → Int} {H : Heap} (hR : RM D cy A ad mu H) (hG : GM mu)  (v : Int) (lo : Int) (hi : Int) (h_v : in32 v) (h_lo : in32 lo) (h_hi : in32 hi) : Met l yX5_between (Cond.code yX5_between cX5_between 4 (some .boolean) :: wG) (rmF 0 0 0 0) (Pc D cy H [.ref (ad 5 (0)), .int (iI (v)), .int (iI (lo)), .int (iI (hi))]) (Qp (.int (iI (bI (lo ≤ v ∧ v ≤ hi))))) 0 0 Kn := by
  refine met_of (la := [(0, .ref (ad 5 (0))), (1, .int (iI (v))), (2, .int (iI (lo))), (3, .int (iI (hi)))]) (by decide) (Nat.le_of_ble_eq_true rfl) rfl ?_
  intro p e R s m args below meth c ls hRm hx hb hml hr hlk hin hown hts hsH hK hl
  subst hRm
  have hown : s.vm.findClass "TakinghallModel" = some m.cls := hown
  refine lv_iload_n hx hb dX5_between_0 rfl (lv_at hl 1 rfl) ?_
  refine lv_iload_n hx hb dX5_between_1 rfl (lv_at hl 2 rfl) ?_
  refine xr_icmp_lt (tgt := 14) hx hb dX5_between_2 (by decide) (by omega) (by omega) (fun h1 => ?_) (fun h1 => ?_)
  · skip
    refine lv_iconst (v := iI (0)) hx hb dX5_between_14 rfl ?_
    exact xe_zb hx hb hr hlk hsH dX5_between_15 (by omega)
  · skip
    refine lv_iload_n hx hb dX5_between_5 rfl (lv_at hl 1 rfl) ?_
    refine lv_iload_n hx hb dX5_between_6 rfl (lv_at hl 3 rfl) ?_
    refine xr_icmp_gt (tgt := 14) hx hb dX5_between_7 (by decide) (by omega) (by omega) (fun h2 => ?_) (fun h2 => ?_)
    · skip
      refine lv_iconst (v := iI (0)) hx hb dX5_between_14 rfl ?_
      exact xe_zb hx hb hr hlk hsH dX5_between_15 (by omega)
    · skip
      refine lv_iconst (v := iI (1)) hx hb dX5_between_10 rfl ?_
      refine lv_goto (tgt := 15) hx hb dX5_between_11 (by decide) ?_
      exact xe_zb hx hb hr hlk hsH dX5_between_15 (by omega)
theorem ms_X5_isPlot : MVi RX5 yX5_isPlot cX5_isPlot 2 (some .boolean) 1 := ⟨kw_868, kw_867, kp_26, kw_4, rfl, by decide, by decide, by decide +kernel⟩
set_option maxRecDepth 100000 in
set_option maxHeartbeats 4000000 in
theorem c_X5_isPlot {l : Launch} {D : va_G} {cy : Nat → ClassId} {A : Nat → Prop} {ad : Nat → Int → Nat} {mu : Nat → Int → Int} {H : Heap} (hR : RM D cy A ad mu H) (hG : GM mu)  (x : Int) (h_x : in32 x) : Met l yX5_isPlot (Cond.code yX5_isPlot cX5_isPlot 2 (some .boolean) :: wG) (rmF 1 23 0 0) (Pc D cy H [.ref (ad 5 (0)), .int (iI (x))]) (Qp (.int (iI (bI (0 ≤ x ∧ x ≤ 35))))) 0 0 Kn := by
  refine met_of (la := [(0, .ref (ad 5 (0))), (1, .int (iI (x)))]) (by decide) (Nat.le_of_ble_eq_true rfl) rfl ?_
  intro p e R s m args below meth c ls hRm hx hb hml hr hlk hin hown hts hsH hK hl
  subst hRm
  have hown : s.vm.findClass "TakinghallModel" = some m.cls := hown
  refine lv_aload_n hx hb dX5_isPlot_0 rfl (lv_at hl 0 rfl) ?_
  refine lv_iload_n hx hb dX5_isPlot_1 rfl (lv_at hl 1 rfl) ?_
  refine lv_iconst (v := iI (0)) hx hb dX5_isPlot_2 rfl ?_
  refine lv_bipush (v := iI (35)) hx hb dX5_isPlot_3 (by decide) ?_
  refine xk_pF (xr_V (As := [.int (iI (x)), .int (iI (0)), .int (iI (35))]) (rest := []) hx hb hml hown hts hK (c_X5_between hR hG x 0 35 (by omega) (by omega) (by omega)) ms_X5_between kw_869 (wr_recv hK hR (md_5 hG) rfl rfl) ⟨by decide, by decide⟩ ⟨by decide, by decide⟩ rfl rfl hl.1 rfl (lv_room (by decide)) dX5_isPlot_5) ?_
  exact xe_bb hx hb hr hlk hsH dX5_isPlot_8 (by omega)
theorem ms_X5_isUse : MVi RX5 yX5_isUse cX5_isUse 2 (some .boolean) 1 := ⟨kw_876, kw_875, kp_28, kw_4, rfl, by decide, by decide, by decide +kernel⟩
set_option maxRecDepth 100000 in
set_option maxHeartbeats 4000000 in
theorem c_X5_isUse {l : Launch} {D : va_G} {cy : Nat → ClassId} {A : Nat → Prop} {ad : Nat → Int → Nat} {mu : Nat → Int → Int} {H : Heap} (hR : RM D cy A ad mu H) (hG : GM mu)  (x : Int) (h_x : in32 x) : Met l yX5_isUse (Cond.code yX5_isUse cX5_isUse 2 (some .boolean) :: wG) (rmF 1 23 0 0) (Pc D cy H [.ref (ad 5 (0)), .int (iI (x))]) (Qp (.int (iI (bI (0 ≤ x ∧ x ≤ 2))))) 0 0 Kn := by
  refine met_of (la := [(0, .ref (ad 5 (0))), (1, .int (iI (x)))]) (by decide) (Nat.le_of_ble_eq_true rfl) rfl ?_
  intro p e R s m args below meth c ls hRm hx hb hml hr hlk hin hown hts hsH hK hl
  subst hRm
  have hown : s.vm.findClass "TakinghallModel" = some m.cls := hown
  refine lv_aload_n hx hb dX5_isUse_0 rfl (lv_at hl 0 rfl) ?_
  refine lv_iload_n hx hb dX5_isUse_1 rfl (lv_at hl 1 rfl) ?_
  refine lv_iconst (v := iI (0)) hx hb dX5_isUse_2 rfl ?_
  refine lv_iconst (v := iI (2)) hx hb dX5_isUse_3 rfl ?_
  refine xk_pF (xr_V (As := [.int (iI (x)), .int (iI (0)), .int (iI (2))]) (rest := []) hx hb hml hown hts hK (c_X5_between hR hG x 0 2 (by omega) (by omega) (by omega)) ms_X5_between kw_869 (wr_recv hK hR (md_5 hG) rfl rfl) ⟨by decide, by decide⟩ ⟨by decide, by decide⟩ rfl rfl hl.1 rfl (lv_room (by decide)) dX5_isUse_4) ?_
  exact xe_bb hx hb hr hlk hsH dX5_isUse_7 (by omega)
theorem ms_X5_isInterest : MVi RX5 yX5_isInterest cX5_isInterest 2 (some .boolean) 1 := ⟨kw_925, kw_924, kp_32, kw_4, rfl, by decide, by decide, by decide +kernel⟩
set_option maxRecDepth 100000 in
set_option maxHeartbeats 4000000 in
theorem c_X5_isInterest {l : Launch} {D : va_G} {cy : Nat → ClassId} {A : Nat → Prop} {ad : Nat → Int → Nat} {mu : Nat → Int → Int} {H : Heap} (hR : RM D cy A ad mu H) (hG : GM mu)  (x : Int) (h_x : in32 x) : Met l yX5_isInterest (Cond.code yX5_isInterest cX5_isInterest 2 (some .boolean) :: wG) (rmF 1 23 0 0) (Pc D cy H [.ref (ad 5 (0)), .int (iI (x))]) (Qp (.int (iI (bI (0 ≤ x ∧ x ≤ mu 913 0 - 1))))) 0 0 Kn := by
  refine met_of (la := [(0, .ref (ad 5 (0))), (1, .int (iI (x)))]) (by decide) (Nat.le_of_ble_eq_true rfl) rfl ?_
  intro p e R s m args below meth c ls hRm hx hb hml hr hlk hin hown hts hsH hK hl
  subst hRm
  have hown : s.vm.findClass "TakinghallModel" = some m.cls := hown
  have hw5 : ∀ w ∈ u_ws RX5 TX5 35, w.before args s = true := fun w h => hts w (uw_X5 w h)
  refine lv_aload_n hx hb dX5_isInterest_0 rfl (lv_at hl 0 rfl) ?_
  refine lv_iload_n hx hb dX5_isInterest_1 rfl (lv_at hl 1 rfl) ?_
  refine lv_iconst (v := iI (0)) hx hb dX5_isInterest_2 rfl ?_
  refine lv_aload_n hx hb dX5_isInterest_3 rfl (lv_at hl 0 rfl) ?_
  refine xg_913 (v := mu 913 0) hx hb hw5 hown hK hR (md_5 hG) (hts _ kw_761) rfl dX5_isInterest_4 ?_
  have g1 := mr_913 hG (0)
  refine lv_iconst (v := iI (1)) hx hb dX5_isInterest_7 rfl ?_
  refine xr_isub hx hb dX5_isInterest_8 ?_
  refine xk_pF (xr_V (As := [.int (iI (x)), .int (iI (0)), .int (iI ((mu 913 0) - 1))]) (rest := []) hx hb hml hown hts hK (c_X5_between hR hG x 0 ((mu 913 0) - 1) (by omega) (by omega) (by omega)) ms_X5_between kw_869 (wr_recv hK hR (md_5 hG) rfl rfl) ⟨by decide, by decide⟩ ⟨by decide, by decide⟩ rfl rfl hl.1 rfl (lv_room (by decide)) dX5_isInterest_9) ?_
  exact xe_bb hx hb hr hlk hsH dX5_isInterest_12 (by omega)
theorem ms_X5_isScheme : MVi RX5 yX5_isScheme cX5_isScheme 2 (some .boolean) 1 := ⟨kw_937, kw_936, kp_33, kw_4, rfl, by decide, by decide, by decide +kernel⟩
set_option maxRecDepth 100000 in
set_option maxHeartbeats 4000000 in
theorem c_X5_isScheme {l : Launch} {D : va_G} {cy : Nat → ClassId} {A : Nat → Prop} {ad : Nat → Int → Nat} {mu : Nat → Int → Int} {H : Heap} (hR : RM D cy A ad mu H) (hG : GM mu)  (x : Int) (h_x : in32 x) : Met l yX5_isScheme (Cond.code yX5_isScheme cX5_isScheme 2 (some .boolean) :: wG) (rmF 1 23 0 0) (Pc D cy H [.ref (ad 5 (0)), .int (iI (x))]) (Qp (.int (iI (bI (0 ≤ x ∧ x ≤ mu 926 0 - 1))))) 0 0 Kn := by
  refine met_of (la := [(0, .ref (ad 5 (0))), (1, .int (iI (x)))]) (by decide) (Nat.le_of_ble_eq_true rfl) rfl ?_
  intro p e R s m args below meth c ls hRm hx hb hml hr hlk hin hown hts hsH hK hl
  subst hRm
  have hown : s.vm.findClass "TakinghallModel" = some m.cls := hown
  have hw5 : ∀ w ∈ u_ws RX5 TX5 35, w.before args s = true := fun w h => hts w (uw_X5 w h)
  refine lv_aload_n hx hb dX5_isScheme_0 rfl (lv_at hl 0 rfl) ?_
  refine lv_iload_n hx hb dX5_isScheme_1 rfl (lv_at hl 1 rfl) ?_
  refine lv_iconst (v := iI (0)) hx hb dX5_isScheme_2 rfl ?_
  refine lv_aload_n hx hb dX5_isScheme_3 rfl (lv_at hl 0 rfl) ?_
  refine xg_926 (v := mu 926 0) hx hb hw5 hown hK hR (md_5 hG) (hts _ kw_774) rfl dX5_isScheme_4 ?_
  have g1 := mr_926 hG (0)
  refine lv_iconst (v := iI (1)) hx hb dX5_isScheme_7 rfl ?_
  refine xr_isub hx hb dX5_isScheme_8 ?_
  refine xk_pF (xr_V (As := [.int (iI (x)), .int (iI (0)), .int (iI ((mu 926 0) - 1))]) (rest := []) hx hb hml hown hts hK (c_X5_between hR hG x 0 ((mu 926 0) - 1) (by omega) (by omega) (by omega)) ms_X5_between kw_869 (wr_recv hK hR (md_5 hG) rfl rfl) ⟨by decide, by decide⟩ ⟨by decide, by decide⟩ rfl rfl hl.1 rfl (lv_room (by decide)) dX5_isScheme_9) ?_
  exact xe_bb hx hb hr hlk hsH dX5_isScheme_12 (by omega)
theorem ms_X5_thrown : MVi RX5 yX5_thrown cX5_thrown 1 (some .int) 0 := ⟨kw_860, kw_858, kw_859, kw_4, rfl, by decide, by decide, by decide +kernel⟩
set_option maxRecDepth 100000 in
set_option maxHeartbeats 4000000 in
theorem c_X5_thrown {l : Launch} {D : va_G} {cy : Nat → ClassId} {A : Nat → Prop} {ad : Nat → Int → Nat} {mu : Nat → Int → Int} {H : Heap} (hR : RM D cy A ad mu H) (hG : GM mu)    : Met l yX5_thrown (Cond.code yX5_thrown cX5_thrown 1 (some .int) :: wG) (rmF 0 0 0 0) (Pc D cy H [.ref (ad 5 (0))]) (Qp (.int (iI (mu 900 0)))) 0 0 Kn := by
  refine met_of (la := [(0, .ref (ad 5 (0)))]) (by decide) (Nat.le_of_ble_eq_true rfl) rfl ?_
  intro p e R s m args below meth c ls hRm hx hb hml hr hlk hin hown hts hsH hK hl
  subst hRm
  have hown : s.vm.findClass "TakinghallModel" = some m.cls := hown
  have hw5 : ∀ w ∈ u_ws RX5 TX5 35, w.before args s = true := fun w h => hts w (uw_X5 w h)
  refine lv_aload_n hx hb dX5_thrown_0 rfl (lv_at hl 0 rfl) ?_
  refine xg_900 (v := mu 900 0) hx hb hw5 hown hK hR (md_5 hG) (hts _ kw_748) rfl dX5_thrown_1 ?_
  have g1 := mr_900 hG (0)
  exact xe_i hx hb hr hlk hsH dX5_thrown_4 (by rfl)
theorem ms_X5_worthOn : MVi RX5 yX5_worthOn cX5_worthOn 3 (some .int) 2 := ⟨kw_888, kw_887, kp_29, kw_4, rfl, by decide, by decide, by decide +kernel⟩
set_option maxRecDepth 100000 in
set_option maxHeartbeats 4000000 in
theorem c_X5_worthOn {l : Launch} {D : va_G} {cy : Nat → ClassId} {A : Nat → Prop} {ad : Nat → Int → Nat} {mu : Nat → Int → Int} {H : Heap} (hR : RM D cy A ad mu H) (hG : GM mu)  (x : Int) (d : Int) (h1 : 0 ≤ x ∧ x ≤ 35) (h2 : 0 ≤ d ∧ d ≤ 20000) : Met l yX5_worthOn (Cond.code yX5_worthOn cX5_worthOn 3 (some .int) :: wG) (rmF 0 0 0 0) (Pc D cy H [.ref (ad 5 (0)), .int (iI (x)), .int (iI (d))]) (Qp (.int (iI (mWorth mu x d)))) 0 0 Kn := by
  refine met_of (la := [(0, .ref (ad 5 (0))), (1, .int (iI (x))), (2, .int (iI (d)))]) (by decide) (Nat.le_of_ble_eq_true rfl) rfl ?_
  intro p e R s m args below meth c ls hRm hx hb hml hr hlk hin hown hts hsH hK hl
  subst hRm
  have hown : s.vm.findClass "TakinghallModel" = some m.cls := hown
  have hw5 : ∀ w ∈ u_ws RX5 TX5 35, w.before args s = true := fun w h => hts w (uw_X5 w h)
  refine lv_aload_n hx hb dX5_worthOn_0 rfl (lv_at hl 0 rfl) ?_
  refine xg_903 (v := mu 903 0) hx hb hw5 hown hK hR (md_5 hG) (hts _ kw_751) rfl dX5_worthOn_1 ?_
  have q1 : mu 903 0 = 0 := mh_903 hG
  rw [q1, rv_p (Int.le_refl 0)]
  refine lv_iload_n hx hb dX5_worthOn_4 rfl (lv_at hl 1 rfl) ?_
  refine xa_1003 (v := mu 1003 x) hx hb hK hR (md_23 hG) (by omega) rfl dX5_worthOn_5 ?_
  have g2 := mr_1003 hG (x)
  refine lv_aload_n hx hb dX5_worthOn_6 rfl (lv_at hl 0 rfl) ?_
  refine xg_902 (v := mu 902 0) hx hb hw5 hown hK hR (md_5 hG) (hts _ kw_750) rfl dX5_worthOn_7 ?_
  have q3 : mu 902 0 = 0 := mh_902 hG
  rw [q3, rv_p (Int.le_refl 0)]
  refine lv_iconst (v := iI (3)) hx hb dX5_worthOn_10 rfl ?_
  refine lv_iload_n hx hb dX5_worthOn_11 rfl (lv_at hl 2 rfl) ?_
  refine xr_imul hx hb dX5_worthOn_12 ?_
  refine lv_aload_n hx hb dX5_worthOn_13 rfl (lv_at hl 0 rfl) ?_
  refine xg_904 (v := mu 904 0) hx hb hw5 hown hK hR (md_5 hG) (hts _ kw_752) rfl dX5_worthOn_14 ?_
  have q4 : mu 904 0 = 0 := mh_904 hG
  rw [q4, rv_p (Int.le_refl 0)]
  refine lv_iload_n hx hb dX5_worthOn_17 rfl (lv_at hl 1 rfl) ?_
  refine xa_1004 (v := mu 1004 x) hx hb hK hR (md_24 hG) (by omega) rfl dX5_worthOn_18 ?_
  have g5 := mr_1004 hG (x)
  refine xr_iadd hx hb dX5_worthOn_19 ?_
  refine xa_1002 (v := mu 1002 ((3 * d) + (mu 1004 x))) hx hb hK hR (md_22 hG) (by omega) rfl dX5_worthOn_20 ?_
  have g6 := mr_1002 hG ((3 * d) + (mu 1004 x))
  refine xr_imul hx hb dX5_worthOn_21 ?_
  exact xe_i hx hb hr hlk hsH dX5_worthOn_22 (by rfl)
theorem ms_X5_isNeededBeside : MVi RX5 yX5_isNeededBeside cX5_isNeededBeside 4 (some .boolean) 1 := ⟨kw_896, kw_895, kp_30, kw_4, rfl, by decide, by decide, by decide +kernel⟩
set_option maxRecDepth 100000 in
set_option maxHeartbeats 4000000 in
theorem c_X5_isNeededBeside {l : Launch} {D : va_G} {cy : Nat → ClassId} {A : Nat → Prop} {ad : Nat → Int → Nat} {mu : Nat → Int → Int} {H : Heap} (hR : RM D cy A ad mu H) (hG : GM mu)  (x : Int) (h1 : 0 ≤ x ∧ x ≤ 35) : Met l yX5_isNeededBeside (Cond.code yX5_isNeededBeside cX5_isNeededBeside 4 (some .boolean) :: wG) (rmF 0 0 0 0) (Pc D cy H [.ref (ad 5 (0)), .int (iI (x))]) (Qp (.int (iI (bI (mBeside mu x))))) 0 0 Kn := by
  refine met_of (la := [(0, .ref (ad 5 (0))), (1, .int (iI (x)))]) (by decide) (Nat.le_of_ble_eq_true rfl) rfl ?_
  intro p e R s m args below meth c ls hRm hx hb hml hr hlk hin hown hts hsH hK hl
  subst hRm
  have hown : s.vm.findClass "TakinghallModel" = some m.cls := hown
  have hw5 : ∀ w ∈ u_ws RX5 TX5 35, w.before args s = true := fun w h => hts w (uw_X5 w h)
  refine lv_iload_n hx hb dX5_isNeededBeside_0 rfl (lv_at hl 1 rfl) ?_
  refine lv_bipush (v := iI (6)) hx hb dX5_isNeededBeside_1 (by decide) ?_
  refine xr_irem hx hb dX5_isNeededBeside_3 (by omega) (by omega) ?_
  refine lv_istore_n (i := 2) (lv' := [(2, .int (iI (x % 6))), (0, .ref (ad 5 (0))), (1, .int (iI (x)))]) hx hb dX5_isNeededBeside_4 rfl hl (by decide) rfl (fun ls hl => ?_)
  refine lv_iload_n hx hb dX5_isNeededBeside_5 rfl (lv_at hl 0 rfl) ?_
  refine xr_if_le (tgt := 21) hx hb dX5_isNeededBeside_6 (by decide) (by omega) (fun h1 => ?_) (fun h1 => ?_)
  · skip
    refine lv_iload_n hx hb dX5_isNeededBeside_21 rfl (lv_at hl 0 rfl) ?_
    refine lv_iconst (v := iI (5)) hx hb dX5_isNeededBeside_22 rfl ?_
    refine xr_icmp_ge (tgt := 42) hx hb dX5_isNeededBeside_23 (by decide) (by omega) (by omega) (fun h2 => ?_) (fun h2 => ?_)
    · skip
      refine lv_iconst (v := iI (0)) hx hb dX5_isNeededBeside_42 rfl ?_
      refine lv_istore_n (i := 3) (lv' := [(3, .int (iI (0))), (2, .int (iI (x % 6))), (0, .ref (ad 5 (0))), (1, .int (iI (x)))]) hx hb dX5_isNeededBeside_43 rfl hl (by decide) rfl (fun ls hl => ?_)
      refine lv_iload_n hx hb dX5_isNeededBeside_44 rfl (lv_at hl 0 rfl) ?_
      refine xr_if_ne (tgt := 85) hx hb dX5_isNeededBeside_45 (by decide) (by decide) (fun h3 => absurd h3 (by decide)) (fun _ => ?_)
      refine lv_iload_n hx hb dX5_isNeededBeside_48 rfl (lv_at hl 3 rfl) ?_
      refine lv_iconst (v := iI (5)) hx hb dX5_isNeededBeside_49 rfl ?_
      refine xr_icmp_le (tgt := 66) hx hb dX5_isNeededBeside_50 (by decide) (by omega) (by omega) (fun h4 => ?_) (fun h4 => ?_)
      · skip
        refine lv_iload_n hx hb dX5_isNeededBeside_66 rfl (lv_at hl 3 rfl) ?_
        refine lv_bipush (v := iI (30)) hx hb dX5_isNeededBeside_67 (by decide) ?_
        refine xr_icmp_ge (tgt := 89) hx hb dX5_isNeededBeside_69 (by decide) (by omega) (by omega) (fun h5 => ?_) (fun h5 => ?_)
        · skip
          refine lv_iconst (v := iI (0)) hx hb dX5_isNeededBeside_89 rfl ?_
          exact xe_zb hx hb hr hlk hsH dX5_isNeededBeside_90 (by unfold mBeside; omega)
        · skip
          refine lv_aload_n hx hb dX5_isNeededBeside_72 rfl (lv_at hl 2 rfl) ?_
          refine xg_906 (v := mu 906 0) hx hb hw5 hown hK hR (md_5 hG) (hts _ kw_754) rfl dX5_isNeededBeside_73 ?_
          have q6 : mu 906 0 = 0 := mh_906 hG
          rw [q6, rv_p (Int.le_refl 0)]
          refine lv_iload_n hx hb dX5_isNeededBeside_76 rfl (lv_at hl 3 rfl) ?_
          refine lv_bipush (v := iI (6)) hx hb dX5_isNeededBeside_77 (by decide) ?_
          refine xr_iadd hx hb dX5_isNeededBeside_79 ?_
          refine xa_1006 (v := mu 1006 (x + 6)) hx hb hK hR (md_26 hG) (by omega) rfl dX5_isNeededBeside_80 ?_
          have g7 := mr_1006 hG (x + 6)
          refine lv_iconst (v := iI (-1)) hx hb dX5_isNeededBeside_81 rfl ?_
          refine xr_icmp_eq (tgt := 89) hx hb dX5_isNeededBeside_82 (by decide) (by omega) (by omega) (fun h8 => ?_) (fun h8 => ?_)
          · skip
            refine lv_iconst (v := iI (0)) hx hb dX5_isNeededBeside_89 rfl ?_
            exact xe_zb hx hb hr hlk hsH dX5_isNeededBeside_90 (by unfold mBeside; omega)
          · skip
            refine lv_iconst (v := iI (1)) hx hb dX5_isNeededBeside_85 rfl ?_
            refine lv_goto (tgt := 90) hx hb dX5_isNeededBeside_86 (by decide) ?_
            exact xe_zb hx hb hr hlk hsH dX5_isNeededBeside_90 (by unfold mBeside; omega)
      · skip
        refine lv_aload_n hx hb dX5_isNeededBeside_53 rfl (lv_at hl 2 rfl) ?_
        refine xg_906 (v := mu 906 0) hx hb hw5 hown hK hR (md_5 hG) (hts _ kw_754) rfl dX5_isNeededBeside_54 ?_
        have q9 : mu 906 0 = 0 := mh_906 hG
        rw [q9, rv_p (Int.le_refl 0)]
        refine lv_iload_n hx hb dX5_isNeededBeside_57 rfl (lv_at hl 3 rfl) ?_
        refine lv_bipush (v := iI (6)) hx hb dX5_isNeededBeside_58 (by decide) ?_
        refine xr_isub hx hb dX5_isNeededBeside_60 ?_
        refine xa_1006 (v := mu 1006 (x - 6)) hx hb hK hR (md_26 hG) (by omega) rfl dX5_isNeededBeside_61 ?_
        have g10 := mr_1006 hG (x - 6)
        refine lv_iconst (v := iI (-1)) hx hb dX5_isNeededBeside_62 rfl ?_
        refine xr_icmp_ne (tgt := 85) hx hb dX5_isNeededBeside_63 (by decide) (by omega) (by omega) (fun h11 => ?_) (fun h11 => ?_)
        · skip
          refine lv_iconst (v := iI (1)) hx hb dX5_isNeededBeside_85 rfl ?_
          refine lv_goto (tgt := 90) hx hb dX5_isNeededBeside_86 (by decide) ?_
          exact xe_zb hx hb hr hlk hsH dX5_isNeededBeside_90 (by unfold mBeside; omega)
        · skip
          refine lv_iload_n hx hb dX5_isNeededBeside_66 rfl (lv_at hl 3 rfl) ?_
          refine lv_bipush (v := iI (30)) hx hb dX5_isNeededBeside_67 (by decide) ?_
          refine xr_icmp_ge (tgt := 89) hx hb dX5_isNeededBeside_69 (by decide) (by omega) (by omega) (fun h12 => ?_) (fun h12 => ?_)
          · skip
            refine lv_iconst (v := iI (0)) hx hb dX5_isNeededBeside_89 rfl ?_
            exact xe_zb hx hb hr hlk hsH dX5_isNeededBeside_90 (by unfold mBeside; omega)
          · skip
            refine lv_aload_n hx hb dX5_isNeededBeside_72 rfl (lv_at hl 2 rfl) ?_
            refine xg_906 (v := mu 906 0) hx hb hw5 hown hK hR (md_5 hG) (hts _ kw_754) rfl dX5_isNeededBeside_73 ?_
            have q13 : mu 906 0 = 0 := mh_906 hG
            rw [q13, rv_p (Int.le_refl 0)]
            refine lv_iload_n hx hb dX5_isNeededBeside_76 rfl (lv_at hl 3 rfl) ?_
            refine lv_bipush (v := iI (6)) hx hb dX5_isNeededBeside_77 (by decide) ?_
            refine xr_iadd hx hb dX5_isNeededBeside_79 ?_
            refine xa_1006 (v := mu 1006 (x + 6)) hx hb hK hR (md_26 hG) (by omega) rfl dX5_isNeededBeside_80 ?_
            have g14 := mr_1006 hG (x + 6)
            refine lv_iconst (v := iI (-1)) hx hb dX5_isNeededBeside_81 rfl ?_
            refine xr_icmp_eq (tgt := 89) hx hb dX5_isNeededBeside_82 (by decide) (by omega) (by omega) (fun h15 => ?_) (fun h15 => ?_)
            · skip
              refine lv_iconst (v := iI (0)) hx hb dX5_isNeededBeside_89 rfl ?_
              exact xe_zb hx hb hr hlk hsH dX5_isNeededBeside_90 (by unfold mBeside; omega)
            · skip
              refine lv_iconst (v := iI (1)) hx hb dX5_isNeededBeside_85 rfl ?_
              refine lv_goto (tgt := 90) hx hb dX5_isNeededBeside_86 (by decide) ?_
              exact xe_zb hx hb hr hlk hsH dX5_isNeededBeside_90 (by unfold mBeside; omega)
    · skip
      refine lv_aload_n hx hb dX5_isNeededBeside_26 rfl (lv_at hl 1 rfl) ?_
      refine xg_906 (v := mu 906 0) hx hb hw5 hown hK hR (md_5 hG) (hts _ kw_754) rfl dX5_isNeededBeside_27 ?_
      have q16 : mu 906 0 = 0 := mh_906 hG
      rw [q16, rv_p (Int.le_refl 0)]
      refine lv_iload_n hx hb dX5_isNeededBeside_30 rfl (lv_at hl 2 rfl) ?_
      refine lv_iconst (v := iI (1)) hx hb dX5_isNeededBeside_31 rfl ?_
      refine xr_iadd hx hb dX5_isNeededBeside_32 ?_
      refine xa_1006 (v := mu 1006 (x + 1)) hx hb hK hR (md_26 hG) (by omega) rfl dX5_isNeededBeside_33 ?_
      have g17 := mr_1006 hG (x + 1)
      refine lv_iconst (v := iI (-1)) hx hb dX5_isNeededBeside_34 rfl ?_
      refine xr_icmp_eq (tgt := 42) hx hb dX5_isNeededBeside_35 (by decide) (by omega) (by omega) (fun h18 => ?_) (fun h18 => ?_)
      · skip
        refine lv_iconst (v := iI (0)) hx hb dX5_isNeededBeside_42 rfl ?_
        refine lv_istore_n (i := 3) (lv' := [(3, .int (iI (0))), (2, .int (iI (x % 6))), (0, .ref (ad 5 (0))), (1, .int (iI (x)))]) hx hb dX5_isNeededBeside_43 rfl hl (by decide) rfl (fun ls hl => ?_)
        refine lv_iload_n hx hb dX5_isNeededBeside_44 rfl (lv_at hl 0 rfl) ?_
        refine xr_if_ne (tgt := 85) hx hb dX5_isNeededBeside_45 (by decide) (by decide) (fun h19 => absurd h19 (by decide)) (fun _ => ?_)
        refine lv_iload_n hx hb dX5_isNeededBeside_48 rfl (lv_at hl 3 rfl) ?_
        refine lv_iconst (v := iI (5)) hx hb dX5_isNeededBeside_49 rfl ?_
        refine xr_icmp_le (tgt := 66) hx hb dX5_isNeededBeside_50 (by decide) (by omega) (by omega) (fun h20 => ?_) (fun h20 => ?_)
        · skip
          refine lv_iload_n hx hb dX5_isNeededBeside_66 rfl (lv_at hl 3 rfl) ?_
          refine lv_bipush (v := iI (30)) hx hb dX5_isNeededBeside_67 (by decide) ?_
          refine xr_icmp_ge (tgt := 89) hx hb dX5_isNeededBeside_69 (by decide) (by omega) (by omega) (fun h21 => ?_) (fun h21 => ?_)
          · skip
            refine lv_iconst (v := iI (0)) hx hb dX5_isNeededBeside_89 rfl ?_
            exact xe_zb hx hb hr hlk hsH dX5_isNeededBeside_90 (by unfold mBeside; omega)
          · skip
            refine lv_aload_n hx hb dX5_isNeededBeside_72 rfl (lv_at hl 2 rfl) ?_
            refine xg_906 (v := mu 906 0) hx hb hw5 hown hK hR (md_5 hG) (hts _ kw_754) rfl dX5_isNeededBeside_73 ?_
            have q22 : mu 906 0 = 0 := mh_906 hG
            rw [q22, rv_p (Int.le_refl 0)]
            refine lv_iload_n hx hb dX5_isNeededBeside_76 rfl (lv_at hl 3 rfl) ?_
            refine lv_bipush (v := iI (6)) hx hb dX5_isNeededBeside_77 (by decide) ?_
            refine xr_iadd hx hb dX5_isNeededBeside_79 ?_
            refine xa_1006 (v := mu 1006 (x + 6)) hx hb hK hR (md_26 hG) (by omega) rfl dX5_isNeededBeside_80 ?_
            have g23 := mr_1006 hG (x + 6)
            refine lv_iconst (v := iI (-1)) hx hb dX5_isNeededBeside_81 rfl ?_
            refine xr_icmp_eq (tgt := 89) hx hb dX5_isNeededBeside_82 (by decide) (by omega) (by omega) (fun h24 => ?_) (fun h24 => ?_)
            · skip
              refine lv_iconst (v := iI (0)) hx hb dX5_isNeededBeside_89 rfl ?_
              exact xe_zb hx hb hr hlk hsH dX5_isNeededBeside_90 (by unfold mBeside; omega)
            · skip
              refine lv_iconst (v := iI (1)) hx hb dX5_isNeededBeside_85 rfl ?_
              refine lv_goto (tgt := 90) hx hb dX5_isNeededBeside_86 (by decide) ?_
              exact xe_zb hx hb hr hlk hsH dX5_isNeededBeside_90 (by unfold mBeside; omega)
        · skip
          refine lv_aload_n hx hb dX5_isNeededBeside_53 rfl (lv_at hl 2 rfl) ?_
          refine xg_906 (v := mu 906 0) hx hb hw5 hown hK hR (md_5 hG) (hts _ kw_754) rfl dX5_isNeededBeside_54 ?_
          have q25 : mu 906 0 = 0 := mh_906 hG
          rw [q25, rv_p (Int.le_refl 0)]
          refine lv_iload_n hx hb dX5_isNeededBeside_57 rfl (lv_at hl 3 rfl) ?_
          refine lv_bipush (v := iI (6)) hx hb dX5_isNeededBeside_58 (by decide) ?_
          refine xr_isub hx hb dX5_isNeededBeside_60 ?_
          refine xa_1006 (v := mu 1006 (x - 6)) hx hb hK hR (md_26 hG) (by omega) rfl dX5_isNeededBeside_61 ?_
          have g26 := mr_1006 hG (x - 6)
          refine lv_iconst (v := iI (-1)) hx hb dX5_isNeededBeside_62 rfl ?_
          refine xr_icmp_ne (tgt := 85) hx hb dX5_isNeededBeside_63 (by decide) (by omega) (by omega) (fun h27 => ?_) (fun h27 => ?_)
          · skip
            refine lv_iconst (v := iI (1)) hx hb dX5_isNeededBeside_85 rfl ?_
            refine lv_goto (tgt := 90) hx hb dX5_isNeededBeside_86 (by decide) ?_
            exact xe_zb hx hb hr hlk hsH dX5_isNeededBeside_90 (by unfold mBeside; omega)
          · skip
            refine lv_iload_n hx hb dX5_isNeededBeside_66 rfl (lv_at hl 3 rfl) ?_
            refine lv_bipush (v := iI (30)) hx hb dX5_isNeededBeside_67 (by decide) ?_
            refine xr_icmp_ge (tgt := 89) hx hb dX5_isNeededBeside_69 (by decide) (by omega) (by omega) (fun h28 => ?_) (fun h28 => ?_)
            · skip
              refine lv_iconst (v := iI (0)) hx hb dX5_isNeededBeside_89 rfl ?_
              exact xe_zb hx hb hr hlk hsH dX5_isNeededBeside_90 (by unfold mBeside; omega)
            · skip
              refine lv_aload_n hx hb dX5_isNeededBeside_72 rfl (lv_at hl 2 rfl) ?_
              refine xg_906 (v := mu 906 0) hx hb hw5 hown hK hR (md_5 hG) (hts _ kw_754) rfl dX5_isNeededBeside_73 ?_
              have q29 : mu 906 0 = 0 := mh_906 hG
              rw [q29, rv_p (Int.le_refl 0)]
              refine lv_iload_n hx hb dX5_isNeededBeside_76 rfl (lv_at hl 3 rfl) ?_
              refine lv_bipush (v := iI (6)) hx hb dX5_isNeededBeside_77 (by decide) ?_
              refine xr_iadd hx hb dX5_isNeededBeside_79 ?_
              refine xa_1006 (v := mu 1006 (x + 6)) hx hb hK hR (md_26 hG) (by omega) rfl dX5_isNeededBeside_80 ?_
              have g30 := mr_1006 hG (x + 6)
              refine lv_iconst (v := iI (-1)) hx hb dX5_isNeededBeside_81 rfl ?_
              refine xr_icmp_eq (tgt := 89) hx hb dX5_isNeededBeside_82 (by decide) (by omega) (by omega) (fun h31 => ?_) (fun h31 => ?_)
              · skip
                refine lv_iconst (v := iI (0)) hx hb dX5_isNeededBeside_89 rfl ?_
                exact xe_zb hx hb hr hlk hsH dX5_isNeededBeside_90 (by unfold mBeside; omega)
              · skip
                refine lv_iconst (v := iI (1)) hx hb dX5_isNeededBeside_85 rfl ?_
                refine lv_goto (tgt := 90) hx hb dX5_isNeededBeside_86 (by decide) ?_
                exact xe_zb hx hb hr hlk hsH dX5_isNeededBeside_90 (by unfold mBeside; omega)
      · skip
        refine lv_iconst (v := iI (1)) hx hb dX5_isNeededBeside_38 rfl ?_
        refine lv_goto (tgt := 43) hx hb dX5_isNeededBeside_39 (by decide) ?_
        refine lv_istore_n (i := 3) (lv' := [(3, .int (iI (1))), (2, .int (iI (x % 6))), (0, .ref (ad 5 (0))), (1, .int (iI (x)))]) hx hb dX5_isNeededBeside_43 rfl hl (by decide) rfl (fun ls hl => ?_)
        refine lv_iload_n hx hb dX5_isNeededBeside_44 rfl (lv_at hl 0 rfl) ?_
        refine xr_if_ne (tgt := 85) hx hb dX5_isNeededBeside_45 (by decide) (by decide) (fun _ => ?_) (fun h32 => absurd h32 (by decide))
        refine lv_iconst (v := iI (1)) hx hb dX5_isNeededBeside_85 rfl ?_
        refine lv_goto (tgt := 90) hx hb dX5_isNeededBeside_86 (by decide) ?_
        exact xe_zb hx hb hr hlk hsH dX5_isNeededBeside_90 (by unfold mBeside; omega)
  · skip
    refine lv_aload_n hx hb dX5_isNeededBeside_9 rfl (lv_at hl 1 rfl) ?_
    refine xg_906 (v := mu 906 0) hx hb hw5 hown hK hR (md_5 hG) (hts _ kw_754) rfl dX5_isNeededBeside_10 ?_
    have q33 : mu 906 0 = 0 := mh_906 hG
    rw [q33, rv_p (Int.le_refl 0)]
    refine lv_iload_n hx hb dX5_isNeededBeside_13 rfl (lv_at hl 2 rfl) ?_
    refine lv_iconst (v := iI (1)) hx hb dX5_isNeededBeside_14 rfl ?_
    refine xr_isub hx hb dX5_isNeededBeside_15 ?_
    refine xa_1006 (v := mu 1006 (x - 1)) hx hb hK hR (md_26 hG) (by omega) rfl dX5_isNeededBeside_16 ?_
    have g34 := mr_1006 hG (x - 1)
    refine lv_iconst (v := iI (-1)) hx hb dX5_isNeededBeside_17 rfl ?_
    refine xr_icmp_ne (tgt := 38) hx hb dX5_isNeededBeside_18 (by decide) (by omega) (by omega) (fun h35 => ?_) (fun h35 => ?_)
    · skip
      refine lv_iconst (v := iI (1)) hx hb dX5_isNeededBeside_38 rfl ?_
      refine lv_goto (tgt := 43) hx hb dX5_isNeededBeside_39 (by decide) ?_
      refine lv_istore_n (i := 3) (lv' := [(3, .int (iI (1))), (2, .int (iI (x % 6))), (0, .ref (ad 5 (0))), (1, .int (iI (x)))]) hx hb dX5_isNeededBeside_43 rfl hl (by decide) rfl (fun ls hl => ?_)
      refine lv_iload_n hx hb dX5_isNeededBeside_44 rfl (lv_at hl 0 rfl) ?_
      refine xr_if_ne (tgt := 85) hx hb dX5_isNeededBeside_45 (by decide) (by decide) (fun _ => ?_) (fun h36 => absurd h36 (by decide))
      refine lv_iconst (v := iI (1)) hx hb dX5_isNeededBeside_85 rfl ?_
      refine lv_goto (tgt := 90) hx hb dX5_isNeededBeside_86 (by decide) ?_
      exact xe_zb hx hb hr hlk hsH dX5_isNeededBeside_90 (by unfold mBeside; omega)
    · skip
      refine lv_iload_n hx hb dX5_isNeededBeside_21 rfl (lv_at hl 0 rfl) ?_
      refine lv_iconst (v := iI (5)) hx hb dX5_isNeededBeside_22 rfl ?_
      refine xr_icmp_ge (tgt := 42) hx hb dX5_isNeededBeside_23 (by decide) (by omega) (by omega) (fun h37 => ?_) (fun h37 => ?_)
      · skip
        refine lv_iconst (v := iI (0)) hx hb dX5_isNeededBeside_42 rfl ?_
        refine lv_istore_n (i := 3) (lv' := [(3, .int (iI (0))), (2, .int (iI (x % 6))), (0, .ref (ad 5 (0))), (1, .int (iI (x)))]) hx hb dX5_isNeededBeside_43 rfl hl (by decide) rfl (fun ls hl => ?_)
        refine lv_iload_n hx hb dX5_isNeededBeside_44 rfl (lv_at hl 0 rfl) ?_
        refine xr_if_ne (tgt := 85) hx hb dX5_isNeededBeside_45 (by decide) (by decide) (fun h38 => absurd h38 (by decide)) (fun _ => ?_)
        refine lv_iload_n hx hb dX5_isNeededBeside_48 rfl (lv_at hl 3 rfl) ?_
        refine lv_iconst (v := iI (5)) hx hb dX5_isNeededBeside_49 rfl ?_
        refine xr_icmp_le (tgt := 66) hx hb dX5_isNeededBeside_50 (by decide) (by omega) (by omega) (fun h39 => ?_) (fun h39 => ?_)
        · skip
          refine lv_iload_n hx hb dX5_isNeededBeside_66 rfl (lv_at hl 3 rfl) ?_
          refine lv_bipush (v := iI (30)) hx hb dX5_isNeededBeside_67 (by decide) ?_
          refine xr_icmp_ge (tgt := 89) hx hb dX5_isNeededBeside_69 (by decide) (by omega) (by omega) (fun h40 => ?_) (fun h40 => ?_)
          · skip
            refine lv_iconst (v := iI (0)) hx hb dX5_isNeededBeside_89 rfl ?_
            exact xe_zb hx hb hr hlk hsH dX5_isNeededBeside_90 (by unfold mBeside; omega)
          · skip
            refine lv_aload_n hx hb dX5_isNeededBeside_72 rfl (lv_at hl 2 rfl) ?_
            refine xg_906 (v := mu 906 0) hx hb hw5 hown hK hR (md_5 hG) (hts _ kw_754) rfl dX5_isNeededBeside_73 ?_
            have q41 : mu 906 0 = 0 := mh_906 hG
            rw [q41, rv_p (Int.le_refl 0)]
            refine lv_iload_n hx hb dX5_isNeededBeside_76 rfl (lv_at hl 3 rfl) ?_
            refine lv_bipush (v := iI (6)) hx hb dX5_isNeededBeside_77 (by decide) ?_
            refine xr_iadd hx hb dX5_isNeededBeside_79 ?_
            refine xa_1006 (v := mu 1006 (x + 6)) hx hb hK hR (md_26 hG) (by omega) rfl dX5_isNeededBeside_80 ?_
            have g42 := mr_1006 hG (x + 6)
            refine lv_iconst (v := iI (-1)) hx hb dX5_isNeededBeside_81 rfl ?_
            refine xr_icmp_eq (tgt := 89) hx hb dX5_isNeededBeside_82 (by decide) (by omega) (by omega) (fun h43 => ?_) (fun h43 => ?_)
            · skip
              refine lv_iconst (v := iI (0)) hx hb dX5_isNeededBeside_89 rfl ?_
              exact xe_zb hx hb hr hlk hsH dX5_isNeededBeside_90 (by unfold mBeside; omega)
            · skip
              refine lv_iconst (v := iI (1)) hx hb dX5_isNeededBeside_85 rfl ?_
              refine lv_goto (tgt := 90) hx hb dX5_isNeededBeside_86 (by decide) ?_
              exact xe_zb hx hb hr hlk hsH dX5_isNeededBeside_90 (by unfold mBeside; omega)
        · skip
          refine lv_aload_n hx hb dX5_isNeededBeside_53 rfl (lv_at hl 2 rfl) ?_
          refine xg_906 (v := mu 906 0) hx hb hw5 hown hK hR (md_5 hG) (hts _ kw_754) rfl dX5_isNeededBeside_54 ?_
          have q44 : mu 906 0 = 0 := mh_906 hG
          rw [q44, rv_p (Int.le_refl 0)]
          refine lv_iload_n hx hb dX5_isNeededBeside_57 rfl (lv_at hl 3 rfl) ?_
          refine lv_bipush (v := iI (6)) hx hb dX5_isNeededBeside_58 (by decide) ?_
          refine xr_isub hx hb dX5_isNeededBeside_60 ?_
          refine xa_1006 (v := mu 1006 (x - 6)) hx hb hK hR (md_26 hG) (by omega) rfl dX5_isNeededBeside_61 ?_
          have g45 := mr_1006 hG (x - 6)
          refine lv_iconst (v := iI (-1)) hx hb dX5_isNeededBeside_62 rfl ?_
          refine xr_icmp_ne (tgt := 85) hx hb dX5_isNeededBeside_63 (by decide) (by omega) (by omega) (fun h46 => ?_) (fun h46 => ?_)
          · skip
            refine lv_iconst (v := iI (1)) hx hb dX5_isNeededBeside_85 rfl ?_
            refine lv_goto (tgt := 90) hx hb dX5_isNeededBeside_86 (by decide) ?_
            exact xe_zb hx hb hr hlk hsH dX5_isNeededBeside_90 (by unfold mBeside; omega)
          · skip
            refine lv_iload_n hx hb dX5_isNeededBeside_66 rfl (lv_at hl 3 rfl) ?_
            refine lv_bipush (v := iI (30)) hx hb dX5_isNeededBeside_67 (by decide) ?_
            refine xr_icmp_ge (tgt := 89) hx hb dX5_isNeededBeside_69 (by decide) (by omega) (by omega) (fun h47 => ?_) (fun h47 => ?_)
            · skip
              refine lv_iconst (v := iI (0)) hx hb dX5_isNeededBeside_89 rfl ?_
              exact xe_zb hx hb hr hlk hsH dX5_isNeededBeside_90 (by unfold mBeside; omega)
            · skip
              refine lv_aload_n hx hb dX5_isNeededBeside_72 rfl (lv_at hl 2 rfl) ?_
              refine xg_906 (v := mu 906 0) hx hb hw5 hown hK hR (md_5 hG) (hts _ kw_754) rfl dX5_isNeededBeside_73 ?_
              have q48 : mu 906 0 = 0 := mh_906 hG
              rw [q48, rv_p (Int.le_refl 0)]
              refine lv_iload_n hx hb dX5_isNeededBeside_76 rfl (lv_at hl 3 rfl) ?_
              refine lv_bipush (v := iI (6)) hx hb dX5_isNeededBeside_77 (by decide) ?_
              refine xr_iadd hx hb dX5_isNeededBeside_79 ?_
              refine xa_1006 (v := mu 1006 (x + 6)) hx hb hK hR (md_26 hG) (by omega) rfl dX5_isNeededBeside_80 ?_
              have g49 := mr_1006 hG (x + 6)
              refine lv_iconst (v := iI (-1)) hx hb dX5_isNeededBeside_81 rfl ?_
              refine xr_icmp_eq (tgt := 89) hx hb dX5_isNeededBeside_82 (by decide) (by omega) (by omega) (fun h50 => ?_) (fun h50 => ?_)
              · skip
                refine lv_iconst (v := iI (0)) hx hb dX5_isNeededBeside_89 rfl ?_
                exact xe_zb hx hb hr hlk hsH dX5_isNeededBeside_90 (by unfold mBeside; omega)
              · skip
                refine lv_iconst (v := iI (1)) hx hb dX5_isNeededBeside_85 rfl ?_
                refine lv_goto (tgt := 90) hx hb dX5_isNeededBeside_86 (by decide) ?_
                exact xe_zb hx hb hr hlk hsH dX5_isNeededBeside_90 (by unfold mBeside; omega)
      · skip
        refine lv_aload_n hx hb dX5_isNeededBeside_26 rfl (lv_at hl 1 rfl) ?_
        refine xg_906 (v := mu 906 0) hx hb hw5 hown hK hR (md_5 hG) (hts _ kw_754) rfl dX5_isNeededBeside_27 ?_
        have q51 : mu 906 0 = 0 := mh_906 hG
        rw [q51, rv_p (Int.le_refl 0)]
        refine lv_iload_n hx hb dX5_isNeededBeside_30 rfl (lv_at hl 2 rfl) ?_
        refine lv_iconst (v := iI (1)) hx hb dX5_isNeededBeside_31 rfl ?_
        refine xr_iadd hx hb dX5_isNeededBeside_32 ?_
        refine xa_1006 (v := mu 1006 (x + 1)) hx hb hK hR (md_26 hG) (by omega) rfl dX5_isNeededBeside_33 ?_
        have g52 := mr_1006 hG (x + 1)
        refine lv_iconst (v := iI (-1)) hx hb dX5_isNeededBeside_34 rfl ?_
        refine xr_icmp_eq (tgt := 42) hx hb dX5_isNeededBeside_35 (by decide) (by omega) (by omega) (fun h53 => ?_) (fun h53 => ?_)
        · skip
          refine lv_iconst (v := iI (0)) hx hb dX5_isNeededBeside_42 rfl ?_
          refine lv_istore_n (i := 3) (lv' := [(3, .int (iI (0))), (2, .int (iI (x % 6))), (0, .ref (ad 5 (0))), (1, .int (iI (x)))]) hx hb dX5_isNeededBeside_43 rfl hl (by decide) rfl (fun ls hl => ?_)
          refine lv_iload_n hx hb dX5_isNeededBeside_44 rfl (lv_at hl 0 rfl) ?_
          refine xr_if_ne (tgt := 85) hx hb dX5_isNeededBeside_45 (by decide) (by decide) (fun h54 => absurd h54 (by decide)) (fun _ => ?_)
          refine lv_iload_n hx hb dX5_isNeededBeside_48 rfl (lv_at hl 3 rfl) ?_
          refine lv_iconst (v := iI (5)) hx hb dX5_isNeededBeside_49 rfl ?_
          refine xr_icmp_le (tgt := 66) hx hb dX5_isNeededBeside_50 (by decide) (by omega) (by omega) (fun h55 => ?_) (fun h55 => ?_)
          · skip
            refine lv_iload_n hx hb dX5_isNeededBeside_66 rfl (lv_at hl 3 rfl) ?_
            refine lv_bipush (v := iI (30)) hx hb dX5_isNeededBeside_67 (by decide) ?_
            refine xr_icmp_ge (tgt := 89) hx hb dX5_isNeededBeside_69 (by decide) (by omega) (by omega) (fun h56 => ?_) (fun h56 => ?_)
            · skip
              refine lv_iconst (v := iI (0)) hx hb dX5_isNeededBeside_89 rfl ?_
              exact xe_zb hx hb hr hlk hsH dX5_isNeededBeside_90 (by unfold mBeside; omega)
            · skip
              refine lv_aload_n hx hb dX5_isNeededBeside_72 rfl (lv_at hl 2 rfl) ?_
              refine xg_906 (v := mu 906 0) hx hb hw5 hown hK hR (md_5 hG) (hts _ kw_754) rfl dX5_isNeededBeside_73 ?_
              have q57 : mu 906 0 = 0 := mh_906 hG
              rw [q57, rv_p (Int.le_refl 0)]
              refine lv_iload_n hx hb dX5_isNeededBeside_76 rfl (lv_at hl 3 rfl) ?_
              refine lv_bipush (v := iI (6)) hx hb dX5_isNeededBeside_77 (by decide) ?_
              refine xr_iadd hx hb dX5_isNeededBeside_79 ?_
              refine xa_1006 (v := mu 1006 (x + 6)) hx hb hK hR (md_26 hG) (by omega) rfl dX5_isNeededBeside_80 ?_
              have g58 := mr_1006 hG (x + 6)
              refine lv_iconst (v := iI (-1)) hx hb dX5_isNeededBeside_81 rfl ?_
              refine xr_icmp_eq (tgt := 89) hx hb dX5_isNeededBeside_82 (by decide) (by omega) (by omega) (fun h59 => ?_) (fun h59 => ?_)
              · skip
                refine lv_iconst (v := iI (0)) hx hb dX5_isNeededBeside_89 rfl ?_
                exact xe_zb hx hb hr hlk hsH dX5_isNeededBeside_90 (by unfold mBeside; omega)
              · skip
                refine lv_iconst (v := iI (1)) hx hb dX5_isNeededBeside_85 rfl ?_
                refine lv_goto (tgt := 90) hx hb dX5_isNeededBeside_86 (by decide) ?_
                exact xe_zb hx hb hr hlk hsH dX5_isNeededBeside_90 (by unfold mBeside; omega)
          · skip
            refine lv_aload_n hx hb dX5_isNeededBeside_53 rfl (lv_at hl 2 rfl) ?_
            refine xg_906 (v := mu 906 0) hx hb hw5 hown hK hR (md_5 hG) (hts _ kw_754) rfl dX5_isNeededBeside_54 ?_
            have q60 : mu 906 0 = 0 := mh_906 hG
            rw [q60, rv_p (Int.le_refl 0)]
            refine lv_iload_n hx hb dX5_isNeededBeside_57 rfl (lv_at hl 3 rfl) ?_
            refine lv_bipush (v := iI (6)) hx hb dX5_isNeededBeside_58 (by decide) ?_
            refine xr_isub hx hb dX5_isNeededBeside_60 ?_
            refine xa_1006 (v := mu 1006 (x - 6)) hx hb hK hR (md_26 hG) (by omega) rfl dX5_isNeededBeside_61 ?_
            have g61 := mr_1006 hG (x - 6)
            refine lv_iconst (v := iI (-1)) hx hb dX5_isNeededBeside_62 rfl ?_
            refine xr_icmp_ne (tgt := 85) hx hb dX5_isNeededBeside_63 (by decide) (by omega) (by omega) (fun h62 => ?_) (fun h62 => ?_)
            · skip
              refine lv_iconst (v := iI (1)) hx hb dX5_isNeededBeside_85 rfl ?_
              refine lv_goto (tgt := 90) hx hb dX5_isNeededBeside_86 (by decide) ?_
              exact xe_zb hx hb hr hlk hsH dX5_isNeededBeside_90 (by unfold mBeside; omega)
            · skip
              refine lv_iload_n hx hb dX5_isNeededBeside_66 rfl (lv_at hl 3 rfl) ?_
              refine lv_bipush (v := iI (30)) hx hb dX5_isNeededBeside_67 (by decide) ?_
              refine xr_icmp_ge (tgt := 89) hx hb dX5_isNeededBeside_69 (by decide) (by omega) (by omega) (fun h63 => ?_) (fun h63 => ?_)
              · skip
                refine lv_iconst (v := iI (0)) hx hb dX5_isNeededBeside_89 rfl ?_
                exact xe_zb hx hb hr hlk hsH dX5_isNeededBeside_90 (by unfold mBeside; omega)
              · skip
                refine lv_aload_n hx hb dX5_isNeededBeside_72 rfl (lv_at hl 2 rfl) ?_
                refine xg_906 (v := mu 906 0) hx hb hw5 hown hK hR (md_5 hG) (hts _ kw_754) rfl dX5_isNeededBeside_73 ?_
                have q64 : mu 906 0 = 0 := mh_906 hG
                rw [q64, rv_p (Int.le_refl 0)]
                refine lv_iload_n hx hb dX5_isNeededBeside_76 rfl (lv_at hl 3 rfl) ?_
                refine lv_bipush (v := iI (6)) hx hb dX5_isNeededBeside_77 (by decide) ?_
                refine xr_iadd hx hb dX5_isNeededBeside_79 ?_
                refine xa_1006 (v := mu 1006 (x + 6)) hx hb hK hR (md_26 hG) (by omega) rfl dX5_isNeededBeside_80 ?_
                have g65 := mr_1006 hG (x + 6)
                refine lv_iconst (v := iI (-1)) hx hb dX5_isNeededBeside_81 rfl ?_
                refine xr_icmp_eq (tgt := 89) hx hb dX5_isNeededBeside_82 (by decide) (by omega) (by omega) (fun h66 => ?_) (fun h66 => ?_)
                · skip
                  refine lv_iconst (v := iI (0)) hx hb dX5_isNeededBeside_89 rfl ?_
                  exact xe_zb hx hb hr hlk hsH dX5_isNeededBeside_90 (by unfold mBeside; omega)
                · skip
                  refine lv_iconst (v := iI (1)) hx hb dX5_isNeededBeside_85 rfl ?_
                  refine lv_goto (tgt := 90) hx hb dX5_isNeededBeside_86 (by decide) ?_
                  exact xe_zb hx hb hr hlk hsH dX5_isNeededBeside_90 (by unfold mBeside; omega)
        · skip
          refine lv_iconst (v := iI (1)) hx hb dX5_isNeededBeside_38 rfl ?_
          refine lv_goto (tgt := 43) hx hb dX5_isNeededBeside_39 (by decide) ?_
          refine lv_istore_n (i := 3) (lv' := [(3, .int (iI (1))), (2, .int (iI (x % 6))), (0, .ref (ad 5 (0))), (1, .int (iI (x)))]) hx hb dX5_isNeededBeside_43 rfl hl (by decide) rfl (fun ls hl => ?_)
          refine lv_iload_n hx hb dX5_isNeededBeside_44 rfl (lv_at hl 0 rfl) ?_
          refine xr_if_ne (tgt := 85) hx hb dX5_isNeededBeside_45 (by decide) (by decide) (fun _ => ?_) (fun h67 => absurd h67 (by decide))
          refine lv_iconst (v := iI (1)) hx hb dX5_isNeededBeside_85 rfl ?_
          refine lv_goto (tgt := 90) hx hb dX5_isNeededBeside_86 (by decide) ?_
          exact xe_zb hx hb hr hlk hsH dX5_isNeededBeside_90 (by unfold mBeside; omega)
theorem ms_X5_neededBy : MVi RX5 yX5_neededBy cX5_neededBy 5 (some .int) 2 := ⟨kw_941, kw_940, kp_34, kw_4, rfl, by decide, by decide, by decide +kernel⟩
set_option maxRecDepth 100000 in
set_option maxHeartbeats 4000000 in
theorem c_X5_neededBy {l : Launch} {D : va_G} {cy : Nat → ClassId} {A : Nat → Prop} {ad : Nat → Int → Nat} {mu : Nat → Int → Int} {H : Heap} (hR : RM D cy A ad mu H) (hG : GM mu)  (w : Int) (b : Int) (h_w : in32 w) (hb01 : 0 ≤ b ∧ b ≤ 1) : Met l yX5_neededBy (Cond.code yX5_neededBy cX5_neededBy 5 (some .int) :: wG) (rmF 0 0 0 0) (Pc D cy H [.ref (ad 5 (0)), .int (iI (w)), .int (iI (b))]) (Qp (.int (iI (mNeed mu w b)))) 0 0 Kn := by
  refine met_of (la := [(0, .ref (ad 5 (0))), (1, .int (iI (w))), (2, .int (iI (b)))]) (by decide) (Nat.le_of_ble_eq_true rfl) rfl ?_
  intro p e R s m args below meth c ls hRm hx hb hml hr hlk hin hown hts hsH hK hl
  subst hRm
  have hown : s.vm.findClass "TakinghallModel" = some m.cls := hown
  have hw5 : ∀ w ∈ u_ws RX5 TX5 35, w.before args s = true := fun w h => hts w (uw_X5 w h)
  refine lv_iconst (v := iI (0)) hx hb dX5_neededBy_0 rfl ?_
  refine lv_istore_n (i := 3) (lv' := [(3, .int (iI (0))), (0, .ref (ad 5 (0))), (1, .int (iI (w))), (2, .int (iI (b)))]) hx hb dX5_neededBy_1 rfl hl (by decide) rfl (fun ls hl => ?_)
  refine lv_iconst (v := iI (0)) hx hb dX5_neededBy_2 rfl ?_
  refine lv_istore (i := 4) (lv' := [(4, .int (iI (0))), (3, .int (iI (0))), (0, .ref (ad 5 (0))), (1, .int (iI (w))), (2, .int (iI (b)))]) hx hb dX5_neededBy_3 hl (by decide) rfl (fun ls hl => ?_)
  have loop5 : ∀ (n : Nat) (i : Int) (acc : Int), 0 ≤ i → i ≤ 36 → acc = sumN (fun q => bI (mu 1006 q = w ∧ (b = 0 ∨ mu 1005 q = 0))) i.toNat → (36 - i).toNat < n → ∀ ls : Array Slot, lv_has ls 5 [(0, .ref (ad 5 (0))), (1, .int (iI (w))), (2, .int (iI (b))), (3, .int (iI (acc))), (4, .int (iI (i)))] → W p l e (rmF 0 0 0 0) s m args below meth c H [] 0 0 (MQ below (Qp (.int (iI (mNeed mu w b)))) args s 0 0 Kn) (F0 m 5 ls []) := by
    intro n
    induction n with
    | zero =>
      intro i acc hi0 hi1 hacc hn ls hl
      exact absurd hn (Nat.not_lt_zero _)
    | succ n ih =>
      intro i acc hi0 hi1 hacc hn ls hl
      refine lv_iload hx hb dX5_neededBy_5 (lv_at hl 4 rfl) ?_
      refine lv_bipush (v := iI (36)) hx hb dX5_neededBy_7 (by decide) ?_
      refine xr_icmp_ge (tgt := 51) hx hb dX5_neededBy_9 (by decide) (by omega) (by omega) (fun h1 => ?_) (fun h1 => ?_)
      · skip
        refine lv_iload_n hx hb dX5_neededBy_51 rfl (lv_at hl 3 rfl) ?_
        exact xe_i hx hb hr hlk hsH dX5_neededBy_52 (by have e : i = 36 := (by omega); subst e; exact hacc)
      · skip
        refine lv_iload_n hx hb dX5_neededBy_12 rfl (lv_at hl 3 rfl) ?_
        refine lv_aload_n hx hb dX5_neededBy_13 rfl (lv_at hl 0 rfl) ?_
        refine xg_906 (v := mu 906 0) hx hb hw5 hown hK hR (md_5 hG) (hts _ kw_754) rfl dX5_neededBy_14 ?_
        have q2 : mu 906 0 = 0 := mh_906 hG
        rw [q2, rv_p (Int.le_refl 0)]
        refine lv_iload hx hb dX5_neededBy_17 (lv_at hl 4 rfl) ?_
        refine xa_1006 (v := mu 1006 i) hx hb hK hR (md_26 hG) (by omega) rfl dX5_neededBy_19 ?_
        have g3 := mr_1006 hG (i)
        refine lv_iload_n hx hb dX5_neededBy_20 rfl (lv_at hl 1 rfl) ?_
        refine xr_icmp_ne (tgt := 42) hx hb dX5_neededBy_21 (by decide) (by omega) (by omega) (fun h4 => ?_) (fun h4 => ?_)
        · skip
          refine lv_iconst (v := iI (0)) hx hb dX5_neededBy_42 rfl ?_
          refine xr_iadd hx hb dX5_neededBy_43 ?_
          refine lv_istore_n (i := 3) (lv' := [(3, .int (iI (acc + 0))), (0, .ref (ad 5 (0))), (1, .int (iI (w))), (2, .int (iI (b))), (4, .int (iI (i)))]) hx hb dX5_neededBy_44 rfl hl (by decide) rfl (fun ls hl => ?_)
          refine lv_iinc (v := iI (i + (1))) (lv' := [(4, .int (iI (i + (1)))), (3, .int (iI (acc + 0))), (0, .ref (ad 5 (0))), (1, .int (iI (w))), (2, .int (iI (b)))]) hx hb dX5_neededBy_45 hl (k := 4) rfl (iI_add _ _) (by decide) rfl (fun ls hl => ?_)
          refine lv_goto (tgt := 5) hx hb dX5_neededBy_48 (by decide) ?_
          exact ih (i + 1) (acc + 0) (by omega) (by omega) (sum_t hi0 hacc (by first | exact (bI_t (by first | omega | grind)).symm | exact (bI_f (by first | omega | grind)).symm)) (by omega) ls (lv_sub hl [2, 3, 4, 1, 0] rfl)
        · skip
          refine lv_iload_n hx hb dX5_neededBy_24 rfl (lv_at hl 2 rfl) ?_
          refine xr_if_eq (tgt := 38) hx hb dX5_neededBy_25 (by decide) (by omega) (fun h5 => ?_) (fun h5 => ?_)
          · skip
            refine lv_iconst (v := iI (1)) hx hb dX5_neededBy_38 rfl ?_
            refine lv_goto (tgt := 43) hx hb dX5_neededBy_39 (by decide) ?_
            refine xr_iadd hx hb dX5_neededBy_43 ?_
            refine lv_istore_n (i := 3) (lv' := [(3, .int (iI (acc + 1))), (0, .ref (ad 5 (0))), (1, .int (iI (w))), (2, .int (iI (b))), (4, .int (iI (i)))]) hx hb dX5_neededBy_44 rfl hl (by decide) rfl (fun ls hl => ?_)
            refine lv_iinc (v := iI (i + (1))) (lv' := [(4, .int (iI (i + (1)))), (3, .int (iI (acc + 1))), (0, .ref (ad 5 (0))), (1, .int (iI (w))), (2, .int (iI (b)))]) hx hb dX5_neededBy_45 hl (k := 4) rfl (iI_add _ _) (by decide) rfl (fun ls hl => ?_)
            refine lv_goto (tgt := 5) hx hb dX5_neededBy_48 (by decide) ?_
            exact ih (i + 1) (acc + 1) (by omega) (by omega) (sum_t hi0 hacc (by first | exact (bI_t (by first | omega | grind)).symm | exact (bI_f (by first | omega | grind)).symm)) (by omega) ls (lv_sub hl [2, 3, 4, 1, 0] rfl)
          · skip
            refine lv_aload_n hx hb dX5_neededBy_28 rfl (lv_at hl 0 rfl) ?_
            refine xg_905 (v := mu 905 0) hx hb hw5 hown hK hR (md_5 hG) (hts _ kw_753) rfl dX5_neededBy_29 ?_
            have q6 : mu 905 0 = 0 := mh_905 hG
            rw [q6, rv_p (Int.le_refl 0)]
            refine lv_iload hx hb dX5_neededBy_32 (lv_at hl 4 rfl) ?_
            refine xa_1005 (v := mu 1005 i) hx hb hK hR (md_25 hG) (by omega) rfl dX5_neededBy_34 ?_
            have g7 := mr_1005 hG (i)
            refine xr_if_ne (tgt := 42) hx hb dX5_neededBy_35 (by decide) (by omega) (fun h8 => ?_) (fun h8 => ?_)
            · skip
              refine lv_iconst (v := iI (0)) hx hb dX5_neededBy_42 rfl ?_
              refine xr_iadd hx hb dX5_neededBy_43 ?_
              refine lv_istore_n (i := 3) (lv' := [(3, .int (iI (acc + 0))), (0, .ref (ad 5 (0))), (1, .int (iI (w))), (2, .int (iI (b))), (4, .int (iI (i)))]) hx hb dX5_neededBy_44 rfl hl (by decide) rfl (fun ls hl => ?_)
              refine lv_iinc (v := iI (i + (1))) (lv' := [(4, .int (iI (i + (1)))), (3, .int (iI (acc + 0))), (0, .ref (ad 5 (0))), (1, .int (iI (w))), (2, .int (iI (b)))]) hx hb dX5_neededBy_45 hl (k := 4) rfl (iI_add _ _) (by decide) rfl (fun ls hl => ?_)
              refine lv_goto (tgt := 5) hx hb dX5_neededBy_48 (by decide) ?_
              exact ih (i + 1) (acc + 0) (by omega) (by omega) (sum_t hi0 hacc (by first | exact (bI_t (by first | omega | grind)).symm | exact (bI_f (by first | omega | grind)).symm)) (by omega) ls (lv_sub hl [2, 3, 4, 1, 0] rfl)
            · skip
              refine lv_iconst (v := iI (1)) hx hb dX5_neededBy_38 rfl ?_
              refine lv_goto (tgt := 43) hx hb dX5_neededBy_39 (by decide) ?_
              refine xr_iadd hx hb dX5_neededBy_43 ?_
              refine lv_istore_n (i := 3) (lv' := [(3, .int (iI (acc + 1))), (0, .ref (ad 5 (0))), (1, .int (iI (w))), (2, .int (iI (b))), (4, .int (iI (i)))]) hx hb dX5_neededBy_44 rfl hl (by decide) rfl (fun ls hl => ?_)
              refine lv_iinc (v := iI (i + (1))) (lv' := [(4, .int (iI (i + (1)))), (3, .int (iI (acc + 1))), (0, .ref (ad 5 (0))), (1, .int (iI (w))), (2, .int (iI (b)))]) hx hb dX5_neededBy_45 hl (k := 4) rfl (iI_add _ _) (by decide) rfl (fun ls hl => ?_)
              refine lv_goto (tgt := 5) hx hb dX5_neededBy_48 (by decide) ?_
              exact ih (i + 1) (acc + 1) (by omega) (by omega) (sum_t hi0 hacc (by first | exact (bI_t (by first | omega | grind)).symm | exact (bI_f (by first | omega | grind)).symm)) (by omega) ls (lv_sub hl [2, 3, 4, 1, 0] rfl)
  exact loop5 _ 0 0 (by decide) (by omega) rfl (Nat.lt_succ_self _) ls (lv_sub hl [2, 3, 4, 1, 0] rfl)
theorem ms_X5_isDrafted : MVi RX5 yX5_isDrafted cX5_isDrafted 3 (some .boolean) 1 := ⟨kw_949, kw_948, kp_35, kw_4, rfl, by decide, by decide, by decide +kernel⟩
set_option maxRecDepth 100000 in
set_option maxHeartbeats 4000000 in
theorem c_X5_isDrafted {l : Launch} {D : va_G} {cy : Nat → ClassId} {A : Nat → Prop} {ad : Nat → Int → Nat} {mu : Nat → Int → Int} {H : Heap} (hR : RM D cy A ad mu H) (hG : GM mu)  (i : Int) (h1 : 0 ≤ i ∧ i ≤ 23) : Met l yX5_isDrafted (Cond.code yX5_isDrafted cX5_isDrafted 3 (some .boolean) :: wG) (rmF 0 0 0 0) (Pc D cy H [.ref (ad 5 (0)), .int (iI (i))]) (Qp (.int (iI (bI (mDraft mu i))))) 0 0 Kn := by
  refine met_of (la := [(0, .ref (ad 5 (0))), (1, .int (iI (i)))]) (by decide) (Nat.le_of_ble_eq_true rfl) rfl ?_
  intro p e R s m args below meth c ls hRm hx hb hml hr hlk hin hown hts hsH hK hl
  subst hRm
  have hown : s.vm.findClass "TakinghallModel" = some m.cls := hown
  have hw5 : ∀ w ∈ u_ws RX5 TX5 35, w.before args s = true := fun w h => hts w (uw_X5 w h)
  refine lv_aload_n hx hb dX5_isDrafted_0 rfl (lv_at hl 0 rfl) ?_
  refine xg_915 (v := mu 915 0) hx hb hw5 hown hK hR (md_5 hG) (hts _ kw_763) rfl dX5_isDrafted_1 ?_
  have q1 : mu 915 0 = 0 := mh_915 hG
  rw [q1, rv_p (Int.le_refl 0)]
  refine lv_iload_n hx hb dX5_isDrafted_4 rfl (lv_at hl 1 rfl) ?_
  refine xa_1015 (v := mu 1015 i) hx hb hK hR (md_35 hG) (by omega) rfl dX5_isDrafted_5 ?_
  have g2 := mr_1015 hG (i)
  refine lv_istore_n (i := 2) (lv' := [(2, .int (iI (mu 1015 i))), (0, .ref (ad 5 (0))), (1, .int (iI (i)))]) hx hb dX5_isDrafted_6 rfl hl (by decide) rfl (fun ls hl => ?_)
  refine lv_aload_n hx hb dX5_isDrafted_7 rfl (lv_at hl 1 rfl) ?_
  refine xg_905 (v := mu 905 0) hx hb hw5 hown hK hR (md_5 hG) (hts _ kw_753) rfl dX5_isDrafted_8 ?_
  have q3 : mu 905 0 = 0 := mh_905 hG
  rw [q3, rv_p (Int.le_refl 0)]
  refine lv_iload_n hx hb dX5_isDrafted_11 rfl (lv_at hl 0 rfl) ?_
  refine xa_1005 (v := mu 1005 (mu 1015 i)) hx hb hK hR (md_25 hG) (by omega) rfl dX5_isDrafted_12 ?_
  have g4 := mr_1005 hG (mu 1015 i)
  refine xr_if_ne (tgt := 44) hx hb dX5_isDrafted_13 (by decide) (by omega) (fun h5 => ?_) (fun h5 => ?_)
  · skip
    refine lv_iconst (v := iI (0)) hx hb dX5_isDrafted_44 rfl ?_
    exact xe_zb hx hb hr hlk hsH dX5_isDrafted_45 (by unfold mDraft; omega)
  · skip
    refine lv_aload_n hx hb dX5_isDrafted_16 rfl (lv_at hl 1 rfl) ?_
    refine xg_906 (v := mu 906 0) hx hb hw5 hown hK hR (md_5 hG) (hts _ kw_754) rfl dX5_isDrafted_17 ?_
    have q6 : mu 906 0 = 0 := mh_906 hG
    rw [q6, rv_p (Int.le_refl 0)]
    refine lv_iload_n hx hb dX5_isDrafted_20 rfl (lv_at hl 0 rfl) ?_
    refine xa_1006 (v := mu 1006 (mu 1015 i)) hx hb hK hR (md_26 hG) (by omega) rfl dX5_isDrafted_21 ?_
    have g7 := mr_1006 hG (mu 1015 i)
    refine lv_iconst (v := iI (-1)) hx hb dX5_isDrafted_22 rfl ?_
    refine xr_icmp_eq (tgt := 44) hx hb dX5_isDrafted_23 (by decide) (by omega) (by omega) (fun h8 => ?_) (fun h8 => ?_)
    · skip
      refine lv_iconst (v := iI (0)) hx hb dX5_isDrafted_44 rfl ?_
      exact xe_zb hx hb hr hlk hsH dX5_isDrafted_45 (by unfold mDraft; omega)
    · skip
      refine lv_aload_n hx hb dX5_isDrafted_26 rfl (lv_at hl 1 rfl) ?_
      refine xg_929 (v := mu 929 0) hx hb hw5 hown hK hR (md_5 hG) (hts _ kw_777) rfl dX5_isDrafted_27 ?_
      have q9 : mu 929 0 = 0 := mh_929 hG
      rw [q9, rv_p (Int.le_refl 0)]
      refine lv_aload_n hx hb dX5_isDrafted_30 rfl (lv_at hl 1 rfl) ?_
      refine xg_906 (v := mu 906 0) hx hb hw5 hown hK hR (md_5 hG) (hts _ kw_754) rfl dX5_isDrafted_31 ?_
      have q10 : mu 906 0 = 0 := mh_906 hG
      rw [q10, rv_p (Int.le_refl 0)]
      refine lv_iload_n hx hb dX5_isDrafted_34 rfl (lv_at hl 0 rfl) ?_
      refine xa_1006 (v := mu 1006 (mu 1015 i)) hx hb hK hR (md_26 hG) (by omega) rfl dX5_isDrafted_35 ?_
      refine xa_1029 (v := mu 1029 (mu 1006 (mu 1015 i))) hx hb hK hR (md_49 hG) (by omega) rfl dX5_isDrafted_36 ?_
      have g11 := mr_1029 hG (mu 1006 (mu 1015 i))
      refine xr_if_ne (tgt := 44) hx hb dX5_isDrafted_37 (by decide) (by omega) (fun h12 => ?_) (fun h12 => ?_)
      · skip
        refine lv_iconst (v := iI (0)) hx hb dX5_isDrafted_44 rfl ?_
        exact xe_zb hx hb hr hlk hsH dX5_isDrafted_45 (by unfold mDraft; omega)
      · skip
        refine lv_iconst (v := iI (1)) hx hb dX5_isDrafted_40 rfl ?_
        refine lv_goto (tgt := 45) hx hb dX5_isDrafted_41 (by decide) ?_
        exact xe_zb hx hb hr hlk hsH dX5_isDrafted_45 (by unfold mDraft; omega)
theorem ms_X5_openOf : MVi RX5 yX5_openOf cX5_openOf 4 (some .int) 1 := ⟨kw_957, kw_956, kp_36, kw_4, rfl, by decide, by decide, by decide +kernel⟩
set_option maxRecDepth 100000 in
set_option maxHeartbeats 4000000 in
theorem c_X5_openOf {l : Launch} {D : va_G} {cy : Nat → ClassId} {A : Nat → Prop} {ad : Nat → Int → Nat} {mu : Nat → Int → Int} {H : Heap} (hR : RM D cy A ad mu H) (hG : GM mu)  (w : Int) (h_w : in32 w) : Met l yX5_openOf (Cond.code yX5_openOf cX5_openOf 4 (some .int) :: wG) (rmF 0 0 0 0) (Pc D cy H [.ref (ad 5 (0)), .int (iI (w))]) (Qp (.int (iI (mOpen mu w)))) 0 0 Kn := by
  refine met_of (la := [(0, .ref (ad 5 (0))), (1, .int (iI (w)))]) (by decide) (Nat.le_of_ble_eq_true rfl) rfl ?_
  intro p e R s m args below meth c ls hRm hx hb hml hr hlk hin hown hts hsH hK hl
  subst hRm
  have hown : s.vm.findClass "TakinghallModel" = some m.cls := hown
  have hw5 : ∀ w ∈ u_ws RX5 TX5 35, w.before args s = true := fun w h => hts w (uw_X5 w h)
  have g913 := mr_913 hG 0
  refine lv_iconst (v := iI (0)) hx hb dX5_openOf_0 rfl ?_
  refine lv_istore_n (i := 2) (lv' := [(2, .int (iI (0))), (0, .ref (ad 5 (0))), (1, .int (iI (w)))]) hx hb dX5_openOf_1 rfl hl (by decide) rfl (fun ls hl => ?_)
  refine lv_iconst (v := iI (0)) hx hb dX5_openOf_2 rfl ?_
  refine lv_istore_n (i := 3) (lv' := [(3, .int (iI (0))), (2, .int (iI (0))), (0, .ref (ad 5 (0))), (1, .int (iI (w)))]) hx hb dX5_openOf_3 rfl hl (by decide) rfl (fun ls hl => ?_)
  have loop4 : ∀ (n : Nat) (i : Int) (acc : Int), 0 ≤ i → i ≤ mu 913 0 → acc = sumN (fun q => bI (mu 1020 q = 1 ∧ mu 1005 (mu 1015 q) = 0 ∧ mu 1006 (mu 1015 q) = w)) i.toNat → (mu 913 0 - i).toNat < n → ∀ ls : Array Slot, lv_has ls 4 [(0, .ref (ad 5 (0))), (1, .int (iI (w))), (2, .int (iI (acc))), (3, .int (iI (i)))] → W p l e (rmF 0 0 0 0) s m args below meth c H [] 0 0 (MQ below (Qp (.int (iI (mOpen mu w)))) args s 0 0 Kn) (F0 m 4 ls []) := by
    intro n
    induction n with
    | zero =>
      intro i acc hi0 hi1 hacc hn ls hl
      exact absurd hn (Nat.not_lt_zero _)
    | succ n ih =>
      intro i acc hi0 hi1 hacc hn ls hl
      refine lv_iload_n hx hb dX5_openOf_4 rfl (lv_at hl 3 rfl) ?_
      refine lv_aload_n hx hb dX5_openOf_5 rfl (lv_at hl 0 rfl) ?_
      refine xg_913 (v := mu 913 0) hx hb hw5 hown hK hR (md_5 hG) (hts _ kw_761) rfl dX5_openOf_6 ?_
      have g1 := mr_913 hG (0)
      refine xr_icmp_ge (tgt := 65) hx hb dX5_openOf_9 (by decide) (by omega) (by omega) (fun h2 => ?_) (fun h2 => ?_)
      · skip
        refine lv_iload_n hx hb dX5_openOf_65 rfl (lv_at hl 2 rfl) ?_
        exact xe_i hx hb hr hlk hsH dX5_openOf_66 (by have e : i = mu 913 0 := (by omega); rw [e] at hacc; exact hacc)
      · skip
        refine lv_iload_n hx hb dX5_openOf_12 rfl (lv_at hl 2 rfl) ?_
        refine lv_aload_n hx hb dX5_openOf_13 rfl (lv_at hl 0 rfl) ?_
        refine xg_920 (v := mu 920 0) hx hb hw5 hown hK hR (md_5 hG) (hts _ kw_768) rfl dX5_openOf_14 ?_
        have q3 : mu 920 0 = 0 := mh_920 hG
        rw [q3, rv_p (Int.le_refl 0)]
        refine lv_iload_n hx hb dX5_openOf_17 rfl (lv_at hl 3 rfl) ?_
        refine xa_1020 (v := mu 1020 i) hx hb hK hR (md_40 hG) (by omega) rfl dX5_openOf_18 ?_
        have g4 := mr_1020 hG (i)
        refine lv_iconst (v := iI (1)) hx hb dX5_openOf_19 rfl ?_
        refine xr_icmp_ne (tgt := 56) hx hb dX5_openOf_20 (by decide) (by omega) (by omega) (fun h5 => ?_) (fun h5 => ?_)
        · skip
          refine lv_iconst (v := iI (0)) hx hb dX5_openOf_56 rfl ?_
          refine xr_iadd hx hb dX5_openOf_57 ?_
          refine lv_istore_n (i := 2) (lv' := [(2, .int (iI (acc + 0))), (0, .ref (ad 5 (0))), (1, .int (iI (w))), (3, .int (iI (i)))]) hx hb dX5_openOf_58 rfl hl (by decide) rfl (fun ls hl => ?_)
          refine lv_iinc (v := iI (i + (1))) (lv' := [(3, .int (iI (i + (1)))), (2, .int (iI (acc + 0))), (0, .ref (ad 5 (0))), (1, .int (iI (w)))]) hx hb dX5_openOf_59 hl (k := 3) rfl (iI_add _ _) (by decide) rfl (fun ls hl => ?_)
          refine lv_goto (tgt := 4) hx hb dX5_openOf_62 (by decide) ?_
          exact ih (i + 1) (acc + 0) (by omega) (by omega) (sum_t hi0 hacc (by first | exact (bI_t (by first | omega | grind)).symm | exact (bI_f (by first | omega | grind)).symm)) (by omega) ls (lv_sub hl [2, 3, 1, 0] rfl)
        · skip
          refine lv_aload_n hx hb dX5_openOf_23 rfl (lv_at hl 0 rfl) ?_
          refine xg_905 (v := mu 905 0) hx hb hw5 hown hK hR (md_5 hG) (hts _ kw_753) rfl dX5_openOf_24 ?_
          have q6 : mu 905 0 = 0 := mh_905 hG
          rw [q6, rv_p (Int.le_refl 0)]
          refine lv_aload_n hx hb dX5_openOf_27 rfl (lv_at hl 0 rfl) ?_
          refine xg_915 (v := mu 915 0) hx hb hw5 hown hK hR (md_5 hG) (hts _ kw_763) rfl dX5_openOf_28 ?_
          have q7 : mu 915 0 = 0 := mh_915 hG
          rw [q7, rv_p (Int.le_refl 0)]
          refine lv_iload_n hx hb dX5_openOf_31 rfl (lv_at hl 3 rfl) ?_
          refine xa_1015 (v := mu 1015 i) hx hb hK hR (md_35 hG) (by omega) rfl dX5_openOf_32 ?_
          have g8 := mr_1015 hG (i)
          refine xa_1005 (v := mu 1005 (mu 1015 i)) hx hb hK hR (md_25 hG) (by omega) rfl dX5_openOf_33 ?_
          have g9 := mr_1005 hG (mu 1015 i)
          refine xr_if_ne (tgt := 56) hx hb dX5_openOf_34 (by decide) (by omega) (fun h10 => ?_) (fun h10 => ?_)
          · skip
            refine lv_iconst (v := iI (0)) hx hb dX5_openOf_56 rfl ?_
            refine xr_iadd hx hb dX5_openOf_57 ?_
            refine lv_istore_n (i := 2) (lv' := [(2, .int (iI (acc + 0))), (0, .ref (ad 5 (0))), (1, .int (iI (w))), (3, .int (iI (i)))]) hx hb dX5_openOf_58 rfl hl (by decide) rfl (fun ls hl => ?_)
            refine lv_iinc (v := iI (i + (1))) (lv' := [(3, .int (iI (i + (1)))), (2, .int (iI (acc + 0))), (0, .ref (ad 5 (0))), (1, .int (iI (w)))]) hx hb dX5_openOf_59 hl (k := 3) rfl (iI_add _ _) (by decide) rfl (fun ls hl => ?_)
            refine lv_goto (tgt := 4) hx hb dX5_openOf_62 (by decide) ?_
            exact ih (i + 1) (acc + 0) (by omega) (by omega) (sum_t hi0 hacc (by first | exact (bI_t (by first | omega | grind)).symm | exact (bI_f (by first | omega | grind)).symm)) (by omega) ls (lv_sub hl [2, 3, 1, 0] rfl)
          · skip
            refine lv_aload_n hx hb dX5_openOf_37 rfl (lv_at hl 0 rfl) ?_
            refine xg_906 (v := mu 906 0) hx hb hw5 hown hK hR (md_5 hG) (hts _ kw_754) rfl dX5_openOf_38 ?_
            have q11 : mu 906 0 = 0 := mh_906 hG
            rw [q11, rv_p (Int.le_refl 0)]
            refine lv_aload_n hx hb dX5_openOf_41 rfl (lv_at hl 0 rfl) ?_
            refine xg_915 (v := mu 915 0) hx hb hw5 hown hK hR (md_5 hG) (hts _ kw_763) rfl dX5_openOf_42 ?_
            have q12 : mu 915 0 = 0 := mh_915 hG
            rw [q12, rv_p (Int.le_refl 0)]
            refine lv_iload_n hx hb dX5_openOf_45 rfl (lv_at hl 3 rfl) ?_
            refine xa_1015 (v := mu 1015 i) hx hb hK hR (md_35 hG) (by omega) rfl dX5_openOf_46 ?_
            refine xa_1006 (v := mu 1006 (mu 1015 i)) hx hb hK hR (md_26 hG) (by omega) rfl dX5_openOf_47 ?_
            have g13 := mr_1006 hG (mu 1015 i)
            refine lv_iload_n hx hb dX5_openOf_48 rfl (lv_at hl 1 rfl) ?_
            refine xr_icmp_ne (tgt := 56) hx hb dX5_openOf_49 (by decide) (by omega) (by omega) (fun h14 => ?_) (fun h14 => ?_)
            · skip
              refine lv_iconst (v := iI (0)) hx hb dX5_openOf_56 rfl ?_
              refine xr_iadd hx hb dX5_openOf_57 ?_
              refine lv_istore_n (i := 2) (lv' := [(2, .int (iI (acc + 0))), (0, .ref (ad 5 (0))), (1, .int (iI (w))), (3, .int (iI (i)))]) hx hb dX5_openOf_58 rfl hl (by decide) rfl (fun ls hl => ?_)
              refine lv_iinc (v := iI (i + (1))) (lv' := [(3, .int (iI (i + (1)))), (2, .int (iI (acc + 0))), (0, .ref (ad 5 (0))), (1, .int (iI (w)))]) hx hb dX5_openOf_59 hl (k := 3) rfl (iI_add _ _) (by decide) rfl (fun ls hl => ?_)
              refine lv_goto (tgt := 4) hx hb dX5_openOf_62 (by decide) ?_
              exact ih (i + 1) (acc + 0) (by omega) (by omega) (sum_t hi0 hacc (by first | exact (bI_t (by first | omega | grind)).symm | exact (bI_f (by first | omega | grind)).symm)) (by omega) ls (lv_sub hl [2, 3, 1, 0] rfl)
            · skip
              refine lv_iconst (v := iI (1)) hx hb dX5_openOf_52 rfl ?_
              refine lv_goto (tgt := 57) hx hb dX5_openOf_53 (by decide) ?_
              refine xr_iadd hx hb dX5_openOf_57 ?_
              refine lv_istore_n (i := 2) (lv' := [(2, .int (iI (acc + 1))), (0, .ref (ad 5 (0))), (1, .int (iI (w))), (3, .int (iI (i)))]) hx hb dX5_openOf_58 rfl hl (by decide) rfl (fun ls hl => ?_)
              refine lv_iinc (v := iI (i + (1))) (lv' := [(3, .int (iI (i + (1)))), (2, .int (iI (acc + 1))), (0, .ref (ad 5 (0))), (1, .int (iI (w)))]) hx hb dX5_openOf_59 hl (k := 3) rfl (iI_add _ _) (by decide) rfl (fun ls hl => ?_)
              refine lv_goto (tgt := 4) hx hb dX5_openOf_62 (by decide) ?_
              exact ih (i + 1) (acc + 1) (by omega) (by omega) (sum_t hi0 hacc (by first | exact (bI_t (by first | omega | grind)).symm | exact (bI_f (by first | omega | grind)).symm)) (by omega) ls (lv_sub hl [2, 3, 1, 0] rfl)
  exact loop4 _ 0 0 (by decide) (by omega) rfl (Nat.lt_succ_self _) ls (lv_sub hl [2, 3, 1, 0] rfl)
theorem ms_X5_stopper : MVi RX5 yX5_stopper cX5_stopper 4 (some .int) 1 := ⟨kw_973, kw_972, kp_38, kw_4, rfl, by decide, by decide, by decide +kernel⟩
set_option maxRecDepth 100000 in
set_option maxHeartbeats 4000000 in
theorem c_X5_stopper {l : Launch} {D : va_G} {cy : Nat → ClassId} {A : Nat → Prop} {ad : Nat → Int → Nat} {mu : Nat → Int → Int} {H : Heap} (hR : RM D cy A ad mu H) (hG : GM mu)  (w : Int) (h_w : in32 w) : Met l yX5_stopper (Cond.code yX5_stopper cX5_stopper 4 (some .int) :: wG) (rmF 0 0 0 0) (Pc D cy H [.ref (ad 5 (0)), .int (iI (w))]) (Qp (.int (iI (mStopper mu w)))) 0 0 Kn := by
  refine met_of (la := [(0, .ref (ad 5 (0))), (1, .int (iI (w)))]) (by decide) (Nat.le_of_ble_eq_true rfl) rfl ?_
  intro p e R s m args below meth c ls hRm hx hb hml hr hlk hin hown hts hsH hK hl
  subst hRm
  have hown : s.vm.findClass "TakinghallModel" = some m.cls := hown
  have hw5 : ∀ w ∈ u_ws RX5 TX5 35, w.before args s = true := fun w h => hts w (uw_X5 w h)
  have g913 := mr_913 hG 0
  refine lv_iconst (v := iI (0)) hx hb dX5_stopper_0 rfl ?_
  refine lv_istore_n (i := 2) (lv' := [(2, .int (iI (0))), (0, .ref (ad 5 (0))), (1, .int (iI (w)))]) hx hb dX5_stopper_1 rfl hl (by decide) rfl (fun ls hl => ?_)
  have loop2 : ∀ (n : Nat) (i : Int), 0 ≤ i → i ≤ mu 913 0 → low (mStops mu w) i.toNat = -1 → (mu 913 0 - i).toNat < n → ∀ ls : Array Slot, lv_has ls 4 [(0, .ref (ad 5 (0))), (1, .int (iI (w))), (2, .int (iI (i)))] → W p l e (rmF 0 0 0 0) s m args below meth c H [] 0 0 (MQ below (Qp (.int (iI (mStopper mu w)))) args s 0 0 Kn) (F0 m 2 ls []) := by
    intro n
    induction n with
    | zero =>
      intro i hi0 hi1 hlow hn ls hl
      exact absurd hn (Nat.not_lt_zero _)
    | succ n ih =>
      intro i hi0 hi1 hlow hn ls hl
      refine lv_iload_n hx hb dX5_stopper_2 rfl (lv_at hl 2 rfl) ?_
      refine lv_aload_n hx hb dX5_stopper_3 rfl (lv_at hl 0 rfl) ?_
      refine xg_913 (v := mu 913 0) hx hb hw5 hown hK hR (md_5 hG) (hts _ kw_761) rfl dX5_stopper_4 ?_
      have g1 := mr_913 hG (0)
      refine xr_icmp_ge (tgt := 116) hx hb dX5_stopper_7 (by decide) (by omega) (by omega) (fun h2 => ?_) (fun h2 => ?_)
      · skip
        refine lv_iconst (v := iI (-1)) hx hb dX5_stopper_116 rfl ?_
        exact xe_i hx hb hr hlk hsH dX5_stopper_117 (by first | exact (low_hit (N := (mu 913 0).toNat) hi0 (by omega) hlow (by unfold mStops; first | omega | grind)).symm | (have e : i = mu 913 0 := (by omega); rw [e] at hlow; exact hlow.symm))
      · skip
        refine lv_aload_n hx hb dX5_stopper_10 rfl (lv_at hl 0 rfl) ?_
        refine xg_905 (v := mu 905 0) hx hb hw5 hown hK hR (md_5 hG) (hts _ kw_753) rfl dX5_stopper_11 ?_
        have q3 : mu 905 0 = 0 := mh_905 hG
        rw [q3, rv_p (Int.le_refl 0)]
        refine lv_aload_n hx hb dX5_stopper_14 rfl (lv_at hl 0 rfl) ?_
        refine xg_915 (v := mu 915 0) hx hb hw5 hown hK hR (md_5 hG) (hts _ kw_763) rfl dX5_stopper_15 ?_
        have q4 : mu 915 0 = 0 := mh_915 hG
        rw [q4, rv_p (Int.le_refl 0)]
        refine lv_iload_n hx hb dX5_stopper_18 rfl (lv_at hl 2 rfl) ?_
        refine xa_1015 (v := mu 1015 i) hx hb hK hR (md_35 hG) (by omega) rfl dX5_stopper_19 ?_
        have g5 := mr_1015 hG (i)
        refine xa_1005 (v := mu 1005 (mu 1015 i)) hx hb hK hR (md_25 hG) (by omega) rfl dX5_stopper_20 ?_
        have g6 := mr_1005 hG (mu 1015 i)
        refine xr_if_ne (tgt := 66) hx hb dX5_stopper_21 (by decide) (by omega) (fun h7 => ?_) (fun h7 => ?_)
        · skip
          refine lv_iconst (v := iI (0)) hx hb dX5_stopper_66 rfl ?_
          refine lv_istore_n (i := 3) (lv' := [(3, .int (iI (0))), (0, .ref (ad 5 (0))), (1, .int (iI (w))), (2, .int (iI (i)))]) hx hb dX5_stopper_67 rfl hl (by decide) rfl (fun ls hl => ?_)
          refine lv_iload_n hx hb dX5_stopper_68 rfl (lv_at hl 0 rfl) ?_
          refine xr_if_eq (tgt := 110) hx hb dX5_stopper_69 (by decide) (by decide) (fun _ => ?_) (fun h8 => absurd h8 (by decide))
          refine lv_iinc (v := iI (i + (1))) (lv' := [(2, .int (iI (i + (1)))), (3, .int (iI (0))), (0, .ref (ad 5 (0))), (1, .int (iI (w)))]) hx hb dX5_stopper_110 hl (k := 3) rfl (iI_add _ _) (by decide) rfl (fun ls hl => ?_)
          refine lv_goto (tgt := 2) hx hb dX5_stopper_113 (by decide) ?_
          exact ih (i + 1) (by omega) (by omega) (low_no hi0 hlow (by unfold mStops; first | omega | grind)) (by omega) ls (lv_sub hl [2, 3, 0] rfl)
        · skip
          refine lv_aload_n hx hb dX5_stopper_24 rfl (lv_at hl 0 rfl) ?_
          refine xg_906 (v := mu 906 0) hx hb hw5 hown hK hR (md_5 hG) (hts _ kw_754) rfl dX5_stopper_25 ?_
          have q9 : mu 906 0 = 0 := mh_906 hG
          rw [q9, rv_p (Int.le_refl 0)]
          refine lv_aload_n hx hb dX5_stopper_28 rfl (lv_at hl 0 rfl) ?_
          refine xg_915 (v := mu 915 0) hx hb hw5 hown hK hR (md_5 hG) (hts _ kw_763) rfl dX5_stopper_29 ?_
          have q10 : mu 915 0 = 0 := mh_915 hG
          rw [q10, rv_p (Int.le_refl 0)]
          refine lv_iload_n hx hb dX5_stopper_32 rfl (lv_at hl 2 rfl) ?_
          refine xa_1015 (v := mu 1015 i) hx hb hK hR (md_35 hG) (by omega) rfl dX5_stopper_33 ?_
          refine xa_1006 (v := mu 1006 (mu 1015 i)) hx hb hK hR (md_26 hG) (by omega) rfl dX5_stopper_34 ?_
          have g11 := mr_1006 hG (mu 1015 i)
          refine lv_iload_n hx hb dX5_stopper_35 rfl (lv_at hl 1 rfl) ?_
          refine xr_icmp_ne (tgt := 66) hx hb dX5_stopper_36 (by decide) (by omega) (by omega) (fun h12 => ?_) (fun h12 => ?_)
          · skip
            refine lv_iconst (v := iI (0)) hx hb dX5_stopper_66 rfl ?_
            refine lv_istore_n (i := 3) (lv' := [(3, .int (iI (0))), (0, .ref (ad 5 (0))), (1, .int (iI (w))), (2, .int (iI (i)))]) hx hb dX5_stopper_67 rfl hl (by decide) rfl (fun ls hl => ?_)
            refine lv_iload_n hx hb dX5_stopper_68 rfl (lv_at hl 0 rfl) ?_
            refine xr_if_eq (tgt := 110) hx hb dX5_stopper_69 (by decide) (by decide) (fun _ => ?_) (fun h13 => absurd h13 (by decide))
            refine lv_iinc (v := iI (i + (1))) (lv' := [(2, .int (iI (i + (1)))), (3, .int (iI (0))), (0, .ref (ad 5 (0))), (1, .int (iI (w)))]) hx hb dX5_stopper_110 hl (k := 3) rfl (iI_add _ _) (by decide) rfl (fun ls hl => ?_)
            refine lv_goto (tgt := 2) hx hb dX5_stopper_113 (by decide) ?_
            exact ih (i + 1) (by omega) (by omega) (low_no hi0 hlow (by unfold mStops; first | omega | grind)) (by omega) ls (lv_sub hl [2, 3, 0] rfl)
          · skip
            refine lv_aload_n hx hb dX5_stopper_39 rfl (lv_at hl 0 rfl) ?_
            refine xg_914 (v := mu 914 0) hx hb hw5 hown hK hR (md_5 hG) (hts _ kw_762) rfl dX5_stopper_40 ?_
            have q14 : mu 914 0 = 0 := mh_914 hG
            rw [q14, rv_p (Int.le_refl 0)]
            refine lv_iload_n hx hb dX5_stopper_43 rfl (lv_at hl 2 rfl) ?_
            refine xa_1014 (v := mu 1014 i) hx hb hK hR (md_34 hG) (by omega) rfl dX5_stopper_44 ?_
            have g15 := mr_1014 hG (i)
            refine lv_iconst (v := iI (1)) hx hb dX5_stopper_45 rfl ?_
            refine xr_icmp_ne (tgt := 62) hx hb dX5_stopper_46 (by decide) (by omega) (by omega) (fun h16 => ?_) (fun h16 => ?_)
            · skip
              refine lv_iconst (v := iI (1)) hx hb dX5_stopper_62 rfl ?_
              refine lv_goto (tgt := 67) hx hb dX5_stopper_63 (by decide) ?_
              refine lv_istore_n (i := 3) (lv' := [(3, .int (iI (1))), (0, .ref (ad 5 (0))), (1, .int (iI (w))), (2, .int (iI (i)))]) hx hb dX5_stopper_67 rfl hl (by decide) rfl (fun ls hl => ?_)
              refine lv_iload_n hx hb dX5_stopper_68 rfl (lv_at hl 0 rfl) ?_
              refine xr_if_eq (tgt := 110) hx hb dX5_stopper_69 (by decide) (by decide) (fun h17 => absurd h17 (by decide)) (fun _ => ?_)
              refine lv_aload_n hx hb dX5_stopper_72 rfl (lv_at hl 1 rfl) ?_
              refine xg_919 (v := mu 919 0) hx hb hw5 hown hK hR (md_5 hG) (hts _ kw_767) rfl dX5_stopper_73 ?_
              have q18 : mu 919 0 = 0 := mh_919 hG
              rw [q18, rv_p (Int.le_refl 0)]
              refine lv_iload_n hx hb dX5_stopper_76 rfl (lv_at hl 3 rfl) ?_
              refine xa_1019 (v := mu 1019 i) hx hb hK hR (md_39 hG) (by omega) rfl dX5_stopper_77 ?_
              have g19 := mr_1019 hG (i)
              refine lv_iconst (v := iI (-1)) hx hb dX5_stopper_78 rfl ?_
              refine xr_icmp_eq (tgt := 108) hx hb dX5_stopper_79 (by decide) (by omega) (by omega) (fun h20 => ?_) (fun h20 => ?_)
              · skip
                refine lv_iload_n hx hb dX5_stopper_108 rfl (lv_at hl 3 rfl) ?_
                exact xe_i hx hb hr hlk hsH dX5_stopper_109 (by first | exact (low_hit (N := (mu 913 0).toNat) hi0 (by omega) hlow (by unfold mStops; first | omega | grind)).symm | (have e : i = mu 913 0 := (by omega); rw [e] at hlow; exact hlow.symm))
              · skip
                refine lv_aload_n hx hb dX5_stopper_82 rfl (lv_at hl 1 rfl) ?_
                refine xg_901 (v := mu 901 0) hx hb hw5 hown hK hR (md_5 hG) (hts _ kw_749) rfl dX5_stopper_83 ?_
                have g21 := mr_901 hG (0)
                refine lv_aload_n hx hb dX5_stopper_86 rfl (lv_at hl 1 rfl) ?_
                refine xg_919 (v := mu 919 0) hx hb hw5 hown hK hR (md_5 hG) (hts _ kw_767) rfl dX5_stopper_87 ?_
                have q22 : mu 919 0 = 0 := mh_919 hG
                rw [q22, rv_p (Int.le_refl 0)]
                refine lv_iload_n hx hb dX5_stopper_90 rfl (lv_at hl 3 rfl) ?_
                refine xa_1019 (v := mu 1019 i) hx hb hK hR (md_39 hG) (by omega) rfl dX5_stopper_91 ?_
                refine xr_isub hx hb dX5_stopper_92 ?_
                refine lv_bipush (v := iI (21)) hx hb dX5_stopper_93 (by decide) ?_
                refine xr_icmp_lt (tgt := 108) hx hb dX5_stopper_95 (by decide) (by omega) (by omega) (fun h23 => ?_) (fun h23 => ?_)
                · skip
                  refine lv_iload_n hx hb dX5_stopper_108 rfl (lv_at hl 3 rfl) ?_
                  exact xe_i hx hb hr hlk hsH dX5_stopper_109 (by first | exact (low_hit (N := (mu 913 0).toNat) hi0 (by omega) hlow (by unfold mStops; first | omega | grind)).symm | (have e : i = mu 913 0 := (by omega); rw [e] at hlow; exact hlow.symm))
                · skip
                  refine lv_aload_n hx hb dX5_stopper_98 rfl (lv_at hl 1 rfl) ?_
                  refine xg_920 (v := mu 920 0) hx hb hw5 hown hK hR (md_5 hG) (hts _ kw_768) rfl dX5_stopper_99 ?_
                  have q24 : mu 920 0 = 0 := mh_920 hG
                  rw [q24, rv_p (Int.le_refl 0)]
                  refine lv_iload_n hx hb dX5_stopper_102 rfl (lv_at hl 3 rfl) ?_
                  refine xa_1020 (v := mu 1020 i) hx hb hK hR (md_40 hG) (by omega) rfl dX5_stopper_103 ?_
                  have g25 := mr_1020 hG (i)
                  refine lv_iconst (v := iI (1)) hx hb dX5_stopper_104 rfl ?_
                  refine xr_icmp_ne (tgt := 110) hx hb dX5_stopper_105 (by decide) (by omega) (by omega) (fun h26 => ?_) (fun h26 => ?_)
                  · skip
                    refine lv_iinc (v := iI (i + (1))) (lv' := [(2, .int (iI (i + (1)))), (3, .int (iI (1))), (0, .ref (ad 5 (0))), (1, .int (iI (w)))]) hx hb dX5_stopper_110 hl (k := 3) rfl (iI_add _ _) (by decide) rfl (fun ls hl => ?_)
                    refine lv_goto (tgt := 2) hx hb dX5_stopper_113 (by decide) ?_
                    exact ih (i + 1) (by omega) (by omega) (low_no hi0 hlow (by unfold mStops; first | omega | grind)) (by omega) ls (lv_sub hl [2, 3, 0] rfl)
                  · skip
                    refine lv_iload_n hx hb dX5_stopper_108 rfl (lv_at hl 3 rfl) ?_
                    exact xe_i hx hb hr hlk hsH dX5_stopper_109 (by first | exact (low_hit (N := (mu 913 0).toNat) hi0 (by omega) hlow (by unfold mStops; first | omega | grind)).symm | (have e : i = mu 913 0 := (by omega); rw [e] at hlow; exact hlow.symm))
            · skip
              refine lv_aload_n hx hb dX5_stopper_49 rfl (lv_at hl 0 rfl) ?_
              refine xg_918 (v := mu 918 0) hx hb hw5 hown hK hR (md_5 hG) (hts _ kw_766) rfl dX5_stopper_50 ?_
              have q27 : mu 918 0 = 0 := mh_918 hG
              rw [q27, rv_p (Int.le_refl 0)]
              refine lv_iload_n hx hb dX5_stopper_53 rfl (lv_at hl 2 rfl) ?_
              refine xa_1018 (v := mu 1018 i) hx hb hK hR (md_38 hG) (by omega) rfl dX5_stopper_54 ?_
              have g28 := mr_1018 hG (i)
              refine lv_aload_n hx hb dX5_stopper_55 rfl (lv_at hl 0 rfl) ?_
              refine xg_901 (v := mu 901 0) hx hb hw5 hown hK hR (md_5 hG) (hts _ kw_749) rfl dX5_stopper_56 ?_
              have g29 := mr_901 hG (0)
              refine xr_icmp_le (tgt := 66) hx hb dX5_stopper_59 (by decide) (by omega) (by omega) (fun h30 => ?_) (fun h30 => ?_)
              · skip
                refine lv_iconst (v := iI (0)) hx hb dX5_stopper_66 rfl ?_
                refine lv_istore_n (i := 3) (lv' := [(3, .int (iI (0))), (0, .ref (ad 5 (0))), (1, .int (iI (w))), (2, .int (iI (i)))]) hx hb dX5_stopper_67 rfl hl (by decide) rfl (fun ls hl => ?_)
                refine lv_iload_n hx hb dX5_stopper_68 rfl (lv_at hl 0 rfl) ?_
                refine xr_if_eq (tgt := 110) hx hb dX5_stopper_69 (by decide) (by decide) (fun _ => ?_) (fun h31 => absurd h31 (by decide))
                refine lv_iinc (v := iI (i + (1))) (lv' := [(2, .int (iI (i + (1)))), (3, .int (iI (0))), (0, .ref (ad 5 (0))), (1, .int (iI (w)))]) hx hb dX5_stopper_110 hl (k := 3) rfl (iI_add _ _) (by decide) rfl (fun ls hl => ?_)
                refine lv_goto (tgt := 2) hx hb dX5_stopper_113 (by decide) ?_
                exact ih (i + 1) (by omega) (by omega) (low_no hi0 hlow (by unfold mStops; first | omega | grind)) (by omega) ls (lv_sub hl [2, 3, 0] rfl)
              · skip
                refine lv_iconst (v := iI (1)) hx hb dX5_stopper_62 rfl ?_
                refine lv_goto (tgt := 67) hx hb dX5_stopper_63 (by decide) ?_
                refine lv_istore_n (i := 3) (lv' := [(3, .int (iI (1))), (0, .ref (ad 5 (0))), (1, .int (iI (w))), (2, .int (iI (i)))]) hx hb dX5_stopper_67 rfl hl (by decide) rfl (fun ls hl => ?_)
                refine lv_iload_n hx hb dX5_stopper_68 rfl (lv_at hl 0 rfl) ?_
                refine xr_if_eq (tgt := 110) hx hb dX5_stopper_69 (by decide) (by decide) (fun h32 => absurd h32 (by decide)) (fun _ => ?_)
                refine lv_aload_n hx hb dX5_stopper_72 rfl (lv_at hl 1 rfl) ?_
                refine xg_919 (v := mu 919 0) hx hb hw5 hown hK hR (md_5 hG) (hts _ kw_767) rfl dX5_stopper_73 ?_
                have q33 : mu 919 0 = 0 := mh_919 hG
                rw [q33, rv_p (Int.le_refl 0)]
                refine lv_iload_n hx hb dX5_stopper_76 rfl (lv_at hl 3 rfl) ?_
                refine xa_1019 (v := mu 1019 i) hx hb hK hR (md_39 hG) (by omega) rfl dX5_stopper_77 ?_
                have g34 := mr_1019 hG (i)
                refine lv_iconst (v := iI (-1)) hx hb dX5_stopper_78 rfl ?_
                refine xr_icmp_eq (tgt := 108) hx hb dX5_stopper_79 (by decide) (by omega) (by omega) (fun h35 => ?_) (fun h35 => ?_)
                · skip
                  refine lv_iload_n hx hb dX5_stopper_108 rfl (lv_at hl 3 rfl) ?_
                  exact xe_i hx hb hr hlk hsH dX5_stopper_109 (by first | exact (low_hit (N := (mu 913 0).toNat) hi0 (by omega) hlow (by unfold mStops; first | omega | grind)).symm | (have e : i = mu 913 0 := (by omega); rw [e] at hlow; exact hlow.symm))
                · skip
                  refine lv_aload_n hx hb dX5_stopper_82 rfl (lv_at hl 1 rfl) ?_
                  refine xg_901 (v := mu 901 0) hx hb hw5 hown hK hR (md_5 hG) (hts _ kw_749) rfl dX5_stopper_83 ?_
                  refine lv_aload_n hx hb dX5_stopper_86 rfl (lv_at hl 1 rfl) ?_
                  refine xg_919 (v := mu 919 0) hx hb hw5 hown hK hR (md_5 hG) (hts _ kw_767) rfl dX5_stopper_87 ?_
                  have q36 : mu 919 0 = 0 := mh_919 hG
                  rw [q36, rv_p (Int.le_refl 0)]
                  refine lv_iload_n hx hb dX5_stopper_90 rfl (lv_at hl 3 rfl) ?_
                  refine xa_1019 (v := mu 1019 i) hx hb hK hR (md_39 hG) (by omega) rfl dX5_stopper_91 ?_
                  refine xr_isub hx hb dX5_stopper_92 ?_
                  refine lv_bipush (v := iI (21)) hx hb dX5_stopper_93 (by decide) ?_
                  refine xr_icmp_lt (tgt := 108) hx hb dX5_stopper_95 (by decide) (by omega) (by omega) (fun h37 => ?_) (fun h37 => ?_)
                  · skip
                    refine lv_iload_n hx hb dX5_stopper_108 rfl (lv_at hl 3 rfl) ?_
                    exact xe_i hx hb hr hlk hsH dX5_stopper_109 (by first | exact (low_hit (N := (mu 913 0).toNat) hi0 (by omega) hlow (by unfold mStops; first | omega | grind)).symm | (have e : i = mu 913 0 := (by omega); rw [e] at hlow; exact hlow.symm))
                  · skip
                    refine lv_aload_n hx hb dX5_stopper_98 rfl (lv_at hl 1 rfl) ?_
                    refine xg_920 (v := mu 920 0) hx hb hw5 hown hK hR (md_5 hG) (hts _ kw_768) rfl dX5_stopper_99 ?_
                    have q38 : mu 920 0 = 0 := mh_920 hG
                    rw [q38, rv_p (Int.le_refl 0)]
                    refine lv_iload_n hx hb dX5_stopper_102 rfl (lv_at hl 3 rfl) ?_
                    refine xa_1020 (v := mu 1020 i) hx hb hK hR (md_40 hG) (by omega) rfl dX5_stopper_103 ?_
                    have g39 := mr_1020 hG (i)
                    refine lv_iconst (v := iI (1)) hx hb dX5_stopper_104 rfl ?_
                    refine xr_icmp_ne (tgt := 110) hx hb dX5_stopper_105 (by decide) (by omega) (by omega) (fun h40 => ?_) (fun h40 => ?_)
                    · skip
                      refine lv_iinc (v := iI (i + (1))) (lv' := [(2, .int (iI (i + (1)))), (3, .int (iI (1))), (0, .ref (ad 5 (0))), (1, .int (iI (w)))]) hx hb dX5_stopper_110 hl (k := 3) rfl (iI_add _ _) (by decide) rfl (fun ls hl => ?_)
                      refine lv_goto (tgt := 2) hx hb dX5_stopper_113 (by decide) ?_
                      exact ih (i + 1) (by omega) (by omega) (low_no hi0 hlow (by unfold mStops; first | omega | grind)) (by omega) ls (lv_sub hl [2, 3, 0] rfl)
                    · skip
                      refine lv_iload_n hx hb dX5_stopper_108 rfl (lv_at hl 3 rfl) ?_
                      exact xe_i hx hb hr hlk hsH dX5_stopper_109 (by first | exact (low_hit (N := (mu 913 0).toNat) hi0 (by omega) hlow (by unfold mStops; first | omega | grind)).symm | (have e : i = mu 913 0 := (by omega); rw [e] at hlow; exact hlow.symm))
  exact loop2 _ 0 (by decide) (by omega) rfl (Nat.lt_succ_self _) ls (lv_sub hl [1, 2, 0] rfl)
theorem ms_X5_ownerBehind : MVi RX5 yX5_ownerBehind cX5_ownerBehind 7 (some .int) 2 := ⟨kw_985, kw_984, kp_39, kw_4, rfl, by decide, by decide, by decide +kernel⟩
set_option maxRecDepth 100000 in
set_option maxHeartbeats 4000000 in
theorem c_X5_ownerBehind {l : Launch} {D : va_G} {cy : Nat → ClassId} {A : Nat → Prop} {ad : Nat → Int → Nat} {mu : Nat → Int → Int} {H : Heap} (hR : RM D cy A ad mu H) (hG : GM mu)  (x : Int) (b : Int) (h1 : 0 ≤ x ∧ x ≤ 35) (h2 : -1 ≤ b ∧ b ≤ 23) : Met l yX5_ownerBehind (Cond.code yX5_ownerBehind cX5_ownerBehind 7 (some .int) :: wG) (rmF 0 0 0 0) (Pc D cy H [.ref (ad 5 (0)), .int (iI (x)), .int (iI (b))]) (Qp (.int (iI (mOwnB mu x b)))) 0 0 Kn := by
  refine met_of (la := [(0, .ref (ad 5 (0))), (1, .int (iI (x))), (2, .int (iI (b)))]) (by decide) (Nat.le_of_ble_eq_true rfl) rfl ?_
  intro p e R s m args below meth c ls hRm hx hb hml hr hlk hin hown hts hsH hK hl
  subst hRm
  have hown : s.vm.findClass "TakinghallModel" = some m.cls := hown
  have hw5 : ∀ w ∈ u_ws RX5 TX5 35, w.before args s = true := fun w h => hts w (uw_X5 w h)
  have g913 := mr_913 hG 0
  refine lv_iconst (v := iI (-1)) hx hb dX5_ownerBehind_0 rfl ?_
  refine lv_istore_n (i := 3) (lv' := [(3, .int (iI (-1))), (0, .ref (ad 5 (0))), (1, .int (iI (x))), (2, .int (iI (b)))]) hx hb dX5_ownerBehind_1 rfl hl (by decide) rfl (fun ls hl => ?_)
  refine lv_iconst (v := iI (0)) hx hb dX5_ownerBehind_2 rfl ?_
  refine lv_istore (i := 4) (lv' := [(4, .int (iI (0))), (3, .int (iI (-1))), (0, .ref (ad 5 (0))), (1, .int (iI (x))), (2, .int (iI (b)))]) hx hb dX5_ownerBehind_3 hl (by decide) rfl (fun ls hl => ?_)
  have loop5 : ∀ (n : Nat) (i : Int) (acc : Int), 0 ≤ i → i ≤ mu 913 0 → acc = mOwnN mu x b (i.toNat) → (mu 913 0 - i).toNat < n → ∀ ls : Array Slot, lv_has ls 7 [(0, .ref (ad 5 (0))), (1, .int (iI (x))), (2, .int (iI (b))), (3, .int (iI (acc))), (4, .int (iI (i)))] → W p l e (rmF 0 0 0 0) s m args below meth c H [] 0 0 (MQ below (Qp (.int (iI (mOwnB mu x b)))) args s 0 0 Kn) (F0 m 5 ls []) := by
    intro n
    induction n with
    | zero =>
      intro i acc hi0 hi1 hacc hn ls hl
      exact absurd hn (Nat.not_lt_zero _)
    | succ n ih =>
      intro i acc hi0 hi1 hacc hn ls hl
      have hrg := mOwn_rng (mu := mu) (p := x) (b := b) i.toNat
      rw [← hacc] at hrg
      refine lv_iload hx hb dX5_ownerBehind_5 (lv_at hl 4 rfl) ?_
      refine lv_aload_n hx hb dX5_ownerBehind_7 rfl (lv_at hl 0 rfl) ?_
      refine xg_913 (v := mu 913 0) hx hb hw5 hown hK hR (md_5 hG) (hts _ kw_761) rfl dX5_ownerBehind_8 ?_
      have g1 := mr_913 hG (0)
      refine xr_icmp_ge (tgt := 136) hx hb dX5_ownerBehind_11 (by decide) (by omega) (by omega) (fun h2 => ?_) (fun h2 => ?_)
      · skip
        refine lv_iload_n hx hb dX5_ownerBehind_136 rfl (lv_at hl 3 rfl) ?_
        exact xe_i hx hb hr hlk hsH dX5_ownerBehind_137 (by have e : i = mu 913 0 := (by omega); rw [e] at hacc; exact hacc)
      · skip
        refine lv_aload_n hx hb dX5_ownerBehind_14 rfl (lv_at hl 0 rfl) ?_
        refine xg_914 (v := mu 914 0) hx hb hw5 hown hK hR (md_5 hG) (hts _ kw_762) rfl dX5_ownerBehind_15 ?_
        have q3 : mu 914 0 = 0 := mh_914 hG
        rw [q3, rv_p (Int.le_refl 0)]
        refine lv_iload hx hb dX5_ownerBehind_18 (lv_at hl 4 rfl) ?_
        refine xa_1014 (v := mu 1014 i) hx hb hK hR (md_34 hG) (by omega) rfl dX5_ownerBehind_20 ?_
        have g4 := mr_1014 hG (i)
        refine xr_if_ne (tgt := 39) hx hb dX5_ownerBehind_21 (by decide) (by omega) (fun h5 => ?_) (fun h5 => ?_)
        · skip
          refine lv_iconst (v := iI (0)) hx hb dX5_ownerBehind_39 rfl ?_
          refine lv_istore (i := 5) (lv' := [(5, .int (iI (0))), (0, .ref (ad 5 (0))), (1, .int (iI (x))), (2, .int (iI (b))), (3, .int (iI (acc))), (4, .int (iI (i)))]) hx hb dX5_ownerBehind_40 hl (by decide) rfl (fun ls hl => ?_)
          refine lv_iload_n hx hb dX5_ownerBehind_42 rfl (lv_at hl 3 rfl) ?_
          refine lv_iconst (v := iI (-1)) hx hb dX5_ownerBehind_43 rfl ?_
          refine xr_icmp_eq (tgt := 85) hx hb dX5_ownerBehind_44 (by decide) (by omega) (by omega) (fun h6 => ?_) (fun h6 => ?_)
          · skip
            refine lv_iconst (v := iI (1)) hx hb dX5_ownerBehind_85 rfl ?_
            refine lv_goto (tgt := 90) hx hb dX5_ownerBehind_86 (by decide) ?_
            refine lv_istore (i := 6) (lv' := [(6, .int (iI (1))), (5, .int (iI (0))), (0, .ref (ad 5 (0))), (1, .int (iI (x))), (2, .int (iI (b))), (3, .int (iI (acc))), (4, .int (iI (i)))]) hx hb dX5_ownerBehind_90 hl (by decide) rfl (fun ls hl => ?_)
            refine lv_iload hx hb dX5_ownerBehind_92 (lv_at hl 1 rfl) ?_
            refine xr_if_eq (tgt := 128) hx hb dX5_ownerBehind_94 (by decide) (by decide) (fun _ => ?_) (fun h7 => absurd h7 (by decide))
            refine lv_iload_n hx hb dX5_ownerBehind_128 rfl (lv_at hl 5 rfl) ?_
            refine lv_istore_n (i := 3) (lv' := [(3, .int (iI (acc))), (6, .int (iI (1))), (5, .int (iI (0))), (0, .ref (ad 5 (0))), (1, .int (iI (x))), (2, .int (iI (b))), (4, .int (iI (i)))]) hx hb dX5_ownerBehind_129 rfl hl (by decide) rfl (fun ls hl => ?_)
            refine lv_iinc (v := iI (i + (1))) (lv' := [(4, .int (iI (i + (1)))), (3, .int (iI (acc))), (6, .int (iI (1))), (5, .int (iI (0))), (0, .ref (ad 5 (0))), (1, .int (iI (x))), (2, .int (iI (b)))]) hx hb dX5_ownerBehind_130 hl (k := 6) rfl (iI_add _ _) (by decide) rfl (fun ls hl => ?_)
            refine lv_goto (tgt := 5) hx hb dX5_ownerBehind_133 (by decide) ?_
            exact ih (i + 1) acc (by omega) (by omega) (by rw [mOwn_s hi0, ← hacc]; unfold mBeh; first | exact (if_pos (by first | omega | grind)).symm | exact (if_neg (by first | omega | grind)).symm) (by omega) ls (lv_sub hl [4, 5, 6, 1, 0] rfl)
          · skip
            refine lv_aload_n hx hb dX5_ownerBehind_47 rfl (lv_at hl 1 rfl) ?_
            refine xg_918 (v := mu 918 0) hx hb hw5 hown hK hR (md_5 hG) (hts _ kw_766) rfl dX5_ownerBehind_48 ?_
            have q8 : mu 918 0 = 0 := mh_918 hG
            rw [q8, rv_p (Int.le_refl 0)]
            refine lv_iload hx hb dX5_ownerBehind_51 (lv_at hl 5 rfl) ?_
            refine xa_1018 (v := mu 1018 i) hx hb hK hR (md_38 hG) (by omega) rfl dX5_ownerBehind_53 ?_
            have g9 := mr_1018 hG (i)
            refine lv_aload_n hx hb dX5_ownerBehind_54 rfl (lv_at hl 1 rfl) ?_
            refine xg_918 (v := mu 918 0) hx hb hw5 hown hK hR (md_5 hG) (hts _ kw_766) rfl dX5_ownerBehind_55 ?_
            have q10 : mu 918 0 = 0 := mh_918 hG
            rw [q10, rv_p (Int.le_refl 0)]
            refine lv_iload_n hx hb dX5_ownerBehind_58 rfl (lv_at hl 3 rfl) ?_
            refine xa_1018 (v := mu 1018 b) hx hb hK hR (md_38 hG) (by omega) rfl dX5_ownerBehind_59 ?_
            have g11 := mr_1018 hG (b)
            refine xr_icmp_lt (tgt := 85) hx hb dX5_ownerBehind_60 (by decide) (by omega) (by omega) (fun h12 => ?_) (fun h12 => ?_)
            · skip
              refine lv_iconst (v := iI (1)) hx hb dX5_ownerBehind_85 rfl ?_
              refine lv_goto (tgt := 90) hx hb dX5_ownerBehind_86 (by decide) ?_
              refine lv_istore (i := 6) (lv' := [(6, .int (iI (1))), (5, .int (iI (0))), (0, .ref (ad 5 (0))), (1, .int (iI (x))), (2, .int (iI (b))), (3, .int (iI (acc))), (4, .int (iI (i)))]) hx hb dX5_ownerBehind_90 hl (by decide) rfl (fun ls hl => ?_)
              refine lv_iload hx hb dX5_ownerBehind_92 (lv_at hl 1 rfl) ?_
              refine xr_if_eq (tgt := 128) hx hb dX5_ownerBehind_94 (by decide) (by decide) (fun _ => ?_) (fun h13 => absurd h13 (by decide))
              refine lv_iload_n hx hb dX5_ownerBehind_128 rfl (lv_at hl 5 rfl) ?_
              refine lv_istore_n (i := 3) (lv' := [(3, .int (iI (acc))), (6, .int (iI (1))), (5, .int (iI (0))), (0, .ref (ad 5 (0))), (1, .int (iI (x))), (2, .int (iI (b))), (4, .int (iI (i)))]) hx hb dX5_ownerBehind_129 rfl hl (by decide) rfl (fun ls hl => ?_)
              refine lv_iinc (v := iI (i + (1))) (lv' := [(4, .int (iI (i + (1)))), (3, .int (iI (acc))), (6, .int (iI (1))), (5, .int (iI (0))), (0, .ref (ad 5 (0))), (1, .int (iI (x))), (2, .int (iI (b)))]) hx hb dX5_ownerBehind_130 hl (k := 6) rfl (iI_add _ _) (by decide) rfl (fun ls hl => ?_)
              refine lv_goto (tgt := 5) hx hb dX5_ownerBehind_133 (by decide) ?_
              exact ih (i + 1) acc (by omega) (by omega) (by rw [mOwn_s hi0, ← hacc]; unfold mBeh; first | exact (if_pos (by first | omega | grind)).symm | exact (if_neg (by first | omega | grind)).symm) (by omega) ls (lv_sub hl [4, 5, 6, 1, 0] rfl)
            · skip
              refine lv_aload_n hx hb dX5_ownerBehind_63 rfl (lv_at hl 1 rfl) ?_
              refine xg_918 (v := mu 918 0) hx hb hw5 hown hK hR (md_5 hG) (hts _ kw_766) rfl dX5_ownerBehind_64 ?_
              have q14 : mu 918 0 = 0 := mh_918 hG
              rw [q14, rv_p (Int.le_refl 0)]
              refine lv_iload hx hb dX5_ownerBehind_67 (lv_at hl 5 rfl) ?_
              refine xa_1018 (v := mu 1018 i) hx hb hK hR (md_38 hG) (by omega) rfl dX5_ownerBehind_69 ?_
              refine lv_aload_n hx hb dX5_ownerBehind_70 rfl (lv_at hl 1 rfl) ?_
              refine xg_918 (v := mu 918 0) hx hb hw5 hown hK hR (md_5 hG) (hts _ kw_766) rfl dX5_ownerBehind_71 ?_
              have q15 : mu 918 0 = 0 := mh_918 hG
              rw [q15, rv_p (Int.le_refl 0)]
              refine lv_iload_n hx hb dX5_ownerBehind_74 rfl (lv_at hl 3 rfl) ?_
              refine xa_1018 (v := mu 1018 b) hx hb hK hR (md_38 hG) (by omega) rfl dX5_ownerBehind_75 ?_
              refine xr_icmp_ne (tgt := 89) hx hb dX5_ownerBehind_76 (by decide) (by omega) (by omega) (fun h16 => ?_) (fun h16 => ?_)
              · skip
                refine lv_iconst (v := iI (0)) hx hb dX5_ownerBehind_89 rfl ?_
                refine lv_istore (i := 6) (lv' := [(6, .int (iI (0))), (5, .int (iI (0))), (0, .ref (ad 5 (0))), (1, .int (iI (x))), (2, .int (iI (b))), (3, .int (iI (acc))), (4, .int (iI (i)))]) hx hb dX5_ownerBehind_90 hl (by decide) rfl (fun ls hl => ?_)
                refine lv_iload hx hb dX5_ownerBehind_92 (lv_at hl 1 rfl) ?_
                refine xr_if_eq (tgt := 128) hx hb dX5_ownerBehind_94 (by decide) (by decide) (fun _ => ?_) (fun h17 => absurd h17 (by decide))
                refine lv_iload_n hx hb dX5_ownerBehind_128 rfl (lv_at hl 5 rfl) ?_
                refine lv_istore_n (i := 3) (lv' := [(3, .int (iI (acc))), (6, .int (iI (0))), (5, .int (iI (0))), (0, .ref (ad 5 (0))), (1, .int (iI (x))), (2, .int (iI (b))), (4, .int (iI (i)))]) hx hb dX5_ownerBehind_129 rfl hl (by decide) rfl (fun ls hl => ?_)
                refine lv_iinc (v := iI (i + (1))) (lv' := [(4, .int (iI (i + (1)))), (3, .int (iI (acc))), (6, .int (iI (0))), (5, .int (iI (0))), (0, .ref (ad 5 (0))), (1, .int (iI (x))), (2, .int (iI (b)))]) hx hb dX5_ownerBehind_130 hl (k := 6) rfl (iI_add _ _) (by decide) rfl (fun ls hl => ?_)
                refine lv_goto (tgt := 5) hx hb dX5_ownerBehind_133 (by decide) ?_
                exact ih (i + 1) acc (by omega) (by omega) (by rw [mOwn_s hi0, ← hacc]; unfold mBeh; first | exact (if_pos (by first | omega | grind)).symm | exact (if_neg (by first | omega | grind)).symm) (by omega) ls (lv_sub hl [4, 5, 6, 1, 0] rfl)
              · skip
                refine lv_iload hx hb dX5_ownerBehind_79 (lv_at hl 5 rfl) ?_
                refine lv_iload_n hx hb dX5_ownerBehind_81 rfl (lv_at hl 3 rfl) ?_
                refine xr_icmp_le (tgt := 89) hx hb dX5_ownerBehind_82 (by decide) (by omega) (by omega) (fun h18 => ?_) (fun h18 => ?_)
                · skip
                  refine lv_iconst (v := iI (0)) hx hb dX5_ownerBehind_89 rfl ?_
                  refine lv_istore (i := 6) (lv' := [(6, .int (iI (0))), (5, .int (iI (0))), (0, .ref (ad 5 (0))), (1, .int (iI (x))), (2, .int (iI (b))), (3, .int (iI (acc))), (4, .int (iI (i)))]) hx hb dX5_ownerBehind_90 hl (by decide) rfl (fun ls hl => ?_)
                  refine lv_iload hx hb dX5_ownerBehind_92 (lv_at hl 1 rfl) ?_
                  refine xr_if_eq (tgt := 128) hx hb dX5_ownerBehind_94 (by decide) (by decide) (fun _ => ?_) (fun h19 => absurd h19 (by decide))
                  refine lv_iload_n hx hb dX5_ownerBehind_128 rfl (lv_at hl 5 rfl) ?_
                  refine lv_istore_n (i := 3) (lv' := [(3, .int (iI (acc))), (6, .int (iI (0))), (5, .int (iI (0))), (0, .ref (ad 5 (0))), (1, .int (iI (x))), (2, .int (iI (b))), (4, .int (iI (i)))]) hx hb dX5_ownerBehind_129 rfl hl (by decide) rfl (fun ls hl => ?_)
                  refine lv_iinc (v := iI (i + (1))) (lv' := [(4, .int (iI (i + (1)))), (3, .int (iI (acc))), (6, .int (iI (0))), (5, .int (iI (0))), (0, .ref (ad 5 (0))), (1, .int (iI (x))), (2, .int (iI (b)))]) hx hb dX5_ownerBehind_130 hl (k := 6) rfl (iI_add _ _) (by decide) rfl (fun ls hl => ?_)
                  refine lv_goto (tgt := 5) hx hb dX5_ownerBehind_133 (by decide) ?_
                  exact ih (i + 1) acc (by omega) (by omega) (by rw [mOwn_s hi0, ← hacc]; unfold mBeh; first | exact (if_pos (by first | omega | grind)).symm | exact (if_neg (by first | omega | grind)).symm) (by omega) ls (lv_sub hl [4, 5, 6, 1, 0] rfl)
                · skip
                  refine lv_iconst (v := iI (1)) hx hb dX5_ownerBehind_85 rfl ?_
                  refine lv_goto (tgt := 90) hx hb dX5_ownerBehind_86 (by decide) ?_
                  refine lv_istore (i := 6) (lv' := [(6, .int (iI (1))), (5, .int (iI (0))), (0, .ref (ad 5 (0))), (1, .int (iI (x))), (2, .int (iI (b))), (3, .int (iI (acc))), (4, .int (iI (i)))]) hx hb dX5_ownerBehind_90 hl (by decide) rfl (fun ls hl => ?_)
                  refine lv_iload hx hb dX5_ownerBehind_92 (lv_at hl 1 rfl) ?_
                  refine xr_if_eq (tgt := 128) hx hb dX5_ownerBehind_94 (by decide) (by decide) (fun _ => ?_) (fun h20 => absurd h20 (by decide))
                  refine lv_iload_n hx hb dX5_ownerBehind_128 rfl (lv_at hl 5 rfl) ?_
                  refine lv_istore_n (i := 3) (lv' := [(3, .int (iI (acc))), (6, .int (iI (1))), (5, .int (iI (0))), (0, .ref (ad 5 (0))), (1, .int (iI (x))), (2, .int (iI (b))), (4, .int (iI (i)))]) hx hb dX5_ownerBehind_129 rfl hl (by decide) rfl (fun ls hl => ?_)
                  refine lv_iinc (v := iI (i + (1))) (lv' := [(4, .int (iI (i + (1)))), (3, .int (iI (acc))), (6, .int (iI (1))), (5, .int (iI (0))), (0, .ref (ad 5 (0))), (1, .int (iI (x))), (2, .int (iI (b)))]) hx hb dX5_ownerBehind_130 hl (k := 6) rfl (iI_add _ _) (by decide) rfl (fun ls hl => ?_)
                  refine lv_goto (tgt := 5) hx hb dX5_ownerBehind_133 (by decide) ?_
                  exact ih (i + 1) acc (by omega) (by omega) (by rw [mOwn_s hi0, ← hacc]; unfold mBeh; first | exact (if_pos (by first | omega | grind)).symm | exact (if_neg (by first | omega | grind)).symm) (by omega) ls (lv_sub hl [4, 5, 6, 1, 0] rfl)
        · skip
          refine lv_aload_n hx hb dX5_ownerBehind_24 rfl (lv_at hl 0 rfl) ?_
          refine xg_915 (v := mu 915 0) hx hb hw5 hown hK hR (md_5 hG) (hts _ kw_763) rfl dX5_ownerBehind_25 ?_
          have q21 : mu 915 0 = 0 := mh_915 hG
          rw [q21, rv_p (Int.le_refl 0)]
          refine lv_iload hx hb dX5_ownerBehind_28 (lv_at hl 4 rfl) ?_
          refine xa_1015 (v := mu 1015 i) hx hb hK hR (md_35 hG) (by omega) rfl dX5_ownerBehind_30 ?_
          have g22 := mr_1015 hG (i)
          refine lv_iload_n hx hb dX5_ownerBehind_31 rfl (lv_at hl 1 rfl) ?_
          refine xr_icmp_ne (tgt := 39) hx hb dX5_ownerBehind_32 (by decide) (by omega) (by omega) (fun h23 => ?_) (fun h23 => ?_)
          · skip
            refine lv_iconst (v := iI (0)) hx hb dX5_ownerBehind_39 rfl ?_
            refine lv_istore (i := 5) (lv' := [(5, .int (iI (0))), (0, .ref (ad 5 (0))), (1, .int (iI (x))), (2, .int (iI (b))), (3, .int (iI (acc))), (4, .int (iI (i)))]) hx hb dX5_ownerBehind_40 hl (by decide) rfl (fun ls hl => ?_)
            refine lv_iload_n hx hb dX5_ownerBehind_42 rfl (lv_at hl 3 rfl) ?_
            refine lv_iconst (v := iI (-1)) hx hb dX5_ownerBehind_43 rfl ?_
            refine xr_icmp_eq (tgt := 85) hx hb dX5_ownerBehind_44 (by decide) (by omega) (by omega) (fun h24 => ?_) (fun h24 => ?_)
            · skip
              refine lv_iconst (v := iI (1)) hx hb dX5_ownerBehind_85 rfl ?_
              refine lv_goto (tgt := 90) hx hb dX5_ownerBehind_86 (by decide) ?_
              refine lv_istore (i := 6) (lv' := [(6, .int (iI (1))), (5, .int (iI (0))), (0, .ref (ad 5 (0))), (1, .int (iI (x))), (2, .int (iI (b))), (3, .int (iI (acc))), (4, .int (iI (i)))]) hx hb dX5_ownerBehind_90 hl (by decide) rfl (fun ls hl => ?_)
              refine lv_iload hx hb dX5_ownerBehind_92 (lv_at hl 1 rfl) ?_
              refine xr_if_eq (tgt := 128) hx hb dX5_ownerBehind_94 (by decide) (by decide) (fun _ => ?_) (fun h25 => absurd h25 (by decide))
              refine lv_iload_n hx hb dX5_ownerBehind_128 rfl (lv_at hl 5 rfl) ?_
              refine lv_istore_n (i := 3) (lv' := [(3, .int (iI (acc))), (6, .int (iI (1))), (5, .int (iI (0))), (0, .ref (ad 5 (0))), (1, .int (iI (x))), (2, .int (iI (b))), (4, .int (iI (i)))]) hx hb dX5_ownerBehind_129 rfl hl (by decide) rfl (fun ls hl => ?_)
              refine lv_iinc (v := iI (i + (1))) (lv' := [(4, .int (iI (i + (1)))), (3, .int (iI (acc))), (6, .int (iI (1))), (5, .int (iI (0))), (0, .ref (ad 5 (0))), (1, .int (iI (x))), (2, .int (iI (b)))]) hx hb dX5_ownerBehind_130 hl (k := 6) rfl (iI_add _ _) (by decide) rfl (fun ls hl => ?_)
              refine lv_goto (tgt := 5) hx hb dX5_ownerBehind_133 (by decide) ?_
              exact ih (i + 1) acc (by omega) (by omega) (by rw [mOwn_s hi0, ← hacc]; unfold mBeh; first | exact (if_pos (by first | omega | grind)).symm | exact (if_neg (by first | omega | grind)).symm) (by omega) ls (lv_sub hl [4, 5, 6, 1, 0] rfl)
            · skip
              refine lv_aload_n hx hb dX5_ownerBehind_47 rfl (lv_at hl 1 rfl) ?_
              refine xg_918 (v := mu 918 0) hx hb hw5 hown hK hR (md_5 hG) (hts _ kw_766) rfl dX5_ownerBehind_48 ?_
              have q26 : mu 918 0 = 0 := mh_918 hG
              rw [q26, rv_p (Int.le_refl 0)]
              refine lv_iload hx hb dX5_ownerBehind_51 (lv_at hl 5 rfl) ?_
              refine xa_1018 (v := mu 1018 i) hx hb hK hR (md_38 hG) (by omega) rfl dX5_ownerBehind_53 ?_
              have g27 := mr_1018 hG (i)
              refine lv_aload_n hx hb dX5_ownerBehind_54 rfl (lv_at hl 1 rfl) ?_
              refine xg_918 (v := mu 918 0) hx hb hw5 hown hK hR (md_5 hG) (hts _ kw_766) rfl dX5_ownerBehind_55 ?_
              have q28 : mu 918 0 = 0 := mh_918 hG
              rw [q28, rv_p (Int.le_refl 0)]
              refine lv_iload_n hx hb dX5_ownerBehind_58 rfl (lv_at hl 3 rfl) ?_
              refine xa_1018 (v := mu 1018 b) hx hb hK hR (md_38 hG) (by omega) rfl dX5_ownerBehind_59 ?_
              have g29 := mr_1018 hG (b)
              refine xr_icmp_lt (tgt := 85) hx hb dX5_ownerBehind_60 (by decide) (by omega) (by omega) (fun h30 => ?_) (fun h30 => ?_)
              · skip
                refine lv_iconst (v := iI (1)) hx hb dX5_ownerBehind_85 rfl ?_
                refine lv_goto (tgt := 90) hx hb dX5_ownerBehind_86 (by decide) ?_
                refine lv_istore (i := 6) (lv' := [(6, .int (iI (1))), (5, .int (iI (0))), (0, .ref (ad 5 (0))), (1, .int (iI (x))), (2, .int (iI (b))), (3, .int (iI (acc))), (4, .int (iI (i)))]) hx hb dX5_ownerBehind_90 hl (by decide) rfl (fun ls hl => ?_)
                refine lv_iload hx hb dX5_ownerBehind_92 (lv_at hl 1 rfl) ?_
                refine xr_if_eq (tgt := 128) hx hb dX5_ownerBehind_94 (by decide) (by decide) (fun _ => ?_) (fun h31 => absurd h31 (by decide))
                refine lv_iload_n hx hb dX5_ownerBehind_128 rfl (lv_at hl 5 rfl) ?_
                refine lv_istore_n (i := 3) (lv' := [(3, .int (iI (acc))), (6, .int (iI (1))), (5, .int (iI (0))), (0, .ref (ad 5 (0))), (1, .int (iI (x))), (2, .int (iI (b))), (4, .int (iI (i)))]) hx hb dX5_ownerBehind_129 rfl hl (by decide) rfl (fun ls hl => ?_)
                refine lv_iinc (v := iI (i + (1))) (lv' := [(4, .int (iI (i + (1)))), (3, .int (iI (acc))), (6, .int (iI (1))), (5, .int (iI (0))), (0, .ref (ad 5 (0))), (1, .int (iI (x))), (2, .int (iI (b)))]) hx hb dX5_ownerBehind_130 hl (k := 6) rfl (iI_add _ _) (by decide) rfl (fun ls hl => ?_)
                refine lv_goto (tgt := 5) hx hb dX5_ownerBehind_133 (by decide) ?_
                exact ih (i + 1) acc (by omega) (by omega) (by rw [mOwn_s hi0, ← hacc]; unfold mBeh; first | exact (if_pos (by first | omega | grind)).symm | exact (if_neg (by first | omega | grind)).symm) (by omega) ls (lv_sub hl [4, 5, 6, 1, 0] rfl)
              · skip
                refine lv_aload_n hx hb dX5_ownerBehind_63 rfl (lv_at hl 1 rfl) ?_
                refine xg_918 (v := mu 918 0) hx hb hw5 hown hK hR (md_5 hG) (hts _ kw_766) rfl dX5_ownerBehind_64 ?_
                have q32 : mu 918 0 = 0 := mh_918 hG
                rw [q32, rv_p (Int.le_refl 0)]
                refine lv_iload hx hb dX5_ownerBehind_67 (lv_at hl 5 rfl) ?_
                refine xa_1018 (v := mu 1018 i) hx hb hK hR (md_38 hG) (by omega) rfl dX5_ownerBehind_69 ?_
                refine lv_aload_n hx hb dX5_ownerBehind_70 rfl (lv_at hl 1 rfl) ?_
                refine xg_918 (v := mu 918 0) hx hb hw5 hown hK hR (md_5 hG) (hts _ kw_766) rfl dX5_ownerBehind_71 ?_
                have q33 : mu 918 0 = 0 := mh_918 hG
                rw [q33, rv_p (Int.le_refl 0)]
                refine lv_iload_n hx hb dX5_ownerBehind_74 rfl (lv_at hl 3 rfl) ?_
                refine xa_1018 (v := mu 1018 b) hx hb hK hR (md_38 hG) (by omega) rfl dX5_ownerBehind_75 ?_
                refine xr_icmp_ne (tgt := 89) hx hb dX5_ownerBehind_76 (by decide) (by omega) (by omega) (fun h34 => ?_) (fun h34 => ?_)
                · skip
                  refine lv_iconst (v := iI (0)) hx hb dX5_ownerBehind_89 rfl ?_
                  refine lv_istore (i := 6) (lv' := [(6, .int (iI (0))), (5, .int (iI (0))), (0, .ref (ad 5 (0))), (1, .int (iI (x))), (2, .int (iI (b))), (3, .int (iI (acc))), (4, .int (iI (i)))]) hx hb dX5_ownerBehind_90 hl (by decide) rfl (fun ls hl => ?_)
                  refine lv_iload hx hb dX5_ownerBehind_92 (lv_at hl 1 rfl) ?_
                  refine xr_if_eq (tgt := 128) hx hb dX5_ownerBehind_94 (by decide) (by decide) (fun _ => ?_) (fun h35 => absurd h35 (by decide))
                  refine lv_iload_n hx hb dX5_ownerBehind_128 rfl (lv_at hl 5 rfl) ?_
                  refine lv_istore_n (i := 3) (lv' := [(3, .int (iI (acc))), (6, .int (iI (0))), (5, .int (iI (0))), (0, .ref (ad 5 (0))), (1, .int (iI (x))), (2, .int (iI (b))), (4, .int (iI (i)))]) hx hb dX5_ownerBehind_129 rfl hl (by decide) rfl (fun ls hl => ?_)
                  refine lv_iinc (v := iI (i + (1))) (lv' := [(4, .int (iI (i + (1)))), (3, .int (iI (acc))), (6, .int (iI (0))), (5, .int (iI (0))), (0, .ref (ad 5 (0))), (1, .int (iI (x))), (2, .int (iI (b)))]) hx hb dX5_ownerBehind_130 hl (k := 6) rfl (iI_add _ _) (by decide) rfl (fun ls hl => ?_)
                  refine lv_goto (tgt := 5) hx hb dX5_ownerBehind_133 (by decide) ?_
                  exact ih (i + 1) acc (by omega) (by omega) (by rw [mOwn_s hi0, ← hacc]; unfold mBeh; first | exact (if_pos (by first | omega | grind)).symm | exact (if_neg (by first | omega | grind)).symm) (by omega) ls (lv_sub hl [4, 5, 6, 1, 0] rfl)
                · skip
                  refine lv_iload hx hb dX5_ownerBehind_79 (lv_at hl 5 rfl) ?_
                  refine lv_iload_n hx hb dX5_ownerBehind_81 rfl (lv_at hl 3 rfl) ?_
                  refine xr_icmp_le (tgt := 89) hx hb dX5_ownerBehind_82 (by decide) (by omega) (by omega) (fun h36 => ?_) (fun h36 => ?_)
                  · skip
                    refine lv_iconst (v := iI (0)) hx hb dX5_ownerBehind_89 rfl ?_
                    refine lv_istore (i := 6) (lv' := [(6, .int (iI (0))), (5, .int (iI (0))), (0, .ref (ad 5 (0))), (1, .int (iI (x))), (2, .int (iI (b))), (3, .int (iI (acc))), (4, .int (iI (i)))]) hx hb dX5_ownerBehind_90 hl (by decide) rfl (fun ls hl => ?_)
                    refine lv_iload hx hb dX5_ownerBehind_92 (lv_at hl 1 rfl) ?_
                    refine xr_if_eq (tgt := 128) hx hb dX5_ownerBehind_94 (by decide) (by decide) (fun _ => ?_) (fun h37 => absurd h37 (by decide))
                    refine lv_iload_n hx hb dX5_ownerBehind_128 rfl (lv_at hl 5 rfl) ?_
                    refine lv_istore_n (i := 3) (lv' := [(3, .int (iI (acc))), (6, .int (iI (0))), (5, .int (iI (0))), (0, .ref (ad 5 (0))), (1, .int (iI (x))), (2, .int (iI (b))), (4, .int (iI (i)))]) hx hb dX5_ownerBehind_129 rfl hl (by decide) rfl (fun ls hl => ?_)
                    refine lv_iinc (v := iI (i + (1))) (lv' := [(4, .int (iI (i + (1)))), (3, .int (iI (acc))), (6, .int (iI (0))), (5, .int (iI (0))), (0, .ref (ad 5 (0))), (1, .int (iI (x))), (2, .int (iI (b)))]) hx hb dX5_ownerBehind_130 hl (k := 6) rfl (iI_add _ _) (by decide) rfl (fun ls hl => ?_)
                    refine lv_goto (tgt := 5) hx hb dX5_ownerBehind_133 (by decide) ?_
                    exact ih (i + 1) acc (by omega) (by omega) (by rw [mOwn_s hi0, ← hacc]; unfold mBeh; first | exact (if_pos (by first | omega | grind)).symm | exact (if_neg (by first | omega | grind)).symm) (by omega) ls (lv_sub hl [4, 5, 6, 1, 0] rfl)
                  · skip
                    refine lv_iconst (v := iI (1)) hx hb dX5_ownerBehind_85 rfl ?_
                    refine lv_goto (tgt := 90) hx hb dX5_ownerBehind_86 (by decide) ?_
                    refine lv_istore (i := 6) (lv' := [(6, .int (iI (1))), (5, .int (iI (0))), (0, .ref (ad 5 (0))), (1, .int (iI (x))), (2, .int (iI (b))), (3, .int (iI (acc))), (4, .int (iI (i)))]) hx hb dX5_ownerBehind_90 hl (by decide) rfl (fun ls hl => ?_)
                    refine lv_iload hx hb dX5_ownerBehind_92 (lv_at hl 1 rfl) ?_
                    refine xr_if_eq (tgt := 128) hx hb dX5_ownerBehind_94 (by decide) (by decide) (fun _ => ?_) (fun h38 => absurd h38 (by decide))
                    refine lv_iload_n hx hb dX5_ownerBehind_128 rfl (lv_at hl 5 rfl) ?_
                    refine lv_istore_n (i := 3) (lv' := [(3, .int (iI (acc))), (6, .int (iI (1))), (5, .int (iI (0))), (0, .ref (ad 5 (0))), (1, .int (iI (x))), (2, .int (iI (b))), (4, .int (iI (i)))]) hx hb dX5_ownerBehind_129 rfl hl (by decide) rfl (fun ls hl => ?_)
                    refine lv_iinc (v := iI (i + (1))) (lv' := [(4, .int (iI (i + (1)))), (3, .int (iI (acc))), (6, .int (iI (1))), (5, .int (iI (0))), (0, .ref (ad 5 (0))), (1, .int (iI (x))), (2, .int (iI (b)))]) hx hb dX5_ownerBehind_130 hl (k := 6) rfl (iI_add _ _) (by decide) rfl (fun ls hl => ?_)
                    refine lv_goto (tgt := 5) hx hb dX5_ownerBehind_133 (by decide) ?_
                    exact ih (i + 1) acc (by omega) (by omega) (by rw [mOwn_s hi0, ← hacc]; unfold mBeh; first | exact (if_pos (by first | omega | grind)).symm | exact (if_neg (by first | omega | grind)).symm) (by omega) ls (lv_sub hl [4, 5, 6, 1, 0] rfl)
          · skip
            refine lv_iconst (v := iI (1)) hx hb dX5_ownerBehind_35 rfl ?_
            refine lv_goto (tgt := 40) hx hb dX5_ownerBehind_36 (by decide) ?_
            refine lv_istore (i := 5) (lv' := [(5, .int (iI (1))), (0, .ref (ad 5 (0))), (1, .int (iI (x))), (2, .int (iI (b))), (3, .int (iI (acc))), (4, .int (iI (i)))]) hx hb dX5_ownerBehind_40 hl (by decide) rfl (fun ls hl => ?_)
            refine lv_iload_n hx hb dX5_ownerBehind_42 rfl (lv_at hl 3 rfl) ?_
            refine lv_iconst (v := iI (-1)) hx hb dX5_ownerBehind_43 rfl ?_
            refine xr_icmp_eq (tgt := 85) hx hb dX5_ownerBehind_44 (by decide) (by omega) (by omega) (fun h39 => ?_) (fun h39 => ?_)
            · skip
              refine lv_iconst (v := iI (1)) hx hb dX5_ownerBehind_85 rfl ?_
              refine lv_goto (tgt := 90) hx hb dX5_ownerBehind_86 (by decide) ?_
              refine lv_istore (i := 6) (lv' := [(6, .int (iI (1))), (5, .int (iI (1))), (0, .ref (ad 5 (0))), (1, .int (iI (x))), (2, .int (iI (b))), (3, .int (iI (acc))), (4, .int (iI (i)))]) hx hb dX5_ownerBehind_90 hl (by decide) rfl (fun ls hl => ?_)
              refine lv_iload hx hb dX5_ownerBehind_92 (lv_at hl 1 rfl) ?_
              refine xr_if_eq (tgt := 128) hx hb dX5_ownerBehind_94 (by decide) (by decide) (fun h40 => absurd h40 (by decide)) (fun _ => ?_)
              refine lv_iload hx hb dX5_ownerBehind_97 (lv_at hl 0 rfl) ?_
              refine xr_if_eq (tgt := 128) hx hb dX5_ownerBehind_99 (by decide) (by decide) (fun h41 => absurd h41 (by decide)) (fun _ => ?_)
              refine lv_iload_n hx hb dX5_ownerBehind_102 rfl (lv_at hl 5 rfl) ?_
              refine lv_iconst (v := iI (-1)) hx hb dX5_ownerBehind_103 rfl ?_
              refine xr_icmp_eq (tgt := 123) hx hb dX5_ownerBehind_104 (by decide) (by omega) (by omega) (fun h42 => ?_) (fun h42 => ?_)
              · skip
                refine lv_iload hx hb dX5_ownerBehind_123 (lv_at hl 6 rfl) ?_
                refine lv_goto (tgt := 129) hx hb dX5_ownerBehind_125 (by decide) ?_
                refine lv_istore_n (i := 3) (lv' := [(3, .int (iI (i))), (6, .int (iI (1))), (5, .int (iI (1))), (0, .ref (ad 5 (0))), (1, .int (iI (x))), (2, .int (iI (b))), (4, .int (iI (i)))]) hx hb dX5_ownerBehind_129 rfl hl (by decide) rfl (fun ls hl => ?_)
                refine lv_iinc (v := iI (i + (1))) (lv' := [(4, .int (iI (i + (1)))), (3, .int (iI (i))), (6, .int (iI (1))), (5, .int (iI (1))), (0, .ref (ad 5 (0))), (1, .int (iI (x))), (2, .int (iI (b)))]) hx hb dX5_ownerBehind_130 hl (k := 6) rfl (iI_add _ _) (by decide) rfl (fun ls hl => ?_)
                refine lv_goto (tgt := 5) hx hb dX5_ownerBehind_133 (by decide) ?_
                exact ih (i + 1) i (by omega) (by omega) (by rw [mOwn_s hi0, ← hacc]; unfold mBeh; first | exact (if_pos (by first | omega | grind)).symm | exact (if_neg (by first | omega | grind)).symm) (by omega) ls (lv_sub hl [4, 5, 6, 1, 0] rfl)
              · skip
                refine lv_aload_n hx hb dX5_ownerBehind_107 rfl (lv_at hl 2 rfl) ?_
                refine xg_918 (v := mu 918 0) hx hb hw5 hown hK hR (md_5 hG) (hts _ kw_766) rfl dX5_ownerBehind_108 ?_
                have q43 : mu 918 0 = 0 := mh_918 hG
                rw [q43, rv_p (Int.le_refl 0)]
                refine lv_iload hx hb dX5_ownerBehind_111 (lv_at hl 6 rfl) ?_
                refine xa_1018 (v := mu 1018 i) hx hb hK hR (md_38 hG) (by omega) rfl dX5_ownerBehind_113 ?_
                have g44 := mr_1018 hG (i)
                refine lv_aload_n hx hb dX5_ownerBehind_114 rfl (lv_at hl 2 rfl) ?_
                refine xg_918 (v := mu 918 0) hx hb hw5 hown hK hR (md_5 hG) (hts _ kw_766) rfl dX5_ownerBehind_115 ?_
                have q45 : mu 918 0 = 0 := mh_918 hG
                rw [q45, rv_p (Int.le_refl 0)]
                refine lv_iload_n hx hb dX5_ownerBehind_118 rfl (lv_at hl 5 rfl) ?_
                refine xa_1018 (v := mu 1018 acc) hx hb hK hR (md_38 hG) (by omega) rfl dX5_ownerBehind_119 ?_
                have g46 := mr_1018 hG (acc)
                refine xr_icmp_le (tgt := 128) hx hb dX5_ownerBehind_120 (by decide) (by omega) (by omega) (fun h47 => ?_) (fun h47 => ?_)
                · skip
                  refine lv_iload_n hx hb dX5_ownerBehind_128 rfl (lv_at hl 5 rfl) ?_
                  refine lv_istore_n (i := 3) (lv' := [(3, .int (iI (acc))), (6, .int (iI (1))), (5, .int (iI (1))), (0, .ref (ad 5 (0))), (1, .int (iI (x))), (2, .int (iI (b))), (4, .int (iI (i)))]) hx hb dX5_ownerBehind_129 rfl hl (by decide) rfl (fun ls hl => ?_)
                  refine lv_iinc (v := iI (i + (1))) (lv' := [(4, .int (iI (i + (1)))), (3, .int (iI (acc))), (6, .int (iI (1))), (5, .int (iI (1))), (0, .ref (ad 5 (0))), (1, .int (iI (x))), (2, .int (iI (b)))]) hx hb dX5_ownerBehind_130 hl (k := 6) rfl (iI_add _ _) (by decide) rfl (fun ls hl => ?_)
                  refine lv_goto (tgt := 5) hx hb dX5_ownerBehind_133 (by decide) ?_
                  exact ih (i + 1) acc (by omega) (by omega) (by rw [mOwn_s hi0, ← hacc]; unfold mBeh; first | exact (if_pos (by first | omega | grind)).symm | exact (if_neg (by first | omega | grind)).symm) (by omega) ls (lv_sub hl [4, 5, 6, 1, 0] rfl)
                · skip
                  refine lv_iload hx hb dX5_ownerBehind_123 (lv_at hl 6 rfl) ?_
                  refine lv_goto (tgt := 129) hx hb dX5_ownerBehind_125 (by decide) ?_
                  refine lv_istore_n (i := 3) (lv' := [(3, .int (iI (i))), (6, .int (iI (1))), (5, .int (iI (1))), (0, .ref (ad 5 (0))), (1, .int (iI (x))), (2, .int (iI (b))), (4, .int (iI (i)))]) hx hb dX5_ownerBehind_129 rfl hl (by decide) rfl (fun ls hl => ?_)
                  refine lv_iinc (v := iI (i + (1))) (lv' := [(4, .int (iI (i + (1)))), (3, .int (iI (i))), (6, .int (iI (1))), (5, .int (iI (1))), (0, .ref (ad 5 (0))), (1, .int (iI (x))), (2, .int (iI (b)))]) hx hb dX5_ownerBehind_130 hl (k := 6) rfl (iI_add _ _) (by decide) rfl (fun ls hl => ?_)
                  refine lv_goto (tgt := 5) hx hb dX5_ownerBehind_133 (by decide) ?_
                  exact ih (i + 1) i (by omega) (by omega) (by rw [mOwn_s hi0, ← hacc]; unfold mBeh; first | exact (if_pos (by first | omega | grind)).symm | exact (if_neg (by first | omega | grind)).symm) (by omega) ls (lv_sub hl [4, 5, 6, 1, 0] rfl)
            · skip
              refine lv_aload_n hx hb dX5_ownerBehind_47 rfl (lv_at hl 1 rfl) ?_
              refine xg_918 (v := mu 918 0) hx hb hw5 hown hK hR (md_5 hG) (hts _ kw_766) rfl dX5_ownerBehind_48 ?_
              have q48 : mu 918 0 = 0 := mh_918 hG
              rw [q48, rv_p (Int.le_refl 0)]
              refine lv_iload hx hb dX5_ownerBehind_51 (lv_at hl 5 rfl) ?_
              refine xa_1018 (v := mu 1018 i) hx hb hK hR (md_38 hG) (by omega) rfl dX5_ownerBehind_53 ?_
              have g49 := mr_1018 hG (i)
              refine lv_aload_n hx hb dX5_ownerBehind_54 rfl (lv_at hl 1 rfl) ?_
              refine xg_918 (v := mu 918 0) hx hb hw5 hown hK hR (md_5 hG) (hts _ kw_766) rfl dX5_ownerBehind_55 ?_
              have q50 : mu 918 0 = 0 := mh_918 hG
              rw [q50, rv_p (Int.le_refl 0)]
              refine lv_iload_n hx hb dX5_ownerBehind_58 rfl (lv_at hl 3 rfl) ?_
              refine xa_1018 (v := mu 1018 b) hx hb hK hR (md_38 hG) (by omega) rfl dX5_ownerBehind_59 ?_
              have g51 := mr_1018 hG (b)
              refine xr_icmp_lt (tgt := 85) hx hb dX5_ownerBehind_60 (by decide) (by omega) (by omega) (fun h52 => ?_) (fun h52 => ?_)
              · skip
                refine lv_iconst (v := iI (1)) hx hb dX5_ownerBehind_85 rfl ?_
                refine lv_goto (tgt := 90) hx hb dX5_ownerBehind_86 (by decide) ?_
                refine lv_istore (i := 6) (lv' := [(6, .int (iI (1))), (5, .int (iI (1))), (0, .ref (ad 5 (0))), (1, .int (iI (x))), (2, .int (iI (b))), (3, .int (iI (acc))), (4, .int (iI (i)))]) hx hb dX5_ownerBehind_90 hl (by decide) rfl (fun ls hl => ?_)
                refine lv_iload hx hb dX5_ownerBehind_92 (lv_at hl 1 rfl) ?_
                refine xr_if_eq (tgt := 128) hx hb dX5_ownerBehind_94 (by decide) (by decide) (fun h53 => absurd h53 (by decide)) (fun _ => ?_)
                refine lv_iload hx hb dX5_ownerBehind_97 (lv_at hl 0 rfl) ?_
                refine xr_if_eq (tgt := 128) hx hb dX5_ownerBehind_99 (by decide) (by decide) (fun h54 => absurd h54 (by decide)) (fun _ => ?_)
                refine lv_iload_n hx hb dX5_ownerBehind_102 rfl (lv_at hl 5 rfl) ?_
                refine lv_iconst (v := iI (-1)) hx hb dX5_ownerBehind_103 rfl ?_
                refine xr_icmp_eq (tgt := 123) hx hb dX5_ownerBehind_104 (by decide) (by omega) (by omega) (fun h55 => ?_) (fun h55 => ?_)
                · skip
                  refine lv_iload hx hb dX5_ownerBehind_123 (lv_at hl 6 rfl) ?_
                  refine lv_goto (tgt := 129) hx hb dX5_ownerBehind_125 (by decide) ?_
                  refine lv_istore_n (i := 3) (lv' := [(3, .int (iI (i))), (6, .int (iI (1))), (5, .int (iI (1))), (0, .ref (ad 5 (0))), (1, .int (iI (x))), (2, .int (iI (b))), (4, .int (iI (i)))]) hx hb dX5_ownerBehind_129 rfl hl (by decide) rfl (fun ls hl => ?_)
                  refine lv_iinc (v := iI (i + (1))) (lv' := [(4, .int (iI (i + (1)))), (3, .int (iI (i))), (6, .int (iI (1))), (5, .int (iI (1))), (0, .ref (ad 5 (0))), (1, .int (iI (x))), (2, .int (iI (b)))]) hx hb dX5_ownerBehind_130 hl (k := 6) rfl (iI_add _ _) (by decide) rfl (fun ls hl => ?_)
                  refine lv_goto (tgt := 5) hx hb dX5_ownerBehind_133 (by decide) ?_
                  exact ih (i + 1) i (by omega) (by omega) (by rw [mOwn_s hi0, ← hacc]; unfold mBeh; first | exact (if_pos (by first | omega | grind)).symm | exact (if_neg (by first | omega | grind)).symm) (by omega) ls (lv_sub hl [4, 5, 6, 1, 0] rfl)
                · skip
                  refine lv_aload_n hx hb dX5_ownerBehind_107 rfl (lv_at hl 2 rfl) ?_
                  refine xg_918 (v := mu 918 0) hx hb hw5 hown hK hR (md_5 hG) (hts _ kw_766) rfl dX5_ownerBehind_108 ?_
                  have q56 : mu 918 0 = 0 := mh_918 hG
                  rw [q56, rv_p (Int.le_refl 0)]
                  refine lv_iload hx hb dX5_ownerBehind_111 (lv_at hl 6 rfl) ?_
                  refine xa_1018 (v := mu 1018 i) hx hb hK hR (md_38 hG) (by omega) rfl dX5_ownerBehind_113 ?_
                  refine lv_aload_n hx hb dX5_ownerBehind_114 rfl (lv_at hl 2 rfl) ?_
                  refine xg_918 (v := mu 918 0) hx hb hw5 hown hK hR (md_5 hG) (hts _ kw_766) rfl dX5_ownerBehind_115 ?_
                  have q57 : mu 918 0 = 0 := mh_918 hG
                  rw [q57, rv_p (Int.le_refl 0)]
                  refine lv_iload_n hx hb dX5_ownerBehind_118 rfl (lv_at hl 5 rfl) ?_
                  refine xa_1018 (v := mu 1018 acc) hx hb hK hR (md_38 hG) (by omega) rfl dX5_ownerBehind_119 ?_
                  have g58 := mr_1018 hG (acc)
                  refine xr_icmp_le (tgt := 128) hx hb dX5_ownerBehind_120 (by decide) (by omega) (by omega) (fun h59 => ?_) (fun h59 => ?_)
                  · skip
                    refine lv_iload_n hx hb dX5_ownerBehind_128 rfl (lv_at hl 5 rfl) ?_
                    refine lv_istore_n (i := 3) (lv' := [(3, .int (iI (acc))), (6, .int (iI (1))), (5, .int (iI (1))), (0, .ref (ad 5 (0))), (1, .int (iI (x))), (2, .int (iI (b))), (4, .int (iI (i)))]) hx hb dX5_ownerBehind_129 rfl hl (by decide) rfl (fun ls hl => ?_)
                    refine lv_iinc (v := iI (i + (1))) (lv' := [(4, .int (iI (i + (1)))), (3, .int (iI (acc))), (6, .int (iI (1))), (5, .int (iI (1))), (0, .ref (ad 5 (0))), (1, .int (iI (x))), (2, .int (iI (b)))]) hx hb dX5_ownerBehind_130 hl (k := 6) rfl (iI_add _ _) (by decide) rfl (fun ls hl => ?_)
                    refine lv_goto (tgt := 5) hx hb dX5_ownerBehind_133 (by decide) ?_
                    exact ih (i + 1) acc (by omega) (by omega) (by rw [mOwn_s hi0, ← hacc]; unfold mBeh; first | exact (if_pos (by first | omega | grind)).symm | exact (if_neg (by first | omega | grind)).symm) (by omega) ls (lv_sub hl [4, 5, 6, 1, 0] rfl)
                  · skip
                    refine lv_iload hx hb dX5_ownerBehind_123 (lv_at hl 6 rfl) ?_
                    refine lv_goto (tgt := 129) hx hb dX5_ownerBehind_125 (by decide) ?_
                    refine lv_istore_n (i := 3) (lv' := [(3, .int (iI (i))), (6, .int (iI (1))), (5, .int (iI (1))), (0, .ref (ad 5 (0))), (1, .int (iI (x))), (2, .int (iI (b))), (4, .int (iI (i)))]) hx hb dX5_ownerBehind_129 rfl hl (by decide) rfl (fun ls hl => ?_)
                    refine lv_iinc (v := iI (i + (1))) (lv' := [(4, .int (iI (i + (1)))), (3, .int (iI (i))), (6, .int (iI (1))), (5, .int (iI (1))), (0, .ref (ad 5 (0))), (1, .int (iI (x))), (2, .int (iI (b)))]) hx hb dX5_ownerBehind_130 hl (k := 6) rfl (iI_add _ _) (by decide) rfl (fun ls hl => ?_)
                    refine lv_goto (tgt := 5) hx hb dX5_ownerBehind_133 (by decide) ?_
                    exact ih (i + 1) i (by omega) (by omega) (by rw [mOwn_s hi0, ← hacc]; unfold mBeh; first | exact (if_pos (by first | omega | grind)).symm | exact (if_neg (by first | omega | grind)).symm) (by omega) ls (lv_sub hl [4, 5, 6, 1, 0] rfl)
              · skip
                refine lv_aload_n hx hb dX5_ownerBehind_63 rfl (lv_at hl 1 rfl) ?_
                refine xg_918 (v := mu 918 0) hx hb hw5 hown hK hR (md_5 hG) (hts _ kw_766) rfl dX5_ownerBehind_64 ?_
                have q60 : mu 918 0 = 0 := mh_918 hG
                rw [q60, rv_p (Int.le_refl 0)]
                refine lv_iload hx hb dX5_ownerBehind_67 (lv_at hl 5 rfl) ?_
                refine xa_1018 (v := mu 1018 i) hx hb hK hR (md_38 hG) (by omega) rfl dX5_ownerBehind_69 ?_
                refine lv_aload_n hx hb dX5_ownerBehind_70 rfl (lv_at hl 1 rfl) ?_
                refine xg_918 (v := mu 918 0) hx hb hw5 hown hK hR (md_5 hG) (hts _ kw_766) rfl dX5_ownerBehind_71 ?_
                have q61 : mu 918 0 = 0 := mh_918 hG
                rw [q61, rv_p (Int.le_refl 0)]
                refine lv_iload_n hx hb dX5_ownerBehind_74 rfl (lv_at hl 3 rfl) ?_
                refine xa_1018 (v := mu 1018 b) hx hb hK hR (md_38 hG) (by omega) rfl dX5_ownerBehind_75 ?_
                refine xr_icmp_ne (tgt := 89) hx hb dX5_ownerBehind_76 (by decide) (by omega) (by omega) (fun h62 => ?_) (fun h62 => ?_)
                · skip
                  refine lv_iconst (v := iI (0)) hx hb dX5_ownerBehind_89 rfl ?_
                  refine lv_istore (i := 6) (lv' := [(6, .int (iI (0))), (5, .int (iI (1))), (0, .ref (ad 5 (0))), (1, .int (iI (x))), (2, .int (iI (b))), (3, .int (iI (acc))), (4, .int (iI (i)))]) hx hb dX5_ownerBehind_90 hl (by decide) rfl (fun ls hl => ?_)
                  refine lv_iload hx hb dX5_ownerBehind_92 (lv_at hl 1 rfl) ?_
                  refine xr_if_eq (tgt := 128) hx hb dX5_ownerBehind_94 (by decide) (by decide) (fun h63 => absurd h63 (by decide)) (fun _ => ?_)
                  refine lv_iload hx hb dX5_ownerBehind_97 (lv_at hl 0 rfl) ?_
                  refine xr_if_eq (tgt := 128) hx hb dX5_ownerBehind_99 (by decide) (by decide) (fun _ => ?_) (fun h64 => absurd h64 (by decide))
                  refine lv_iload_n hx hb dX5_ownerBehind_128 rfl (lv_at hl 5 rfl) ?_
                  refine lv_istore_n (i := 3) (lv' := [(3, .int (iI (acc))), (6, .int (iI (0))), (5, .int (iI (1))), (0, .ref (ad 5 (0))), (1, .int (iI (x))), (2, .int (iI (b))), (4, .int (iI (i)))]) hx hb dX5_ownerBehind_129 rfl hl (by decide) rfl (fun ls hl => ?_)
                  refine lv_iinc (v := iI (i + (1))) (lv' := [(4, .int (iI (i + (1)))), (3, .int (iI (acc))), (6, .int (iI (0))), (5, .int (iI (1))), (0, .ref (ad 5 (0))), (1, .int (iI (x))), (2, .int (iI (b)))]) hx hb dX5_ownerBehind_130 hl (k := 6) rfl (iI_add _ _) (by decide) rfl (fun ls hl => ?_)
                  refine lv_goto (tgt := 5) hx hb dX5_ownerBehind_133 (by decide) ?_
                  exact ih (i + 1) acc (by omega) (by omega) (by rw [mOwn_s hi0, ← hacc]; unfold mBeh; first | exact (if_pos (by first | omega | grind)).symm | exact (if_neg (by first | omega | grind)).symm) (by omega) ls (lv_sub hl [4, 5, 6, 1, 0] rfl)
                · skip
                  refine lv_iload hx hb dX5_ownerBehind_79 (lv_at hl 5 rfl) ?_
                  refine lv_iload_n hx hb dX5_ownerBehind_81 rfl (lv_at hl 3 rfl) ?_
                  refine xr_icmp_le (tgt := 89) hx hb dX5_ownerBehind_82 (by decide) (by omega) (by omega) (fun h65 => ?_) (fun h65 => ?_)
                  · skip
                    refine lv_iconst (v := iI (0)) hx hb dX5_ownerBehind_89 rfl ?_
                    refine lv_istore (i := 6) (lv' := [(6, .int (iI (0))), (5, .int (iI (1))), (0, .ref (ad 5 (0))), (1, .int (iI (x))), (2, .int (iI (b))), (3, .int (iI (acc))), (4, .int (iI (i)))]) hx hb dX5_ownerBehind_90 hl (by decide) rfl (fun ls hl => ?_)
                    refine lv_iload hx hb dX5_ownerBehind_92 (lv_at hl 1 rfl) ?_
                    refine xr_if_eq (tgt := 128) hx hb dX5_ownerBehind_94 (by decide) (by decide) (fun h66 => absurd h66 (by decide)) (fun _ => ?_)
                    refine lv_iload hx hb dX5_ownerBehind_97 (lv_at hl 0 rfl) ?_
                    refine xr_if_eq (tgt := 128) hx hb dX5_ownerBehind_99 (by decide) (by decide) (fun _ => ?_) (fun h67 => absurd h67 (by decide))
                    refine lv_iload_n hx hb dX5_ownerBehind_128 rfl (lv_at hl 5 rfl) ?_
                    refine lv_istore_n (i := 3) (lv' := [(3, .int (iI (acc))), (6, .int (iI (0))), (5, .int (iI (1))), (0, .ref (ad 5 (0))), (1, .int (iI (x))), (2, .int (iI (b))), (4, .int (iI (i)))]) hx hb dX5_ownerBehind_129 rfl hl (by decide) rfl (fun ls hl => ?_)
                    refine lv_iinc (v := iI (i + (1))) (lv' := [(4, .int (iI (i + (1)))), (3, .int (iI (acc))), (6, .int (iI (0))), (5, .int (iI (1))), (0, .ref (ad 5 (0))), (1, .int (iI (x))), (2, .int (iI (b)))]) hx hb dX5_ownerBehind_130 hl (k := 6) rfl (iI_add _ _) (by decide) rfl (fun ls hl => ?_)
                    refine lv_goto (tgt := 5) hx hb dX5_ownerBehind_133 (by decide) ?_
                    exact ih (i + 1) acc (by omega) (by omega) (by rw [mOwn_s hi0, ← hacc]; unfold mBeh; first | exact (if_pos (by first | omega | grind)).symm | exact (if_neg (by first | omega | grind)).symm) (by omega) ls (lv_sub hl [4, 5, 6, 1, 0] rfl)
                  · skip
                    refine lv_iconst (v := iI (1)) hx hb dX5_ownerBehind_85 rfl ?_
                    refine lv_goto (tgt := 90) hx hb dX5_ownerBehind_86 (by decide) ?_
                    refine lv_istore (i := 6) (lv' := [(6, .int (iI (1))), (5, .int (iI (1))), (0, .ref (ad 5 (0))), (1, .int (iI (x))), (2, .int (iI (b))), (3, .int (iI (acc))), (4, .int (iI (i)))]) hx hb dX5_ownerBehind_90 hl (by decide) rfl (fun ls hl => ?_)
                    refine lv_iload hx hb dX5_ownerBehind_92 (lv_at hl 1 rfl) ?_
                    refine xr_if_eq (tgt := 128) hx hb dX5_ownerBehind_94 (by decide) (by decide) (fun h68 => absurd h68 (by decide)) (fun _ => ?_)
                    refine lv_iload hx hb dX5_ownerBehind_97 (lv_at hl 0 rfl) ?_
                    refine xr_if_eq (tgt := 128) hx hb dX5_ownerBehind_99 (by decide) (by decide) (fun h69 => absurd h69 (by decide)) (fun _ => ?_)
                    refine lv_iload_n hx hb dX5_ownerBehind_102 rfl (lv_at hl 5 rfl) ?_
                    refine lv_iconst (v := iI (-1)) hx hb dX5_ownerBehind_103 rfl ?_
                    refine xr_icmp_eq (tgt := 123) hx hb dX5_ownerBehind_104 (by decide) (by omega) (by omega) (fun h70 => ?_) (fun h70 => ?_)
                    · skip
                      refine lv_iload hx hb dX5_ownerBehind_123 (lv_at hl 6 rfl) ?_
                      refine lv_goto (tgt := 129) hx hb dX5_ownerBehind_125 (by decide) ?_
                      refine lv_istore_n (i := 3) (lv' := [(3, .int (iI (i))), (6, .int (iI (1))), (5, .int (iI (1))), (0, .ref (ad 5 (0))), (1, .int (iI (x))), (2, .int (iI (b))), (4, .int (iI (i)))]) hx hb dX5_ownerBehind_129 rfl hl (by decide) rfl (fun ls hl => ?_)
                      refine lv_iinc (v := iI (i + (1))) (lv' := [(4, .int (iI (i + (1)))), (3, .int (iI (i))), (6, .int (iI (1))), (5, .int (iI (1))), (0, .ref (ad 5 (0))), (1, .int (iI (x))), (2, .int (iI (b)))]) hx hb dX5_ownerBehind_130 hl (k := 6) rfl (iI_add _ _) (by decide) rfl (fun ls hl => ?_)
                      refine lv_goto (tgt := 5) hx hb dX5_ownerBehind_133 (by decide) ?_
                      exact ih (i + 1) i (by omega) (by omega) (by rw [mOwn_s hi0, ← hacc]; unfold mBeh; first | exact (if_pos (by first | omega | grind)).symm | exact (if_neg (by first | omega | grind)).symm) (by omega) ls (lv_sub hl [4, 5, 6, 1, 0] rfl)
                    · skip
                      refine lv_aload_n hx hb dX5_ownerBehind_107 rfl (lv_at hl 2 rfl) ?_
                      refine xg_918 (v := mu 918 0) hx hb hw5 hown hK hR (md_5 hG) (hts _ kw_766) rfl dX5_ownerBehind_108 ?_
                      have q71 : mu 918 0 = 0 := mh_918 hG
                      rw [q71, rv_p (Int.le_refl 0)]
                      refine lv_iload hx hb dX5_ownerBehind_111 (lv_at hl 6 rfl) ?_
                      refine xa_1018 (v := mu 1018 i) hx hb hK hR (md_38 hG) (by omega) rfl dX5_ownerBehind_113 ?_
                      refine lv_aload_n hx hb dX5_ownerBehind_114 rfl (lv_at hl 2 rfl) ?_
                      refine xg_918 (v := mu 918 0) hx hb hw5 hown hK hR (md_5 hG) (hts _ kw_766) rfl dX5_ownerBehind_115 ?_
                      have q72 : mu 918 0 = 0 := mh_918 hG
                      rw [q72, rv_p (Int.le_refl 0)]
                      refine lv_iload_n hx hb dX5_ownerBehind_118 rfl (lv_at hl 5 rfl) ?_
                      refine xa_1018 (v := mu 1018 acc) hx hb hK hR (md_38 hG) (by omega) rfl dX5_ownerBehind_119 ?_
                      have g73 := mr_1018 hG (acc)
                      refine xr_icmp_le (tgt := 128) hx hb dX5_ownerBehind_120 (by decide) (by omega) (by omega) (fun h74 => ?_) (fun h74 => ?_)
                      · skip
                        refine lv_iload_n hx hb dX5_ownerBehind_128 rfl (lv_at hl 5 rfl) ?_
                        refine lv_istore_n (i := 3) (lv' := [(3, .int (iI (acc))), (6, .int (iI (1))), (5, .int (iI (1))), (0, .ref (ad 5 (0))), (1, .int (iI (x))), (2, .int (iI (b))), (4, .int (iI (i)))]) hx hb dX5_ownerBehind_129 rfl hl (by decide) rfl (fun ls hl => ?_)
                        refine lv_iinc (v := iI (i + (1))) (lv' := [(4, .int (iI (i + (1)))), (3, .int (iI (acc))), (6, .int (iI (1))), (5, .int (iI (1))), (0, .ref (ad 5 (0))), (1, .int (iI (x))), (2, .int (iI (b)))]) hx hb dX5_ownerBehind_130 hl (k := 6) rfl (iI_add _ _) (by decide) rfl (fun ls hl => ?_)
                        refine lv_goto (tgt := 5) hx hb dX5_ownerBehind_133 (by decide) ?_
                        exact ih (i + 1) acc (by omega) (by omega) (by rw [mOwn_s hi0, ← hacc]; unfold mBeh; first | exact (if_pos (by first | omega | grind)).symm | exact (if_neg (by first | omega | grind)).symm) (by omega) ls (lv_sub hl [4, 5, 6, 1, 0] rfl)
                      · skip
                        refine lv_iload hx hb dX5_ownerBehind_123 (lv_at hl 6 rfl) ?_
                        refine lv_goto (tgt := 129) hx hb dX5_ownerBehind_125 (by decide) ?_
                        refine lv_istore_n (i := 3) (lv' := [(3, .int (iI (i))), (6, .int (iI (1))), (5, .int (iI (1))), (0, .ref (ad 5 (0))), (1, .int (iI (x))), (2, .int (iI (b))), (4, .int (iI (i)))]) hx hb dX5_ownerBehind_129 rfl hl (by decide) rfl (fun ls hl => ?_)
                        refine lv_iinc (v := iI (i + (1))) (lv' := [(4, .int (iI (i + (1)))), (3, .int (iI (i))), (6, .int (iI (1))), (5, .int (iI (1))), (0, .ref (ad 5 (0))), (1, .int (iI (x))), (2, .int (iI (b)))]) hx hb dX5_ownerBehind_130 hl (k := 6) rfl (iI_add _ _) (by decide) rfl (fun ls hl => ?_)
                        refine lv_goto (tgt := 5) hx hb dX5_ownerBehind_133 (by decide) ?_
                        exact ih (i + 1) i (by omega) (by omega) (by rw [mOwn_s hi0, ← hacc]; unfold mBeh; first | exact (if_pos (by first | omega | grind)).symm | exact (if_neg (by first | omega | grind)).symm) (by omega) ls (lv_sub hl [4, 5, 6, 1, 0] rfl)
  exact loop5 _ 0 (-1) (by decide) (by omega) rfl (Nat.lt_succ_self _) ls (lv_sub hl [2, 3, 4, 1, 0] rfl)
theorem ms_X5_landOf : MVi RX5 yX5_landOf cX5_landOf 7 (some .int) 2 := ⟨kw_1001, kw_1000, kp_41, kw_4, rfl, by decide, by decide, by decide +kernel⟩
set_option maxRecDepth 100000 in
set_option maxHeartbeats 4000000 in
theorem c_X5_landOf {l : Launch} {D : va_G} {cy : Nat → ClassId} {A : Nat → Prop} {ad : Nat → Int → Nat} {mu : Nat → Int → Int} {H : Heap} (hR : RM D cy A ad mu H) (hG : GM mu)  (x : Int) (w : Int) (h1 : 0 ≤ x ∧ x ≤ 35) (h2 : 0 ≤ w ∧ w ≤ 3) (h3 : 0 ≤ mu 1008 x) : Met l yX5_landOf (Cond.code yX5_landOf cX5_landOf 7 (some .int) :: wG) (rmF 1 22 0 0) (Pc D cy H [.ref (ad 5 (0)), .int (iI (x)), .int (iI (w))]) (Qp (.int (iI (mLand mu x w)))) 0 0 Kn := by
  refine met_of (la := [(0, .ref (ad 5 (0))), (1, .int (iI (x))), (2, .int (iI (w)))]) (by decide) (Nat.le_of_ble_eq_true rfl) rfl ?_
  intro p e R s m args below meth c ls hRm hx hb hml hr hlk hin hown hts hsH hK hl
  subst hRm
  have hown : s.vm.findClass "TakinghallModel" = some m.cls := hown
  have hw5 : ∀ w ∈ u_ws RX5 TX5 35, w.before args s = true := fun w h => hts w (uw_X5 w h)
  refine lv_aload_n hx hb dX5_landOf_0 rfl (lv_at hl 0 rfl) ?_
  refine lv_iload_n hx hb dX5_landOf_1 rfl (lv_at hl 1 rfl) ?_
  refine lv_aload_n hx hb dX5_landOf_2 rfl (lv_at hl 0 rfl) ?_
  refine xg_908 (v := mu 908 0) hx hb hw5 hown hK hR (md_5 hG) (hts _ kw_756) rfl dX5_landOf_3 ?_
  have q1 : mu 908 0 = 0 := mh_908 hG
  rw [q1, rv_p (Int.le_refl 0)]
  refine lv_iload_n hx hb dX5_landOf_6 rfl (lv_at hl 1 rfl) ?_
  refine xa_1008 (v := mu 1008 x) hx hb hK hR (md_28 hG) (by omega) rfl dX5_landOf_7 ?_
  have g2 := mr_1008 hG (x)
  refine xk_pF (xr_V (As := [.int (iI (x)), .int (iI (mu 1008 x))]) (rest := []) hx hb hml hown hts hK (c_X5_worthOn hR hG x (mu 1008 x) (by omega) (by omega)) ms_X5_worthOn kw_885 (wr_recv hK hR (md_5 hG) rfl rfl) ⟨by decide, by decide⟩ ⟨by decide, by decide⟩ rfl rfl hl.1 rfl (lv_room (by decide)) dX5_landOf_8) ?_
  have g3 := mWorth_rng hG (x) ((mu 1008 x))
  refine lv_istore_n (i := 3) (lv' := [(3, .int (iI (mWorth mu x (mu 1008 x)))), (0, .ref (ad 5 (0))), (1, .int (iI (x))), (2, .int (iI (w)))]) hx hb dX5_landOf_11 rfl hl (by decide) rfl (fun ls hl => ?_)
  refine lv_iload_n hx hb dX5_landOf_12 rfl (lv_at hl 0 rfl) ?_
  refine lv_aload_n hx hb dX5_landOf_13 rfl (lv_at hl 1 rfl) ?_
  refine xg_907 (v := mu 907 0) hx hb hw5 hown hK hR (md_5 hG) (hts _ kw_755) rfl dX5_landOf_14 ?_
  have q4 : mu 907 0 = 0 := mh_907 hG
  rw [q4, rv_p (Int.le_refl 0)]
  refine lv_iload_n hx hb dX5_landOf_17 rfl (lv_at hl 2 rfl) ?_
  refine xa_1007 (v := mu 1007 x) hx hb hK hR (md_27 hG) (by omega) rfl dX5_landOf_18 ?_
  have g5 := mr_1007 hG (x)
  refine xr_imul hx hb dX5_landOf_19 ?_
  have m1 := mul_rng (a := mWorth mu x (mu 1008 x)) (m := 100000) (b := mu 1007 x) (n := 100) (by omega) (by omega)
  have m2 : mWorth mu x (mu 1008 x) * mu 1007 x ≤ mWorth mu x (mu 1008 x) * 100 := Int.mul_le_mul_of_nonneg_left (by omega) (by omega)
  refine lv_bipush (v := iI (100)) hx hb dX5_landOf_20 (by decide) ?_
  refine xr_idiv hx hb dX5_landOf_22 (by omega) (by omega) ?_
  refine lv_istore (i := 4) (lv' := [(4, .int (iI (((mWorth mu x (mu 1008 x)) * (mu 1007 x)) / 100))), (3, .int (iI (mWorth mu x (mu 1008 x)))), (0, .ref (ad 5 (0))), (1, .int (iI (x))), (2, .int (iI (w)))]) hx hb dX5_landOf_23 hl (by decide) rfl (fun ls hl => ?_)
  refine lv_iload_n hx hb dX5_landOf_25 rfl (lv_at hl 1 rfl) ?_
  refine lv_iload hx hb dX5_landOf_26 (lv_at hl 0 rfl) ?_
  refine xr_isub hx hb dX5_landOf_28 ?_
  refine lv_istore (i := 5) (lv' := [(5, .int (iI ((mWorth mu x (mu 1008 x)) - (((mWorth mu x (mu 1008 x)) * (mu 1007 x)) / 100)))), (4, .int (iI (((mWorth mu x (mu 1008 x)) * (mu 1007 x)) / 100))), (3, .int (iI (mWorth mu x (mu 1008 x)))), (0, .ref (ad 5 (0))), (1, .int (iI (x))), (2, .int (iI (w)))]) hx hb dX5_landOf_29 hl (by decide) rfl (fun ls hl => ?_)
  refine lv_iload hx hb dX5_landOf_31 (lv_at hl 1 rfl) ?_
  refine lv_iload hx hb dX5_landOf_33 (lv_at hl 0 rfl) ?_
  refine lv_aload_n hx hb dX5_landOf_35 rfl (lv_at hl 3 rfl) ?_
  refine xg_927 (v := mu 927 0) hx hb hw5 hown hK hR (md_5 hG) (hts _ kw_775) rfl dX5_landOf_36 ?_
  have q6 : mu 927 0 = 0 := mh_927 hG
  rw [q6, rv_p (Int.le_refl 0)]
  refine lv_iload_n hx hb dX5_landOf_39 rfl (lv_at hl 5 rfl) ?_
  refine xa_1027 (v := mu 1027 w) hx hb hK hR (md_47 hG) (by omega) rfl dX5_landOf_40 ?_
  have g7 := mr_1027 hG (w)
  refine xr_imul hx hb dX5_landOf_41 ?_
  have m3 := mul_rng (a := mWorth mu x (mu 1008 x) - mWorth mu x (mu 1008 x) * mu 1007 x / 100) (m := 100000) (b := mu 1027 w) (n := 50) (by omega) (by omega)
  refine lv_bipush (v := iI (100)) hx hb dX5_landOf_42 (by decide) ?_
  refine xr_idiv hx hb dX5_landOf_44 (by omega) (by omega) ?_
  refine xr_iadd hx hb dX5_landOf_45 ?_
  refine lv_iload hx hb dX5_landOf_46 (lv_at hl 0 rfl) ?_
  refine lv_aload_n hx hb dX5_landOf_48 rfl (lv_at hl 3 rfl) ?_
  refine xg_928 (v := mu 928 0) hx hb hw5 hown hK hR (md_5 hG) (hts _ kw_776) rfl dX5_landOf_49 ?_
  have q8 : mu 928 0 = 0 := mh_928 hG
  rw [q8, rv_p (Int.le_refl 0)]
  refine lv_iload_n hx hb dX5_landOf_52 rfl (lv_at hl 5 rfl) ?_
  refine xa_1028 (v := mu 1028 w) hx hb hK hR (md_48 hG) (by omega) rfl dX5_landOf_53 ?_
  have g9 := mr_1028 hG (w)
  refine xr_imul hx hb dX5_landOf_54 ?_
  have m4 := mul_rng (a := mWorth mu x (mu 1008 x) - mWorth mu x (mu 1008 x) * mu 1007 x / 100) (m := 100000) (b := mu 1028 w) (n := 50) (by omega) (by omega)
  refine lv_bipush (v := iI (100)) hx hb dX5_landOf_55 (by decide) ?_
  refine xr_idiv hx hb dX5_landOf_57 (by omega) (by omega) ?_
  refine xr_isub hx hb dX5_landOf_58 ?_
  refine lv_istore (i := 6) (lv' := [(6, .int (iI (((((mWorth mu x (mu 1008 x)) * (mu 1007 x)) / 100) + ((((mWorth mu x (mu 1008 x)) - (((mWorth mu x (mu 1008 x)) * (mu 1007 x)) / 100)) * (mu 1027 w)) / 100)) - ((((mWorth mu x (mu 1008 x)) - (((mWorth mu x (mu 1008 x)) * (mu 1007 x)) / 100)) * (mu 1028 w)) / 100)))), (5, .int (iI ((mWorth mu x (mu 1008 x)) - (((mWorth mu x (mu 1008 x)) * (mu 1007 x)) / 100)))), (4, .int (iI (((mWorth mu x (mu 1008 x)) * (mu 1007 x)) / 100))), (3, .int (iI (mWorth mu x (mu 1008 x)))), (0, .ref (ad 5 (0))), (1, .int (iI (x))), (2, .int (iI (w)))]) hx hb dX5_landOf_59 hl (by decide) rfl (fun ls hl => ?_)
  refine lv_iload hx hb dX5_landOf_61 (lv_at hl 0 rfl) ?_
  refine xr_if_ge (tgt := 70) hx hb dX5_landOf_63 (by decide) (by omega) (fun h10 => ?_) (fun h10 => ?_)
  · skip
    refine lv_iload hx hb dX5_landOf_70 (lv_at hl 0 rfl) ?_
    exact xe_i hx hb hr hlk hsH dX5_landOf_72 (by unfold mLand; first | rw [if_pos (by omega)] | rw [if_neg (by omega)])
  · skip
    refine lv_iconst (v := iI (0)) hx hb dX5_landOf_66 rfl ?_
    refine lv_goto (tgt := 72) hx hb dX5_landOf_67 (by decide) ?_
    exact xe_i hx hb hr hlk hsH dX5_landOf_72 (by unfold mLand; first | rw [if_pos (by omega)] | rw [if_neg (by omega)])
theorem ms_X5_leftAhead : MVi RX5 yX5_leftAhead cX5_leftAhead 6 (some .long) 2 := ⟨kw_1005, kw_1004, kp_42, kw_4, rfl, by decide, by decide, by decide +kernel⟩
set_option maxRecDepth 100000 in
set_option maxHeartbeats 4000000 in
theorem c_X5_leftAhead {l : Launch} {D : va_G} {cy : Nat → ClassId} {A : Nat → Prop} {ad : Nat → Int → Nat} {mu : Nat → Int → Int} {H : Heap} (hR : RM D cy A ad mu H) (hG : GM mu)  (x : Int) (nb : Int) (h1 : 0 ≤ x ∧ x ≤ 35) (h2 : 0 ≤ nb ∧ nb ≤ 24) : Met l yX5_leftAhead (Cond.code yX5_leftAhead cX5_leftAhead 6 (some .long) :: wG) (rmF 0 0 0 0) (Pc D cy H [.ref (ad 5 (0)), .int (iI (x)), .int (iI (nb))]) (Qp (.long (lI (mLeft mu x nb)))) 0 0 Kn := by
  refine met_of (la := [(0, .ref (ad 5 (0))), (1, .int (iI (x))), (2, .int (iI (nb)))]) (by decide) (Nat.le_of_ble_eq_true rfl) rfl ?_
  intro p e R s m args below meth c ls hRm hx hb hml hr hlk hin hown hts hsH hK hl
  subst hRm
  have hown : s.vm.findClass "TakinghallModel" = some m.cls := hown
  have hw5 : ∀ w ∈ u_ws RX5 TX5 35, w.before args s = true := fun w h => hts w (uw_X5 w h)
  refine lv_aload_n hx hb dX5_leftAhead_0 rfl (lv_at hl 0 rfl) ?_
  refine xg_912 (v := mu 912 0) hx hb hw5 hown hK hR (md_5 hG) (hts _ kw_760) rfl dX5_leftAhead_1 ?_
  have q1 : mu 912 0 = 0 := mh_912 hG
  rw [q1, rv_p (Int.le_refl 0)]
  refine lv_iload_n hx hb dX5_leftAhead_4 rfl (lv_at hl 1 rfl) ?_
  refine xa_1012 (v := mu 1012 x) hx hb hK hR (md_32 hG) (by omega) rfl dX5_leftAhead_5 ?_
  have g2 := mr_1012 hG (x)
  refine lv_lstore_n (i := 3) (lv' := [(3, .long (lI (mu 1012 x))), (0, .ref (ad 5 (0))), (1, .int (iI (x))), (2, .int (iI (nb)))]) hx hb dX5_leftAhead_6 rfl hl (by decide) rfl (fun ls hl => ?_)
  refine lv_iconst (v := iI (0)) hx hb dX5_leftAhead_7 rfl ?_
  refine lv_istore (i := 5) (lv' := [(5, .int (iI (0))), (3, .long (lI (mu 1012 x))), (0, .ref (ad 5 (0))), (1, .int (iI (x))), (2, .int (iI (nb)))]) hx hb dX5_leftAhead_8 hl (by decide) rfl (fun ls hl => ?_)
  have loop10 : ∀ (n : Nat) (i : Int) (acc : Int), 0 ≤ i → i ≤ nb → acc = mLeftN mu x (i.toNat) → (nb - i).toNat < n → ∀ ls : Array Slot, lv_has ls 6 [(0, .ref (ad 5 (0))), (1, .int (iI (x))), (2, .int (iI (nb))), (3, .long (lI (acc))), (5, .int (iI (i)))] → W p l e (rmF 0 0 0 0) s m args below meth c H [] 0 0 (MQ below (Qp (.long (lI (mLeft mu x nb)))) args s 0 0 Kn) (F0 m 10 ls []) := by
    intro n
    induction n with
    | zero =>
      intro i acc hi0 hi1 hacc hn ls hl
      exact absurd hn (Nat.not_lt_zero _)
    | succ n ih =>
      intro i acc hi0 hi1 hacc hn ls hl
      have hrg := mLeft_rng hG x i.toNat
      rw [← hacc] at hrg
      refine lv_iload hx hb dX5_leftAhead_10 (lv_at hl 4 rfl) ?_
      refine lv_iload_n hx hb dX5_leftAhead_12 rfl (lv_at hl 2 rfl) ?_
      refine xr_icmp_ge (tgt := 72) hx hb dX5_leftAhead_13 (by decide) (by omega) (by omega) (fun h3 => ?_) (fun h3 => ?_)
      · skip
        refine lv_lload_n hx hb dX5_leftAhead_72 rfl (lv_at hl 3 rfl) ?_
        exact xe_l hx hb hr hlk hsH dX5_leftAhead_73 (by have e : i = nb := (by omega); rw [e] at hacc; exact hacc)
      · skip
        refine lv_aload_n hx hb dX5_leftAhead_16 rfl (lv_at hl 0 rfl) ?_
        refine xg_914 (v := mu 914 0) hx hb hw5 hown hK hR (md_5 hG) (hts _ kw_762) rfl dX5_leftAhead_17 ?_
        have q4 : mu 914 0 = 0 := mh_914 hG
        rw [q4, rv_p (Int.le_refl 0)]
        refine lv_iload hx hb dX5_leftAhead_20 (lv_at hl 4 rfl) ?_
        refine xa_1014 (v := mu 1014 i) hx hb hK hR (md_34 hG) (by omega) rfl dX5_leftAhead_22 ?_
        have g5 := mr_1014 hG (i)
        refine lv_iconst (v := iI (2)) hx hb dX5_leftAhead_23 rfl ?_
        refine xr_icmp_ne (tgt := 66) hx hb dX5_leftAhead_24 (by decide) (by omega) (by omega) (fun h6 => ?_) (fun h6 => ?_)
        · skip
          refine lv_iinc (v := iI (i + (1))) (lv' := [(5, .int (iI (i + (1)))), (0, .ref (ad 5 (0))), (1, .int (iI (x))), (2, .int (iI (nb))), (3, .long (lI (acc)))]) hx hb dX5_leftAhead_66 hl (k := 4) rfl (iI_add _ _) (by decide) rfl (fun ls hl => ?_)
          refine lv_goto (tgt := 10) hx hb dX5_leftAhead_69 (by decide) ?_
          exact ih (i + 1) acc (by omega) (by omega) (by rw [mLeft_s hi0, ← hacc]; first | rw [if_neg (by omega)] | (rw [if_pos (by omega)]; first | rw [if_pos (by omega)] | rw [if_neg (by omega)])) (by omega) ls (lv_sub hl [1, 2, 3, 4, 0] rfl)
        · skip
          refine lv_aload_n hx hb dX5_leftAhead_27 rfl (lv_at hl 0 rfl) ?_
          refine xg_915 (v := mu 915 0) hx hb hw5 hown hK hR (md_5 hG) (hts _ kw_763) rfl dX5_leftAhead_28 ?_
          have q7 : mu 915 0 = 0 := mh_915 hG
          rw [q7, rv_p (Int.le_refl 0)]
          refine lv_iload hx hb dX5_leftAhead_31 (lv_at hl 4 rfl) ?_
          refine xa_1015 (v := mu 1015 i) hx hb hK hR (md_35 hG) (by omega) rfl dX5_leftAhead_33 ?_
          have g8 := mr_1015 hG (i)
          refine lv_iload_n hx hb dX5_leftAhead_34 rfl (lv_at hl 1 rfl) ?_
          refine xr_icmp_ne (tgt := 66) hx hb dX5_leftAhead_35 (by decide) (by omega) (by omega) (fun h9 => ?_) (fun h9 => ?_)
          · skip
            refine lv_iinc (v := iI (i + (1))) (lv' := [(5, .int (iI (i + (1)))), (0, .ref (ad 5 (0))), (1, .int (iI (x))), (2, .int (iI (nb))), (3, .long (lI (acc)))]) hx hb dX5_leftAhead_66 hl (k := 4) rfl (iI_add _ _) (by decide) rfl (fun ls hl => ?_)
            refine lv_goto (tgt := 10) hx hb dX5_leftAhead_69 (by decide) ?_
            exact ih (i + 1) acc (by omega) (by omega) (by rw [mLeft_s hi0, ← hacc]; first | rw [if_neg (by omega)] | (rw [if_pos (by omega)]; first | rw [if_pos (by omega)] | rw [if_neg (by omega)])) (by omega) ls (lv_sub hl [1, 2, 3, 4, 0] rfl)
          · skip
            refine lv_lload_n hx hb dX5_leftAhead_38 rfl (lv_at hl 3 rfl) ?_
            refine lv_aload_n hx hb dX5_leftAhead_39 rfl (lv_at hl 0 rfl) ?_
            refine xg_918 (v := mu 918 0) hx hb hw5 hown hK hR (md_5 hG) (hts _ kw_766) rfl dX5_leftAhead_40 ?_
            have q10 : mu 918 0 = 0 := mh_918 hG
            rw [q10, rv_p (Int.le_refl 0)]
            refine lv_iload hx hb dX5_leftAhead_43 (lv_at hl 4 rfl) ?_
            refine xa_1018 (v := mu 1018 i) hx hb hK hR (md_38 hG) (by omega) rfl dX5_leftAhead_45 ?_
            have g11 := mr_1018 hG (i)
            refine xr_i2l hx hb dX5_leftAhead_46 (by omega) ?_
            refine lv_lload_n hx hb dX5_leftAhead_47 rfl (lv_at hl 3 rfl) ?_
            refine xr_lcmp hx hb dX5_leftAhead_48 (by omega) (by omega) (fun y12 h13 => ?_)
            refine xr_if_ge (tgt := 63) hx hb dX5_leftAhead_49 (by decide) (by omega) (fun h14 => ?_) (fun h14 => ?_)
            · skip
              refine lv_lload_n hx hb dX5_leftAhead_63 rfl (lv_at hl 3 rfl) ?_
              refine xr_lsub hx hb dX5_leftAhead_64 ?_
              refine lv_lstore_n (i := 3) (lv' := [(3, .long (lI (acc - acc))), (0, .ref (ad 5 (0))), (1, .int (iI (x))), (2, .int (iI (nb))), (5, .int (iI (i)))]) hx hb dX5_leftAhead_65 rfl hl (by decide) rfl (fun ls hl => ?_)
              refine lv_iinc (v := iI (i + (1))) (lv' := [(5, .int (iI (i + (1)))), (3, .long (lI (acc - acc))), (0, .ref (ad 5 (0))), (1, .int (iI (x))), (2, .int (iI (nb)))]) hx hb dX5_leftAhead_66 hl (k := 4) rfl (iI_add _ _) (by decide) rfl (fun ls hl => ?_)
              refine lv_goto (tgt := 10) hx hb dX5_leftAhead_69 (by decide) ?_
              exact ih (i + 1) (acc - acc) (by omega) (by omega) (by rw [mLeft_s hi0, ← hacc]; first | rw [if_neg (by omega)] | (rw [if_pos (by omega)]; first | rw [if_pos (by omega)] | rw [if_neg (by omega)])) (by omega) ls (lv_sub hl [2, 3, 4, 1, 0] rfl)
            · skip
              refine lv_aload_n hx hb dX5_leftAhead_52 rfl (lv_at hl 0 rfl) ?_
              refine xg_918 (v := mu 918 0) hx hb hw5 hown hK hR (md_5 hG) (hts _ kw_766) rfl dX5_leftAhead_53 ?_
              have q15 : mu 918 0 = 0 := mh_918 hG
              rw [q15, rv_p (Int.le_refl 0)]
              refine lv_iload hx hb dX5_leftAhead_56 (lv_at hl 4 rfl) ?_
              refine xa_1018 (v := mu 1018 i) hx hb hK hR (md_38 hG) (by omega) rfl dX5_leftAhead_58 ?_
              refine xr_i2l hx hb dX5_leftAhead_59 (by omega) ?_
              refine lv_goto (tgt := 64) hx hb dX5_leftAhead_60 (by decide) ?_
              refine xr_lsub hx hb dX5_leftAhead_64 ?_
              refine lv_lstore_n (i := 3) (lv' := [(3, .long (lI (acc - (mu 1018 i)))), (0, .ref (ad 5 (0))), (1, .int (iI (x))), (2, .int (iI (nb))), (5, .int (iI (i)))]) hx hb dX5_leftAhead_65 rfl hl (by decide) rfl (fun ls hl => ?_)
              refine lv_iinc (v := iI (i + (1))) (lv' := [(5, .int (iI (i + (1)))), (3, .long (lI (acc - (mu 1018 i)))), (0, .ref (ad 5 (0))), (1, .int (iI (x))), (2, .int (iI (nb)))]) hx hb dX5_leftAhead_66 hl (k := 4) rfl (iI_add _ _) (by decide) rfl (fun ls hl => ?_)
              refine lv_goto (tgt := 10) hx hb dX5_leftAhead_69 (by decide) ?_
              exact ih (i + 1) (acc - (mu 1018 i)) (by omega) (by omega) (by rw [mLeft_s hi0, ← hacc]; first | rw [if_neg (by omega)] | (rw [if_pos (by omega)]; first | rw [if_pos (by omega)] | rw [if_neg (by omega)])) (by omega) ls (lv_sub hl [2, 3, 4, 1, 0] rfl)
  exact loop10 _ 0 (mu 1012 x) (by decide) (by omega) rfl (Nat.lt_succ_self _) ls (lv_sub hl [2, 3, 4, 1, 0] rfl)
theorem ms_X5_byShare : MVi RX5 yX5_byShare cX5_byShare 2 (some .long) 1 := ⟨kw_1013, kw_1012, kp_44, kw_4, rfl, by decide, by decide, by decide +kernel⟩
set_option maxRecDepth 100000 in
set_option maxHeartbeats 4000000 in
theorem c_X5_byShare {l : Launch} {D : va_G} {cy : Nat → ClassId} {A : Nat → Prop} {ad : Nat → Int → Nat} {mu : Nat → Int → Int} {H : Heap} (hR : RM D cy A ad mu H) (hG : GM mu)  (i : Int) (h1 : 0 ≤ i ∧ i ≤ 23) : Met l yX5_byShare (Cond.code yX5_byShare cX5_byShare 2 (some .long) :: wG) (rmF 1 25 0 0) (Pc D cy H [.ref (ad 5 (0)), .int (iI (i))]) (Qp (.long (lI (mShare mu i)))) 0 0 Kn := by
  refine met_of (la := [(0, .ref (ad 5 (0))), (1, .int (iI (i)))]) (by decide) (Nat.le_of_ble_eq_true rfl) rfl ?_
  intro p e R s m args below meth c ls hRm hx hb hml hr hlk hin hown hts hsH hK hl
  subst hRm
  have hown : s.vm.findClass "TakinghallModel" = some m.cls := hown
  have hw5 : ∀ w ∈ u_ws RX5 TX5 35, w.before args s = true := fun w h => hts w (uw_X5 w h)
  have g913 := mr_913 hG 0
  have g1015 := mr_1015 hG i
  refine lv_aload_n hx hb dX5_byShare_0 rfl (lv_at hl 0 rfl) ?_
  refine lv_aload_n hx hb dX5_byShare_1 rfl (lv_at hl 0 rfl) ?_
  refine xg_915 (v := mu 915 0) hx hb hw5 hown hK hR (md_5 hG) (hts _ kw_763) rfl dX5_byShare_2 ?_
  have q1 : mu 915 0 = 0 := mh_915 hG
  rw [q1, rv_p (Int.le_refl 0)]
  refine lv_iload_n hx hb dX5_byShare_5 rfl (lv_at hl 1 rfl) ?_
  refine xa_1015 (v := mu 1015 i) hx hb hK hR (md_35 hG) (by omega) rfl dX5_byShare_6 ?_
  have g2 := mr_1015 hG (i)
  refine lv_aload_n hx hb dX5_byShare_7 rfl (lv_at hl 0 rfl) ?_
  refine xg_913 (v := mu 913 0) hx hb hw5 hown hK hR (md_5 hG) (hts _ kw_761) rfl dX5_byShare_8 ?_
  have g3 := mr_913 hG (0)
  refine xk_pF (xr_V (As := [.int (iI (mu 1015 i)), .int (iI (mu 913 0))]) (rest := []) hx hb hml hown hts hK (c_X5_leftAhead hR hG (mu 1015 i) (mu 913 0) (by omega) (by omega)) ms_X5_leftAhead kw_1002 (wr_recv hK hR (md_5 hG) rfl rfl) ⟨by decide, by decide⟩ ⟨by decide, by decide⟩ rfl rfl hl.1 rfl (lv_room (by decide)) dX5_byShare_11) ?_
  have g4 := mLeftI_rng hG ((mu 1015 i)) ((mu 913 0))
  refine lv_aload_n hx hb dX5_byShare_14 rfl (lv_at hl 0 rfl) ?_
  refine xg_918 (v := mu 918 0) hx hb hw5 hown hK hR (md_5 hG) (hts _ kw_766) rfl dX5_byShare_15 ?_
  have q5 : mu 918 0 = 0 := mh_918 hG
  rw [q5, rv_p (Int.le_refl 0)]
  refine lv_iload_n hx hb dX5_byShare_18 rfl (lv_at hl 1 rfl) ?_
  refine xa_1018 (v := mu 1018 i) hx hb hK hR (md_38 hG) (by omega) rfl dX5_byShare_19 ?_
  have g6 := mr_1018 hG (i)
  refine xr_i2l hx hb dX5_byShare_20 (by omega) ?_
  have m1 := mul_rng (a := mLeft mu (mu 1015 i) (mu 913 0)) (m := 100000) (b := mu 1018 i) (n := 100000) (by omega) (by omega)
  refine xr_lmul hx hb dX5_byShare_21 ?_
  refine lv_ldc2 (v := lI (100)) hx hb hown (hts _ kw_1014) dX5_byShare_22 ?_
  refine xr_ldiv hx hb dX5_byShare_25 (by omega) (by omega) ?_
  exact xe_l hx hb hr hlk hsH dX5_byShare_26 (by rfl)
theorem ms_X5_sumOf : MVi RX5 yX5_sumOf cX5_sumOf 6 (some .long) 1 := ⟨kw_1009, kw_1008, kp_43, kw_4, rfl, by decide, by decide, by decide +kernel⟩
set_option maxRecDepth 100000 in
set_option maxHeartbeats 4000000 in
theorem c_X5_sumOf {l : Launch} {D : va_G} {cy : Nat → ClassId} {A : Nat → Prop} {ad : Nat → Int → Nat} {mu : Nat → Int → Int} {H : Heap} (hR : RM D cy A ad mu H) (hG : GM mu)  (i : Int) (h1 : 0 ≤ i ∧ i ≤ 23) : Met l yX5_sumOf (Cond.code yX5_sumOf cX5_sumOf 6 (some .long) :: wG) (rmF 2 46 0 0) (Pc D cy H [.ref (ad 5 (0)), .int (iI (i))]) (Qp (.long (lI (mSum mu i)))) 0 0 Kn := by
  refine met_of (la := [(0, .ref (ad 5 (0))), (1, .int (iI (i)))]) (by decide) (Nat.le_of_ble_eq_true rfl) rfl ?_
  intro p e R s m args below meth c ls hRm hx hb hml hr hlk hin hown hts hsH hK hl
  subst hRm
  have hown : s.vm.findClass "TakinghallModel" = some m.cls := hown
  have hw5 : ∀ w ∈ u_ws RX5 TX5 35, w.before args s = true := fun w h => hts w (uw_X5 w h)
  refine lv_aload_n hx hb dX5_sumOf_0 rfl (lv_at hl 0 rfl) ?_
  refine xg_915 (v := mu 915 0) hx hb hw5 hown hK hR (md_5 hG) (hts _ kw_763) rfl dX5_sumOf_1 ?_
  have q1 : mu 915 0 = 0 := mh_915 hG
  rw [q1, rv_p (Int.le_refl 0)]
  refine lv_iload_n hx hb dX5_sumOf_4 rfl (lv_at hl 1 rfl) ?_
  refine xa_1015 (v := mu 1015 i) hx hb hK hR (md_35 hG) (by omega) rfl dX5_sumOf_5 ?_
  have g2 := mr_1015 hG (i)
  refine lv_istore_n (i := 2) (lv' := [(2, .int (iI (mu 1015 i))), (0, .ref (ad 5 (0))), (1, .int (iI (i)))]) hx hb dX5_sumOf_6 rfl hl (by decide) rfl (fun ls hl => ?_)
  refine lv_aload_n hx hb dX5_sumOf_7 rfl (lv_at hl 1 rfl) ?_
  refine xg_908 (v := mu 908 0) hx hb hw5 hown hK hR (md_5 hG) (hts _ kw_756) rfl dX5_sumOf_8 ?_
  have q3 : mu 908 0 = 0 := mh_908 hG
  rw [q3, rv_p (Int.le_refl 0)]
  refine lv_iload_n hx hb dX5_sumOf_11 rfl (lv_at hl 0 rfl) ?_
  refine xa_1008 (v := mu 1008 (mu 1015 i)) hx hb hK hR (md_28 hG) (by omega) rfl dX5_sumOf_12 ?_
  have g4 := mr_1008 hG (mu 1015 i)
  refine lv_istore_n (i := 3) (lv' := [(3, .int (iI (mu 1008 (mu 1015 i)))), (2, .int (iI (mu 1015 i))), (0, .ref (ad 5 (0))), (1, .int (iI (i)))]) hx hb dX5_sumOf_13 rfl hl (by decide) rfl (fun ls hl => ?_)
  refine lv_aload_n hx hb dX5_sumOf_14 rfl (lv_at hl 2 rfl) ?_
  refine xg_914 (v := mu 914 0) hx hb hw5 hown hK hR (md_5 hG) (hts _ kw_762) rfl dX5_sumOf_15 ?_
  have q5 : mu 914 0 = 0 := mh_914 hG
  rw [q5, rv_p (Int.le_refl 0)]
  refine lv_iload_n hx hb dX5_sumOf_18 rfl (lv_at hl 3 rfl) ?_
  refine xa_1014 (v := mu 1014 i) hx hb hK hR (md_34 hG) (by omega) rfl dX5_sumOf_19 ?_
  have g6 := mr_1014 hG (i)
  refine lv_iconst (v := iI (2)) hx hb dX5_sumOf_20 rfl ?_
  refine xr_icmp_ne (tgt := 58) hx hb dX5_sumOf_21 (by decide) (by omega) (by omega) (fun h7 => ?_) (fun h7 => ?_)
  · skip
    refine lv_aload_n hx hb dX5_sumOf_58 rfl (lv_at hl 2 rfl) ?_
    refine xg_914 (v := mu 914 0) hx hb hw5 hown hK hR (md_5 hG) (hts _ kw_762) rfl dX5_sumOf_59 ?_
    have q8 : mu 914 0 = 0 := mh_914 hG
    rw [q8, rv_p (Int.le_refl 0)]
    refine lv_iload_n hx hb dX5_sumOf_62 rfl (lv_at hl 3 rfl) ?_
    refine xa_1014 (v := mu 1014 i) hx hb hK hR (md_34 hG) (by omega) rfl dX5_sumOf_63 ?_
    refine xr_if_ne (tgt := 134) hx hb dX5_sumOf_64 (by decide) (by omega) (fun h9 => ?_) (fun h9 => ?_)
    · skip
      refine lv_aload_n hx hb dX5_sumOf_134 rfl (lv_at hl 2 rfl) ?_
      refine xg_918 (v := mu 918 0) hx hb hw5 hown hK hR (md_5 hG) (hts _ kw_766) rfl dX5_sumOf_135 ?_
      have q10 : mu 918 0 = 0 := mh_918 hG
      rw [q10, rv_p (Int.le_refl 0)]
      refine lv_iload_n hx hb dX5_sumOf_138 rfl (lv_at hl 3 rfl) ?_
      refine xa_1018 (v := mu 1018 i) hx hb hK hR (md_38 hG) (by omega) rfl dX5_sumOf_139 ?_
      have g11 := mr_1018 hG (i)
      refine lv_iload_n hx hb dX5_sumOf_140 rfl (lv_at hl 0 rfl) ?_
      refine xr_isub hx hb dX5_sumOf_141 ?_
      refine lv_istore (i := 4) (lv' := [(4, .int (iI ((mu 1018 i) - (mu 1008 (mu 1015 i))))), (3, .int (iI (mu 1008 (mu 1015 i)))), (2, .int (iI (mu 1015 i))), (0, .ref (ad 5 (0))), (1, .int (iI (i)))]) hx hb dX5_sumOf_142 hl (by decide) rfl (fun ls hl => ?_)
      refine lv_iload hx hb dX5_sumOf_144 (lv_at hl 0 rfl) ?_
      refine xr_if_gt (tgt := 151) hx hb dX5_sumOf_146 (by decide) (by omega) (fun h12 => ?_) (fun h12 => ?_)
      · skip
        refine lv_iload hx hb dX5_sumOf_151 (lv_at hl 0 rfl) ?_
        refine lv_sipush (v := iI (730)) hx hb dX5_sumOf_153 (by decide) ?_
        refine xr_icmp_le (tgt := 165) hx hb dX5_sumOf_156 (by decide) (by omega) (by omega) (fun h13 => ?_) (fun h13 => ?_)
        · skip
          refine lv_iload hx hb dX5_sumOf_165 (lv_at hl 0 rfl) ?_
          refine lv_istore (i := 4) (lv' := [(4, .int (iI ((mu 1018 i) - (mu 1008 (mu 1015 i))))), (3, .int (iI (mu 1008 (mu 1015 i)))), (2, .int (iI (mu 1015 i))), (0, .ref (ad 5 (0))), (1, .int (iI (i)))]) hx hb dX5_sumOf_167 hl (by decide) rfl (fun ls hl => ?_)
          refine lv_iload hx hb dX5_sumOf_169 (lv_at hl 0 rfl) ?_
          refine lv_aload_n hx hb dX5_sumOf_171 rfl (lv_at hl 3 rfl) ?_
          refine xg_904 (v := mu 904 0) hx hb hw5 hown hK hR (md_5 hG) (hts _ kw_752) rfl dX5_sumOf_172 ?_
          have q14 : mu 904 0 = 0 := mh_904 hG
          rw [q14, rv_p (Int.le_refl 0)]
          refine lv_iload_n hx hb dX5_sumOf_175 rfl (lv_at hl 2 rfl) ?_
          refine xa_1004 (v := mu 1004 (mu 1015 i)) hx hb hK hR (md_24 hG) (by omega) rfl dX5_sumOf_176 ?_
          have g15 := mr_1004 hG (mu 1015 i)
          refine lv_iconst (v := iI (2)) hx hb dX5_sumOf_177 rfl ?_
          refine xr_icmp_ne (tgt := 186) hx hb dX5_sumOf_178 (by decide) (by omega) (by omega) (fun h16 => ?_) (fun h16 => ?_)
          · skip
            refine lv_iconst (v := iI (0)) hx hb dX5_sumOf_186 rfl ?_
            refine xr_iadd hx hb dX5_sumOf_187 ?_
            refine xr_i2l hx hb dX5_sumOf_188 (by omega) ?_
            refine lv_aload_n hx hb dX5_sumOf_189 rfl (lv_at hl 3 rfl) ?_
            refine xg_934 (v := mu 934 0) hx hb hw5 hown hK hR (md_5 hG) (hts _ kw_782) rfl dX5_sumOf_190 ?_
            have q17 : mu 934 0 = 0 := mh_934 hG
            rw [q17, rv_p (Int.le_refl 0)]
            refine lv_iload_n hx hb dX5_sumOf_193 rfl (lv_at hl 4 rfl) ?_
            refine xa_1034 (v := mu 1034 i) hx hb hK hR (md_54 hG) (by omega) rfl dX5_sumOf_194 ?_
            have g18 := mr_1034 hG (i)
            refine xr_i2l hx hb dX5_sumOf_195 (by omega) ?_
            refine xr_lmul hx hb dX5_sumOf_196 ?_
            exact xe_l hx hb hr hlk hsH dX5_sumOf_197 (by unfold mSum; (repeat' split) <;> omega)
          · skip
            refine lv_bipush (v := iI (90)) hx hb dX5_sumOf_181 (by decide) ?_
            refine lv_goto (tgt := 187) hx hb dX5_sumOf_183 (by decide) ?_
            refine xr_iadd hx hb dX5_sumOf_187 ?_
            refine xr_i2l hx hb dX5_sumOf_188 (by omega) ?_
            refine lv_aload_n hx hb dX5_sumOf_189 rfl (lv_at hl 3 rfl) ?_
            refine xg_934 (v := mu 934 0) hx hb hw5 hown hK hR (md_5 hG) (hts _ kw_782) rfl dX5_sumOf_190 ?_
            have q19 : mu 934 0 = 0 := mh_934 hG
            rw [q19, rv_p (Int.le_refl 0)]
            refine lv_iload_n hx hb dX5_sumOf_193 rfl (lv_at hl 4 rfl) ?_
            refine xa_1034 (v := mu 1034 i) hx hb hK hR (md_54 hG) (by omega) rfl dX5_sumOf_194 ?_
            have g20 := mr_1034 hG (i)
            refine xr_i2l hx hb dX5_sumOf_195 (by omega) ?_
            refine xr_lmul hx hb dX5_sumOf_196 ?_
            exact xe_l hx hb hr hlk hsH dX5_sumOf_197 (by unfold mSum; (repeat' split) <;> omega)
        · skip
          refine lv_sipush (v := iI (730)) hx hb dX5_sumOf_159 (by decide) ?_
          refine lv_goto (tgt := 167) hx hb dX5_sumOf_162 (by decide) ?_
          refine lv_istore (i := 4) (lv' := [(4, .int (iI (730))), (3, .int (iI (mu 1008 (mu 1015 i)))), (2, .int (iI (mu 1015 i))), (0, .ref (ad 5 (0))), (1, .int (iI (i)))]) hx hb dX5_sumOf_167 hl (by decide) rfl (fun ls hl => ?_)
          refine lv_iload hx hb dX5_sumOf_169 (lv_at hl 0 rfl) ?_
          refine lv_aload_n hx hb dX5_sumOf_171 rfl (lv_at hl 3 rfl) ?_
          refine xg_904 (v := mu 904 0) hx hb hw5 hown hK hR (md_5 hG) (hts _ kw_752) rfl dX5_sumOf_172 ?_
          have q21 : mu 904 0 = 0 := mh_904 hG
          rw [q21, rv_p (Int.le_refl 0)]
          refine lv_iload_n hx hb dX5_sumOf_175 rfl (lv_at hl 2 rfl) ?_
          refine xa_1004 (v := mu 1004 (mu 1015 i)) hx hb hK hR (md_24 hG) (by omega) rfl dX5_sumOf_176 ?_
          have g22 := mr_1004 hG (mu 1015 i)
          refine lv_iconst (v := iI (2)) hx hb dX5_sumOf_177 rfl ?_
          refine xr_icmp_ne (tgt := 186) hx hb dX5_sumOf_178 (by decide) (by omega) (by omega) (fun h23 => ?_) (fun h23 => ?_)
          · skip
            refine lv_iconst (v := iI (0)) hx hb dX5_sumOf_186 rfl ?_
            refine xr_iadd hx hb dX5_sumOf_187 ?_
            refine xr_i2l hx hb dX5_sumOf_188 (by omega) ?_
            refine lv_aload_n hx hb dX5_sumOf_189 rfl (lv_at hl 3 rfl) ?_
            refine xg_934 (v := mu 934 0) hx hb hw5 hown hK hR (md_5 hG) (hts _ kw_782) rfl dX5_sumOf_190 ?_
            have q24 : mu 934 0 = 0 := mh_934 hG
            rw [q24, rv_p (Int.le_refl 0)]
            refine lv_iload_n hx hb dX5_sumOf_193 rfl (lv_at hl 4 rfl) ?_
            refine xa_1034 (v := mu 1034 i) hx hb hK hR (md_54 hG) (by omega) rfl dX5_sumOf_194 ?_
            have g25 := mr_1034 hG (i)
            refine xr_i2l hx hb dX5_sumOf_195 (by omega) ?_
            refine xr_lmul hx hb dX5_sumOf_196 ?_
            exact xe_l hx hb hr hlk hsH dX5_sumOf_197 (by unfold mSum; (repeat' split) <;> omega)
          · skip
            refine lv_bipush (v := iI (90)) hx hb dX5_sumOf_181 (by decide) ?_
            refine lv_goto (tgt := 187) hx hb dX5_sumOf_183 (by decide) ?_
            refine xr_iadd hx hb dX5_sumOf_187 ?_
            refine xr_i2l hx hb dX5_sumOf_188 (by omega) ?_
            refine lv_aload_n hx hb dX5_sumOf_189 rfl (lv_at hl 3 rfl) ?_
            refine xg_934 (v := mu 934 0) hx hb hw5 hown hK hR (md_5 hG) (hts _ kw_782) rfl dX5_sumOf_190 ?_
            have q26 : mu 934 0 = 0 := mh_934 hG
            rw [q26, rv_p (Int.le_refl 0)]
            refine lv_iload_n hx hb dX5_sumOf_193 rfl (lv_at hl 4 rfl) ?_
            refine xa_1034 (v := mu 1034 i) hx hb hK hR (md_54 hG) (by omega) rfl dX5_sumOf_194 ?_
            have g27 := mr_1034 hG (i)
            refine xr_i2l hx hb dX5_sumOf_195 (by omega) ?_
            refine xr_lmul hx hb dX5_sumOf_196 ?_
            exact xe_l hx hb hr hlk hsH dX5_sumOf_197 (by unfold mSum; (repeat' split) <;> omega)
      · skip
        refine lv_lconst (v := lI (0)) hx hb dX5_sumOf_149 (by decide) ?_
        exact xe_l hx hb hr hlk hsH dX5_sumOf_150 (by unfold mSum; (repeat' split) <;> omega)
    · skip
      refine lv_aload_n hx hb dX5_sumOf_67 rfl (lv_at hl 2 rfl) ?_
      refine xg_904 (v := mu 904 0) hx hb hw5 hown hK hR (md_5 hG) (hts _ kw_752) rfl dX5_sumOf_68 ?_
      have q28 : mu 904 0 = 0 := mh_904 hG
      rw [q28, rv_p (Int.le_refl 0)]
      refine lv_iload_n hx hb dX5_sumOf_71 rfl (lv_at hl 1 rfl) ?_
      refine xa_1004 (v := mu 1004 (mu 1015 i)) hx hb hK hR (md_24 hG) (by omega) rfl dX5_sumOf_72 ?_
      have g29 := mr_1004 hG (mu 1015 i)
      refine lv_iconst (v := iI (1)) hx hb dX5_sumOf_73 rfl ?_
      refine xr_icmp_ne (tgt := 106) hx hb dX5_sumOf_74 (by decide) (by omega) (by omega) (fun h30 => ?_) (fun h30 => ?_)
      · skip
        refine lv_iconst (v := iI (0)) hx hb dX5_sumOf_106 rfl ?_
        refine lv_istore (i := 4) (lv' := [(4, .int (iI (0))), (3, .int (iI (mu 1008 (mu 1015 i)))), (2, .int (iI (mu 1015 i))), (0, .ref (ad 5 (0))), (1, .int (iI (i)))]) hx hb dX5_sumOf_107 hl (by decide) rfl (fun ls hl => ?_)
        refine lv_aload_n hx hb dX5_sumOf_109 rfl (lv_at hl 3 rfl) ?_
        refine lv_iload_n hx hb dX5_sumOf_110 rfl (lv_at hl 4 rfl) ?_
        refine xk_pF (xr_V (As := [.int (iI (i))]) (rest := []) hx hb hml hown hts hK (c_X5_byShare hR hG i (by omega)) ms_X5_byShare kw_1010 (wr_recv hK hR (md_5 hG) rfl rfl) ⟨by decide, by decide⟩ ⟨by decide, by decide⟩ rfl rfl hl.1 rfl (lv_room (by decide)) dX5_sumOf_111) ?_
        have g31 := mShare_rng hG (i)
        refine lv_iload hx hb dX5_sumOf_114 (lv_at hl 0 rfl) ?_
        refine xr_if_eq (tgt := 131) hx hb dX5_sumOf_116 (by decide) (by decide) (fun _ => ?_) (fun h32 => absurd h32 (by decide))
        refine lv_lconst (v := lI (0)) hx hb dX5_sumOf_131 (by decide) ?_
        refine xr_ladd hx hb dX5_sumOf_132 ?_
        exact xe_l hx hb hr hlk hsH dX5_sumOf_133 (by unfold mSum; (repeat' split) <;> omega)
      · skip
        refine lv_aload_n hx hb dX5_sumOf_77 rfl (lv_at hl 2 rfl) ?_
        refine xg_907 (v := mu 907 0) hx hb hw5 hown hK hR (md_5 hG) (hts _ kw_755) rfl dX5_sumOf_78 ?_
        have q33 : mu 907 0 = 0 := mh_907 hG
        rw [q33, rv_p (Int.le_refl 0)]
        refine lv_iload_n hx hb dX5_sumOf_81 rfl (lv_at hl 1 rfl) ?_
        refine xa_1007 (v := mu 1007 (mu 1015 i)) hx hb hK hR (md_27 hG) (by omega) rfl dX5_sumOf_82 ?_
        have g34 := mr_1007 hG (mu 1015 i)
        refine lv_bipush (v := iI (100)) hx hb dX5_sumOf_83 (by decide) ?_
        refine xr_icmp_ne (tgt := 106) hx hb dX5_sumOf_85 (by decide) (by omega) (by omega) (fun h35 => ?_) (fun h35 => ?_)
        · skip
          refine lv_iconst (v := iI (0)) hx hb dX5_sumOf_106 rfl ?_
          refine lv_istore (i := 4) (lv' := [(4, .int (iI (0))), (3, .int (iI (mu 1008 (mu 1015 i)))), (2, .int (iI (mu 1015 i))), (0, .ref (ad 5 (0))), (1, .int (iI (i)))]) hx hb dX5_sumOf_107 hl (by decide) rfl (fun ls hl => ?_)
          refine lv_aload_n hx hb dX5_sumOf_109 rfl (lv_at hl 3 rfl) ?_
          refine lv_iload_n hx hb dX5_sumOf_110 rfl (lv_at hl 4 rfl) ?_
          refine xk_pF (xr_V (As := [.int (iI (i))]) (rest := []) hx hb hml hown hts hK (c_X5_byShare hR hG i (by omega)) ms_X5_byShare kw_1010 (wr_recv hK hR (md_5 hG) rfl rfl) ⟨by decide, by decide⟩ ⟨by decide, by decide⟩ rfl rfl hl.1 rfl (lv_room (by decide)) dX5_sumOf_111) ?_
          have g36 := mShare_rng hG (i)
          refine lv_iload hx hb dX5_sumOf_114 (lv_at hl 0 rfl) ?_
          refine xr_if_eq (tgt := 131) hx hb dX5_sumOf_116 (by decide) (by decide) (fun _ => ?_) (fun h37 => absurd h37 (by decide))
          refine lv_lconst (v := lI (0)) hx hb dX5_sumOf_131 (by decide) ?_
          refine xr_ladd hx hb dX5_sumOf_132 ?_
          exact xe_l hx hb hr hlk hsH dX5_sumOf_133 (by unfold mSum; (repeat' split) <;> omega)
        · skip
          refine lv_iload_n hx hb dX5_sumOf_88 rfl (lv_at hl 0 rfl) ?_
          refine lv_aload_n hx hb dX5_sumOf_89 rfl (lv_at hl 2 rfl) ?_
          refine xg_917 (v := mu 917 0) hx hb hw5 hown hK hR (md_5 hG) (hts _ kw_765) rfl dX5_sumOf_90 ?_
          have q38 : mu 917 0 = 0 := mh_917 hG
          rw [q38, rv_p (Int.le_refl 0)]
          refine lv_iload_n hx hb dX5_sumOf_93 rfl (lv_at hl 3 rfl) ?_
          refine xa_1017 (v := mu 1017 i) hx hb hK hR (md_37 hG) (by omega) rfl dX5_sumOf_94 ?_
          have g39 := mr_1017 hG (i)
          refine xr_isub hx hb dX5_sumOf_95 ?_
          refine lv_sipush (v := iI (365)) hx hb dX5_sumOf_96 (by decide) ?_
          refine xr_icmp_lt (tgt := 106) hx hb dX5_sumOf_99 (by decide) (by omega) (by omega) (fun h40 => ?_) (fun h40 => ?_)
          · skip
            refine lv_iconst (v := iI (0)) hx hb dX5_sumOf_106 rfl ?_
            refine lv_istore (i := 4) (lv' := [(4, .int (iI (0))), (3, .int (iI (mu 1008 (mu 1015 i)))), (2, .int (iI (mu 1015 i))), (0, .ref (ad 5 (0))), (1, .int (iI (i)))]) hx hb dX5_sumOf_107 hl (by decide) rfl (fun ls hl => ?_)
            refine lv_aload_n hx hb dX5_sumOf_109 rfl (lv_at hl 3 rfl) ?_
            refine lv_iload_n hx hb dX5_sumOf_110 rfl (lv_at hl 4 rfl) ?_
            refine xk_pF (xr_V (As := [.int (iI (i))]) (rest := []) hx hb hml hown hts hK (c_X5_byShare hR hG i (by omega)) ms_X5_byShare kw_1010 (wr_recv hK hR (md_5 hG) rfl rfl) ⟨by decide, by decide⟩ ⟨by decide, by decide⟩ rfl rfl hl.1 rfl (lv_room (by decide)) dX5_sumOf_111) ?_
            have g41 := mShare_rng hG (i)
            refine lv_iload hx hb dX5_sumOf_114 (lv_at hl 0 rfl) ?_
            refine xr_if_eq (tgt := 131) hx hb dX5_sumOf_116 (by decide) (by decide) (fun _ => ?_) (fun h42 => absurd h42 (by decide))
            refine lv_lconst (v := lI (0)) hx hb dX5_sumOf_131 (by decide) ?_
            refine xr_ladd hx hb dX5_sumOf_132 ?_
            exact xe_l hx hb hr hlk hsH dX5_sumOf_133 (by unfold mSum; (repeat' split) <;> omega)
          · skip
            refine lv_iconst (v := iI (1)) hx hb dX5_sumOf_102 rfl ?_
            refine lv_goto (tgt := 107) hx hb dX5_sumOf_103 (by decide) ?_
            refine lv_istore (i := 4) (lv' := [(4, .int (iI (1))), (3, .int (iI (mu 1008 (mu 1015 i)))), (2, .int (iI (mu 1015 i))), (0, .ref (ad 5 (0))), (1, .int (iI (i)))]) hx hb dX5_sumOf_107 hl (by decide) rfl (fun ls hl => ?_)
            refine lv_aload_n hx hb dX5_sumOf_109 rfl (lv_at hl 3 rfl) ?_
            refine lv_iload_n hx hb dX5_sumOf_110 rfl (lv_at hl 4 rfl) ?_
            refine xk_pF (xr_V (As := [.int (iI (i))]) (rest := []) hx hb hml hown hts hK (c_X5_byShare hR hG i (by omega)) ms_X5_byShare kw_1010 (wr_recv hK hR (md_5 hG) rfl rfl) ⟨by decide, by decide⟩ ⟨by decide, by decide⟩ rfl rfl hl.1 rfl (lv_room (by decide)) dX5_sumOf_111) ?_
            have g43 := mShare_rng hG (i)
            refine lv_iload hx hb dX5_sumOf_114 (lv_at hl 0 rfl) ?_
            refine xr_if_eq (tgt := 131) hx hb dX5_sumOf_116 (by decide) (by decide) (fun h44 => absurd h44 (by decide)) (fun _ => ?_)
            refine lv_aload_n hx hb dX5_sumOf_119 rfl (lv_at hl 3 rfl) ?_
            refine lv_iload_n hx hb dX5_sumOf_120 rfl (lv_at hl 4 rfl) ?_
            refine xk_pF (xr_V (As := [.int (iI (i))]) (rest := [.long (lI (mShare mu i))]) hx hb hml hown hts hK (c_X5_byShare hR hG i (by omega)) ms_X5_byShare kw_1010 (wr_recv hK hR (md_5 hG) rfl rfl) ⟨by decide, by decide⟩ ⟨by decide, by decide⟩ rfl rfl hl.1 rfl (lv_room (Nat.le_of_ble_eq_true rfl)) dX5_sumOf_121) ?_
            have g45 := mShare_rng hG (i)
            refine lv_ldc2 (v := lI (10)) hx hb hown (hts _ kw_1015) dX5_sumOf_124 ?_
            refine xr_ldiv hx hb dX5_sumOf_127 (by omega) (by omega) ?_
            refine lv_goto (tgt := 132) hx hb dX5_sumOf_128 (by decide) ?_
            refine xr_ladd hx hb dX5_sumOf_132 ?_
            exact xe_l hx hb hr hlk hsH dX5_sumOf_133 (by unfold mSum; (repeat' split) <;> omega)
  · skip
    refine lv_aload_n hx hb dX5_sumOf_24 rfl (lv_at hl 2 rfl) ?_
    refine lv_iload_n hx hb dX5_sumOf_25 rfl (lv_at hl 1 rfl) ?_
    refine lv_iload_n hx hb dX5_sumOf_26 rfl (lv_at hl 3 rfl) ?_
    refine xk_pF (xr_V (As := [.int (iI (mu 1015 i)), .int (iI (i))]) (rest := []) hx hb hml hown hts hK (c_X5_leftAhead hR hG (mu 1015 i) i (by omega) (by omega)) ms_X5_leftAhead kw_1002 (wr_recv hK hR (md_5 hG) rfl rfl) ⟨by decide, by decide⟩ ⟨by decide, by decide⟩ rfl rfl hl.1 rfl (lv_room (by decide)) dX5_sumOf_27) ?_
    have g46 := mLeftI_rng hG ((mu 1015 i)) (i)
    refine lv_lstore (i := 4) (lv' := [(4, .long (lI (mLeft mu (mu 1015 i) i))), (3, .int (iI (mu 1008 (mu 1015 i)))), (2, .int (iI (mu 1015 i))), (0, .ref (ad 5 (0))), (1, .int (iI (i)))]) hx hb dX5_sumOf_30 hl (by decide) rfl (fun ls hl => ?_)
    refine lv_aload_n hx hb dX5_sumOf_32 rfl (lv_at hl 3 rfl) ?_
    refine xg_918 (v := mu 918 0) hx hb hw5 hown hK hR (md_5 hG) (hts _ kw_766) rfl dX5_sumOf_33 ?_
    have q47 : mu 918 0 = 0 := mh_918 hG
    rw [q47, rv_p (Int.le_refl 0)]
    refine lv_iload_n hx hb dX5_sumOf_36 rfl (lv_at hl 4 rfl) ?_
    refine xa_1018 (v := mu 1018 i) hx hb hK hR (md_38 hG) (by omega) rfl dX5_sumOf_37 ?_
    have g48 := mr_1018 hG (i)
    refine xr_i2l hx hb dX5_sumOf_38 (by omega) ?_
    refine lv_lload hx hb dX5_sumOf_39 (lv_at hl 0 rfl) ?_
    refine xr_lcmp hx hb dX5_sumOf_41 (by omega) (by omega) (fun y49 h50 => ?_)
    refine xr_if_ge (tgt := 55) hx hb dX5_sumOf_42 (by decide) (by omega) (fun h51 => ?_) (fun h51 => ?_)
    · skip
      refine lv_lload hx hb dX5_sumOf_55 (lv_at hl 0 rfl) ?_
      exact xe_l hx hb hr hlk hsH dX5_sumOf_57 (by unfold mSum; (repeat' split) <;> omega)
    · skip
      refine lv_aload_n hx hb dX5_sumOf_45 rfl (lv_at hl 3 rfl) ?_
      refine xg_918 (v := mu 918 0) hx hb hw5 hown hK hR (md_5 hG) (hts _ kw_766) rfl dX5_sumOf_46 ?_
      have q52 : mu 918 0 = 0 := mh_918 hG
      rw [q52, rv_p (Int.le_refl 0)]
      refine lv_iload_n hx hb dX5_sumOf_49 rfl (lv_at hl 4 rfl) ?_
      refine xa_1018 (v := mu 1018 i) hx hb hK hR (md_38 hG) (by omega) rfl dX5_sumOf_50 ?_
      refine xr_i2l hx hb dX5_sumOf_51 (by omega) ?_
      refine lv_goto (tgt := 57) hx hb dX5_sumOf_52 (by decide) ?_
      exact xe_l hx hb hr hlk hsH dX5_sumOf_57 (by unfold mSum; (repeat' split) <;> omega)
theorem ms_X5_wasTaken : MVi RX5 yX5_wasTaken cX5_wasTaken 2 (some .boolean) 1 := ⟨kw_1031, kw_1030, kp_45, kw_4, rfl, by decide, by decide, by decide +kernel⟩
set_option maxRecDepth 100000 in
set_option maxHeartbeats 4000000 in
theorem c_X5_wasTaken {l : Launch} {D : va_G} {cy : Nat → ClassId} {A : Nat → Prop} {ad : Nat → Int → Nat} {mu : Nat → Int → Int} {H : Heap} (hR : RM D cy A ad mu H) (hG : GM mu)  (i : Int) (h1 : 0 ≤ i ∧ i ≤ 23) : Met l yX5_wasTaken (Cond.code yX5_wasTaken cX5_wasTaken 2 (some .boolean) :: wG) (rmF 0 0 0 0) (Pc D cy H [.ref (ad 5 (0)), .int (iI (i))]) (Qp (.int (iI (bI (mTaken mu i))))) 0 0 Kn := by
  refine met_of (la := [(0, .ref (ad 5 (0))), (1, .int (iI (i)))]) (by decide) (Nat.le_of_ble_eq_true rfl) rfl ?_
  intro p e R s m args below meth c ls hRm hx hb hml hr hlk hin hown hts hsH hK hl
  subst hRm
  have hown : s.vm.findClass "TakinghallModel" = some m.cls := hown
  have hw5 : ∀ w ∈ u_ws RX5 TX5 35, w.before args s = true := fun w h => hts w (uw_X5 w h)
  refine lv_aload_n hx hb dX5_wasTaken_0 rfl (lv_at hl 0 rfl) ?_
  refine xg_908 (v := mu 908 0) hx hb hw5 hown hK hR (md_5 hG) (hts _ kw_756) rfl dX5_wasTaken_1 ?_
  have q1 : mu 908 0 = 0 := mh_908 hG
  rw [q1, rv_p (Int.le_refl 0)]
  refine lv_aload_n hx hb dX5_wasTaken_4 rfl (lv_at hl 0 rfl) ?_
  refine xg_915 (v := mu 915 0) hx hb hw5 hown hK hR (md_5 hG) (hts _ kw_763) rfl dX5_wasTaken_5 ?_
  have q2 : mu 915 0 = 0 := mh_915 hG
  rw [q2, rv_p (Int.le_refl 0)]
  refine lv_iload_n hx hb dX5_wasTaken_8 rfl (lv_at hl 1 rfl) ?_
  refine xa_1015 (v := mu 1015 i) hx hb hK hR (md_35 hG) (by omega) rfl dX5_wasTaken_9 ?_
  have g3 := mr_1015 hG (i)
  refine xa_1008 (v := mu 1008 (mu 1015 i)) hx hb hK hR (md_28 hG) (by omega) rfl dX5_wasTaken_10 ?_
  have g4 := mr_1008 hG (mu 1015 i)
  refine lv_iconst (v := iI (-1)) hx hb dX5_wasTaken_11 rfl ?_
  refine xr_icmp_eq (tgt := 19) hx hb dX5_wasTaken_12 (by decide) (by omega) (by omega) (fun h5 => ?_) (fun h5 => ?_)
  · skip
    refine lv_iconst (v := iI (0)) hx hb dX5_wasTaken_19 rfl ?_
    exact xe_zb hx hb hr hlk hsH dX5_wasTaken_20 (by unfold mTaken; omega)
  · skip
    refine lv_iconst (v := iI (1)) hx hb dX5_wasTaken_15 rfl ?_
    refine lv_goto (tgt := 20) hx hb dX5_wasTaken_16 (by decide) ?_
    exact xe_zb hx hb hr hlk hsH dX5_wasTaken_20 (by unfold mTaken; omega)
theorem ms_X5_gain : MVi RX5 yX5_gain cX5_gain 4 (some .long) 2 := ⟨kw_1043, kw_1042, kp_47, kw_4, rfl, by decide, by decide, by decide +kernel⟩
set_option maxRecDepth 100000 in
set_option maxHeartbeats 4000000 in
theorem c_X5_gain {l : Launch} {D : va_G} {cy : Nat → ClassId} {A : Nat → Prop} {ad : Nat → Int → Nat} {mu : Nat → Int → Int} {H : Heap} (hR : RM D cy A ad mu H) (hG : GM mu)  (u : Int) (d : Int) (h0 : in32 d) (h1 : in64 (u * d * 3)) : Met l yX5_gain (Cond.code yX5_gain cX5_gain 4 (some .long) :: wG) (rmF 0 0 0 0) (Pc D cy H [.ref (ad 5 (0)), .long (lI (u)), .int (iI (d))]) (Qp (.long (lI (gainR u d)))) 0 0 Kn := by
  refine met_of (la := [(0, .ref (ad 5 (0))), (1, .long (lI (u))), (3, .int (iI (d)))]) (by decide) (Nat.le_of_ble_eq_true rfl) rfl ?_
  intro p e R s m args below meth c ls hRm hx hb hml hr hlk hin hown hts hsH hK hl
  subst hRm
  have hown : s.vm.findClass "TakinghallModel" = some m.cls := hown
  refine lv_lload_n hx hb dX5_gain_0 rfl (lv_at hl 1 rfl) ?_
  refine lv_iload_n hx hb dX5_gain_1 rfl (lv_at hl 2 rfl) ?_
  refine xr_i2l hx hb dX5_gain_2 (by omega) ?_
  refine xr_lmul hx hb dX5_gain_3 ?_
  refine lv_ldc2 (v := lI (3)) hx hb hown (hts _ kw_1044) dX5_gain_4 ?_
  refine xr_lmul hx hb dX5_gain_7 ?_
  refine lv_ldc2 (v := lI (36500)) hx hb hown (hts _ kw_1045) dX5_gain_8 ?_
  refine xr_ldivT hx hb dX5_gain_11 (by omega) ⟨by decide, by decide⟩ ?_
  exact xe_l hx hb hr hlk hsH dX5_gain_12 (by rfl)
theorem ms_X5_owedTo : MVi RX5 yX5_owedTo cX5_owedTo 8 (some .long) 1 := ⟨kw_1039, kw_1038, kp_46, kw_4, rfl, by decide, by decide, by decide +kernel⟩
set_option maxRecDepth 100000 in
set_option maxHeartbeats 4000000 in
theorem c_X5_owedTo {l : Launch} {D : va_G} {cy : Nat → ClassId} {A : Nat → Prop} {ad : Nat → Int → Nat} {mu : Nat → Int → Int} {H : Heap} (hR : RM D cy A ad mu H) (hG : GM mu)  (i : Int) (h1 : 0 ≤ i ∧ i ≤ 23) : Met l yX5_owedTo (Cond.code yX5_owedTo cX5_owedTo 8 (some .long) :: wG) (rmF 1 23 0 0) (Pc D cy H [.ref (ad 5 (0)), .int (iI (i))]) (Qp (.long (lI (mOwed mu i)))) 0 0 Kn := by
  refine met_of (la := [(0, .ref (ad 5 (0))), (1, .int (iI (i)))]) (by decide) (Nat.le_of_ble_eq_true rfl) rfl ?_
  intro p e R s m args below meth c ls hRm hx hb hml hr hlk hin hown hts hsH hK hl
  subst hRm
  have hown : s.vm.findClass "TakinghallModel" = some m.cls := hown
  have hw5 : ∀ w ∈ u_ws RX5 TX5 35, w.before args s = true := fun w h => hts w (uw_X5 w h)
  refine lv_aload_n hx hb dX5_owedTo_0 rfl (lv_at hl 0 rfl) ?_
  refine lv_iload_n hx hb dX5_owedTo_1 rfl (lv_at hl 1 rfl) ?_
  refine xk_pF (xr_V (As := [.int (iI (i))]) (rest := []) hx hb hml hown hts hK (c_X5_wasTaken hR hG i (by omega)) ms_X5_wasTaken kw_1028 (wr_recv hK hR (md_5 hG) rfl rfl) ⟨by decide, by decide⟩ ⟨by decide, by decide⟩ rfl rfl hl.1 rfl (lv_room (by decide)) dX5_owedTo_2) ?_
  refine xr_ifb_eq (tgt := 17) hx hb dX5_owedTo_5 (by decide) (fun h1 => ?_) (fun h1 => ?_)
  · skip
    refine lv_lconst (v := lI (0)) hx hb dX5_owedTo_17 (by decide) ?_
    exact xe_l hx hb hr hlk hsH dX5_owedTo_18 (by (try unfold mTaken at *); unfold mOwed; first | rw [if_pos (by omega)] | (rw [if_neg (by omega)]; first | rw [if_pos (by omega)] | rw [if_neg (by omega)]))
  · skip
    refine lv_aload_n hx hb dX5_owedTo_8 rfl (lv_at hl 0 rfl) ?_
    refine xg_925 (v := mu 925 0) hx hb hw5 hown hK hR (md_5 hG) (hts _ kw_773) rfl dX5_owedTo_9 ?_
    have q2 : mu 925 0 = 0 := mh_925 hG
    rw [q2, rv_p (Int.le_refl 0)]
    refine lv_iload_n hx hb dX5_owedTo_12 rfl (lv_at hl 1 rfl) ?_
    refine xa_1025 (v := mu 1025 i) hx hb hK hR (md_45 hG) (by omega) rfl dX5_owedTo_13 ?_
    have g3 := mr_1025 hG (i)
    refine xr_if_eq (tgt := 19) hx hb dX5_owedTo_14 (by decide) (by omega) (fun h4 => ?_) (fun h4 => ?_)
    · skip
      refine lv_aload_n hx hb dX5_owedTo_19 rfl (lv_at hl 0 rfl) ?_
      refine xg_908 (v := mu 908 0) hx hb hw5 hown hK hR (md_5 hG) (hts _ kw_756) rfl dX5_owedTo_20 ?_
      have q5 : mu 908 0 = 0 := mh_908 hG
      rw [q5, rv_p (Int.le_refl 0)]
      refine lv_aload_n hx hb dX5_owedTo_23 rfl (lv_at hl 0 rfl) ?_
      refine xg_915 (v := mu 915 0) hx hb hw5 hown hK hR (md_5 hG) (hts _ kw_763) rfl dX5_owedTo_24 ?_
      have q6 : mu 915 0 = 0 := mh_915 hG
      rw [q6, rv_p (Int.le_refl 0)]
      refine lv_iload_n hx hb dX5_owedTo_27 rfl (lv_at hl 1 rfl) ?_
      refine xa_1015 (v := mu 1015 i) hx hb hK hR (md_35 hG) (by omega) rfl dX5_owedTo_28 ?_
      have g7 := mr_1015 hG (i)
      refine xa_1008 (v := mu 1008 (mu 1015 i)) hx hb hK hR (md_28 hG) (by omega) rfl dX5_owedTo_29 ?_
      have g8 := mr_1008 hG (mu 1015 i)
      refine lv_istore_n (i := 2) (lv' := [(2, .int (iI (mu 1008 (mu 1015 i)))), (0, .ref (ad 5 (0))), (1, .int (iI (i)))]) hx hb dX5_owedTo_30 rfl hl (by decide) rfl (fun ls hl => ?_)
      refine lv_aload_n hx hb dX5_owedTo_31 rfl (lv_at hl 1 rfl) ?_
      refine xg_924 (v := mu 924 0) hx hb hw5 hown hK hR (md_5 hG) (hts _ kw_772) rfl dX5_owedTo_32 ?_
      have q9 : mu 924 0 = 0 := mh_924 hG
      rw [q9, rv_p (Int.le_refl 0)]
      refine lv_iload_n hx hb dX5_owedTo_35 rfl (lv_at hl 2 rfl) ?_
      refine xa_1024 (v := mu 1024 i) hx hb hK hR (md_44 hG) (by omega) rfl dX5_owedTo_36 ?_
      have g10 := mr_1024 hG (i)
      refine lv_istore_n (i := 3) (lv' := [(3, .int (iI (mu 1024 i))), (2, .int (iI (mu 1008 (mu 1015 i)))), (0, .ref (ad 5 (0))), (1, .int (iI (i)))]) hx hb dX5_owedTo_37 rfl hl (by decide) rfl (fun ls hl => ?_)
      refine lv_aload_n hx hb dX5_owedTo_38 rfl (lv_at hl 2 rfl) ?_
      refine xg_921 (v := mu 921 0) hx hb hw5 hown hK hR (md_5 hG) (hts _ kw_769) rfl dX5_owedTo_39 ?_
      have q11 : mu 921 0 = 0 := mh_921 hG
      rw [q11, rv_p (Int.le_refl 0)]
      refine lv_iload_n hx hb dX5_owedTo_42 rfl (lv_at hl 3 rfl) ?_
      refine xa_1021 (v := mu 1021 i) hx hb hK hR (md_41 hG) (by omega) rfl dX5_owedTo_43 ?_
      have g12 := mr_1021 hG (i)
      refine lv_lstore (i := 4) (lv' := [(4, .long (lI (mu 1021 i))), (3, .int (iI (mu 1024 i))), (2, .int (iI (mu 1008 (mu 1015 i)))), (0, .ref (ad 5 (0))), (1, .int (iI (i)))]) hx hb dX5_owedTo_44 hl (by decide) rfl (fun ls hl => ?_)
      refine lv_iload_n hx hb dX5_owedTo_46 rfl (lv_at hl 1 rfl) ?_
      refine lv_iconst (v := iI (-1)) hx hb dX5_owedTo_47 rfl ?_
      refine xr_icmp_ne (tgt := 67) hx hb dX5_owedTo_48 (by decide) (by omega) (by omega) (fun h13 => ?_) (fun h13 => ?_)
      · skip
        refine lv_lload hx hb dX5_owedTo_67 (lv_at hl 0 rfl) ?_
        refine lv_aload_n hx hb dX5_owedTo_69 rfl (lv_at hl 3 rfl) ?_
        refine xg_923 (v := mu 923 0) hx hb hw5 hown hK hR (md_5 hG) (hts _ kw_771) rfl dX5_owedTo_70 ?_
        have q14 : mu 923 0 = 0 := mh_923 hG
        rw [q14, rv_p (Int.le_refl 0)]
        refine lv_iload_n hx hb dX5_owedTo_73 rfl (lv_at hl 4 rfl) ?_
        refine xa_1023 (v := mu 1023 i) hx hb hK hR (md_43 hG) (by omega) rfl dX5_owedTo_74 ?_
        have g15 := mr_1023 hG (i)
        refine xr_lsub hx hb dX5_owedTo_75 ?_
        refine lv_lstore (i := 6) (lv' := [(6, .long (lI ((mu 1021 i) - (mu 1023 i)))), (4, .long (lI (mu 1021 i))), (3, .int (iI (mu 1024 i))), (2, .int (iI (mu 1008 (mu 1015 i)))), (0, .ref (ad 5 (0))), (1, .int (iI (i)))]) hx hb dX5_owedTo_76 hl (by decide) rfl (fun ls hl => ?_)
        refine lv_lload hx hb dX5_owedTo_78 (lv_at hl 0 rfl) ?_
        refine lv_aload_n hx hb dX5_owedTo_80 rfl (lv_at hl 4 rfl) ?_
        refine lv_lload hx hb dX5_owedTo_81 (lv_at hl 1 rfl) ?_
        refine lv_iload_n hx hb dX5_owedTo_83 rfl (lv_at hl 2 rfl) ?_
        refine lv_iload_n hx hb dX5_owedTo_84 rfl (lv_at hl 3 rfl) ?_
        refine xr_isub hx hb dX5_owedTo_85 ?_
        refine xk_pF (xr_V (As := [.long (lI (mu 1021 i)), .int (iI ((mu 1024 i) - (mu 1008 (mu 1015 i))))]) (rest := [.long (lI ((mu 1021 i) - (mu 1023 i)))]) hx hb hml hown hts hK (c_X5_gain hR hG (mu 1021 i) ((mu 1024 i) - (mu 1008 (mu 1015 i))) (by omega) (gain_in (by omega) (by omega))) ms_X5_gain kw_1040 (wr_recv hK hR (md_5 hG) rfl rfl) ⟨by decide, by decide⟩ ⟨by decide, by decide⟩ rfl rfl hl.1 rfl (lv_room (Nat.le_of_ble_eq_true rfl)) dX5_owedTo_86) ?_
        refine xr_ladd hx hb dX5_owedTo_89 ?_
        refine lv_aload_n hx hb dX5_owedTo_90 rfl (lv_at hl 4 rfl) ?_
        refine lv_lload hx hb dX5_owedTo_91 (lv_at hl 0 rfl) ?_
        refine lv_aload_n hx hb dX5_owedTo_93 rfl (lv_at hl 4 rfl) ?_
        refine xg_901 (v := mu 901 0) hx hb hw5 hown hK hR (md_5 hG) (hts _ kw_749) rfl dX5_owedTo_94 ?_
        have g16 := mr_901 hG (0)
        refine lv_iload_n hx hb dX5_owedTo_97 rfl (lv_at hl 2 rfl) ?_
        refine xr_isub hx hb dX5_owedTo_98 ?_
        refine xk_pF (xr_V (As := [.long (lI ((mu 1021 i) - (mu 1023 i))), .int (iI ((mu 901 0) - (mu 1024 i)))]) (rest := [.long (lI (((mu 1021 i) - (mu 1023 i)) + (gainR (mu 1021 i) ((mu 1024 i) - (mu 1008 (mu 1015 i))))))]) hx hb hml hown hts hK (c_X5_gain hR hG ((mu 1021 i) - (mu 1023 i)) ((mu 901 0) - (mu 1024 i)) (by omega) (gain_in (by omega) (by omega))) ms_X5_gain kw_1040 (wr_recv hK hR (md_5 hG) rfl rfl) ⟨by decide, by decide⟩ ⟨by decide, by decide⟩ rfl rfl hl.1 rfl (lv_room (Nat.le_of_ble_eq_true rfl)) dX5_owedTo_99) ?_
        refine xr_ladd hx hb dX5_owedTo_102 ?_
        exact xe_l hx hb hr hlk hsH dX5_owedTo_103 (by (try unfold mTaken at *); unfold mOwed; first | rw [if_pos (by omega)] | (rw [if_neg (by omega)]; first | rw [if_pos (by omega)] | rw [if_neg (by omega)]))
      · skip
        refine lv_lload hx hb dX5_owedTo_51 (lv_at hl 0 rfl) ?_
        refine lv_aload_n hx hb dX5_owedTo_53 rfl (lv_at hl 3 rfl) ?_
        refine lv_lload hx hb dX5_owedTo_54 (lv_at hl 0 rfl) ?_
        refine lv_aload_n hx hb dX5_owedTo_56 rfl (lv_at hl 3 rfl) ?_
        refine xg_901 (v := mu 901 0) hx hb hw5 hown hK hR (md_5 hG) (hts _ kw_749) rfl dX5_owedTo_57 ?_
        have g17 := mr_901 hG (0)
        refine lv_iload_n hx hb dX5_owedTo_60 rfl (lv_at hl 2 rfl) ?_
        refine xr_isub hx hb dX5_owedTo_61 ?_
        refine xk_pF (xr_V (As := [.long (lI (mu 1021 i)), .int (iI ((mu 901 0) - (mu 1008 (mu 1015 i))))]) (rest := [.long (lI (mu 1021 i))]) hx hb hml hown hts hK (c_X5_gain hR hG (mu 1021 i) ((mu 901 0) - (mu 1008 (mu 1015 i))) (by omega) (gain_in (by omega) (by omega))) ms_X5_gain kw_1040 (wr_recv hK hR (md_5 hG) rfl rfl) ⟨by decide, by decide⟩ ⟨by decide, by decide⟩ rfl rfl hl.1 rfl (lv_room (Nat.le_of_ble_eq_true rfl)) dX5_owedTo_62) ?_
        refine xr_ladd hx hb dX5_owedTo_65 ?_
        exact xe_l hx hb hr hlk hsH dX5_owedTo_66 (by (try unfold mTaken at *); unfold mOwed; first | rw [if_pos (by omega)] | (rw [if_neg (by omega)]; first | rw [if_pos (by omega)] | rw [if_neg (by omega)]))
    · skip
      refine lv_lconst (v := lI (0)) hx hb dX5_owedTo_17 (by decide) ?_
      exact xe_l hx hb hr hlk hsH dX5_owedTo_18 (by (try unfold mTaken at *); unfold mOwed; first | rw [if_pos (by omega)] | (rw [if_neg (by omega)]; first | rw [if_pos (by omega)] | rw [if_neg (by omega)]))
