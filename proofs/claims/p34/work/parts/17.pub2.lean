theorem ms_X4_blight : MVi RX4 yX4_blight cX4_blight 4 (some .int) 1 := ⟨kw_600, kw_598, kw_599, kw_1, rfl, by decide, by decide, by decide +kernel⟩
set_option maxRecDepth 100000 in
set_option maxHeartbeats 4000000 in
theorem c_X4_blight {l : Launch} {D : va_G} {cy : Nat → ClassId} {A : Nat → Prop} {ad : Nat → Int → Nat} {sg : Nat → Int → Int} {H : Heap} (hR : RC D cy A ad sg H) (hG : GC sg) (hl0 : l.stackTraces = false) (hA : ∀ q : Nat, H.size ≤ q → A q) (x : Int) (h_x : in32 x) (h2 : sg 702 0 ≤ 1000000) : vx_Met l yX4_blight (Cond.code yX4_blight cX4_blight 4 (some .int) :: wG) (rmF 6 141 1 6) (PcX A D cy H [.ref (ad 4 (0)), .int (iI (x))]) (QmT (blightE sg x = 0) (some (.int (iI (landO (tk2 (st sg 205 (sg 102 (iAt sg x)) 100) (sg 102 (iAt sg x))) (sg 102 (iAt sg x)))))) (fun H' => RC D cy A ad (tkT (st sg 205 (sg 102 (iAt sg x)) 100) (sg 102 (iAt sg x))) H') A) (XCx (blightE sg x) (fun H' => RC D cy A ad sg H') A) 1 6 A := by
  refine vmet_of (la := [(0, .ref (ad 4 (0))), (1, .int (iI (x)))]) (by decide) (Nat.le_of_ble_eq_true rfl) rfl ?_
  intro p e R s m args below meth c ls hRm hx hb hml hr hlk hxt hown hts hsH hK hX hl
  subst hRm
  have hown : s.vm.findClass "Takinghall" = some m.cls := hown
  have hw0 : ∀ w ∈ u_ws RX0 TX0 15, w.before args s = true := fun w h => hts w (uw_X0 w h)
  have hw1 : ∀ w ∈ u_ws RX1 TX1 11, w.before args s = true := fun w h => hts w (uw_X1 w h)
  have hw4 : ∀ w ∈ u_ws RX4 TX4 12, w.before args s = true := fun w h => hts w (uw_X4 w h)
  have hS : va_S A s.heap H [] := by rw [hsH]; exact va_S.rf
  refine lv_aload_n hx hb dX4_blight_0 rfl (lv_at hl 0 rfl) ?_
  refine lv_iload_n hx hb dX4_blight_1 rfl (lv_at hl 1 rfl) ?_
  refine xk_pF (xr_V (As := [.int (iI (x))]) (rest := []) hx hb hml hown hts hK (c_X4_interestAt hR hG x (by omega)) ms_X4_interestAt kw_298 (wr_recv hK hR (gd_4 hG) rfl rfl) ⟨by decide, by decide⟩ ⟨by decide, by decide⟩ rfl rfl hl.1 rfl (lv_room (by decide)) dX4_blight_2) ?_
  have g1 := iAt_rng hG (x)
  refine xr_astore_n (i := 2) (lv' := [(2, rv (ad 0) (iAt sg x)), (0, .ref (ad 4 (0))), (1, .int (iI (x)))]) hx hb dX4_blight_5 rfl hl (by decide) rfl (fun ls hl => ?_)
  refine xr_aload_n hx hb dX4_blight_6 rfl (lv_at hl 0 rfl) ?_
  refine xr_ifnonnull (tgt := 20) hx hb dX4_blight_7 (by decide) (fun h2 => ?_) (fun h2 => ?_)
  · skip
    rw [rv_p h2] at hl
    refine lv_aload_n hx hb dX4_blight_20 rfl (lv_at hl 0 rfl) ?_
    refine xg_101 (v := sg 101 (iAt sg x)) hx hb hw0 hown hK hR (gd_0 hG (by omega)) (hts _ kw_474) rfl dX4_blight_21 ?_
    have g3 := gr_101 hG (iAt sg x)
    refine xr_if_eq (tgt := 38) hx hb dX4_blight_24 (by decide) (by omega) (fun h4 => ?_) (fun h4 => ?_)
    · skip
      refine lv_aload_n hx hb dX4_blight_38 rfl (lv_at hl 0 rfl) ?_
      refine xg_102 (v := sg 102 (iAt sg x)) hx hb hw0 hown hK hR (gd_0 hG (by omega)) (hts _ kw_476) rfl dX4_blight_39 ?_
      have g5 := gr_102 hG (iAt sg x)
      rw [rv_p (f := ad 1) (v := sg 102 (iAt sg x)) (by omega)]
      refine lv_astore_n (i := 3) (lv' := [(3, .ref (ad 1 (sg 102 (iAt sg x)))), (2, .ref (ad 0 (iAt sg x))), (0, .ref (ad 4 (0))), (1, .int (iI (x)))]) hx hb dX4_blight_42 rfl hl (by decide) rfl (fun ls hl => ?_)
      refine lv_aload_n hx hb dX4_blight_43 rfl (lv_at hl 0 rfl) ?_
      refine lv_ifnull hx hb dX4_blight_44 ?_
      refine lv_aload_n hx hb dX4_blight_47 rfl (lv_at hl 0 rfl) ?_
      refine xg_203 (v := sg 203 (sg 102 (iAt sg x))) hx hb hw1 hown hK hR (gd_1 hG (by omega)) (hts _ kw_41) rfl dX4_blight_48 ?_
      have g7 := gr_203 hG (sg 102 (iAt sg x))
      refine xr_if_ne (tgt := 84) hx hb dX4_blight_51 (by decide) (by omega) (fun h8 => ?_) (fun h8 => ?_)
      · skip
        exact xtw_3 (thr := blightE sg x) (text := "the PLOT cannot be TAKEN by BLIGHT") (P := fun H' => RC D cy A ad sg H') hx hb hl0 hown hts hX hS (hl.1.trans hml.symm) hxt hlk (by decide) dX4_blight_84 dX4_blight_87 dX4_blight_88 dX4_blight_91 dX4_blight_94 (by decide) (by decide) (by decide) (by decide) (by decide) (by decide) (wr_more hR) (by unfold blightE; (repeat' split) <;> first | omega | grind)
      · skip
        refine lv_aload_n hx hb dX4_blight_54 rfl (lv_at hl 0 rfl) ?_
        refine xk_pF (xr_S (As := [.ref (ad 1 (sg 102 (iAt sg x)))]) (rest := []) hx hb hml hown hts hK (c_X4_isNeeded hR hG (sg 102 (iAt sg x)) ((rv_p (by omega)).symm) (by omega)) ms_X4_isNeeded kw_226 ⟨by decide, by decide⟩ ⟨by decide, by decide⟩ rfl rfl hl.1 rfl (lv_room (by decide)) dX4_blight_55) ?_
        refine xr_ifb_eq (tgt := 84) hx hb dX4_blight_58 (by decide) (fun h9 => ?_) (fun h9 => ?_)
        · skip
          exact xtw_3 (thr := blightE sg x) (text := "the PLOT cannot be TAKEN by BLIGHT") (P := fun H' => RC D cy A ad sg H') hx hb hl0 hown hts hX hS (hl.1.trans hml.symm) hxt hlk (by decide) dX4_blight_84 dX4_blight_87 dX4_blight_88 dX4_blight_91 dX4_blight_94 (by decide) (by decide) (by decide) (by decide) (by decide) (by decide) (wr_more hR) (by unfold blightE; (repeat' split) <;> first | omega | grind)
        · skip
          refine lv_aload_n hx hb dX4_blight_61 rfl (lv_at hl 0 rfl) ?_
          refine xg_202 (v := sg 202 (sg 102 (iAt sg x))) hx hb hw1 hown hK hR (gd_1 hG (by omega)) (hts _ kw_39) rfl dX4_blight_62 ?_
          have g10 := gr_202 hG (sg 102 (iAt sg x))
          refine lv_iconst (v := iI (1)) hx hb dX4_blight_65 rfl ?_
          refine xr_icmp_ne (tgt := 84) hx hb dX4_blight_66 (by decide) (by omega) (by omega) (fun h11 => ?_) (fun h11 => ?_)
          · skip
            exact xtw_3 (thr := blightE sg x) (text := "the PLOT cannot be TAKEN by BLIGHT") (P := fun H' => RC D cy A ad sg H') hx hb hl0 hown hts hX hS (hl.1.trans hml.symm) hxt hlk (by decide) dX4_blight_84 dX4_blight_87 dX4_blight_88 dX4_blight_91 dX4_blight_94 (by decide) (by decide) (by decide) (by decide) (by decide) (by decide) (wr_more hR) (by unfold blightE; (repeat' split) <;> first | omega | grind)
          · skip
            refine lv_aload_n hx hb dX4_blight_69 rfl (lv_at hl 2 rfl) ?_
            refine xg_506 (v := sg 506 0) hx hb hw4 hown hK hR (gd_4 hG) (hts _ kw_97) rfl dX4_blight_70 ?_
            have g12 := gr_506 hG (0)
            refine lv_aload_n hx hb dX4_blight_73 rfl (lv_at hl 1 rfl) ?_
            refine xg_104 (v := sg 104 (iAt sg x)) hx hb hw0 hown hK hR (gd_0 hG (by omega)) (hts _ kw_480) rfl dX4_blight_74 ?_
            have g13 := gr_104 hG (iAt sg x)
            refine xr_isub hx hb dX4_blight_77 ?_
            refine lv_sipush (v := iI (180)) hx hb dX4_blight_78 (by decide) ?_
            refine xr_icmp_ge (tgt := 95) hx hb dX4_blight_81 (by decide) (by omega) (by omega) (fun h14 => ?_) (fun h14 => ?_)
            · skip
              refine lv_aload_n hx hb dX4_blight_95 rfl (lv_at hl 0 rfl) ?_
              refine lv_bipush (v := iI (100)) hx hb dX4_blight_96 (by decide) ?_
              refine xp_205 (v := 100) hx hb hw1 hown hK hR hS (gd_1 hG (by omega)) (hts _ kw_43) dX4_blight_98 (fun H locs hR hS => ?_)
              refine lv_aload_n hx hb dX4_blight_101 rfl (lv_at hl 2 rfl) ?_
              refine lv_aload_n hx hb dX4_blight_102 rfl (lv_at hl 0 rfl) ?_
              refine xk_mF (xr_V (As := [.ref (ad 1 (sg 102 (iAt sg x)))]) (rest := []) hx hb hml hown hts hK (c_X4_take hR (gc_205 hG (sg 102 (iAt sg x)) (v := 100) (by omega)) (sg 102 (iAt sg x)) (by omega) (by first | omega | (have z : sg 702 0 ≤ 1000000 := (by omega); exact z))) ms_X4_take kw_589 (wr_recv hK hR ((dm_st (by decide) _ _).mpr (gd_4 hG)) rfl rfl) ⟨by decide, by decide⟩ ⟨by decide, by decide⟩ rfl rfl hl.1 rfl (lv_room (by decide)) dX4_blight_103) hS (fun H locs hR hS hz hq => ?_)
              show W p l e (rmF 6 141 1 6) s m args below meth c H locs (0 + 0) (0 + 0) _ (F0 m (103 + 3) ls (.int (iI (landO (tk2 (st sg 205 (sg 102 (iAt sg x)) (100)) (sg 102 (iAt sg x))) (sg 102 (iAt sg x)))) :: []))
              have G15 : GC (tkT (st sg 205 (sg 102 (iAt sg x)) (100)) (sg 102 (iAt sg x))) := gc_tkT (gc_205 hG (sg 102 (iAt sg x)) (v := 100) (by omega)) _ (by have z : sg 702 0 ≤ 1000000 := (by omega); exact z)
              exact xv_i hx hb hr hlk hS (by decide) (by decide) dX4_blight_106 (by unfold blightE; (repeat' split) <;> first | omega | grind) (by rfl) (by exact hR)
            · skip
              exact xtw_3 (thr := blightE sg x) (text := "the PLOT cannot be TAKEN by BLIGHT") (P := fun H' => RC D cy A ad sg H') hx hb hl0 hown hts hX hS (hl.1.trans hml.symm) hxt hlk (by decide) dX4_blight_84 dX4_blight_87 dX4_blight_88 dX4_blight_91 dX4_blight_94 (by decide) (by decide) (by decide) (by decide) (by decide) (by decide) (wr_more hR) (by unfold blightE; (repeat' split) <;> first | omega | grind)
    · skip
      exact xtw_2 (thr := blightE sg x) (text := "not the INTEREST of an OWNER") (P := fun H' => RC D cy A ad sg H') hx hb hl0 hown hts hX hS (hl.1.trans hml.symm) hxt hlk (by decide) dX4_blight_27 dX4_blight_30 dX4_blight_31 dX4_blight_34 dX4_blight_37 (by decide) (by decide) (by decide) (by decide) (by decide) (by decide) (wr_more hR) (by unfold blightE; (repeat' split) <;> first | omega | grind)
  · skip
    rw [rv_n h2] at hl
    exact xt_1 (thr := blightE sg x) (text := "no such INTEREST") (P := fun H' => RC D cy A ad sg H') hx hb hl0 hown hts hX hS (hl.1.trans hml.symm) hxt hlk (by decide) dX4_blight_10 dX4_blight_13 dX4_blight_14 dX4_blight_16 dX4_blight_19 (by decide) (by decide) (by decide) (by decide) (by decide) (by decide) (wr_more hR) (by unfold blightE; (repeat' split) <;> first | omega | grind)
theorem ms_X4_works : MVi RX4 yX4_works cX4_works 3 (some .int) 1 := ⟨kw_606, kw_604, kw_605, kw_1, rfl, by decide, by decide, by decide +kernel⟩
set_option maxRecDepth 100000 in
set_option maxHeartbeats 4000000 in
theorem c_X4_works {l : Launch} {D : va_G} {cy : Nat → ClassId} {A : Nat → Prop} {ad : Nat → Int → Nat} {sg : Nat → Int → Int} {H : Heap} (hR : RC D cy A ad sg H) (hG : GC sg) (hl0 : l.stackTraces = false) (hA : ∀ q : Nat, H.size ≤ q → A q) (x : Int) (h_x : in32 x) : vx_Met l yX4_works (Cond.code yX4_works cX4_works 3 (some .int) :: wG) (rmF 6 82 1 6) (PcX A D cy H [.ref (ad 4 (0)), .int (iI (x))]) (QmT (worksE sg x = 0) (some (.int (iI (cntWorks (st sg 208 (pAt x) 1))))) (fun H' => RC D cy A ad (st sg 208 (pAt x) 1) H') A) (XCx (worksE sg x) (fun H' => RC D cy A ad sg H') A) 1 6 A := by
  refine vmet_of (la := [(0, .ref (ad 4 (0))), (1, .int (iI (x)))]) (by decide) (Nat.le_of_ble_eq_true rfl) rfl ?_
  intro p e R s m args below meth c ls hRm hx hb hml hr hlk hxt hown hts hsH hK hX hl
  subst hRm
  have hown : s.vm.findClass "Takinghall" = some m.cls := hown
  have hw1 : ∀ w ∈ u_ws RX1 TX1 11, w.before args s = true := fun w h => hts w (uw_X1 w h)
  have hS : va_S A s.heap H [] := by rw [hsH]; exact va_S.rf
  refine lv_aload_n hx hb dX4_works_0 rfl (lv_at hl 0 rfl) ?_
  refine lv_iload_n hx hb dX4_works_1 rfl (lv_at hl 1 rfl) ?_
  refine xk_pF (xr_V (As := [.int (iI (x))]) (rest := []) hx hb hml hown hts hK (c_X4_plotAt hR hG x (by omega)) ms_X4_plotAt kw_132 (wr_recv hK hR (gd_4 hG) rfl rfl) ⟨by decide, by decide⟩ ⟨by decide, by decide⟩ rfl rfl hl.1 rfl (lv_room (by decide)) dX4_works_2) ?_
  have g1 := pAt_rng (x)
  refine xr_astore_n (i := 2) (lv' := [(2, rv (ad 1) (pAt x)), (0, .ref (ad 4 (0))), (1, .int (iI (x)))]) hx hb dX4_works_5 rfl hl (by decide) rfl (fun ls hl => ?_)
  refine xr_aload_n hx hb dX4_works_6 rfl (lv_at hl 0 rfl) ?_
  refine xr_ifnonnull (tgt := 20) hx hb dX4_works_7 (by decide) (fun h2 => ?_) (fun h2 => ?_)
  · skip
    rw [rv_p h2] at hl
    refine lv_aload_n hx hb dX4_works_20 rfl (lv_at hl 0 rfl) ?_
    refine xg_203 (v := sg 203 (pAt x)) hx hb hw1 hown hK hR (gd_1 hG (by omega)) (hts _ kw_41) rfl dX4_works_21 ?_
    have g3 := gr_203 hG (pAt x)
    refine lv_iconst (v := iI (1)) hx hb dX4_works_24 rfl ?_
    refine xr_icmp_ne (tgt := 42) hx hb dX4_works_25 (by decide) (by omega) (by omega) (fun h4 => ?_) (fun h4 => ?_)
    · skip
      exact xtw_3 (thr := worksE sg x) (text := "WORKS cannot begin") (P := fun H' => RC D cy A ad sg H') hx hb hl0 hown hts hX hS (hl.1.trans hml.symm) hxt hlk (by decide) dX4_works_42 dX4_works_45 dX4_works_46 dX4_works_49 dX4_works_52 (by decide) (by decide) (by decide) (by decide) (by decide) (by decide) (wr_more hR) (by unfold worksE; (repeat' split) <;> first | omega | grind)
    · skip
      refine lv_aload_n hx hb dX4_works_28 rfl (lv_at hl 0 rfl) ?_
      refine xg_208 (v := sg 208 (pAt x)) hx hb hw1 hown hK hR (gd_1 hG (by omega)) (hts _ kw_47) rfl dX4_works_29 ?_
      have g5 := gr_208 hG (pAt x)
      refine xr_if_ne (tgt := 42) hx hb dX4_works_32 (by decide) (by omega) (fun h6 => ?_) (fun h6 => ?_)
      · skip
        exact xtw_3 (thr := worksE sg x) (text := "WORKS cannot begin") (P := fun H' => RC D cy A ad sg H') hx hb hl0 hown hts hX hS (hl.1.trans hml.symm) hxt hlk (by decide) dX4_works_42 dX4_works_45 dX4_works_46 dX4_works_49 dX4_works_52 (by decide) (by decide) (by decide) (by decide) (by decide) (by decide) (wr_more hR) (by unfold worksE; (repeat' split) <;> first | omega | grind)
      · skip
        refine lv_aload_n hx hb dX4_works_35 rfl (lv_at hl 0 rfl) ?_
        refine xk_pF (xr_S (As := [.ref (ad 1 (pAt x))]) (rest := []) hx hb hml hown hts hK (c_X4_isNeeded hR hG (pAt x) ((rv_p (by omega)).symm) (by omega)) ms_X4_isNeeded kw_226 ⟨by decide, by decide⟩ ⟨by decide, by decide⟩ rfl rfl hl.1 rfl (lv_room (by decide)) dX4_works_36) ?_
        refine xr_ifb_ne (tgt := 53) hx hb dX4_works_39 (by decide) (fun h7 => ?_) (fun h7 => ?_)
        · skip
          refine lv_aload_n hx hb dX4_works_53 rfl (lv_at hl 0 rfl) ?_
          refine lv_iconst (v := iI (1)) hx hb dX4_works_54 rfl ?_
          refine xp_208 (v := 1) hx hb hw1 hown hK hR hS (gd_1 hG (by omega)) (by omega) (hts _ kw_47) dX4_works_55 (fun H locs hR hS => ?_)
          refine lv_aload_n hx hb dX4_works_58 rfl (lv_at hl 1 rfl) ?_
          refine xk_pF (xr_V (As := []) (rest := []) hx hb hml hown hts hK (c_X4_countWorks hR (gc_208 hG (pAt x) (v := 1) (by omega)) ) ms_X4_countWorks kw_608 (wr_recv hK hR ((dm_st (by decide) _ _).mpr (gd_4 hG)) rfl rfl) ⟨by decide, by decide⟩ ⟨by decide, by decide⟩ rfl rfl hl.1 rfl (lv_room (by decide)) dX4_works_59) ?_
          exact xv_i hx hb hr hlk hS (by decide) (by decide) dX4_works_62 (by unfold worksE; (repeat' split) <;> first | omega | grind) (by rfl) (by exact hR)
        · skip
          exact xtw_3 (thr := worksE sg x) (text := "WORKS cannot begin") (P := fun H' => RC D cy A ad sg H') hx hb hl0 hown hts hX hS (hl.1.trans hml.symm) hxt hlk (by decide) dX4_works_42 dX4_works_45 dX4_works_46 dX4_works_49 dX4_works_52 (by decide) (by decide) (by decide) (by decide) (by decide) (by decide) (wr_more hR) (by unfold worksE; (repeat' split) <;> first | omega | grind)
  · skip
    rw [rv_n h2] at hl
    exact xt_1 (thr := worksE sg x) (text := "no such PLOT") (P := fun H' => RC D cy A ad sg H') hx hb hl0 hown hts hX hS (hl.1.trans hml.symm) hxt hlk (by decide) dX4_works_10 dX4_works_13 dX4_works_14 dX4_works_16 dX4_works_19 (by decide) (by decide) (by decide) (by decide) (by decide) (by decide) (wr_more hR) (by unfold worksE; (repeat' split) <;> first | omega | grind)
theorem ms_X4_sumAnew : MVi RX4 yX4_sumAnew cX4_sumAnew 3 (some .long) 1 := ⟨kw_371, kw_369, kw_370, kw_1, rfl, by decide, by decide, by decide +kernel⟩
set_option maxRecDepth 100000 in
set_option maxHeartbeats 4000000 in
theorem c_X4_sumAnew {l : Launch} {D : va_G} {cy : Nat → ClassId} {A : Nat → Prop} {ad : Nat → Int → Nat} {sg : Nat → Int → Int} {H : Heap} (hR : RC D cy A ad sg H) (hG : GC sg) (hl0 : l.stackTraces = false) (hA : ∀ q : Nat, H.size ≤ q → A q) (x : Int) (h_x : in32 x) : vx_Met l yX4_sumAnew (Cond.code yX4_sumAnew cX4_sumAnew 3 (some .long) :: wG) (rmF 6 115 1 6) (PcX A D cy H [.ref (ad 4 (0)), .int (iI (x))]) (QmT (iE sg x = 0) (some (.long (lI (anewR sg (iAt sg x))))) (fun H' => RC D cy A ad sg H') A) (XCx (iE sg x) (fun H' => RC D cy A ad sg H') A) 1 6 A := by
  refine vmet_of (la := [(0, .ref (ad 4 (0))), (1, .int (iI (x)))]) (by decide) (Nat.le_of_ble_eq_true rfl) rfl ?_
  intro p e R s m args below meth c ls hRm hx hb hml hr hlk hxt hown hts hsH hK hX hl
  subst hRm
  have hown : s.vm.findClass "Takinghall" = some m.cls := hown
  have hw0 : ∀ w ∈ u_ws RX0 TX0 15, w.before args s = true := fun w h => hts w (uw_X0 w h)
  have hS : va_S A s.heap H [] := by rw [hsH]; exact va_S.rf
  refine lv_aload_n hx hb dX4_sumAnew_0 rfl (lv_at hl 0 rfl) ?_
  refine lv_iload_n hx hb dX4_sumAnew_1 rfl (lv_at hl 1 rfl) ?_
  refine xk_pF (xr_V (As := [.int (iI (x))]) (rest := []) hx hb hml hown hts hK (c_X4_interestAt hR hG x (by omega)) ms_X4_interestAt kw_298 (wr_recv hK hR (gd_4 hG) rfl rfl) ⟨by decide, by decide⟩ ⟨by decide, by decide⟩ rfl rfl hl.1 rfl (lv_room (by decide)) dX4_sumAnew_2) ?_
  have g1 := iAt_rng hG (x)
  refine xr_astore_n (i := 2) (lv' := [(2, rv (ad 0) (iAt sg x)), (0, .ref (ad 4 (0))), (1, .int (iI (x)))]) hx hb dX4_sumAnew_5 rfl hl (by decide) rfl (fun ls hl => ?_)
  refine xr_aload_n hx hb dX4_sumAnew_6 rfl (lv_at hl 0 rfl) ?_
  refine xr_ifnonnull (tgt := 20) hx hb dX4_sumAnew_7 (by decide) (fun h2 => ?_) (fun h2 => ?_)
  · skip
    rw [rv_p h2] at hl
    refine lv_aload_n hx hb dX4_sumAnew_20 rfl (lv_at hl 0 rfl) ?_
    refine xg_102 (v := sg 102 (iAt sg x)) hx hb hw0 hown hK hR (gd_0 hG (by omega)) (hts _ kw_476) rfl dX4_sumAnew_21 ?_
    have g3 := gr_102 hG (iAt sg x)
    rw [rv_p (f := ad 1) (v := sg 102 (iAt sg x)) (by omega)]
    refine xk_pF (xr_S (As := [.ref (ad 1 (sg 102 (iAt sg x)))]) (rest := []) hx hb hml hown hts hK (c_X4_wasTaken hR hG (sg 102 (iAt sg x)) ((rv_p (by omega)).symm) (by omega)) ms_X4_wasTaken kw_372 ⟨by decide, by decide⟩ ⟨by decide, by decide⟩ rfl rfl hl.1 rfl (lv_room (by decide)) dX4_sumAnew_24) ?_
    refine xr_ifb_eq (tgt := 45) hx hb dX4_sumAnew_27 (by decide) (fun h4 => ?_) (fun h4 => ?_)
    · skip
      refine lv_lconst (v := lI (0)) hx hb dX4_sumAnew_45 (by decide) ?_
      exact xv_l hx hb hr hlk hS (by decide) (by decide) dX4_sumAnew_46 (by unfold iE; (repeat' split) <;> first | omega | grind) (by unfold takenO at *; unfold anewR; first | (rw [if_pos (by omega)]) | (rw [if_neg (by omega)])) (by exact hR)
    · skip
      refine lv_aload_n hx hb dX4_sumAnew_30 rfl (lv_at hl 1 rfl) ?_
      refine lv_aload_n hx hb dX4_sumAnew_31 rfl (lv_at hl 0 rfl) ?_
      refine lv_aload_n hx hb dX4_sumAnew_32 rfl (lv_at hl 0 rfl) ?_
      refine xg_102 (v := sg 102 (iAt sg x)) hx hb hw0 hown hK hR (gd_0 hG (by omega)) (hts _ kw_476) rfl dX4_sumAnew_33 ?_
      rw [rv_p (f := ad 1) (v := sg 102 (iAt sg x)) (by omega)]
      refine xk_pF (xr_S (As := [.ref (ad 1 (sg 102 (iAt sg x)))]) (rest := [.ref (ad 0 (iAt sg x)), .ref (ad 4 (0))]) hx hb hml hown hts hK (c_X4_landOf hR hG (sg 102 (iAt sg x)) ((rv_p (by omega)).symm) (by omega)) ms_X4_landOf kw_375 ⟨by decide, by decide⟩ ⟨by decide, by decide⟩ rfl rfl hl.1 rfl (lv_room (Nat.le_of_ble_eq_true rfl)) dX4_sumAnew_36) ?_
      have g5 := landO_rng hG ((sg 102 (iAt sg x)))
      refine xk_pF (xr_V (As := [.ref (ad 0 (iAt sg x)), .int (iI (landO sg (sg 102 (iAt sg x))))]) (rest := []) hx hb hml hown hts hK (c_X4_sumBy hR hG (iAt sg x) (landO sg (sg 102 (iAt sg x))) (by omega) (by omega)) ms_X4_sumBy kw_381 (wr_recv hK hR (gd_4 hG) rfl rfl) ⟨by decide, by decide⟩ ⟨by decide, by decide⟩ rfl rfl hl.1 rfl (lv_room (by decide)) dX4_sumAnew_39) ?_
      have g6 := sumB_rng hG (x := ((iAt sg x))) (land := ((landO sg (sg 102 (iAt sg x))))) (by omega)
      refine lv_goto (tgt := 46) hx hb dX4_sumAnew_42 (by decide) ?_
      exact xv_l hx hb hr hlk hS (by decide) (by decide) dX4_sumAnew_46 (by unfold iE; (repeat' split) <;> first | omega | grind) (by unfold takenO at *; unfold anewR; first | (rw [if_pos (by omega)]) | (rw [if_neg (by omega)])) (by exact hR)
  · skip
    rw [rv_n h2] at hl
    exact xt_1 (thr := iE sg x) (text := "no such INTEREST") (P := fun H' => RC D cy A ad sg H') hx hb hl0 hown hts hX hS (hl.1.trans hml.symm) hxt hlk (by decide) dX4_sumAnew_10 dX4_sumAnew_13 dX4_sumAnew_14 dX4_sumAnew_16 dX4_sumAnew_19 (by decide) (by decide) (by decide) (by decide) (by decide) (by decide) (wr_more hR) (by unfold iE; (repeat' split) <;> first | omega | grind)
theorem ms_X4_owed : MVi RX4 yX4_owed cX4_owed 3 (some .long) 1 := ⟨kw_402, kw_400, kw_401, kw_1, rfl, by decide, by decide, by decide +kernel⟩
set_option maxRecDepth 100000 in
set_option maxHeartbeats 4000000 in
theorem c_X4_owed {l : Launch} {D : va_G} {cy : Nat → ClassId} {A : Nat → Prop} {ad : Nat → Int → Nat} {sg : Nat → Int → Int} {H : Heap} (hR : RC D cy A ad sg H) (hG : GC sg) (hl0 : l.stackTraces = false) (hA : ∀ q : Nat, H.size ≤ q → A q) (x : Int) (h_x : in32 x) : vx_Met l yX4_owed (Cond.code yX4_owed cX4_owed 3 (some .long) :: wG) (rmF 6 82 1 6) (PcX A D cy H [.ref (ad 4 (0)), .int (iI (x))]) (QmT (iE sg x = 0) (some (.long (lI (owedO sg (iAt sg x))))) (fun H' => RC D cy A ad sg H') A) (XCx (iE sg x) (fun H' => RC D cy A ad sg H') A) 1 6 A := by
  refine vmet_of (la := [(0, .ref (ad 4 (0))), (1, .int (iI (x)))]) (by decide) (Nat.le_of_ble_eq_true rfl) rfl ?_
  intro p e R s m args below meth c ls hRm hx hb hml hr hlk hxt hown hts hsH hK hX hl
  subst hRm
  have hown : s.vm.findClass "Takinghall" = some m.cls := hown
  have hS : va_S A s.heap H [] := by rw [hsH]; exact va_S.rf
  refine lv_aload_n hx hb dX4_owed_0 rfl (lv_at hl 0 rfl) ?_
  refine lv_iload_n hx hb dX4_owed_1 rfl (lv_at hl 1 rfl) ?_
  refine xk_pF (xr_V (As := [.int (iI (x))]) (rest := []) hx hb hml hown hts hK (c_X4_interestAt hR hG x (by omega)) ms_X4_interestAt kw_298 (wr_recv hK hR (gd_4 hG) rfl rfl) ⟨by decide, by decide⟩ ⟨by decide, by decide⟩ rfl rfl hl.1 rfl (lv_room (by decide)) dX4_owed_2) ?_
  have g1 := iAt_rng hG (x)
  refine xr_astore_n (i := 2) (lv' := [(2, rv (ad 0) (iAt sg x)), (0, .ref (ad 4 (0))), (1, .int (iI (x)))]) hx hb dX4_owed_5 rfl hl (by decide) rfl (fun ls hl => ?_)
  refine xr_aload_n hx hb dX4_owed_6 rfl (lv_at hl 0 rfl) ?_
  refine xr_ifnonnull (tgt := 20) hx hb dX4_owed_7 (by decide) (fun h2 => ?_) (fun h2 => ?_)
  · skip
    rw [rv_p h2] at hl
    refine lv_aload_n hx hb dX4_owed_20 rfl (lv_at hl 1 rfl) ?_
    refine lv_aload_n hx hb dX4_owed_21 rfl (lv_at hl 0 rfl) ?_
    refine xk_pF (xr_V (As := [.ref (ad 0 (iAt sg x))]) (rest := []) hx hb hml hown hts hK (c_X4_owedTo hR hG (iAt sg x) ((rv_p (by omega)).symm) (by omega)) ms_X4_owedTo kw_403 (wr_recv hK hR (gd_4 hG) rfl rfl) ⟨by decide, by decide⟩ ⟨by decide, by decide⟩ rfl rfl hl.1 rfl (lv_room (by decide)) dX4_owed_22) ?_
    have g3 := owedO_rng hG ((iAt sg x))
    exact xv_l hx hb hr hlk hS (by decide) (by decide) dX4_owed_25 (by unfold iE; (repeat' split) <;> first | omega | grind) (by rfl) (by exact hR)
  · skip
    rw [rv_n h2] at hl
    exact xt_1 (thr := iE sg x) (text := "no such INTEREST") (P := fun H' => RC D cy A ad sg H') hx hb hl0 hown hts hX hS (hl.1.trans hml.symm) hxt hlk (by decide) dX4_owed_10 dX4_owed_13 dX4_owed_14 dX4_owed_16 dX4_owed_19 (by decide) (by decide) (by decide) (by decide) (by decide) (by decide) (wr_more hR) (by unfold iE; (repeat' split) <;> first | omega | grind)
theorem ms_X4_advance : MVi RX4 yX4_advance cX4_advance 5 (some .long) 1 := ⟨kw_634, kw_632, kw_633, kw_1, rfl, by decide, by decide, by decide +kernel⟩
set_option maxRecDepth 100000 in
set_option maxHeartbeats 4000000 in
theorem c_X4_advance {l : Launch} {D : va_G} {cy : Nat → ClassId} {A : Nat → Prop} {ad : Nat → Int → Nat} {sg : Nat → Int → Int} {H : Heap} (hR : RC D cy A ad sg H) (hG : GC sg) (hl0 : l.stackTraces = false) (hA : ∀ q : Nat, H.size ≤ q → A q) (x : Int) (h_x : in32 x) : vx_Met l yX4_advance (Cond.code yX4_advance cX4_advance 5 (some .long) :: wG) (rmF 6 82 1 6) (PcX A D cy H [.ref (ad 4 (0)), .int (iI (x))]) (QmT (advE sg x = 0) (some (.long (lI (sg 110 (iAt sg x) * 90 / 100)))) (fun H' => RC D cy A ad (st (st (st sg 111 (iAt sg x) (sg 110 (iAt sg x) * 90 / 100)) 112 (iAt sg x) (sg 506 0)) 508 0 (sg 508 0 + sg 110 (iAt sg x) * 90 / 100)) H') A) (XCx (advE sg x) (fun H' => RC D cy A ad sg H') A) 1 6 A := by
  refine vmet_of (la := [(0, .ref (ad 4 (0))), (1, .int (iI (x)))]) (by decide) (Nat.le_of_ble_eq_true rfl) rfl ?_
  intro p e R s m args below meth c ls hRm hx hb hml hr hlk hxt hown hts hsH hK hX hl
  subst hRm
  have hown : s.vm.findClass "Takinghall" = some m.cls := hown
  have hw0 : ∀ w ∈ u_ws RX0 TX0 15, w.before args s = true := fun w h => hts w (uw_X0 w h)
  have hw4 : ∀ w ∈ u_ws RX4 TX4 12, w.before args s = true := fun w h => hts w (uw_X4 w h)
  have hS : va_S A s.heap H [] := by rw [hsH]; exact va_S.rf
  refine lv_aload_n hx hb dX4_advance_0 rfl (lv_at hl 0 rfl) ?_
  refine lv_iload_n hx hb dX4_advance_1 rfl (lv_at hl 1 rfl) ?_
  refine xk_pF (xr_V (As := [.int (iI (x))]) (rest := []) hx hb hml hown hts hK (c_X4_interestAt hR hG x (by omega)) ms_X4_interestAt kw_298 (wr_recv hK hR (gd_4 hG) rfl rfl) ⟨by decide, by decide⟩ ⟨by decide, by decide⟩ rfl rfl hl.1 rfl (lv_room (by decide)) dX4_advance_2) ?_
  have g1 := iAt_rng hG (x)
  refine xr_astore_n (i := 2) (lv' := [(2, rv (ad 0) (iAt sg x)), (0, .ref (ad 4 (0))), (1, .int (iI (x)))]) hx hb dX4_advance_5 rfl hl (by decide) rfl (fun ls hl => ?_)
  refine xr_aload_n hx hb dX4_advance_6 rfl (lv_at hl 0 rfl) ?_
  refine xr_ifnonnull (tgt := 20) hx hb dX4_advance_7 (by decide) (fun h2 => ?_) (fun h2 => ?_)
  · skip
    rw [rv_p h2] at hl
    refine lv_aload_n hx hb dX4_advance_20 rfl (lv_at hl 0 rfl) ?_
    refine xg_102 (v := sg 102 (iAt sg x)) hx hb hw0 hown hK hR (gd_0 hG (by omega)) (hts _ kw_476) rfl dX4_advance_21 ?_
    have g3 := gr_102 hG (iAt sg x)
    rw [rv_p (f := ad 1) (v := sg 102 (iAt sg x)) (by omega)]
    refine xk_pF (xr_S (As := [.ref (ad 1 (sg 102 (iAt sg x)))]) (rest := []) hx hb hml hown hts hK (c_X4_wasTaken hR hG (sg 102 (iAt sg x)) ((rv_p (by omega)).symm) (by omega)) ms_X4_wasTaken kw_372 ⟨by decide, by decide⟩ ⟨by decide, by decide⟩ rfl rfl hl.1 rfl (lv_room (by decide)) dX4_advance_24) ?_
    refine xr_ifb_eq (tgt := 45) hx hb dX4_advance_27 (by decide) (fun h4 => ?_) (fun h4 => ?_)
    · skip
      exact xtw_3 (thr := advE sg x) (text := "no advance can be paid to it") (P := fun H' => RC D cy A ad sg H') hx hb hl0 hown hts hX hS (hl.1.trans hml.symm) hxt hlk (by decide) dX4_advance_45 dX4_advance_48 dX4_advance_49 dX4_advance_52 dX4_advance_55 (by decide) (by decide) (by decide) (by decide) (by decide) (by decide) (wr_more hR) (by (try unfold takenO at *); unfold advE; (repeat' split) <;> first | omega | grind)
    · skip
      refine lv_aload_n hx hb dX4_advance_30 rfl (lv_at hl 0 rfl) ?_
      refine xg_112 (v := sg 112 (iAt sg x)) hx hb hw0 hown hK hR (gd_0 hG (by omega)) (hts _ kw_492) rfl dX4_advance_31 ?_
      have g5 := gr_112 hG (iAt sg x)
      refine lv_iconst (v := iI (-1)) hx hb dX4_advance_34 rfl ?_
      refine xr_icmp_ne (tgt := 45) hx hb dX4_advance_35 (by decide) (by omega) (by omega) (fun h6 => ?_) (fun h6 => ?_)
      · skip
        exact xtw_3 (thr := advE sg x) (text := "no advance can be paid to it") (P := fun H' => RC D cy A ad sg H') hx hb hl0 hown hts hX hS (hl.1.trans hml.symm) hxt hlk (by decide) dX4_advance_45 dX4_advance_48 dX4_advance_49 dX4_advance_52 dX4_advance_55 (by decide) (by decide) (by decide) (by decide) (by decide) (by decide) (wr_more hR) (by (try unfold takenO at *); unfold advE; (repeat' split) <;> first | omega | grind)
      · skip
        refine lv_aload_n hx hb dX4_advance_38 rfl (lv_at hl 0 rfl) ?_
        refine xg_114 (v := sg 114 (iAt sg x)) hx hb hw0 hown hK hR (gd_0 hG (by omega)) (hts _ kw_494) rfl dX4_advance_39 ?_
        have g7 := gr_114 hG (iAt sg x)
        refine xr_if_eq (tgt := 56) hx hb dX4_advance_42 (by decide) (by omega) (fun h8 => ?_) (fun h8 => ?_)
        · skip
          refine lv_aload_n hx hb dX4_advance_56 rfl (lv_at hl 0 rfl) ?_
          refine xg_110 (v := sg 110 (iAt sg x)) hx hb hw0 hown hK hR (gd_0 hG (by omega)) (hts _ kw_489) rfl dX4_advance_57 ?_
          have g9 := gr_110 hG (iAt sg x)
          refine lv_ldc2 (v := lI (90)) hx hb hown (hts _ kw_636) dX4_advance_60 ?_
          refine xr_lmul hx hb dX4_advance_63 ?_
          refine lv_ldc2 (v := lI (100)) hx hb hown (hts _ kw_637) dX4_advance_64 ?_
          refine xr_ldiv hx hb dX4_advance_67 (by omega) (by omega) ?_
          refine lv_lstore_n (i := 3) (lv' := [(3, .long (lI (((sg 110 (iAt sg x)) * 90) / 100))), (2, .ref (ad 0 (iAt sg x))), (0, .ref (ad 4 (0))), (1, .int (iI (x)))]) hx hb dX4_advance_68 rfl hl (by decide) rfl (fun ls hl => ?_)
          refine lv_aload_n hx hb dX4_advance_69 rfl (lv_at hl 1 rfl) ?_
          refine lv_lload_n hx hb dX4_advance_70 rfl (lv_at hl 0 rfl) ?_
          refine xp_111 (v := ((sg 110 (iAt sg x)) * 90) / 100) hx hb hw0 hown hK hR hS (gd_0 hG (by omega)) (hts _ kw_490) dX4_advance_71 (fun H locs hR hS => ?_)
          refine lv_aload_n hx hb dX4_advance_74 rfl (lv_at hl 1 rfl) ?_
          refine lv_aload_n hx hb dX4_advance_75 rfl (lv_at hl 2 rfl) ?_
          refine xg_506 (v := sg 506 0) hx hb hw4 hown hK hR ((dm_st (by decide) _ _).mpr (gd_4 hG)) (hts _ kw_97) ((st_f (by decide)).trans rfl) dX4_advance_76 ?_
          have g10 := gr_506 hG (0)
          refine xp_112 (v := sg 506 0) hx hb hw0 hown hK hR hS ((dm_st (by decide) _ _).mpr (gd_0 hG (by omega))) (hts _ kw_492) dX4_advance_79 (fun H locs hR hS => ?_)
          refine lv_aload_n hx hb dX4_advance_82 rfl (lv_at hl 2 rfl) ?_
          refine lv_dup hx hb dX4_advance_83 rfl ?_
          refine xg_508 (v := sg 508 0) hx hb hw4 hown hK hR ((dm_st (by decide) _ _).mpr ((dm_st (by decide) _ _).mpr (gd_4 hG))) (hts _ kw_99) ((st_f (by decide)).trans ((st_f (by decide)).trans rfl)) dX4_advance_84 ?_
          refine lv_lload_n hx hb dX4_advance_87 rfl (lv_at hl 0 rfl) ?_
          refine xr_ladd hx hb dX4_advance_88 ?_
          refine xp_508 (v := (sg 508 0) + (((sg 110 (iAt sg x)) * 90) / 100)) hx hb hw4 hown hK hR hS ((dm_st (by decide) _ _).mpr ((dm_st (by decide) _ _).mpr (gd_4 hG))) (hts _ kw_99) dX4_advance_89 (fun H locs hR hS => ?_)
          refine lv_lload_n hx hb dX4_advance_92 rfl (lv_at hl 0 rfl) ?_
          exact xv_l hx hb hr hlk hS (by decide) (by decide) dX4_advance_93 (by (try unfold takenO at *); unfold advE; (repeat' split) <;> first | omega | grind) (by rfl) (by exact hR)
        · skip
          exact xtw_3 (thr := advE sg x) (text := "no advance can be paid to it") (P := fun H' => RC D cy A ad sg H') hx hb hl0 hown hts hX hS (hl.1.trans hml.symm) hxt hlk (by decide) dX4_advance_45 dX4_advance_48 dX4_advance_49 dX4_advance_52 dX4_advance_55 (by decide) (by decide) (by decide) (by decide) (by decide) (by decide) (wr_more hR) (by (try unfold takenO at *); unfold advE; (repeat' split) <;> first | omega | grind)
  · skip
    rw [rv_n h2] at hl
    exact xt_1 (thr := advE sg x) (text := "no such INTEREST") (P := fun H' => RC D cy A ad sg H') hx hb hl0 hown hts hX hS (hl.1.trans hml.symm) hxt hlk (by decide) dX4_advance_10 dX4_advance_13 dX4_advance_14 dX4_advance_16 dX4_advance_19 (by decide) (by decide) (by decide) (by decide) (by decide) (by decide) (wr_more hR) (by (try unfold takenO at *); unfold advE; (repeat' split) <;> first | omega | grind)
theorem ms_X4_settle : MVi RX4 yX4_settle cX4_settle 5 (some .long) 1 := ⟨kw_641, kw_639, kw_640, kw_1, rfl, by decide, by decide, by decide +kernel⟩
set_option maxRecDepth 100000 in
set_option maxHeartbeats 4000000 in
theorem c_X4_settle {l : Launch} {D : va_G} {cy : Nat → ClassId} {A : Nat → Prop} {ad : Nat → Int → Nat} {sg : Nat → Int → Int} {H : Heap} (hR : RC D cy A ad sg H) (hG : GC sg) (hl0 : l.stackTraces = false) (hA : ∀ q : Nat, H.size ≤ q → A q) (x : Int) (h_x : in32 x) : vx_Met l yX4_settle (Cond.code yX4_settle cX4_settle 5 (some .long) :: wG) (rmF 6 82 1 6) (PcX A D cy H [.ref (ad 4 (0)), .int (iI (x))]) (QmT (setE sg x = 0) (some (.long (lI (owedO sg (iAt sg x))))) (fun H' => RC D cy A ad (st (st (st sg 113 (iAt sg x) (owedO sg (iAt sg x))) 114 (iAt sg x) 1) 508 0 (sg 508 0 + owedO sg (iAt sg x))) H') A) (XCx (setE sg x) (fun H' => RC D cy A ad sg H') A) 1 6 A := by
  refine vmet_of (la := [(0, .ref (ad 4 (0))), (1, .int (iI (x)))]) (by decide) (Nat.le_of_ble_eq_true rfl) rfl ?_
  intro p e R s m args below meth c ls hRm hx hb hml hr hlk hxt hown hts hsH hK hX hl
  subst hRm
  have hown : s.vm.findClass "Takinghall" = some m.cls := hown
  have hw0 : ∀ w ∈ u_ws RX0 TX0 15, w.before args s = true := fun w h => hts w (uw_X0 w h)
  have hw4 : ∀ w ∈ u_ws RX4 TX4 12, w.before args s = true := fun w h => hts w (uw_X4 w h)
  have hS : va_S A s.heap H [] := by rw [hsH]; exact va_S.rf
  refine lv_aload_n hx hb dX4_settle_0 rfl (lv_at hl 0 rfl) ?_
  refine lv_iload_n hx hb dX4_settle_1 rfl (lv_at hl 1 rfl) ?_
  refine xk_pF (xr_V (As := [.int (iI (x))]) (rest := []) hx hb hml hown hts hK (c_X4_interestAt hR hG x (by omega)) ms_X4_interestAt kw_298 (wr_recv hK hR (gd_4 hG) rfl rfl) ⟨by decide, by decide⟩ ⟨by decide, by decide⟩ rfl rfl hl.1 rfl (lv_room (by decide)) dX4_settle_2) ?_
  have g1 := iAt_rng hG (x)
  refine xr_astore_n (i := 2) (lv' := [(2, rv (ad 0) (iAt sg x)), (0, .ref (ad 4 (0))), (1, .int (iI (x)))]) hx hb dX4_settle_5 rfl hl (by decide) rfl (fun ls hl => ?_)
  refine xr_aload_n hx hb dX4_settle_6 rfl (lv_at hl 0 rfl) ?_
  refine xr_ifnonnull (tgt := 20) hx hb dX4_settle_7 (by decide) (fun h2 => ?_) (fun h2 => ?_)
  · skip
    rw [rv_p h2] at hl
    refine lv_aload_n hx hb dX4_settle_20 rfl (lv_at hl 0 rfl) ?_
    refine xg_102 (v := sg 102 (iAt sg x)) hx hb hw0 hown hK hR (gd_0 hG (by omega)) (hts _ kw_476) rfl dX4_settle_21 ?_
    have g3 := gr_102 hG (iAt sg x)
    rw [rv_p (f := ad 1) (v := sg 102 (iAt sg x)) (by omega)]
    refine xk_pF (xr_S (As := [.ref (ad 1 (sg 102 (iAt sg x)))]) (rest := []) hx hb hml hown hts hK (c_X4_wasTaken hR hG (sg 102 (iAt sg x)) ((rv_p (by omega)).symm) (by omega)) ms_X4_wasTaken kw_372 ⟨by decide, by decide⟩ ⟨by decide, by decide⟩ rfl rfl hl.1 rfl (lv_room (by decide)) dX4_settle_24) ?_
    refine xr_ifb_eq (tgt := 37) hx hb dX4_settle_27 (by decide) (fun h4 => ?_) (fun h4 => ?_)
    · skip
      exact xtw_3 (thr := setE sg x) (text := "it cannot be settled") (P := fun H' => RC D cy A ad sg H') hx hb hl0 hown hts hX hS (hl.1.trans hml.symm) hxt hlk (by decide) dX4_settle_37 dX4_settle_40 dX4_settle_41 dX4_settle_44 dX4_settle_47 (by decide) (by decide) (by decide) (by decide) (by decide) (by decide) (wr_more hR) (by (try unfold takenO at *); unfold setE; (repeat' split) <;> first | omega | grind)
    · skip
      refine lv_aload_n hx hb dX4_settle_30 rfl (lv_at hl 0 rfl) ?_
      refine xg_114 (v := sg 114 (iAt sg x)) hx hb hw0 hown hK hR (gd_0 hG (by omega)) (hts _ kw_494) rfl dX4_settle_31 ?_
      have g5 := gr_114 hG (iAt sg x)
      refine xr_if_eq (tgt := 48) hx hb dX4_settle_34 (by decide) (by omega) (fun h6 => ?_) (fun h6 => ?_)
      · skip
        refine lv_aload_n hx hb dX4_settle_48 rfl (lv_at hl 1 rfl) ?_
        refine lv_aload_n hx hb dX4_settle_49 rfl (lv_at hl 0 rfl) ?_
        refine xk_pF (xr_V (As := [.ref (ad 0 (iAt sg x))]) (rest := []) hx hb hml hown hts hK (c_X4_owedTo hR hG (iAt sg x) ((rv_p (by omega)).symm) (by omega)) ms_X4_owedTo kw_403 (wr_recv hK hR (gd_4 hG) rfl rfl) ⟨by decide, by decide⟩ ⟨by decide, by decide⟩ rfl rfl hl.1 rfl (lv_room (by decide)) dX4_settle_50) ?_
        have g7 := owedO_rng hG ((iAt sg x))
        refine lv_lstore_n (i := 3) (lv' := [(3, .long (lI (owedO sg (iAt sg x)))), (2, .ref (ad 0 (iAt sg x))), (0, .ref (ad 4 (0))), (1, .int (iI (x)))]) hx hb dX4_settle_53 rfl hl (by decide) rfl (fun ls hl => ?_)
        refine lv_aload_n hx hb dX4_settle_54 rfl (lv_at hl 1 rfl) ?_
        refine lv_lload_n hx hb dX4_settle_55 rfl (lv_at hl 0 rfl) ?_
        refine xp_113 (v := owedO sg (iAt sg x)) hx hb hw0 hown hK hR hS (gd_0 hG (by omega)) (hts _ kw_493) dX4_settle_56 (fun H locs hR hS => ?_)
        refine lv_aload_n hx hb dX4_settle_59 rfl (lv_at hl 1 rfl) ?_
        refine lv_iconst (v := iI (1)) hx hb dX4_settle_60 rfl ?_
        refine xp_114 (v := 1) hx hb hw0 hown hK hR hS ((dm_st (by decide) _ _).mpr (gd_0 hG (by omega))) (by omega) (hts _ kw_494) dX4_settle_61 (fun H locs hR hS => ?_)
        refine lv_aload_n hx hb dX4_settle_64 rfl (lv_at hl 2 rfl) ?_
        refine lv_dup hx hb dX4_settle_65 rfl ?_
        refine xg_508 (v := sg 508 0) hx hb hw4 hown hK hR ((dm_st (by decide) _ _).mpr ((dm_st (by decide) _ _).mpr (gd_4 hG))) (hts _ kw_99) ((st_f (by decide)).trans ((st_f (by decide)).trans rfl)) dX4_settle_66 ?_
        refine lv_lload_n hx hb dX4_settle_69 rfl (lv_at hl 0 rfl) ?_
        refine xr_ladd hx hb dX4_settle_70 ?_
        refine xp_508 (v := (sg 508 0) + (owedO sg (iAt sg x))) hx hb hw4 hown hK hR hS ((dm_st (by decide) _ _).mpr ((dm_st (by decide) _ _).mpr (gd_4 hG))) (hts _ kw_99) dX4_settle_71 (fun H locs hR hS => ?_)
        refine lv_lload_n hx hb dX4_settle_74 rfl (lv_at hl 0 rfl) ?_
        exact xv_l hx hb hr hlk hS (by decide) (by decide) dX4_settle_75 (by (try unfold takenO at *); unfold setE; (repeat' split) <;> first | omega | grind) (by rfl) (by exact hR)
      · skip
        exact xtw_3 (thr := setE sg x) (text := "it cannot be settled") (P := fun H' => RC D cy A ad sg H') hx hb hl0 hown hts hX hS (hl.1.trans hml.symm) hxt hlk (by decide) dX4_settle_37 dX4_settle_40 dX4_settle_41 dX4_settle_44 dX4_settle_47 (by decide) (by decide) (by decide) (by decide) (by decide) (by decide) (wr_more hR) (by (try unfold takenO at *); unfold setE; (repeat' split) <;> first | omega | grind)
  · skip
    rw [rv_n h2] at hl
    exact xt_1 (thr := setE sg x) (text := "no such INTEREST") (P := fun H' => RC D cy A ad sg H') hx hb hl0 hown hts hX hS (hl.1.trans hml.symm) hxt hlk (by decide) dX4_settle_10 dX4_settle_13 dX4_settle_14 dX4_settle_16 dX4_settle_19 (by decide) (by decide) (by decide) (by decide) (by decide) (by decide) (wr_more hR) (by (try unfold takenO at *); unfold setE; (repeat' split) <;> first | omega | grind)
theorem ms_X4_refuse : MVi RX4 yX4_refuse cX4_refuse 4 (some .int) 1 := ⟨kw_646, kw_644, kw_645, kw_1, rfl, by decide, by decide, by decide +kernel⟩
set_option maxRecDepth 100000 in
set_option maxHeartbeats 4000000 in
theorem c_X4_refuse {l : Launch} {D : va_G} {cy : Nat → ClassId} {A : Nat → Prop} {ad : Nat → Int → Nat} {sg : Nat → Int → Int} {H : Heap} (hR : RC D cy A ad sg H) (hG : GC sg) (hl0 : l.stackTraces = false) (hA : ∀ q : Nat, H.size ≤ q → A q) (x : Int) (h_x : in32 x) : vx_Met l yX4_refuse (Cond.code yX4_refuse cX4_refuse 4 (some .int) :: wG) (rmF 6 82 1 6) (PcX A D cy H [.ref (ad 4 (0)), .int (iI (x))]) (QmT (offE sg x = 0) (some (.int (iI (opt (ownBeh sg (pAt x) (sg 209 (pAt x))))))) (fun H' => RC D cy A ad (offT sg (pAt x) (ownBeh sg (pAt x) (sg 209 (pAt x))) (sg 210 (pAt x))) H') A) (XCx (offE sg x) (fun H' => RC D cy A ad sg H') A) 1 6 A := by
  refine vmet_of (la := [(0, .ref (ad 4 (0))), (1, .int (iI (x)))]) (by decide) (Nat.le_of_ble_eq_true rfl) rfl ?_
  intro p e R s m args below meth c ls hRm hx hb hml hr hlk hxt hown hts hsH hK hX hl
  subst hRm
  have hown : s.vm.findClass "Takinghall" = some m.cls := hown
  have hw1 : ∀ w ∈ u_ws RX1 TX1 11, w.before args s = true := fun w h => hts w (uw_X1 w h)
  have hS : va_S A s.heap H [] := by rw [hsH]; exact va_S.rf
  refine lv_aload_n hx hb dX4_refuse_0 rfl (lv_at hl 0 rfl) ?_
  refine lv_iload_n hx hb dX4_refuse_1 rfl (lv_at hl 1 rfl) ?_
  refine xk_pF (xr_V (As := [.int (iI (x))]) (rest := []) hx hb hml hown hts hK (c_X4_plotAt hR hG x (by omega)) ms_X4_plotAt kw_132 (wr_recv hK hR (gd_4 hG) rfl rfl) ⟨by decide, by decide⟩ ⟨by decide, by decide⟩ rfl rfl hl.1 rfl (lv_room (by decide)) dX4_refuse_2) ?_
  have g1 := pAt_rng (x)
  refine xr_astore_n (i := 2) (lv' := [(2, rv (ad 1) (pAt x)), (0, .ref (ad 4 (0))), (1, .int (iI (x)))]) hx hb dX4_refuse_5 rfl hl (by decide) rfl (fun ls hl => ?_)
  refine xr_aload_n hx hb dX4_refuse_6 rfl (lv_at hl 0 rfl) ?_
  refine xr_ifnonnull (tgt := 20) hx hb dX4_refuse_7 (by decide) (fun h2 => ?_) (fun h2 => ?_)
  · skip
    rw [rv_p h2] at hl
    refine lv_aload_n hx hb dX4_refuse_20 rfl (lv_at hl 0 rfl) ?_
    refine xg_209 (v := sg 209 (pAt x)) hx hb hw1 hown hK hR (gd_1 hG (by omega)) (hts _ kw_48) rfl dX4_refuse_21 ?_
    have g3 := gp_209 hG (pAt x)
    have g4 := gr_503 hG 0
    refine xr_ifnonnull (tgt := 38) hx hb dX4_refuse_24 (by decide) (fun h5 => ?_) (fun h5 => ?_)
    · skip
      refine lv_aload_n hx hb dX4_refuse_38 rfl (lv_at hl 1 rfl) ?_
      refine lv_aload_n hx hb dX4_refuse_39 rfl (lv_at hl 0 rfl) ?_
      refine lv_aload_n hx hb dX4_refuse_40 rfl (lv_at hl 0 rfl) ?_
      refine xg_209 (v := sg 209 (pAt x)) hx hb hw1 hown hK hR (gd_1 hG (by omega)) (hts _ kw_48) rfl dX4_refuse_41 ?_
      refine xk_pF (xr_V (As := [.ref (ad 1 (pAt x)), rv (ad 0) (sg 209 (pAt x))]) (rest := []) hx hb hml hown hts hK (c_X4_ownerBehind hR hG (pAt x) (sg 209 (pAt x)) (rfl) (by omega) (by omega)) ms_X4_ownerBehind kw_621 (wr_recv hK hR (gd_4 hG) rfl rfl) ⟨by decide, by decide⟩ ⟨by decide, by decide⟩ rfl rfl hl.1 rfl (lv_room (by decide)) dX4_refuse_44) ?_
      have g6 := ownBeh_rng hG ((pAt x)) ((sg 209 (pAt x)))
      refine xr_astore_n (i := 3) (lv' := [(3, rv (ad 0) (ownBeh sg (pAt x) (sg 209 (pAt x)))), (2, .ref (ad 1 (pAt x))), (0, .ref (ad 4 (0))), (1, .int (iI (x)))]) hx hb dX4_refuse_47 rfl hl (by decide) rfl (fun ls hl => ?_)
      refine lv_aload_n hx hb dX4_refuse_48 rfl (lv_at hl 1 rfl) ?_
      refine xr_aload_n hx hb dX4_refuse_49 rfl (lv_at hl 0 rfl) ?_
      refine lv_aload_n hx hb dX4_refuse_50 rfl (lv_at hl 1 rfl) ?_
      refine xg_210 (v := sg 210 (pAt x)) hx hb hw1 hown hK hR (gd_1 hG (by omega)) (hts _ kw_49) rfl dX4_refuse_51 ?_
      have g7 := gr_210 hG (pAt x)
      refine xk_mF (xr_S (As := [.ref (ad 1 (pAt x)), rv (ad 0) (ownBeh sg (pAt x) (sg 209 (pAt x))), .int (iI (sg 210 (pAt x)))]) (rest := []) hx hb hml hown hts hK (c_X4_offer hR hG (pAt x) (ownBeh sg (pAt x) (sg 209 (pAt x))) (rfl) (sg 210 (pAt x)) (by omega) (by omega) (by omega)) ms_X4_offer kw_628 ⟨by decide, by decide⟩ ⟨by decide, by decide⟩ rfl rfl hl.1 rfl (lv_room (by decide)) dX4_refuse_54) hS (fun H locs hR hS hz hq => ?_)
      have G8 : GC (offT sg (pAt x) (ownBeh sg (pAt x) (sg 209 (pAt x))) (sg 210 (pAt x))) := gc_offT hG (by omega) (by omega)
      refine xr_aload_n hx hb dX4_refuse_57 rfl (lv_at hl 0 rfl) ?_
      refine xk_pF (xr_S (As := [rv (ad 0) (ownBeh sg (pAt x) (sg 209 (pAt x)))]) (rest := []) hx hb hml hown hts hK (c_X4_numberOf_ hR G8 (ownBeh sg (pAt x) (sg 209 (pAt x))) (rfl) (by first | omega | (have z : (ownBeh sg (pAt x) (sg 209 (pAt x))) < sg 503 0 := (by omega); exact z))) ms_X4_numberOf_ kw_290 ⟨by decide, by decide⟩ ⟨by decide, by decide⟩ rfl rfl hl.1 rfl (lv_room (by decide)) dX4_refuse_58) ?_
      exact xv_i hx hb hr hlk hS (by decide) (by decide) dX4_refuse_61 (by unfold offE; (repeat' split) <;> first | omega | grind) (by try unfold opt; (repeat' split) <;> omega) (by exact hR)
    · skip
      exact xtw_3 (thr := offE sg x) (text := "the PLOT is not OFFERED") (P := fun H' => RC D cy A ad sg H') hx hb hl0 hown hts hX hS (hl.1.trans hml.symm) hxt hlk (by decide) dX4_refuse_27 dX4_refuse_30 dX4_refuse_31 dX4_refuse_34 dX4_refuse_37 (by decide) (by decide) (by decide) (by decide) (by decide) (by decide) (wr_more hR) (by unfold offE; (repeat' split) <;> first | omega | grind)
  · skip
    rw [rv_n h2] at hl
    exact xt_1 (thr := offE sg x) (text := "no such PLOT") (P := fun H' => RC D cy A ad sg H') hx hb hl0 hown hts hX hS (hl.1.trans hml.symm) hxt hlk (by decide) dX4_refuse_10 dX4_refuse_13 dX4_refuse_14 dX4_refuse_16 dX4_refuse_19 (by decide) (by decide) (by decide) (by decide) (by decide) (by decide) (wr_more hR) (by unfold offE; (repeat' split) <;> first | omega | grind)
theorem ms_X4_accept : MVi RX4 yX4_accept cX4_accept 4 (some .int) 1 := ⟨kw_651, kw_649, kw_650, kw_1, rfl, by decide, by decide, by decide +kernel⟩
set_option maxRecDepth 100000 in
set_option maxHeartbeats 4000000 in
theorem c_X4_accept {l : Launch} {D : va_G} {cy : Nat → ClassId} {A : Nat → Prop} {ad : Nat → Int → Nat} {sg : Nat → Int → Int} {H : Heap} (hR : RC D cy A ad sg H) (hG : GC sg) (hl0 : l.stackTraces = false) (hA : ∀ q : Nat, H.size ≤ q → A q) (x : Int) (h_x : in32 x) : vx_Met l yX4_accept (Cond.code yX4_accept cX4_accept 4 (some .int) :: wG) (rmF 6 82 1 6) (PcX A D cy H [.ref (ad 4 (0)), .int (iI (x))]) (QmT (offE sg x = 0) (some (.int (iI (sg 210 (pAt x))))) (fun H' => RC D cy A ad (st (offT (st sg 203 (pAt x) 2) (pAt x) (-1) 0) 510 0 (sg 510 0 + sg 210 (pAt x))) H') A) (XCx (offE sg x) (fun H' => RC D cy A ad sg H') A) 1 6 A := by
  refine vmet_of (la := [(0, .ref (ad 4 (0))), (1, .int (iI (x)))]) (by decide) (Nat.le_of_ble_eq_true rfl) rfl ?_
  intro p e R s m args below meth c ls hRm hx hb hml hr hlk hxt hown hts hsH hK hX hl
  subst hRm
  have hown : s.vm.findClass "Takinghall" = some m.cls := hown
  have hw1 : ∀ w ∈ u_ws RX1 TX1 11, w.before args s = true := fun w h => hts w (uw_X1 w h)
  have hw4 : ∀ w ∈ u_ws RX4 TX4 12, w.before args s = true := fun w h => hts w (uw_X4 w h)
  have hS : va_S A s.heap H [] := by rw [hsH]; exact va_S.rf
  have g503 := gr_503 hG 0
  refine lv_aload_n hx hb dX4_accept_0 rfl (lv_at hl 0 rfl) ?_
  refine lv_iload_n hx hb dX4_accept_1 rfl (lv_at hl 1 rfl) ?_
  refine xk_pF (xr_V (As := [.int (iI (x))]) (rest := []) hx hb hml hown hts hK (c_X4_plotAt hR hG x (by omega)) ms_X4_plotAt kw_132 (wr_recv hK hR (gd_4 hG) rfl rfl) ⟨by decide, by decide⟩ ⟨by decide, by decide⟩ rfl rfl hl.1 rfl (lv_room (by decide)) dX4_accept_2) ?_
  have g1 := pAt_rng (x)
  refine xr_astore_n (i := 2) (lv' := [(2, rv (ad 1) (pAt x)), (0, .ref (ad 4 (0))), (1, .int (iI (x)))]) hx hb dX4_accept_5 rfl hl (by decide) rfl (fun ls hl => ?_)
  refine xr_aload_n hx hb dX4_accept_6 rfl (lv_at hl 0 rfl) ?_
  refine xr_ifnonnull (tgt := 20) hx hb dX4_accept_7 (by decide) (fun h2 => ?_) (fun h2 => ?_)
  · skip
    rw [rv_p h2] at hl
    refine lv_aload_n hx hb dX4_accept_20 rfl (lv_at hl 0 rfl) ?_
    refine xg_209 (v := sg 209 (pAt x)) hx hb hw1 hown hK hR (gd_1 hG (by omega)) (hts _ kw_48) rfl dX4_accept_21 ?_
    have g3 := gp_209 hG (pAt x)
    have g4 := gr_503 hG 0
    refine xr_ifnonnull (tgt := 38) hx hb dX4_accept_24 (by decide) (fun h5 => ?_) (fun h5 => ?_)
    · skip
      refine lv_aload_n hx hb dX4_accept_38 rfl (lv_at hl 0 rfl) ?_
      refine xg_210 (v := sg 210 (pAt x)) hx hb hw1 hown hK hR (gd_1 hG (by omega)) (hts _ kw_49) rfl dX4_accept_39 ?_
      have g6 := gr_210 hG (pAt x)
      refine lv_istore_n (i := 3) (lv' := [(3, .int (iI (sg 210 (pAt x)))), (2, .ref (ad 1 (pAt x))), (0, .ref (ad 4 (0))), (1, .int (iI (x)))]) hx hb dX4_accept_42 rfl hl (by decide) rfl (fun ls hl => ?_)
      refine lv_aload_n hx hb dX4_accept_43 rfl (lv_at hl 1 rfl) ?_
      refine lv_iconst (v := iI (2)) hx hb dX4_accept_44 rfl ?_
      refine xp_203 (v := 2) hx hb hw1 hown hK hR hS (gd_1 hG (by omega)) (hts _ kw_41) dX4_accept_45 (fun H locs hR hS => ?_)
      refine lv_aload_n hx hb dX4_accept_48 rfl (lv_at hl 1 rfl) ?_
      refine lv_null hx hb dX4_accept_49 ?_
      refine lv_iconst (v := iI (0)) hx hb dX4_accept_50 rfl ?_
      refine xk_mF (xr_S (As := [.ref (ad 1 (pAt x)), .null, .int (iI (0))]) (rest := []) hx hb hml hown hts hK (c_X4_offer hR (gc_203 hG (pAt x) (v := 2) (by omega)) (pAt x) (-1) (rv_n (by decide)).symm 0 (by omega) (by first | omega | (have z : -1 ≤ (-1) ∧ (-1) < sg 503 0 := (by omega); exact z)) (by omega)) ms_X4_offer kw_628 ⟨by decide, by decide⟩ ⟨by decide, by decide⟩ rfl rfl hl.1 rfl (lv_room (by decide)) dX4_accept_51) hS (fun H locs hR hS hz hq => ?_)
      have G7 : GC (offT (st sg 203 (pAt x) (2)) (pAt x) (-1) 0) := gc_offT (gc_203 hG (pAt x) (v := 2) (by omega)) (by have z : -1 ≤ (-1 : Int) ∧ (-1 : Int) < sg 503 0 := (by omega); exact z) (by omega)
      refine lv_aload_n hx hb dX4_accept_54 rfl (lv_at hl 2 rfl) ?_
      refine lv_dup hx hb dX4_accept_55 rfl ?_
      refine xg_510 (v := (offT (st sg 203 (pAt x) (2)) (pAt x) (-1) 0) 510 0) hx hb hw4 hown hK hR (gd_4 G7) (hts _ kw_101) rfl dX4_accept_56 ?_
      refine lv_iload_n hx hb dX4_accept_59 rfl (lv_at hl 0 rfl) ?_
      refine xr_i2l hx hb dX4_accept_60 (by omega) ?_
      refine xr_ladd hx hb dX4_accept_61 ?_
      refine xp_510 (v := ((offT (st sg 203 (pAt x) (2)) (pAt x) (-1) 0) 510 0) + (sg 210 (pAt x))) hx hb hw4 hown hK hR hS (gd_4 G7) (hts _ kw_101) dX4_accept_62 (fun H locs hR hS => ?_)
      refine lv_iload_n hx hb dX4_accept_65 rfl (lv_at hl 0 rfl) ?_
      exact xv_i hx hb hr hlk hS (by decide) (by decide) dX4_accept_66 (by unfold offE; (repeat' split) <;> first | omega | grind) (by rfl) (by exact hR)
    · skip
      exact xtw_3 (thr := offE sg x) (text := "the PLOT is not OFFERED") (P := fun H' => RC D cy A ad sg H') hx hb hl0 hown hts hX hS (hl.1.trans hml.symm) hxt hlk (by decide) dX4_accept_27 dX4_accept_30 dX4_accept_31 dX4_accept_34 dX4_accept_37 (by decide) (by decide) (by decide) (by decide) (by decide) (by decide) (wr_more hR) (by unfold offE; (repeat' split) <;> first | omega | grind)
  · skip
    rw [rv_n h2] at hl
    exact xt_1 (thr := offE sg x) (text := "no such PLOT") (P := fun H' => RC D cy A ad sg H') hx hb hl0 hown hts hX hS (hl.1.trans hml.symm) hxt hlk (by decide) dX4_accept_10 dX4_accept_13 dX4_accept_14 dX4_accept_16 dX4_accept_19 (by decide) (by decide) (by decide) (by decide) (by decide) (by decide) (wr_more hR) (by unfold offE; (repeat' split) <;> first | omega | grind)
theorem ms_X4_pass : MVi RX4 yX4_pass cX4_pass 2 (some .int) 1 := ⟨kw_419, kw_417, kw_418, kw_1, rfl, by decide, by decide, by decide +kernel⟩
set_option maxRecDepth 100000 in
set_option maxHeartbeats 4000000 in
theorem c_X4_pass {l : Launch} {D : va_G} {cy : Nat → ClassId} {A : Nat → Prop} {ad : Nat → Int → Nat} {sg : Nat → Int → Int} {H : Heap} (hR : RC D cy A ad sg H) (hG : GC sg) (hl0 : l.stackTraces = false) (hA : ∀ q : Nat, H.size ≤ q → A q) (d : Int) (h_d : in32 d) : vx_Met l yX4_pass (Cond.code yX4_pass cX4_pass 2 (some .int) :: wG) (rmF 6 82 1 6) (PcX A D cy H [.ref (ad 4 (0)), .int (iI (d))]) (QmT (passE sg d = 0) (some (.int (iI (sg 506 0 + d)))) (fun H' => RC D cy A ad (st sg 506 0 (sg 506 0 + d)) H') A) (XCx (passE sg d) (fun H' => RC D cy A ad sg H') A) 1 6 A := by
  refine vmet_of (la := [(0, .ref (ad 4 (0))), (1, .int (iI (d)))]) (by decide) (Nat.le_of_ble_eq_true rfl) rfl ?_
  intro p e R s m args below meth c ls hRm hx hb hml hr hlk hxt hown hts hsH hK hX hl
  subst hRm
  have hown : s.vm.findClass "Takinghall" = some m.cls := hown
  have hw4 : ∀ w ∈ u_ws RX4 TX4 12, w.before args s = true := fun w h => hts w (uw_X4 w h)
  have hS : va_S A s.heap H [] := by rw [hsH]; exact va_S.rf
  refine lv_iload_n hx hb dX4_pass_0 rfl (lv_at hl 1 rfl) ?_
  refine lv_iconst (v := iI (1)) hx hb dX4_pass_1 rfl ?_
  refine lv_sipush (v := iI (1000)) hx hb dX4_pass_2 (by decide) ?_
  refine xk_pF (xr_S (As := [.int (iI (d)), .int (iI (1)), .int (iI (1000))]) (rest := []) hx hb hml hown hts hK (c_X4_isWithin hR hG d 1 1000 (by omega) (by omega) (by omega)) ms_X4_isWithin kw_204 ⟨by decide, by decide⟩ ⟨by decide, by decide⟩ rfl rfl hl.1 rfl (lv_room (by decide)) dX4_pass_5) ?_
  refine xr_ifb_ne (tgt := 22) hx hb dX4_pass_8 (by decide) (fun h1 => ?_) (fun h1 => ?_)
  · skip
    refine lv_aload_n hx hb dX4_pass_22 rfl (lv_at hl 0 rfl) ?_
    refine xg_506 (v := sg 506 0) hx hb hw4 hown hK hR (gd_4 hG) (hts _ kw_97) rfl dX4_pass_23 ?_
    have g2 := gr_506 hG (0)
    refine lv_iload_n hx hb dX4_pass_26 rfl (lv_at hl 1 rfl) ?_
    refine xr_iadd hx hb dX4_pass_27 ?_
    refine lv_sipush (v := iI (20000)) hx hb dX4_pass_28 (by decide) ?_
    refine xr_icmp_le (tgt := 45) hx hb dX4_pass_31 (by decide) (by omega) (by omega) (fun h3 => ?_) (fun h3 => ?_)
    · skip
      refine lv_aload_n hx hb dX4_pass_45 rfl (lv_at hl 0 rfl) ?_
      refine lv_dup hx hb dX4_pass_46 rfl ?_
      refine xg_506 (v := sg 506 0) hx hb hw4 hown hK hR (gd_4 hG) (hts _ kw_97) rfl dX4_pass_47 ?_
      refine lv_iload_n hx hb dX4_pass_50 rfl (lv_at hl 1 rfl) ?_
      refine xr_iadd hx hb dX4_pass_51 ?_
      refine xp_506 (v := (sg 506 0) + d) hx hb hw4 hown hK hR hS (gd_4 hG) (hts _ kw_97) dX4_pass_52 (fun H locs hR hS => ?_)
      refine lv_aload_n hx hb dX4_pass_55 rfl (lv_at hl 0 rfl) ?_
      refine xg_506 (v := (sg 506 0) + d) hx hb hw4 hown hK hR ((dm_st (by decide) _ _).mpr (gd_4 hG)) (hts _ kw_97) (st_s) dX4_pass_56 ?_
      exact xv_i hx hb hr hlk hS (by decide) (by decide) dX4_pass_59 (by unfold passE; (repeat' split) <;> first | omega | grind) (by rfl) (by exact hR)
    · skip
      exact xtw_3 (thr := passE sg d) (text := "TODAY would be above the last day") (P := fun H' => RC D cy A ad sg H') hx hb hl0 hown hts hX hS (hl.1.trans hml.symm) hxt hlk (by decide) dX4_pass_34 dX4_pass_37 dX4_pass_38 dX4_pass_41 dX4_pass_44 (by decide) (by decide) (by decide) (by decide) (by decide) (by decide) (wr_more hR) (by unfold passE; (repeat' split) <;> first | omega | grind)
  · skip
    exact xtw_2 (thr := passE sg d) (text := "days out of its range") (P := fun H' => RC D cy A ad sg H') hx hb hl0 hown hts hX hS (hl.1.trans hml.symm) hxt hlk (by decide) dX4_pass_11 dX4_pass_14 dX4_pass_15 dX4_pass_18 dX4_pass_21 (by decide) (by decide) (by decide) (by decide) (by decide) (by decide) (wr_more hR) (by unfold passE; (repeat' split) <;> first | omega | grind)
theorem ms_X4_total : MVi RX4 yX4_total cX4_total 2 (some .long) 1 := ⟨kw_425, kw_423, kw_424, kw_1, rfl, by decide, by decide, by decide +kernel⟩
set_option maxRecDepth 100000 in
set_option maxHeartbeats 4000000 in
theorem c_X4_total {l : Launch} {D : va_G} {cy : Nat → ClassId} {A : Nat → Prop} {ad : Nat → Int → Nat} {sg : Nat → Int → Int} {H : Heap} (hR : RC D cy A ad sg H) (hG : GC sg) (hl0 : l.stackTraces = false) (hA : ∀ q : Nat, H.size ≤ q → A q) (w : Int) (h_w : in32 w) : vx_Met l yX4_total (Cond.code yX4_total cX4_total 2 (some .long) :: wG) (rmF 6 82 1 6) (PcX A D cy H [.ref (ad 4 (0)), .int (iI (w))]) (QmT (totalE w = 0) (some (.long (lI (totalR sg w)))) (fun H' => RC D cy A ad sg H') A) (XCx (totalE w) (fun H' => RC D cy A ad sg H') A) 1 6 A := by
  refine vmet_of (la := [(0, .ref (ad 4 (0))), (1, .int (iI (w)))]) (by decide) (Nat.le_of_ble_eq_true rfl) rfl ?_
  intro p e R s m args below meth c ls hRm hx hb hml hr hlk hxt hown hts hsH hK hX hl
  subst hRm
  have hown : s.vm.findClass "Takinghall" = some m.cls := hown
  have hw4 : ∀ w ∈ u_ws RX4 TX4 12, w.before args s = true := fun w h => hts w (uw_X4 w h)
  have hS : va_S A s.heap H [] := by rw [hsH]; exact va_S.rf
  refine lv_iload_n hx hb dX4_total_0 rfl (lv_at hl 1 rfl) ?_
  rcases (show (w < 0 ∨ 4 < w) ∨ w = 0 ∨ w = 1 ∨ w = 2 ∨ w = 3 ∨ w = 4 by omega) with h1 | h1 | h1 | h1 | h1 | h1
  · skip
    refine lv_tableOut (tgt := 61) hx hb dX4_total_1 (by rw [iI_toInt (by omega)]; exact h1) (by decide) ?_
    exact xt_2 (thr := totalE w) (text := "what out of its range") (P := fun H' => RC D cy A ad sg H') hx hb hl0 hown hts hX hS (hl.1.trans hml.symm) hxt hlk (by decide) dX4_total_61 dX4_total_64 dX4_total_65 dX4_total_67 dX4_total_70 (by decide) (by decide) (by decide) (by decide) (by decide) (by decide) (wr_more hR) (by unfold totalE; (repeat' split) <;> first | omega | grind)
  · skip
    rw [h1]
    refine lv_tableIn (tgt := 36) (off := 35) hx hb dX4_total_1 (by decide) (by decide) (by decide) (by decide) ?_
    refine lv_aload_n hx hb dX4_total_36 rfl (lv_at hl 0 rfl) ?_
    refine xg_507 (v := sg 507 0) hx hb hw4 hown hK hR (gd_4 hG) (hts _ kw_98) rfl dX4_total_37 ?_
    exact xv_l hx hb hr hlk hS (by decide) (by decide) dX4_total_40 (by unfold totalE; (repeat' split) <;> first | omega | grind) (by unfold totalR; (repeat' split) <;> omega) (by exact hR)
  · skip
    rw [h1]
    refine lv_tableIn (tgt := 41) (off := 40) hx hb dX4_total_1 (by decide) (by decide) (by decide) (by decide) ?_
    refine lv_aload_n hx hb dX4_total_41 rfl (lv_at hl 0 rfl) ?_
    refine xg_508 (v := sg 508 0) hx hb hw4 hown hK hR (gd_4 hG) (hts _ kw_99) rfl dX4_total_42 ?_
    exact xv_l hx hb hr hlk hS (by decide) (by decide) dX4_total_45 (by unfold totalE; (repeat' split) <;> first | omega | grind) (by unfold totalR; (repeat' split) <;> omega) (by exact hR)
  · skip
    rw [h1]
    refine lv_tableIn (tgt := 46) (off := 45) hx hb dX4_total_1 (by decide) (by decide) (by decide) (by decide) ?_
    refine lv_aload_n hx hb dX4_total_46 rfl (lv_at hl 0 rfl) ?_
    refine xg_509 (v := sg 509 0) hx hb hw4 hown hK hR (gd_4 hG) (hts _ kw_100) rfl dX4_total_47 ?_
    exact xv_l hx hb hr hlk hS (by decide) (by decide) dX4_total_50 (by unfold totalE; (repeat' split) <;> first | omega | grind) (by unfold totalR; (repeat' split) <;> omega) (by exact hR)
  · skip
    rw [h1]
    refine lv_tableIn (tgt := 51) (off := 50) hx hb dX4_total_1 (by decide) (by decide) (by decide) (by decide) ?_
    refine lv_aload_n hx hb dX4_total_51 rfl (lv_at hl 0 rfl) ?_
    refine xg_510 (v := sg 510 0) hx hb hw4 hown hK hR (gd_4 hG) (hts _ kw_101) rfl dX4_total_52 ?_
    exact xv_l hx hb hr hlk hS (by decide) (by decide) dX4_total_55 (by unfold totalE; (repeat' split) <;> first | omega | grind) (by unfold totalR; (repeat' split) <;> omega) (by exact hR)
  · skip
    rw [h1]
    refine lv_tableIn (tgt := 56) (off := 55) hx hb dX4_total_1 (by decide) (by decide) (by decide) (by decide) ?_
    refine lv_aload_n hx hb dX4_total_56 rfl (lv_at hl 0 rfl) ?_
    refine xg_511 (v := sg 511 0) hx hb hw4 hown hK hR (gd_4 hG) (hts _ kw_102) rfl dX4_total_57 ?_
    exact xv_l hx hb hr hlk hS (by decide) (by decide) dX4_total_60 (by unfold totalE; (repeat' split) <;> first | omega | grind) (by unfold totalR; (repeat' split) <;> omega) (by exact hR)
