theorem ms_X5_letGo : MVi RX5 yX5_letGo cX5_letGo 3 none 1 := ⟨kw_965, kw_964, kp_37, kw_4, rfl, by decide, by decide, by decide +kernel⟩
set_option maxRecDepth 100000 in
set_option maxHeartbeats 4000000 in
theorem c_X5_letGo {l : Launch} {D : va_G} {cy : Nat → ClassId} {A : Nat → Prop} {ad : Nat → Int → Nat} {mu : Nat → Int → Int} {H : Heap} (hR : RM D cy A ad mu H) (hG : GM mu)  (x : Int) (h1 : 0 ≤ x ∧ x ≤ 35) : Met l yX5_letGo (Cond.code yX5_letGo cX5_letGo 3 none :: wG) (rmF 0 0 0 0) (Pc D cy H [.ref (ad 5 (0)), .int (iI (x))]) (Qm none (fun H' => RM D cy A ad (mLgT mu x) H') A) 0 0 A := by
  refine met_of (la := [(0, .ref (ad 5 (0))), (1, .int (iI (x)))]) (by decide) (Nat.le_of_ble_eq_true rfl) rfl ?_
  intro p e R s m args below meth c ls hRm hx hb hml hr hlk hin hown hts hsH hK hl
  subst hRm
  have hown : s.vm.findClass "TakinghallModel" = some m.cls := hown
  have hw5 : ∀ w ∈ u_ws RX5 TX5 35, w.before args s = true := fun w h => hts w (uw_X5 w h)
  have hS : va_S A s.heap H [] := by rw [hsH]; exact va_S.rf
  have g913 := mr_913 hG 0
  refine lv_aload_n hx hb dX5_letGo_0 rfl (lv_at hl 0 rfl) ?_
  refine xg_906 (v := mu 906 0) hx hb hw5 hown hK hR (md_5 hG) (hts _ kw_754) rfl dX5_letGo_1 ?_
  have q1 : mu 906 0 = 0 := mh_906 hG
  rw [q1, rv_p (Int.le_refl 0)]
  refine lv_iload_n hx hb dX5_letGo_4 rfl (lv_at hl 1 rfl) ?_
  refine lv_iconst (v := iI (-1)) hx hb dX5_letGo_5 rfl ?_
  refine xs_1006 (v := -1) hx hb hK hR hS (md_26 hG) (by omega) dX5_letGo_6 (fun H locs hR hS => ?_)
  refine lv_aload_n hx hb dX5_letGo_7 rfl (lv_at hl 0 rfl) ?_
  refine xg_907 (v := mu 907 0) hx hb hw5 hown hK hR ((dmM_st (by decide) _ _).mpr (md_5 hG)) (hts _ kw_755) ((st_f (by decide)).trans rfl) dX5_letGo_8 ?_
  have q2 : mu 907 0 = 0 := mh_907 hG
  rw [q2, rv_p (Int.le_refl 0)]
  refine lv_iload_n hx hb dX5_letGo_11 rfl (lv_at hl 1 rfl) ?_
  refine lv_iconst (v := iI (0)) hx hb dX5_letGo_12 rfl ?_
  refine xs_1007 (v := 0) hx hb hK hR hS ((dmM_st (by decide) _ _).mpr (md_27 hG)) (by omega) dX5_letGo_13 (fun H locs hR hS => ?_)
  refine lv_iconst (v := iI (0)) hx hb dX5_letGo_14 rfl ?_
  refine lv_istore_n (i := 2) (lv' := [(2, .int (iI (0))), (0, .ref (ad 5 (0))), (1, .int (iI (x)))]) hx hb dX5_letGo_15 rfl hl (by decide) rfl (fun ls hl => ?_)
  have loop16 : ∀ (n : Nat) (i : Int), 0 ≤ i → i ≤ mu 913 0 → (mu 913 0 - i).toNat < n → ∀ (H : Heap) (locs : List Loc), RM D cy A ad (mLgN mu x i) H → va_S A s.heap H locs → ∀ ls : Array Slot, lv_has ls 3 [(0, .ref (ad 5 (0))), (1, .int (iI (x))), (2, .int (iI (i)))] → W p l e (rmF 0 0 0 0) s m args below meth c H locs 0 0 (MQ below (Qm none (fun H' => RM D cy A ad (mLgT mu x) H') A) args s 0 0 A) (F0 m 16 ls []) := by
    intro n
    induction n with
    | zero =>
      intro i hi0 hi1 hn H locs hR hS ls hl
      exact absurd hn (Nat.not_lt_zero _)
    | succ n ih =>
      intro i hi0 hi1 hn H locs hR hS ls hl
      refine lv_iload_n hx hb dX5_letGo_16 rfl (lv_at hl 2 rfl) ?_
      refine lv_aload_n hx hb dX5_letGo_17 rfl (lv_at hl 0 rfl) ?_
      refine xg_913 (v := mu 913 0) hx hb hw5 hown hK hR ((dmM_lg (md_5 hG))) (hts _ kw_761) (mLg_f2 (by decide) (by decide) (by decide) (by decide)) dX5_letGo_18 ?_
      have g3 := mr_913 hG (0)
      refine xr_icmp_ge (tgt := 54) hx hb dX5_letGo_21 (by decide) (by omega) (by omega) (fun h4 => ?_) (fun h4 => ?_)
      · skip
        exact xm_v hx hb hr hlk hS dX5_letGo_54 (by have e : i = mu 913 0 := (by omega); unfold mLgT; rw [← e]; exact hR)
      · skip
        refine lv_aload_n hx hb dX5_letGo_24 rfl (lv_at hl 0 rfl) ?_
        refine xg_915 (v := mu 915 0) hx hb hw5 hown hK hR ((dmM_lg (md_5 hG))) (hts _ kw_763) (mLg_f2 (by decide) (by decide) (by decide) (by decide)) dX5_letGo_25 ?_
        have q5 : mu 915 0 = 0 := mh_915 hG
        rw [q5, rv_p (Int.le_refl 0)]
        refine lv_iload_n hx hb dX5_letGo_28 rfl (lv_at hl 2 rfl) ?_
        refine xa_1015 (v := mu 1015 i) hx hb hK hR ((dmM_lg (md_35 hG))) (by omega) (mLg_f2 (by decide) (by decide) (by decide) (by decide)) dX5_letGo_29 ?_
        have g6 := mr_1015 hG (i)
        refine lv_iload_n hx hb dX5_letGo_30 rfl (lv_at hl 1 rfl) ?_
        refine xr_icmp_ne (tgt := 48) hx hb dX5_letGo_31 (by decide) (by omega) (by omega) (fun h7 => ?_) (fun h7 => ?_)
        · skip
          refine lv_iinc (v := iI (i + (1))) (lv' := [(2, .int (iI (i + (1)))), (0, .ref (ad 5 (0))), (1, .int (iI (x)))]) hx hb dX5_letGo_48 hl (k := 2) rfl (iI_add _ _) (by decide) rfl (fun ls hl => ?_)
          refine lv_goto (tgt := 16) hx hb dX5_letGo_51 (by decide) ?_
          exact ih (i + 1) (by omega) (by omega) (by omega) _ _ (by first | (rw [← mLg_y hi0 (by omega)]; exact hR) | (rw [← mLg_n (by omega)]; exact hR)) hS ls (lv_sub hl [1, 2, 0] rfl)
        · skip
          refine lv_aload_n hx hb dX5_letGo_34 rfl (lv_at hl 0 rfl) ?_
          refine xg_919 (v := mu 919 0) hx hb hw5 hown hK hR ((dmM_lg (md_5 hG))) (hts _ kw_767) (mLg_f2 (by decide) (by decide) (by decide) (by decide)) dX5_letGo_35 ?_
          have q8 : mu 919 0 = 0 := mh_919 hG
          rw [q8, rv_p (Int.le_refl 0)]
          refine lv_iload_n hx hb dX5_letGo_38 rfl (lv_at hl 2 rfl) ?_
          refine lv_iconst (v := iI (-1)) hx hb dX5_letGo_39 rfl ?_
          refine xs_1019 (v := -1) hx hb hK hR hS ((dmM_lg (md_39 hG))) (by omega) dX5_letGo_40 (fun H locs hR hS => ?_)
          refine lv_aload_n hx hb dX5_letGo_41 rfl (lv_at hl 0 rfl) ?_
          refine xg_920 (v := mu 920 0) hx hb hw5 hown hK hR ((dmM_st (by decide) _ _).mpr ((dmM_lg (md_5 hG)))) (hts _ kw_768) ((st_f (by decide)).trans ((mLg_f2 (by decide) (by decide) (by decide) (by decide)))) dX5_letGo_42 ?_
          have q9 : mu 920 0 = 0 := mh_920 hG
          rw [q9, rv_p (Int.le_refl 0)]
          refine lv_iload_n hx hb dX5_letGo_45 rfl (lv_at hl 2 rfl) ?_
          refine lv_iconst (v := iI (0)) hx hb dX5_letGo_46 rfl ?_
          refine xs_1020 (v := 0) hx hb hK hR hS ((dmM_st (by decide) _ _).mpr ((dmM_lg (md_40 hG)))) (by omega) dX5_letGo_47 (fun H locs hR hS => ?_)
          refine lv_iinc (v := iI (i + (1))) (lv' := [(2, .int (iI (i + (1)))), (0, .ref (ad 5 (0))), (1, .int (iI (x)))]) hx hb dX5_letGo_48 hl (k := 2) rfl (iI_add _ _) (by decide) rfl (fun ls hl => ?_)
          refine lv_goto (tgt := 16) hx hb dX5_letGo_51 (by decide) ?_
          exact ih (i + 1) (by omega) (by omega) (by omega) _ _ (by first | (rw [← mLg_y hi0 (by omega)]; exact hR) | (rw [← mLg_n (by omega)]; exact hR)) hS ls (lv_sub hl [1, 2, 0] rfl)
  exact loop16 _ 0 (by decide) (by omega) (Nat.lt_succ_self _) _ _ (by rw [← mLg_0]; exact hR) hS ls (lv_sub hl [1, 2, 0] rfl)
theorem ms_X5_take : MVi RX5 yX5_take cX5_take 5 (some .int) 1 := ⟨kw_997, kw_996, kp_40, kw_4, rfl, by decide, by decide, by decide +kernel⟩
set_option maxRecDepth 100000 in
set_option maxHeartbeats 4000000 in
theorem c_X5_take {l : Launch} {D : va_G} {cy : Nat → ClassId} {A : Nat → Prop} {ad : Nat → Int → Nat} {mu : Nat → Int → Int} {H : Heap} (hR : RM D cy A ad mu H) (hG : GM mu)  (x : Int) (h1 : 0 ≤ x ∧ x ≤ 35) (h2 : 0 ≤ mu 1006 x) : Met l yX5_take (Cond.code yX5_take cX5_take 5 (some .int) :: wG) (rmF 3 71 0 0) (Pc D cy H [.ref (ad 5 (0)), .int (iI (x))]) (Qm (some (.int (iI (mtk3 mu x 1012 x)))) (fun H' => RM D cy A ad (mtkT mu x) H') A) 0 0 A := by
  refine met_of (la := [(0, .ref (ad 5 (0))), (1, .int (iI (x)))]) (by decide) (Nat.le_of_ble_eq_true rfl) rfl ?_
  intro p e R s m args below meth c ls hRm hx hb hml hr hlk hin hown hts hsH hK hl
  subst hRm
  have hown : s.vm.findClass "TakinghallModel" = some m.cls := hown
  have hw5 : ∀ w ∈ u_ws RX5 TX5 35, w.before args s = true := fun w h => hts w (uw_X5 w h)
  have hS : va_S A s.heap H [] := by rw [hsH]; exact va_S.rf
  have g913 := mr_913 hG 0
  have g901 := mr_901 hG 0
  have hG2 := gm_tk2 hG x
  have hG3 := gm_tk3 hG x
  have g9132 := mr_913 hG2 0
  refine lv_aload_n hx hb dX5_take_0 rfl (lv_at hl 0 rfl) ?_
  refine xg_905 (v := mu 905 0) hx hb hw5 hown hK hR (md_5 hG) (hts _ kw_753) rfl dX5_take_1 ?_
  have q1 : mu 905 0 = 0 := mh_905 hG
  rw [q1, rv_p (Int.le_refl 0)]
  refine lv_iload_n hx hb dX5_take_4 rfl (lv_at hl 1 rfl) ?_
  refine lv_iconst (v := iI (1)) hx hb dX5_take_5 rfl ?_
  refine xs_1005 (v := 1) hx hb hK hR hS (md_25 hG) (by omega) dX5_take_6 (fun H locs hR hS => ?_)
  refine lv_aload_n hx hb dX5_take_7 rfl (lv_at hl 0 rfl) ?_
  refine xg_908 (v := mu 908 0) hx hb hw5 hown hK hR ((dmM_st (by decide) _ _).mpr (md_5 hG)) (hts _ kw_756) ((st_f (by decide)).trans rfl) dX5_take_8 ?_
  have q2 : mu 908 0 = 0 := mh_908 hG
  rw [q2, rv_p (Int.le_refl 0)]
  refine lv_iload_n hx hb dX5_take_11 rfl (lv_at hl 1 rfl) ?_
  refine lv_aload_n hx hb dX5_take_12 rfl (lv_at hl 0 rfl) ?_
  refine xg_901 (v := mu 901 0) hx hb hw5 hown hK hR ((dmM_st (by decide) _ _).mpr (md_5 hG)) (hts _ kw_749) ((st_f (by decide)).trans rfl) dX5_take_13 ?_
  have g3 := mr_901 hG (0)
  refine xs_1008 (v := mu 901 0) hx hb hK hR hS ((dmM_st (by decide) _ _).mpr (md_28 hG)) (by omega) dX5_take_16 (fun H locs hR hS => ?_)
  refine lv_aload_n hx hb dX5_take_17 rfl (lv_at hl 0 rfl) ?_
  refine xg_912 (v := mu 912 0) hx hb hw5 hown hK hR ((dmM_st (by decide) _ _).mpr ((dmM_st (by decide) _ _).mpr (md_5 hG))) (hts _ kw_760) ((st_f (by decide)).trans ((st_f (by decide)).trans rfl)) dX5_take_18 ?_
  have q4 : mu 912 0 = 0 := mh_912 hG
  rw [q4, rv_p (Int.le_refl 0)]
  refine lv_iload_n hx hb dX5_take_21 rfl (lv_at hl 1 rfl) ?_
  refine lv_aload_n hx hb dX5_take_22 rfl (lv_at hl 0 rfl) ?_
  refine lv_iload_n hx hb dX5_take_23 rfl (lv_at hl 1 rfl) ?_
  refine lv_aload_n hx hb dX5_take_24 rfl (lv_at hl 0 rfl) ?_
  refine xg_906 (v := mu 906 0) hx hb hw5 hown hK hR ((dmM_st (by decide) _ _).mpr ((dmM_st (by decide) _ _).mpr (md_5 hG))) (hts _ kw_754) ((st_f (by decide)).trans ((st_f (by decide)).trans rfl)) dX5_take_25 ?_
  have q5 : mu 906 0 = 0 := mh_906 hG
  rw [q5, rv_p (Int.le_refl 0)]
  refine lv_iload_n hx hb dX5_take_28 rfl (lv_at hl 1 rfl) ?_
  refine xa_1006 (v := mu 1006 x) hx hb hK hR ((dmM_st (by decide) _ _).mpr ((dmM_st (by decide) _ _).mpr (md_26 hG))) (by omega) ((st_f (by decide)).trans ((st_f (by decide)).trans rfl)) dX5_take_29 ?_
  have g6 := mr_1006 hG (x)
  refine xk_pF (xr_V (As := [.int (iI (x)), .int (iI (mu 1006 x))]) (rest := [.int (iI (x)), .ref (ad 32 (0))]) hx hb hml hown hts hK (c_X5_landOf hR (gc_1008 (gc_1005 hG (x) (v := 1) (by omega)) (x) (v := mu 901 0) (by omega)) x (mu 1006 x) (by omega) (by omega) (by rw [st_s]; exact g901.1)) ms_X5_landOf kw_998 (wr_recv hK hR ((dmM_st (by decide) _ _).mpr ((dmM_st (by decide) _ _).mpr (md_5 hG))) rfl rfl) ⟨by decide, by decide⟩ ⟨by decide, by decide⟩ rfl rfl hl.1 rfl (lv_room (Nat.le_of_ble_eq_true rfl)) dX5_take_30) ?_
  have g7 := mLand_rng (gc_1008 (gc_1005 hG (x) (v := 1) (by omega)) (x) (v := mu 901 0) (by omega)) (x) ((mu 1006 x))
  refine xr_i2l hx hb dX5_take_33 (by omega) ?_
  refine xs_1012 (v := mLand (st (st mu 1005 (x) (1)) 1008 (x) (mu 901 0)) x (mu 1006 x)) hx hb hK hR hS ((dmM_st (by decide) _ _).mpr ((dmM_st (by decide) _ _).mpr (md_32 hG))) (by omega) dX5_take_34 (fun H locs hR hS => ?_)
  have hR : RM D cy A ad (mtk2 mu x) H := hR
  refine lv_aload_n hx hb dX5_take_35 rfl (lv_at hl 0 rfl) ?_
  refine lv_iload_n hx hb dX5_take_36 rfl (lv_at hl 1 rfl) ?_
  refine lv_aload_n hx hb dX5_take_37 rfl (lv_at hl 0 rfl) ?_
  refine xg_913 (v := (mtk2 mu x) 913 0) hx hb hw5 hown hK hR (md_5 hG2) (hts _ kw_761) rfl dX5_take_38 ?_
  have g8 := mr_913 hG2 (0)
  refine xk_pF (xr_V (As := [.int (iI (x)), .int (iI ((mtk2 mu x) 913 0))]) (rest := []) hx hb hml hown hts hK (c_X5_leftAhead hR hG2 x ((mtk2 mu x) 913 0) (by omega) (by omega)) ms_X5_leftAhead kw_1002 (wr_recv hK hR (md_5 hG2) rfl rfl) ⟨by decide, by decide⟩ ⟨by decide, by decide⟩ rfl rfl hl.1 rfl (lv_room (by decide)) dX5_take_41) ?_
  have g9 := mLeftI_rng hG2 (x) (((mtk2 mu x) 913 0))
  refine lv_lstore_n (i := 2) (lv' := [(2, .long (lI (mLeft (mtk2 mu x) x ((mtk2 mu x) 913 0)))), (0, .ref (ad 5 (0))), (1, .int (iI (x)))]) hx hb dX5_take_44 rfl hl (by decide) rfl (fun ls hl => ?_)
  refine lv_iconst (v := iI (0)) hx hb dX5_take_45 rfl ?_
  refine lv_istore (i := 4) (lv' := [(4, .int (iI (0))), (2, .long (lI (mLeft (mtk2 mu x) x ((mtk2 mu x) 913 0)))), (0, .ref (ad 5 (0))), (1, .int (iI (x)))]) hx hb dX5_take_46 hl (by decide) rfl (fun ls hl => ?_)
  have loop48 : ∀ (n : Nat) (i : Int) (rest : Int), 0 ≤ i → i ≤ mtk2 mu x 913 0 → rest = mrsN (mtk2 mu x) x i.toNat → (mtk2 mu x 913 0 - i).toNat < n → ∀ (H : Heap) (locs : List Loc), RM D cy A ad (mtkN (mtk2 mu x) x i.toNat) H → va_S A s.heap H locs → ∀ ls : Array Slot, lv_has ls 5 [(0, .ref (ad 5 (0))), (1, .int (iI (x))), (2, .long (lI (rest))), (4, .int (iI (i)))] → W p l e (rmF 3 71 0 0) s m args below meth c H locs 0 0 (MQ below (Qm (some (.int (iI (mtk3 mu x 1012 x)))) (fun H' => RM D cy A ad (mtkT mu x) H') A) args s 0 0 A) (F0 m 48 ls []) := by
    intro n
    induction n with
    | zero =>
      intro i rest hi0 hi1 hrest hn H locs hR hS ls hl
      exact absurd hn (Nat.not_lt_zero _)
    | succ n ih =>
      intro i rest hi0 hi1 hrest hn H locs hR hS ls hl
      have g913 := mr_913 hG2 0
      refine lv_iload hx hb dX5_take_48 (lv_at hl 3 rfl) ?_
      refine lv_aload_n hx hb dX5_take_50 rfl (lv_at hl 0 rfl) ?_
      refine xg_913 (v := (mtk2 mu x) 913 0) hx hb hw5 hown hK hR ((dmM_tk _ (md_5 hG2))) (hts _ kw_761) (mtk_f (by decide) _ _) dX5_take_51 ?_
      have g10 := mr_913 hG2 (0)
      refine xr_icmp_ge (tgt := 110) hx hb dX5_take_54 (by decide) (by omega) (by omega) (fun h11 => ?_) (fun h11 => ?_)
      · skip
        have e : i = mtk2 mu x 913 0 := (by omega)
        have hR : RM D cy A ad (mtk3 mu x) H := by unfold mtk3; rw [← e]; exact hR
        refine lv_aload_n hx hb dX5_take_110 rfl (lv_at hl 0 rfl) ?_
        refine lv_dup hx hb dX5_take_111 rfl ?_
        refine xg_932 (v := (mtk3 mu x) 932 0) hx hb hw5 hown hK hR (md_5 hG3) (hts _ kw_780) rfl dX5_take_112 ?_
        refine lv_lload_n hx hb dX5_take_115 rfl (lv_at hl 2 rfl) ?_
        refine xr_ladd hx hb dX5_take_116 ?_
        refine xp_932 (v := ((mtk3 mu x) 932 0) + rest) hx hb hw5 hown hK hR hS (md_5 hG3) (hts _ kw_780) dX5_take_117 (fun H locs hR hS => ?_)
        refine lv_aload_n hx hb dX5_take_120 rfl (lv_at hl 0 rfl) ?_
        refine xg_912 (v := (mtk3 mu x) 912 0) hx hb hw5 hown hK hR ((dmM_st (by decide) _ _).mpr (md_5 hG3)) (hts _ kw_760) ((st_f (by decide)).trans rfl) dX5_take_121 ?_
        have q12 : (mtk3 mu x) 912 0 = 0 := mh_912 hG3
        rw [q12, rv_p (Int.le_refl 0)]
        refine lv_iload_n hx hb dX5_take_124 rfl (lv_at hl 1 rfl) ?_
        refine xa_1012 (v := (mtk3 mu x) 1012 x) hx hb hK hR ((dmM_st (by decide) _ _).mpr (md_32 hG3)) (by omega) ((st_f (by decide)).trans rfl) dX5_take_125 ?_
        have g13 := mr_1012 hG3 (x)
        refine xr_l2i hx hb dX5_take_126 ?_
        exact xm_i hx hb hr hlk hS dX5_take_127 (by rfl) (by unfold mtkT; rw [← e, ← hrest]; exact hR)
      · skip
        refine lv_aload_n hx hb dX5_take_57 rfl (lv_at hl 0 rfl) ?_
        refine xg_915 (v := (mtk2 mu x) 915 0) hx hb hw5 hown hK hR ((dmM_tk _ (md_5 hG2))) (hts _ kw_763) (mtk_f (by decide) _ _) dX5_take_58 ?_
        have q14 : (mtk2 mu x) 915 0 = 0 := mh_915 hG2
        rw [q14, rv_p (Int.le_refl 0)]
        refine lv_iload hx hb dX5_take_61 (lv_at hl 3 rfl) ?_
        refine xa_1015 (v := (mtk2 mu x) 1015 i) hx hb hK hR ((dmM_tk _ (md_35 hG2))) (by omega) (mtk_f (by decide) _ _) dX5_take_63 ?_
        have g15 := mr_1015 hG2 (i)
        refine lv_iload_n hx hb dX5_take_64 rfl (lv_at hl 1 rfl) ?_
        refine xr_icmp_ne (tgt := 104) hx hb dX5_take_65 (by decide) (by omega) (by omega) (fun h16 => ?_) (fun h16 => ?_)
        · skip
          refine lv_iinc (v := iI (i + (1))) (lv' := [(4, .int (iI (i + (1)))), (0, .ref (ad 5 (0))), (1, .int (iI (x))), (2, .long (lI (rest)))]) hx hb dX5_take_104 hl (k := 3) rfl (iI_add _ _) (by decide) rfl (fun ls hl => ?_)
          refine lv_goto (tgt := 48) hx hb dX5_take_107 (by decide) ?_
          exact ih (i + 1) rest (by omega) (by omega) (by rw [mrs_s hi0, ← hrest]; first | rw [if_pos (by omega), if_pos (by omega)] | (rw [if_pos (by omega), if_neg (by omega)]) | rw [if_neg (by omega)]) (by omega) _ _ (by rw [mtk_s hi0]; first | (rw [if_pos (by omega)]; exact hR) | (rw [if_neg (by omega)]; exact hR)) hS ls (lv_sub hl [1, 2, 3, 0] rfl)
        · skip
          refine lv_aload_n hx hb dX5_take_68 rfl (lv_at hl 0 rfl) ?_
          refine xg_921 (v := (mtk2 mu x) 921 0) hx hb hw5 hown hK hR ((dmM_tk _ (md_5 hG2))) (hts _ kw_769) (mtk_f (by decide) _ _) dX5_take_69 ?_
          have q17 : (mtk2 mu x) 921 0 = 0 := mh_921 hG2
          rw [q17, rv_p (Int.le_refl 0)]
          refine lv_iload hx hb dX5_take_72 (lv_at hl 3 rfl) ?_
          refine lv_aload_n hx hb dX5_take_74 rfl (lv_at hl 0 rfl) ?_
          refine lv_iload hx hb dX5_take_75 (lv_at hl 3 rfl) ?_
          refine xk_pF (xr_V (As := [.int (iI (i))]) (rest := [.int (iI (i)), .ref (ad 41 (0))]) hx hb hml hown hts hK (c_X5_sumOf hR (gm_tkN (p := x) hG2 i.toNat) i (by omega)) ms_X5_sumOf kw_1006 (wr_recv hK hR ((dmM_tk _ (md_5 hG2))) rfl rfl) ⟨by decide, by decide⟩ ⟨by decide, by decide⟩ rfl rfl hl.1 rfl (lv_room (Nat.le_of_ble_eq_true rfl)) dX5_take_77) ?_
          have g18 := mSum_rng (gm_tkN (p := x) hG2 i.toNat) (i := (i))
          refine xs_1021 (v := mSum (mtkN (mtk2 mu x) x i.toNat) i) hx hb hK hR hS ((dmM_tk _ (md_41 hG2))) (by omega) dX5_take_80 (fun H locs hR hS => ?_)
          refine lv_lload_n hx hb dX5_take_81 rfl (lv_at hl 2 rfl) ?_
          refine lv_aload_n hx hb dX5_take_82 rfl (lv_at hl 0 rfl) ?_
          refine xg_914 (v := (mtk2 mu x) 914 0) hx hb hw5 hown hK hR ((dmM_st (by decide) _ _).mpr ((dmM_tk _ (md_5 hG2)))) (hts _ kw_762) ((st_f (by decide)).trans ((mtk_f (by decide) _ _))) dX5_take_83 ?_
          have q19 : (mtk2 mu x) 914 0 = 0 := mh_914 hG2
          rw [q19, rv_p (Int.le_refl 0)]
          refine lv_iload hx hb dX5_take_86 (lv_at hl 3 rfl) ?_
          refine xa_1014 (v := (mtk2 mu x) 1014 i) hx hb hK hR ((dmM_st (by decide) _ _).mpr ((dmM_tk _ (md_34 hG2)))) (by omega) ((st_f (by decide)).trans ((mtk_f (by decide) _ _))) dX5_take_88 ?_
          have g20 := mr_1014 hG2 (i)
          refine xr_if_ne (tgt := 101) hx hb dX5_take_89 (by decide) (by omega) (fun h21 => ?_) (fun h21 => ?_)
          · skip
            refine lv_lconst (v := lI (0)) hx hb dX5_take_101 (by decide) ?_
            refine xr_lsub hx hb dX5_take_102 ?_
            refine lv_lstore_n (i := 2) (lv' := [(2, .long (lI (rest - 0))), (0, .ref (ad 5 (0))), (1, .int (iI (x))), (4, .int (iI (i)))]) hx hb dX5_take_103 rfl hl (by decide) rfl (fun ls hl => ?_)
            refine lv_iinc (v := iI (i + (1))) (lv' := [(4, .int (iI (i + (1)))), (2, .long (lI (rest - 0))), (0, .ref (ad 5 (0))), (1, .int (iI (x)))]) hx hb dX5_take_104 hl (k := 3) rfl (iI_add _ _) (by decide) rfl (fun ls hl => ?_)
            refine lv_goto (tgt := 48) hx hb dX5_take_107 (by decide) ?_
            exact ih (i + 1) (rest - 0) (by omega) (by omega) (by rw [mrs_s hi0, ← hrest]; first | rw [if_pos (by omega), if_pos (by omega)] | (rw [if_pos (by omega), if_neg (by omega)]) | rw [if_neg (by omega)]) (by omega) _ _ (by rw [mtk_s hi0]; first | (rw [if_pos (by omega)]; exact hR) | (rw [if_neg (by omega)]; exact hR)) hS ls (lv_sub hl [2, 3, 1, 0] rfl)
          · skip
            refine lv_aload_n hx hb dX5_take_92 rfl (lv_at hl 0 rfl) ?_
            refine lv_iload hx hb dX5_take_93 (lv_at hl 3 rfl) ?_
            refine xk_pF (xr_V (As := [.int (iI (i))]) (rest := [.long (lI (rest))]) hx hb hml hown hts hK (c_X5_byShare hR (gc_1021 (gm_tkN (p := x) hG2 i.toNat) (i) (v := mSum (mtkN (mtk2 mu x) x i.toNat) i) (by omega)) i (by omega)) ms_X5_byShare kw_1010 (wr_recv hK hR ((dmM_st (by decide) _ _).mpr ((dmM_tk _ (md_5 hG2)))) rfl rfl) ⟨by decide, by decide⟩ ⟨by decide, by decide⟩ rfl rfl hl.1 rfl (lv_room (Nat.le_of_ble_eq_true rfl)) dX5_take_95) ?_
            have g22 := mShare_rng (gc_1021 (gm_tkN (p := x) hG2 i.toNat) (i) (v := mSum (mtkN (mtk2 mu x) x i.toNat) i) (by omega)) (i)
            refine lv_goto (tgt := 102) hx hb dX5_take_98 (by decide) ?_
            refine xr_lsub hx hb dX5_take_102 ?_
            refine lv_lstore_n (i := 2) (lv' := [(2, .long (lI (rest - (mShare (st (mtkN (mtk2 mu x) x i.toNat) 1021 (i) (mSum (mtkN (mtk2 mu x) x i.toNat) i)) i)))), (0, .ref (ad 5 (0))), (1, .int (iI (x))), (4, .int (iI (i)))]) hx hb dX5_take_103 rfl hl (by decide) rfl (fun ls hl => ?_)
            refine lv_iinc (v := iI (i + (1))) (lv' := [(4, .int (iI (i + (1)))), (2, .long (lI (rest - (mShare (st (mtkN (mtk2 mu x) x i.toNat) 1021 (i) (mSum (mtkN (mtk2 mu x) x i.toNat) i)) i)))), (0, .ref (ad 5 (0))), (1, .int (iI (x)))]) hx hb dX5_take_104 hl (k := 3) rfl (iI_add _ _) (by decide) rfl (fun ls hl => ?_)
            refine lv_goto (tgt := 48) hx hb dX5_take_107 (by decide) ?_
            exact ih (i + 1) (rest - (mShare (st (mtkN (mtk2 mu x) x i.toNat) 1021 (i) (mSum (mtkN (mtk2 mu x) x i.toNat) i)) i)) (by omega) (by omega) (by rw [mrs_s hi0, ← hrest]; first | rw [if_pos (by omega), if_pos (by omega)] | (rw [if_pos (by omega), if_neg (by omega)]) | rw [if_neg (by omega)]) (by omega) _ _ (by rw [mtk_s hi0]; first | (rw [if_pos (by omega)]; exact hR) | (rw [if_neg (by omega)]; exact hR)) hS ls (lv_sub hl [2, 3, 1, 0] rfl)
  exact loop48 _ 0 (mLeft (mtk2 mu x) x (mtk2 mu x 913 0)) (by decide) (by omega) rfl (Nat.lt_succ_self _) _ _ hR hS ls (lv_sub hl [2, 3, 1, 0] rfl)
theorem ms_X5_tell : MVi RX5 yX5_tell cX5_tell 6 (some .int) 5 := ⟨kw_908, kw_907, kp_31, kw_4, rfl, by decide, by decide, by decide +kernel⟩
set_option maxRecDepth 100000 in
set_option maxHeartbeats 4000000 in
theorem c_X5_tell {l : Launch} {D : va_G} {cy : Nat → ClassId} {A : Nat → Prop} {ad : Nat → Int → Nat} {mu : Nat → Int → Int} {H : Heap} (hR : RM D cy A ad mu H) (hG : GM mu)  (k : Int) (x : Int) (u : Int) (ms : Int) (b : Int) (h_x : in32 x) (h_u : in32 u) (hk : 0 ≤ k ∧ k ≤ 2) (hb01 : 0 ≤ b ∧ b ≤ 1) : Met l yX5_tell (Cond.code yX5_tell cX5_tell 6 (some .int) :: wG) (rmF 2 44 0 0) (Pc D cy H [.ref (ad 5 (0)), .int (iI (k)), .int (iI (x)), .int (iI (u)), .int (iI (ms)), .int (iI (b))]) (Qm (some (.int (iI (mR (tellE mu x u b) (mu 913 0))))) (fun H' => RM D cy A ad (mT mu (tellE mu x u b) (mTellT mu k x u ms)) H') A) 0 0 A := by
  refine met_of (la := [(0, .ref (ad 5 (0))), (1, .int (iI (k))), (2, .int (iI (x))), (3, .int (iI (u))), (4, .int (iI (ms))), (5, .int (iI (b)))]) (by decide) (Nat.le_of_ble_eq_true rfl) rfl ?_
  intro p e R s m args below meth c ls hRm hx hb hml hr hlk hin hown hts hsH hK hl
  subst hRm
  have hown : s.vm.findClass "TakinghallModel" = some m.cls := hown
  have hw5 : ∀ w ∈ u_ws RX5 TX5 35, w.before args s = true := fun w h => hts w (uw_X5 w h)
  have hS : va_S A s.heap H [] := by rw [hsH]; exact va_S.rf
  have g913 := mr_913 hG 0
  refine lv_aload_n hx hb dX5_tell_0 rfl (lv_at hl 0 rfl) ?_
  refine lv_aload_n hx hb dX5_tell_1 rfl (lv_at hl 0 rfl) ?_
  refine lv_iload_n hx hb dX5_tell_2 rfl (lv_at hl 2 rfl) ?_
  refine xk_pF (xr_V (As := [.int (iI (x))]) (rest := [.ref (ad 5 (0))]) hx hb hml hown hts hK (c_X5_isPlot hR hG x (by omega)) ms_X5_isPlot kw_865 (wr_recv hK hR (md_5 hG) rfl rfl) ⟨by decide, by decide⟩ ⟨by decide, by decide⟩ rfl rfl hl.1 rfl (lv_room (Nat.le_of_ble_eq_true rfl)) dX5_tell_3) ?_
  refine xr_ifb_eq (tgt := 20) hx hb dX5_tell_6 (by decide) (fun h1 => ?_) (fun h1 => ?_)
  · skip
    refine lv_iconst (v := iI (1)) hx hb dX5_tell_20 rfl ?_
    refine lv_goto (tgt := 56) hx hb dX5_tell_21 (by decide) ?_
    refine xp_900 (v := 1) hx hb hw5 hown hK hR hS (md_5 hG) (hts _ kw_748) dX5_tell_56 (fun H locs hR hS => ?_)
    refine lv_aload_n hx hb dX5_tell_59 rfl (lv_at hl 0 rfl) ?_
    refine xg_900 (v := 1) hx hb hw5 hown hK hR ((dmM_st (by decide) _ _).mpr (md_5 hG)) (hts _ kw_748) (st_s) dX5_tell_60 ?_
    refine xr_if_le (tgt := 68) hx hb dX5_tell_63 (by decide) (by decide) (fun h2 => absurd h2 (by decide)) (fun _ => ?_)
    refine lv_iconst (v := iI (0)) hx hb dX5_tell_66 rfl ?_
    exact xm_i hx hb hr hlk hS dX5_tell_67 (by exact (mR_k (1) (by (unfold tellE; (repeat' split) <;> first | rfl | omega)) (by decide)).symm) (by rw [mT_k (1) (by (unfold tellE; (repeat' split) <;> first | rfl | omega)) (by decide)]; exact hR)
  · skip
    refine lv_aload_n hx hb dX5_tell_9 rfl (lv_at hl 0 rfl) ?_
    refine lv_iload_n hx hb dX5_tell_10 rfl (lv_at hl 3 rfl) ?_
    refine lv_iconst (v := iI (0)) hx hb dX5_tell_11 rfl ?_
    refine lv_bipush (v := iI (9)) hx hb dX5_tell_12 (by decide) ?_
    refine xk_pF (xr_V (As := [.int (iI (u)), .int (iI (0)), .int (iI (9))]) (rest := [.ref (ad 5 (0))]) hx hb hml hown hts hK (c_X5_between hR hG u 0 9 (by omega) (by omega) (by omega)) ms_X5_between kw_869 (wr_recv hK hR (md_5 hG) rfl rfl) ⟨by decide, by decide⟩ ⟨by decide, by decide⟩ rfl rfl hl.1 rfl (lv_room (Nat.le_of_ble_eq_true rfl)) dX5_tell_14) ?_
    refine xr_ifb_ne (tgt := 24) hx hb dX5_tell_17 (by decide) (fun h3 => ?_) (fun h3 => ?_)
    · skip
      refine lv_iload hx hb dX5_tell_24 (lv_at hl 5 rfl) ?_
      refine xr_if_ne (tgt := 33) hx hb dX5_tell_26 (by decide) (by omega) (fun h4 => ?_) (fun h4 => ?_)
      · skip
        refine lv_aload_n hx hb dX5_tell_33 rfl (lv_at hl 0 rfl) ?_
        refine xg_913 (v := mu 913 0) hx hb hw5 hown hK hR (md_5 hG) (hts _ kw_761) rfl dX5_tell_34 ?_
        have g5 := mr_913 hG (0)
        refine lv_bipush (v := iI (24)) hx hb dX5_tell_37 (by decide) ?_
        refine xr_icmp_eq (tgt := 51) hx hb dX5_tell_39 (by decide) (by omega) (by omega) (fun h6 => ?_) (fun h6 => ?_)
        · skip
          refine lv_iconst (v := iI (3)) hx hb dX5_tell_51 rfl ?_
          refine lv_goto (tgt := 56) hx hb dX5_tell_52 (by decide) ?_
          refine xp_900 (v := 3) hx hb hw5 hown hK hR hS (md_5 hG) (hts _ kw_748) dX5_tell_56 (fun H locs hR hS => ?_)
          refine lv_aload_n hx hb dX5_tell_59 rfl (lv_at hl 0 rfl) ?_
          refine xg_900 (v := 3) hx hb hw5 hown hK hR ((dmM_st (by decide) _ _).mpr (md_5 hG)) (hts _ kw_748) (st_s) dX5_tell_60 ?_
          refine xr_if_le (tgt := 68) hx hb dX5_tell_63 (by decide) (by decide) (fun h7 => absurd h7 (by decide)) (fun _ => ?_)
          refine lv_iconst (v := iI (0)) hx hb dX5_tell_66 rfl ?_
          exact xm_i hx hb hr hlk hS dX5_tell_67 (by exact (mR_k (3) (by (unfold tellE; (repeat' split) <;> first | rfl | omega)) (by decide)).symm) (by rw [mT_k (3) (by (unfold tellE; (repeat' split) <;> first | rfl | omega)) (by decide)]; exact hR)
        · skip
          refine lv_aload_n hx hb dX5_tell_42 rfl (lv_at hl 0 rfl) ?_
          refine xg_905 (v := mu 905 0) hx hb hw5 hown hK hR (md_5 hG) (hts _ kw_753) rfl dX5_tell_43 ?_
          have q8 : mu 905 0 = 0 := mh_905 hG
          rw [q8, rv_p (Int.le_refl 0)]
          refine lv_iload_n hx hb dX5_tell_46 rfl (lv_at hl 2 rfl) ?_
          refine xa_1005 (v := mu 1005 x) hx hb hK hR (md_25 hG) (by omega) rfl dX5_tell_47 ?_
          have g9 := mr_1005 hG (x)
          refine xr_if_eq (tgt := 55) hx hb dX5_tell_48 (by decide) (by omega) (fun h10 => ?_) (fun h10 => ?_)
          · skip
            refine lv_iconst (v := iI (0)) hx hb dX5_tell_55 rfl ?_
            refine xp_900 (v := 0) hx hb hw5 hown hK hR hS (md_5 hG) (hts _ kw_748) dX5_tell_56 (fun H locs hR hS => ?_)
            refine lv_aload_n hx hb dX5_tell_59 rfl (lv_at hl 0 rfl) ?_
            refine xg_900 (v := 0) hx hb hw5 hown hK hR ((dmM_st (by decide) _ _).mpr (md_5 hG)) (hts _ kw_748) (st_s) dX5_tell_60 ?_
            refine xr_if_le (tgt := 68) hx hb dX5_tell_63 (by decide) (by decide) (fun _ => ?_) (fun h11 => absurd h11 (by decide))
            refine lv_aload_n hx hb dX5_tell_68 rfl (lv_at hl 0 rfl) ?_
            refine xg_914 (v := mu 914 0) hx hb hw5 hown hK hR ((dmM_st (by decide) _ _).mpr (md_5 hG)) (hts _ kw_762) ((st_f (by decide)).trans rfl) dX5_tell_69 ?_
            have q12 : mu 914 0 = 0 := mh_914 hG
            rw [q12, rv_p (Int.le_refl 0)]
            refine lv_aload_n hx hb dX5_tell_72 rfl (lv_at hl 0 rfl) ?_
            refine xg_913 (v := mu 913 0) hx hb hw5 hown hK hR ((dmM_st (by decide) _ _).mpr (md_5 hG)) (hts _ kw_761) ((st_f (by decide)).trans rfl) dX5_tell_73 ?_
            refine lv_iload_n hx hb dX5_tell_76 rfl (lv_at hl 1 rfl) ?_
            refine xs_1014 (v := k) hx hb hK hR hS ((dmM_st (by decide) _ _).mpr (md_34 hG)) (by omega) dX5_tell_77 (fun H locs hR hS => ?_)
            refine lv_aload_n hx hb dX5_tell_78 rfl (lv_at hl 0 rfl) ?_
            refine xg_915 (v := mu 915 0) hx hb hw5 hown hK hR ((dmM_st (by decide) _ _).mpr ((dmM_st (by decide) _ _).mpr (md_5 hG))) (hts _ kw_763) ((st_f (by decide)).trans ((st_f (by decide)).trans rfl)) dX5_tell_79 ?_
            have q13 : mu 915 0 = 0 := mh_915 hG
            rw [q13, rv_p (Int.le_refl 0)]
            refine lv_aload_n hx hb dX5_tell_82 rfl (lv_at hl 0 rfl) ?_
            refine xg_913 (v := mu 913 0) hx hb hw5 hown hK hR ((dmM_st (by decide) _ _).mpr ((dmM_st (by decide) _ _).mpr (md_5 hG))) (hts _ kw_761) ((st_f (by decide)).trans ((st_f (by decide)).trans rfl)) dX5_tell_83 ?_
            refine lv_iload_n hx hb dX5_tell_86 rfl (lv_at hl 2 rfl) ?_
            refine xs_1015 (v := x) hx hb hK hR hS ((dmM_st (by decide) _ _).mpr ((dmM_st (by decide) _ _).mpr (md_35 hG))) (by omega) dX5_tell_87 (fun H locs hR hS => ?_)
            refine lv_aload_n hx hb dX5_tell_88 rfl (lv_at hl 0 rfl) ?_
            refine xg_916 (v := mu 916 0) hx hb hw5 hown hK hR ((dmM_st (by decide) _ _).mpr ((dmM_st (by decide) _ _).mpr ((dmM_st (by decide) _ _).mpr (md_5 hG)))) (hts _ kw_764) ((st_f (by decide)).trans ((st_f (by decide)).trans ((st_f (by decide)).trans rfl))) dX5_tell_89 ?_
            have q14 : mu 916 0 = 0 := mh_916 hG
            rw [q14, rv_p (Int.le_refl 0)]
            refine lv_aload_n hx hb dX5_tell_92 rfl (lv_at hl 0 rfl) ?_
            refine xg_913 (v := mu 913 0) hx hb hw5 hown hK hR ((dmM_st (by decide) _ _).mpr ((dmM_st (by decide) _ _).mpr ((dmM_st (by decide) _ _).mpr (md_5 hG)))) (hts _ kw_761) ((st_f (by decide)).trans ((st_f (by decide)).trans ((st_f (by decide)).trans rfl))) dX5_tell_93 ?_
            refine lv_iload_n hx hb dX5_tell_96 rfl (lv_at hl 3 rfl) ?_
            refine xs_1016 (v := u) hx hb hK hR hS ((dmM_st (by decide) _ _).mpr ((dmM_st (by decide) _ _).mpr ((dmM_st (by decide) _ _).mpr (md_36 hG)))) (by omega) dX5_tell_97 (fun H locs hR hS => ?_)
            refine lv_aload_n hx hb dX5_tell_98 rfl (lv_at hl 0 rfl) ?_
            refine xg_917 (v := mu 917 0) hx hb hw5 hown hK hR ((dmM_st (by decide) _ _).mpr ((dmM_st (by decide) _ _).mpr ((dmM_st (by decide) _ _).mpr ((dmM_st (by decide) _ _).mpr (md_5 hG))))) (hts _ kw_765) ((st_f (by decide)).trans ((st_f (by decide)).trans ((st_f (by decide)).trans ((st_f (by decide)).trans rfl)))) dX5_tell_99 ?_
            have q15 : mu 917 0 = 0 := mh_917 hG
            rw [q15, rv_p (Int.le_refl 0)]
            refine lv_aload_n hx hb dX5_tell_102 rfl (lv_at hl 0 rfl) ?_
            refine xg_913 (v := mu 913 0) hx hb hw5 hown hK hR ((dmM_st (by decide) _ _).mpr ((dmM_st (by decide) _ _).mpr ((dmM_st (by decide) _ _).mpr ((dmM_st (by decide) _ _).mpr (md_5 hG))))) (hts _ kw_761) ((st_f (by decide)).trans ((st_f (by decide)).trans ((st_f (by decide)).trans ((st_f (by decide)).trans rfl)))) dX5_tell_103 ?_
            refine lv_aload_n hx hb dX5_tell_106 rfl (lv_at hl 0 rfl) ?_
            refine xg_901 (v := mu 901 0) hx hb hw5 hown hK hR ((dmM_st (by decide) _ _).mpr ((dmM_st (by decide) _ _).mpr ((dmM_st (by decide) _ _).mpr ((dmM_st (by decide) _ _).mpr (md_5 hG))))) (hts _ kw_749) ((st_f (by decide)).trans ((st_f (by decide)).trans ((st_f (by decide)).trans ((st_f (by decide)).trans rfl)))) dX5_tell_107 ?_
            have g16 := mr_901 hG (0)
            refine xs_1017 (v := mu 901 0) hx hb hK hR hS ((dmM_st (by decide) _ _).mpr ((dmM_st (by decide) _ _).mpr ((dmM_st (by decide) _ _).mpr ((dmM_st (by decide) _ _).mpr (md_37 hG))))) (by omega) dX5_tell_110 (fun H locs hR hS => ?_)
            refine lv_aload_n hx hb dX5_tell_111 rfl (lv_at hl 0 rfl) ?_
            refine xg_918 (v := mu 918 0) hx hb hw5 hown hK hR ((dmM_st (by decide) _ _).mpr ((dmM_st (by decide) _ _).mpr ((dmM_st (by decide) _ _).mpr ((dmM_st (by decide) _ _).mpr ((dmM_st (by decide) _ _).mpr (md_5 hG)))))) (hts _ kw_766) ((st_f (by decide)).trans ((st_f (by decide)).trans ((st_f (by decide)).trans ((st_f (by decide)).trans ((st_f (by decide)).trans rfl))))) dX5_tell_112 ?_
            have q17 : mu 918 0 = 0 := mh_918 hG
            rw [q17, rv_p (Int.le_refl 0)]
            refine lv_aload_n hx hb dX5_tell_115 rfl (lv_at hl 0 rfl) ?_
            refine xg_913 (v := mu 913 0) hx hb hw5 hown hK hR ((dmM_st (by decide) _ _).mpr ((dmM_st (by decide) _ _).mpr ((dmM_st (by decide) _ _).mpr ((dmM_st (by decide) _ _).mpr ((dmM_st (by decide) _ _).mpr (md_5 hG)))))) (hts _ kw_761) ((st_f (by decide)).trans ((st_f (by decide)).trans ((st_f (by decide)).trans ((st_f (by decide)).trans ((st_f (by decide)).trans rfl))))) dX5_tell_116 ?_
            refine lv_iload hx hb dX5_tell_119 (lv_at hl 4 rfl) ?_
            refine xs_1018 (v := ms) hx hb hK hR hS ((dmM_st (by decide) _ _).mpr ((dmM_st (by decide) _ _).mpr ((dmM_st (by decide) _ _).mpr ((dmM_st (by decide) _ _).mpr ((dmM_st (by decide) _ _).mpr (md_38 hG)))))) (by omega) dX5_tell_121 (fun H locs hR hS => ?_)
            refine lv_aload_n hx hb dX5_tell_122 rfl (lv_at hl 0 rfl) ?_
            refine xg_919 (v := mu 919 0) hx hb hw5 hown hK hR ((dmM_st (by decide) _ _).mpr ((dmM_st (by decide) _ _).mpr ((dmM_st (by decide) _ _).mpr ((dmM_st (by decide) _ _).mpr ((dmM_st (by decide) _ _).mpr ((dmM_st (by decide) _ _).mpr (md_5 hG))))))) (hts _ kw_767) ((st_f (by decide)).trans ((st_f (by decide)).trans ((st_f (by decide)).trans ((st_f (by decide)).trans ((st_f (by decide)).trans ((st_f (by decide)).trans rfl)))))) dX5_tell_123 ?_
            have q18 : mu 919 0 = 0 := mh_919 hG
            rw [q18, rv_p (Int.le_refl 0)]
            refine lv_aload_n hx hb dX5_tell_126 rfl (lv_at hl 0 rfl) ?_
            refine xg_913 (v := mu 913 0) hx hb hw5 hown hK hR ((dmM_st (by decide) _ _).mpr ((dmM_st (by decide) _ _).mpr ((dmM_st (by decide) _ _).mpr ((dmM_st (by decide) _ _).mpr ((dmM_st (by decide) _ _).mpr ((dmM_st (by decide) _ _).mpr (md_5 hG))))))) (hts _ kw_761) ((st_f (by decide)).trans ((st_f (by decide)).trans ((st_f (by decide)).trans ((st_f (by decide)).trans ((st_f (by decide)).trans ((st_f (by decide)).trans rfl)))))) dX5_tell_127 ?_
            refine lv_iconst (v := iI (-1)) hx hb dX5_tell_130 rfl ?_
            refine xs_1019 (v := -1) hx hb hK hR hS ((dmM_st (by decide) _ _).mpr ((dmM_st (by decide) _ _).mpr ((dmM_st (by decide) _ _).mpr ((dmM_st (by decide) _ _).mpr ((dmM_st (by decide) _ _).mpr ((dmM_st (by decide) _ _).mpr (md_39 hG))))))) (by omega) dX5_tell_131 (fun H locs hR hS => ?_)
            refine lv_aload_n hx hb dX5_tell_132 rfl (lv_at hl 0 rfl) ?_
            refine xg_924 (v := mu 924 0) hx hb hw5 hown hK hR ((dmM_st (by decide) _ _).mpr ((dmM_st (by decide) _ _).mpr ((dmM_st (by decide) _ _).mpr ((dmM_st (by decide) _ _).mpr ((dmM_st (by decide) _ _).mpr ((dmM_st (by decide) _ _).mpr ((dmM_st (by decide) _ _).mpr (md_5 hG)))))))) (hts _ kw_772) ((st_f (by decide)).trans ((st_f (by decide)).trans ((st_f (by decide)).trans ((st_f (by decide)).trans ((st_f (by decide)).trans ((st_f (by decide)).trans ((st_f (by decide)).trans rfl))))))) dX5_tell_133 ?_
            have q19 : mu 924 0 = 0 := mh_924 hG
            rw [q19, rv_p (Int.le_refl 0)]
            refine lv_aload_n hx hb dX5_tell_136 rfl (lv_at hl 0 rfl) ?_
            refine xg_913 (v := mu 913 0) hx hb hw5 hown hK hR ((dmM_st (by decide) _ _).mpr ((dmM_st (by decide) _ _).mpr ((dmM_st (by decide) _ _).mpr ((dmM_st (by decide) _ _).mpr ((dmM_st (by decide) _ _).mpr ((dmM_st (by decide) _ _).mpr ((dmM_st (by decide) _ _).mpr (md_5 hG)))))))) (hts _ kw_761) ((st_f (by decide)).trans ((st_f (by decide)).trans ((st_f (by decide)).trans ((st_f (by decide)).trans ((st_f (by decide)).trans ((st_f (by decide)).trans ((st_f (by decide)).trans rfl))))))) dX5_tell_137 ?_
            refine lv_iconst (v := iI (-1)) hx hb dX5_tell_140 rfl ?_
            refine xs_1024 (v := -1) hx hb hK hR hS ((dmM_st (by decide) _ _).mpr ((dmM_st (by decide) _ _).mpr ((dmM_st (by decide) _ _).mpr ((dmM_st (by decide) _ _).mpr ((dmM_st (by decide) _ _).mpr ((dmM_st (by decide) _ _).mpr ((dmM_st (by decide) _ _).mpr (md_44 hG)))))))) (by omega) dX5_tell_141 (fun H locs hR hS => ?_)
            refine lv_aload_n hx hb dX5_tell_142 rfl (lv_at hl 0 rfl) ?_
            refine lv_dup hx hb dX5_tell_143 rfl ?_
            refine xg_913 (v := mu 913 0) hx hb hw5 hown hK hR ((dmM_st (by decide) _ _).mpr ((dmM_st (by decide) _ _).mpr ((dmM_st (by decide) _ _).mpr ((dmM_st (by decide) _ _).mpr ((dmM_st (by decide) _ _).mpr ((dmM_st (by decide) _ _).mpr ((dmM_st (by decide) _ _).mpr ((dmM_st (by decide) _ _).mpr (md_5 hG))))))))) (hts _ kw_761) ((st_f (by decide)).trans ((st_f (by decide)).trans ((st_f (by decide)).trans ((st_f (by decide)).trans ((st_f (by decide)).trans ((st_f (by decide)).trans ((st_f (by decide)).trans ((st_f (by decide)).trans rfl)))))))) dX5_tell_144 ?_
            refine lv_iconst (v := iI (1)) hx hb dX5_tell_147 rfl ?_
            refine xr_iadd hx hb dX5_tell_148 ?_
            refine xp_913 (v := (mu 913 0) + 1) hx hb hw5 hown hK hR hS ((dmM_st (by decide) _ _).mpr ((dmM_st (by decide) _ _).mpr ((dmM_st (by decide) _ _).mpr ((dmM_st (by decide) _ _).mpr ((dmM_st (by decide) _ _).mpr ((dmM_st (by decide) _ _).mpr ((dmM_st (by decide) _ _).mpr ((dmM_st (by decide) _ _).mpr (md_5 hG))))))))) (hts _ kw_761) dX5_tell_149 (fun H locs hR hS => ?_)
            refine lv_aload_n hx hb dX5_tell_152 rfl (lv_at hl 0 rfl) ?_
            refine xg_913 (v := (mu 913 0) + 1) hx hb hw5 hown hK hR ((dmM_st (by decide) _ _).mpr ((dmM_st (by decide) _ _).mpr ((dmM_st (by decide) _ _).mpr ((dmM_st (by decide) _ _).mpr ((dmM_st (by decide) _ _).mpr ((dmM_st (by decide) _ _).mpr ((dmM_st (by decide) _ _).mpr ((dmM_st (by decide) _ _).mpr ((dmM_st (by decide) _ _).mpr (md_5 hG)))))))))) (hts _ kw_761) (st_s) dX5_tell_153 ?_
            refine lv_iconst (v := iI (1)) hx hb dX5_tell_156 rfl ?_
            refine xr_isub hx hb dX5_tell_157 ?_
            exact xm_i hx hb hr hlk hS dX5_tell_158 (by rw [mR_0 (by (unfold tellE; (repeat' split) <;> first | rfl | omega))]; omega) (by rw [mT_0 (by (unfold tellE; (repeat' split) <;> first | rfl | omega))]; exact hR)
          · skip
            refine lv_iconst (v := iI (3)) hx hb dX5_tell_51 rfl ?_
            refine lv_goto (tgt := 56) hx hb dX5_tell_52 (by decide) ?_
            refine xp_900 (v := 3) hx hb hw5 hown hK hR hS (md_5 hG) (hts _ kw_748) dX5_tell_56 (fun H locs hR hS => ?_)
            refine lv_aload_n hx hb dX5_tell_59 rfl (lv_at hl 0 rfl) ?_
            refine xg_900 (v := 3) hx hb hw5 hown hK hR ((dmM_st (by decide) _ _).mpr (md_5 hG)) (hts _ kw_748) (st_s) dX5_tell_60 ?_
            refine xr_if_le (tgt := 68) hx hb dX5_tell_63 (by decide) (by decide) (fun h20 => absurd h20 (by decide)) (fun _ => ?_)
            refine lv_iconst (v := iI (0)) hx hb dX5_tell_66 rfl ?_
            exact xm_i hx hb hr hlk hS dX5_tell_67 (by exact (mR_k (3) (by (unfold tellE; (repeat' split) <;> first | rfl | omega)) (by decide)).symm) (by rw [mT_k (3) (by (unfold tellE; (repeat' split) <;> first | rfl | omega)) (by decide)]; exact hR)
      · skip
        refine lv_iconst (v := iI (2)) hx hb dX5_tell_29 rfl ?_
        refine lv_goto (tgt := 56) hx hb dX5_tell_30 (by decide) ?_
        refine xp_900 (v := 2) hx hb hw5 hown hK hR hS (md_5 hG) (hts _ kw_748) dX5_tell_56 (fun H locs hR hS => ?_)
        refine lv_aload_n hx hb dX5_tell_59 rfl (lv_at hl 0 rfl) ?_
        refine xg_900 (v := 2) hx hb hw5 hown hK hR ((dmM_st (by decide) _ _).mpr (md_5 hG)) (hts _ kw_748) (st_s) dX5_tell_60 ?_
        refine xr_if_le (tgt := 68) hx hb dX5_tell_63 (by decide) (by decide) (fun h21 => absurd h21 (by decide)) (fun _ => ?_)
        refine lv_iconst (v := iI (0)) hx hb dX5_tell_66 rfl ?_
        exact xm_i hx hb hr hlk hS dX5_tell_67 (by exact (mR_k (2) (by (unfold tellE; (repeat' split) <;> first | rfl | omega)) (by decide)).symm) (by rw [mT_k (2) (by (unfold tellE; (repeat' split) <;> first | rfl | omega)) (by decide)]; exact hR)
    · skip
      refine lv_iconst (v := iI (1)) hx hb dX5_tell_20 rfl ?_
      refine lv_goto (tgt := 56) hx hb dX5_tell_21 (by decide) ?_
      refine xp_900 (v := 1) hx hb hw5 hown hK hR hS (md_5 hG) (hts _ kw_748) dX5_tell_56 (fun H locs hR hS => ?_)
      refine lv_aload_n hx hb dX5_tell_59 rfl (lv_at hl 0 rfl) ?_
      refine xg_900 (v := 1) hx hb hw5 hown hK hR ((dmM_st (by decide) _ _).mpr (md_5 hG)) (hts _ kw_748) (st_s) dX5_tell_60 ?_
      refine xr_if_le (tgt := 68) hx hb dX5_tell_63 (by decide) (by decide) (fun h22 => absurd h22 (by decide)) (fun _ => ?_)
      refine lv_iconst (v := iI (0)) hx hb dX5_tell_66 rfl ?_
      exact xm_i hx hb hr hlk hS dX5_tell_67 (by exact (mR_k (1) (by (unfold tellE; (repeat' split) <;> first | rfl | omega)) (by decide)).symm) (by rw [mT_k (1) (by (unfold tellE; (repeat' split) <;> first | rfl | omega)) (by decide)]; exact hR)
