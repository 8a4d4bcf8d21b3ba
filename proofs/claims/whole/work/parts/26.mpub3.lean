theorem mdr2_o {t : Nat → Int → Int} {j : Int} : mdr2 t j 1010 j = mdrO t j := st_s
theorem mdr3_o {t : Nat → Int → Int} {j : Int} : mdr3 t j 1010 j = mdrO t j := (st_f (by decide)).trans st_s

theorem ms_X5_pass : MVi RX5 yX5_pass cX5_pass 4 (some .int) 1 := ⟨kw_1066, kw_1064, kw_1065, kw_4, rfl, by decide, by decide, by decide +kernel⟩
set_option maxRecDepth 100000 in
set_option maxHeartbeats 4000000 in
theorem c_X5_pass {l : Launch} {D : va_G} {cy : Nat → ClassId} {A : Nat → Prop} {ad : Nat → Int → Nat} {mu : Nat → Int → Int} {H : Heap} (hR : RM D cy A ad mu H) (hG : GM mu)  (d : Int) (h_d : in32 d) : Met l yX5_pass (Cond.code yX5_pass cX5_pass 4 (some .int) :: wG) (rmF 1 23 0 0) (Pc D cy H [.ref (ad 5 (0)), .int (iI (d))]) (Qm (some (.int (iI (mR (passME mu d) (mu 901 0 + d))))) (fun H' => RM D cy A ad (mT mu (passME mu d) (mpsN (st mu 900 0 0) d.toNat)) H') A) 0 0 A := by
  refine met_of (la := [(0, .ref (ad 5 (0))), (1, .int (iI (d)))]) (by decide) (Nat.le_of_ble_eq_true rfl) rfl ?_
  intro p e R s m args below meth c ls hRm hx hb hml hr hlk hin hown hts hsH hK hl
  subst hRm
  have hown : s.vm.findClass "TakinghallModel" = some m.cls := hown
  have hw5 : ∀ w ∈ u_ws RX5 TX5 35, w.before args s = true := fun w h => hts w (uw_X5 w h)
  have hS : va_S A s.heap H [] := by rw [hsH]; exact va_S.rf
  have hG0 := gc_900 hG 0 (v := 0) (by decide)
  have h901 : st mu 900 0 0 901 0 = mu 901 0 := rfl
  have g901 := mr_901 hG 0
  refine lv_aload_n hx hb dX5_pass_0 rfl (lv_at hl 0 rfl) ?_
  refine lv_aload_n hx hb dX5_pass_1 rfl (lv_at hl 0 rfl) ?_
  refine lv_iload_n hx hb dX5_pass_2 rfl (lv_at hl 1 rfl) ?_
  refine lv_iconst (v := iI (1)) hx hb dX5_pass_3 rfl ?_
  refine lv_sipush (v := iI (1000)) hx hb dX5_pass_4 (by decide) ?_
  refine xk_pF (xr_V (As := [.int (iI (d)), .int (iI (1)), .int (iI (1000))]) (rest := [.ref (ad 5 (0))]) hx hb hml hown hts hK (c_X5_between hR hG d 1 1000 (by omega) (by omega) (by omega)) ms_X5_between kw_869 (wr_recv hK hR (md_5 hG) rfl rfl) ⟨by decide, by decide⟩ ⟨by decide, by decide⟩ rfl rfl hl.1 rfl (lv_room (Nat.le_of_ble_eq_true rfl)) dX5_pass_7) ?_
  refine xr_ifb_ne (tgt := 17) hx hb dX5_pass_10 (by decide) (fun h1 => ?_) (fun h1 => ?_)
  · skip
    refine lv_aload_n hx hb dX5_pass_17 rfl (lv_at hl 0 rfl) ?_
    refine xg_901 (v := mu 901 0) hx hb hw5 hown hK hR (md_5 hG) (hts _ kw_749) rfl dX5_pass_18 ?_
    have g2 := mr_901 hG (0)
    refine lv_iload_n hx hb dX5_pass_21 rfl (lv_at hl 1 rfl) ?_
    refine xr_iadd hx hb dX5_pass_22 ?_
    refine lv_sipush (v := iI (20000)) hx hb dX5_pass_23 (by decide) ?_
    refine xr_icmp_le (tgt := 33) hx hb dX5_pass_26 (by decide) (by omega) (by omega) (fun h3 => ?_) (fun h3 => ?_)
    · skip
      refine lv_iconst (v := iI (0)) hx hb dX5_pass_33 rfl ?_
      refine xp_900 (v := 0) hx hb hw5 hown hK hR hS (md_5 hG) (hts _ kw_748) dX5_pass_34 (fun H locs hR hS => ?_)
      refine lv_aload_n hx hb dX5_pass_37 rfl (lv_at hl 0 rfl) ?_
      refine xg_900 (v := 0) hx hb hw5 hown hK hR ((dmM_st (by decide) _ _).mpr (md_5 hG)) (hts _ kw_748) (st_s) dX5_pass_38 ?_
      refine xr_if_le (tgt := 46) hx hb dX5_pass_41 (by decide) (by decide) (fun _ => ?_) (fun h4 => absurd h4 (by decide))
      refine lv_iconst (v := iI (0)) hx hb dX5_pass_46 rfl ?_
      refine lv_istore_n (i := 2) (lv' := [(2, .int (iI (0))), (0, .ref (ad 5 (0))), (1, .int (iI (d)))]) hx hb dX5_pass_47 rfl hl (by decide) rfl (fun ls hl => ?_)
      have loop48 : ∀ (n : Nat) (i : Int), 0 ≤ i → i ≤ d → (d - i).toNat < n → ∀ (H : Heap) (locs : List Loc), RM D cy A ad (mpsN (st mu 900 0 0) i.toNat) H → va_S A s.heap H locs → ∀ ls : Array Slot, lv_has ls 4 [(0, .ref (ad 5 (0))), (1, .int (iI (d))), (2, .int (iI (i)))] → W p l e (rmF 1 23 0 0) s m args below meth c H locs 0 0 (MQ below (Qm (some (.int (iI (mR (passME mu d) (mu 901 0 + d))))) (fun H' => RM D cy A ad (mT mu (passME mu d) (mpsN (st mu 900 0 0) d.toNat)) H') A) args s 0 0 A) (F0 m 48 ls []) := by
        intro n
        induction n with
        | zero =>
          intro i hi0 hi1 hn H locs hR hS ls hl
          exact absurd hn (Nat.not_lt_zero _)
        | succ n ih =>
          intro i hi0 hi1 hn H locs hR hS ls hl
          have hGi := gm_psN hG0 i.toNat (by omega)
          have hdy := mps_day (s := st mu 900 0 0) i.toNat
          refine lv_iload_n hx hb dX5_pass_48 rfl (lv_at hl 2 rfl) ?_
          refine lv_iload_n hx hb dX5_pass_49 rfl (lv_at hl 1 rfl) ?_
          refine xr_icmp_ge (tgt := 110) hx hb dX5_pass_50 (by decide) (by omega) (by omega) (fun h5 => ?_) (fun h5 => ?_)
          · skip
            refine lv_aload_n hx hb dX5_pass_110 rfl (lv_at hl 0 rfl) ?_
            refine xg_901 (v := (mpsN (st mu 900 0 0) i.toNat) 901 0) hx hb hw5 hown hK hR (md_5 hGi) (hts _ kw_749) rfl dX5_pass_111 ?_
            have g6 := mr_901 hGi (0)
            exact xm_i hx hb hr hlk hS dX5_pass_114 (by refine Eq.trans ?_ (mR_0 (by ((try unfold mDraft at *); (try unfold mTaken at *); unfold passME; (repeat' split) <;> first | rfl | omega))).symm; omega) (by rw [mT_0 (by ((try unfold mDraft at *); (try unfold mTaken at *); unfold passME; (repeat' split) <;> first | rfl | omega))]; rw [show d = i by omega]; exact hR)
          · skip
            refine lv_iconst (v := iI (0)) hx hb dX5_pass_53 rfl ?_
            refine lv_istore_n (i := 3) (lv' := [(3, .int (iI (0))), (0, .ref (ad 5 (0))), (1, .int (iI (d))), (2, .int (iI (i)))]) hx hb dX5_pass_54 rfl hl (by decide) rfl (fun ls hl => ?_)
            refine lv_iload_n hx hb dX5_pass_55 rfl (lv_at hl 0 rfl) ?_
            refine lv_iconst (v := iI (2)) hx hb dX5_pass_56 rfl ?_
            refine xr_icmp_gt (tgt := 94) hx hb dX5_pass_57 (by decide) (by decide) (by decide) (fun h7 => absurd h7 (by decide)) (fun _ => ?_)
            refine lv_aload_n hx hb dX5_pass_60 rfl (lv_at hl 1 rfl) ?_
            refine xg_902 (v := (mpsN (st mu 900 0 0) i.toNat) 902 0) hx hb hw5 hown hK hR (md_5 hGi) (hts _ kw_750) rfl dX5_pass_61 ?_
            have q8 : (mpsN (st mu 900 0 0) i.toNat) 902 0 = 0 := mh_902 hGi
            rw [q8, rv_p (Int.le_refl 0)]
            refine lv_iconst (v := iI (3)) hx hb dX5_pass_64 rfl ?_
            refine lv_aload_n hx hb dX5_pass_65 rfl (lv_at hl 1 rfl) ?_
            refine xg_901 (v := (mpsN (st mu 900 0 0) i.toNat) 901 0) hx hb hw5 hown hK hR (md_5 hGi) (hts _ kw_749) rfl dX5_pass_66 ?_
            have g9 := mr_901 hGi (0)
            refine xr_imul hx hb dX5_pass_69 ?_
            refine lv_iconst (v := iI (3)) hx hb dX5_pass_70 rfl ?_
            refine xr_iadd hx hb dX5_pass_71 ?_
            refine lv_iload_n hx hb dX5_pass_72 rfl (lv_at hl 0 rfl) ?_
            refine xr_iadd hx hb dX5_pass_73 ?_
            refine lv_aload_n hx hb dX5_pass_74 rfl (lv_at hl 1 rfl) ?_
            refine xg_902 (v := (mpsN (st mu 900 0 0) i.toNat) 902 0) hx hb hw5 hown hK hR (md_5 hGi) (hts _ kw_750) rfl dX5_pass_75 ?_
            have q10 : (mpsN (st mu 900 0 0) i.toNat) 902 0 = 0 := mh_902 hGi
            rw [q10, rv_p (Int.le_refl 0)]
            refine lv_iconst (v := iI (3)) hx hb dX5_pass_78 rfl ?_
            refine lv_aload_n hx hb dX5_pass_79 rfl (lv_at hl 1 rfl) ?_
            refine xg_901 (v := (mpsN (st mu 900 0 0) i.toNat) 901 0) hx hb hw5 hown hK hR (md_5 hGi) (hts _ kw_749) rfl dX5_pass_80 ?_
            refine xr_imul hx hb dX5_pass_83 ?_
            refine lv_iload_n hx hb dX5_pass_84 rfl (lv_at hl 0 rfl) ?_
            refine xr_iadd hx hb dX5_pass_85 ?_
            refine xa_1002 (v := (mpsN (st mu 900 0 0) i.toNat) 1002 ((3 * ((mpsN (st mu 900 0 0) i.toNat) 901 0)) + 0)) hx hb hK hR (md_22 hGi) (by omega) rfl dX5_pass_86 ?_
            have g11 := mr_1002 hGi ((3 * ((mpsN (st mu 900 0 0) i.toNat) 901 0)) + 0)
            refine xs_1002 (v := (mpsN (st mu 900 0 0) i.toNat) 1002 ((3 * ((mpsN (st mu 900 0 0) i.toNat) 901 0)) + 0)) hx hb hK hR hS (md_22 hGi) (by omega) dX5_pass_87 (fun H locs hR hS => ?_)
            refine lv_iinc (v := iI (1)) (lv' := [(3, .int (iI (1))), (0, .ref (ad 5 (0))), (1, .int (iI (d))), (2, .int (iI (i)))]) hx hb dX5_pass_88 hl (k := 0) rfl (by decide) (by decide) rfl (fun ls hl => ?_)
            refine lv_goto (tgt := 55) hx hb dX5_pass_91 (by decide) ?_
            refine lv_iload_n hx hb dX5_pass_55 rfl (lv_at hl 0 rfl) ?_
            refine lv_iconst (v := iI (2)) hx hb dX5_pass_56 rfl ?_
            refine xr_icmp_gt (tgt := 94) hx hb dX5_pass_57 (by decide) (by decide) (by decide) (fun h12 => absurd h12 (by decide)) (fun _ => ?_)
            refine lv_aload_n hx hb dX5_pass_60 rfl (lv_at hl 1 rfl) ?_
            refine xg_902 (v := (mpsN (st mu 900 0 0) i.toNat) 902 0) hx hb hw5 hown hK hR ((dmM_st (by decide) _ _).mpr (md_5 hGi)) (hts _ kw_750) ((st_f (by decide)).trans rfl) dX5_pass_61 ?_
            have q13 : (mpsN (st mu 900 0 0) i.toNat) 902 0 = 0 := mh_902 hGi
            rw [q13, rv_p (Int.le_refl 0)]
            refine lv_iconst (v := iI (3)) hx hb dX5_pass_64 rfl ?_
            refine lv_aload_n hx hb dX5_pass_65 rfl (lv_at hl 1 rfl) ?_
            refine xg_901 (v := (mpsN (st mu 900 0 0) i.toNat) 901 0) hx hb hw5 hown hK hR ((dmM_st (by decide) _ _).mpr (md_5 hGi)) (hts _ kw_749) ((st_f (by decide)).trans rfl) dX5_pass_66 ?_
            refine xr_imul hx hb dX5_pass_69 ?_
            refine lv_iconst (v := iI (3)) hx hb dX5_pass_70 rfl ?_
            refine xr_iadd hx hb dX5_pass_71 ?_
            refine lv_iload_n hx hb dX5_pass_72 rfl (lv_at hl 0 rfl) ?_
            refine xr_iadd hx hb dX5_pass_73 ?_
            refine lv_aload_n hx hb dX5_pass_74 rfl (lv_at hl 1 rfl) ?_
            refine xg_902 (v := (mpsN (st mu 900 0 0) i.toNat) 902 0) hx hb hw5 hown hK hR ((dmM_st (by decide) _ _).mpr (md_5 hGi)) (hts _ kw_750) ((st_f (by decide)).trans rfl) dX5_pass_75 ?_
            have q14 : (mpsN (st mu 900 0 0) i.toNat) 902 0 = 0 := mh_902 hGi
            rw [q14, rv_p (Int.le_refl 0)]
            refine lv_iconst (v := iI (3)) hx hb dX5_pass_78 rfl ?_
            refine lv_aload_n hx hb dX5_pass_79 rfl (lv_at hl 1 rfl) ?_
            refine xg_901 (v := (mpsN (st mu 900 0 0) i.toNat) 901 0) hx hb hw5 hown hK hR ((dmM_st (by decide) _ _).mpr (md_5 hGi)) (hts _ kw_749) ((st_f (by decide)).trans rfl) dX5_pass_80 ?_
            refine xr_imul hx hb dX5_pass_83 ?_
            refine lv_iload_n hx hb dX5_pass_84 rfl (lv_at hl 0 rfl) ?_
            refine xr_iadd hx hb dX5_pass_85 ?_
            refine xa_1002 (v := (mpsN (st mu 900 0 0) i.toNat) 1002 ((3 * ((mpsN (st mu 900 0 0) i.toNat) 901 0)) + 1)) hx hb hK hR ((dmM_st (by decide) _ _).mpr (md_22 hGi)) (by omega) ((st_j (by omega)).trans rfl) dX5_pass_86 ?_
            have g15 := mr_1002 hGi ((3 * ((mpsN (st mu 900 0 0) i.toNat) 901 0)) + 1)
            refine xs_1002 (v := (mpsN (st mu 900 0 0) i.toNat) 1002 ((3 * ((mpsN (st mu 900 0 0) i.toNat) 901 0)) + 1)) hx hb hK hR hS ((dmM_st (by decide) _ _).mpr (md_22 hGi)) (by omega) dX5_pass_87 (fun H locs hR hS => ?_)
            refine lv_iinc (v := iI (2)) (lv' := [(3, .int (iI (2))), (0, .ref (ad 5 (0))), (1, .int (iI (d))), (2, .int (iI (i)))]) hx hb dX5_pass_88 hl (k := 0) rfl (by decide) (by decide) rfl (fun ls hl => ?_)
            refine lv_goto (tgt := 55) hx hb dX5_pass_91 (by decide) ?_
            refine lv_iload_n hx hb dX5_pass_55 rfl (lv_at hl 0 rfl) ?_
            refine lv_iconst (v := iI (2)) hx hb dX5_pass_56 rfl ?_
            refine xr_icmp_gt (tgt := 94) hx hb dX5_pass_57 (by decide) (by decide) (by decide) (fun h16 => absurd h16 (by decide)) (fun _ => ?_)
            refine lv_aload_n hx hb dX5_pass_60 rfl (lv_at hl 1 rfl) ?_
            refine xg_902 (v := (mpsN (st mu 900 0 0) i.toNat) 902 0) hx hb hw5 hown hK hR ((dmM_st (by decide) _ _).mpr ((dmM_st (by decide) _ _).mpr (md_5 hGi))) (hts _ kw_750) ((st_f (by decide)).trans ((st_f (by decide)).trans rfl)) dX5_pass_61 ?_
            have q17 : (mpsN (st mu 900 0 0) i.toNat) 902 0 = 0 := mh_902 hGi
            rw [q17, rv_p (Int.le_refl 0)]
            refine lv_iconst (v := iI (3)) hx hb dX5_pass_64 rfl ?_
            refine lv_aload_n hx hb dX5_pass_65 rfl (lv_at hl 1 rfl) ?_
            refine xg_901 (v := (mpsN (st mu 900 0 0) i.toNat) 901 0) hx hb hw5 hown hK hR ((dmM_st (by decide) _ _).mpr ((dmM_st (by decide) _ _).mpr (md_5 hGi))) (hts _ kw_749) ((st_f (by decide)).trans ((st_f (by decide)).trans rfl)) dX5_pass_66 ?_
            refine xr_imul hx hb dX5_pass_69 ?_
            refine lv_iconst (v := iI (3)) hx hb dX5_pass_70 rfl ?_
            refine xr_iadd hx hb dX5_pass_71 ?_
            refine lv_iload_n hx hb dX5_pass_72 rfl (lv_at hl 0 rfl) ?_
            refine xr_iadd hx hb dX5_pass_73 ?_
            refine lv_aload_n hx hb dX5_pass_74 rfl (lv_at hl 1 rfl) ?_
            refine xg_902 (v := (mpsN (st mu 900 0 0) i.toNat) 902 0) hx hb hw5 hown hK hR ((dmM_st (by decide) _ _).mpr ((dmM_st (by decide) _ _).mpr (md_5 hGi))) (hts _ kw_750) ((st_f (by decide)).trans ((st_f (by decide)).trans rfl)) dX5_pass_75 ?_
            have q18 : (mpsN (st mu 900 0 0) i.toNat) 902 0 = 0 := mh_902 hGi
            rw [q18, rv_p (Int.le_refl 0)]
            refine lv_iconst (v := iI (3)) hx hb dX5_pass_78 rfl ?_
            refine lv_aload_n hx hb dX5_pass_79 rfl (lv_at hl 1 rfl) ?_
            refine xg_901 (v := (mpsN (st mu 900 0 0) i.toNat) 901 0) hx hb hw5 hown hK hR ((dmM_st (by decide) _ _).mpr ((dmM_st (by decide) _ _).mpr (md_5 hGi))) (hts _ kw_749) ((st_f (by decide)).trans ((st_f (by decide)).trans rfl)) dX5_pass_80 ?_
            refine xr_imul hx hb dX5_pass_83 ?_
            refine lv_iload_n hx hb dX5_pass_84 rfl (lv_at hl 0 rfl) ?_
            refine xr_iadd hx hb dX5_pass_85 ?_
            refine xa_1002 (v := (mpsN (st mu 900 0 0) i.toNat) 1002 ((3 * ((mpsN (st mu 900 0 0) i.toNat) 901 0)) + 2)) hx hb hK hR ((dmM_st (by decide) _ _).mpr ((dmM_st (by decide) _ _).mpr (md_22 hGi))) (by omega) ((st_j (by omega)).trans ((st_j (by omega)).trans rfl)) dX5_pass_86 ?_
            have g19 := mr_1002 hGi ((3 * ((mpsN (st mu 900 0 0) i.toNat) 901 0)) + 2)
            refine xs_1002 (v := (mpsN (st mu 900 0 0) i.toNat) 1002 ((3 * ((mpsN (st mu 900 0 0) i.toNat) 901 0)) + 2)) hx hb hK hR hS ((dmM_st (by decide) _ _).mpr ((dmM_st (by decide) _ _).mpr (md_22 hGi))) (by omega) dX5_pass_87 (fun H locs hR hS => ?_)
            refine lv_iinc (v := iI (3)) (lv' := [(3, .int (iI (3))), (0, .ref (ad 5 (0))), (1, .int (iI (d))), (2, .int (iI (i)))]) hx hb dX5_pass_88 hl (k := 0) rfl (by decide) (by decide) rfl (fun ls hl => ?_)
            refine lv_goto (tgt := 55) hx hb dX5_pass_91 (by decide) ?_
            refine lv_iload_n hx hb dX5_pass_55 rfl (lv_at hl 0 rfl) ?_
            refine lv_iconst (v := iI (2)) hx hb dX5_pass_56 rfl ?_
            refine xr_icmp_gt (tgt := 94) hx hb dX5_pass_57 (by decide) (by decide) (by decide) (fun _ => ?_) (fun h20 => absurd h20 (by decide))
            refine lv_aload_n hx hb dX5_pass_94 rfl (lv_at hl 1 rfl) ?_
            refine lv_dup hx hb dX5_pass_95 rfl ?_
            refine xg_901 (v := (mpsN (st mu 900 0 0) i.toNat) 901 0) hx hb hw5 hown hK hR ((dmM_st (by decide) _ _).mpr ((dmM_st (by decide) _ _).mpr ((dmM_st (by decide) _ _).mpr (md_5 hGi)))) (hts _ kw_749) ((st_f (by decide)).trans ((st_f (by decide)).trans ((st_f (by decide)).trans rfl))) dX5_pass_96 ?_
            refine lv_iconst (v := iI (1)) hx hb dX5_pass_99 rfl ?_
            refine xr_iadd hx hb dX5_pass_100 ?_
            refine xp_901 (v := ((mpsN (st mu 900 0 0) i.toNat) 901 0) + 1) hx hb hw5 hown hK hR hS ((dmM_st (by decide) _ _).mpr ((dmM_st (by decide) _ _).mpr ((dmM_st (by decide) _ _).mpr (md_5 hGi)))) (hts _ kw_749) dX5_pass_101 (fun H locs hR hS => ?_)
            refine lv_iinc (v := iI (i + (1))) (lv' := [(2, .int (iI (i + (1)))), (3, .int (iI (3))), (0, .ref (ad 5 (0))), (1, .int (iI (d)))]) hx hb dX5_pass_104 hl (k := 3) rfl (iI_add _ _) (by decide) rfl (fun ls hl => ?_)
            refine lv_goto (tgt := 48) hx hb dX5_pass_107 (by decide) ?_
            exact ih (i + 1) (by omega) (by omega) (by omega) _ _ (by rw [mps_s hi0]; exact hR) hS ls (lv_sub hl [2, 3, 0] rfl)
      exact loop48 _ 0 (by decide) (by omega) (Nat.lt_succ_self _) _ _ hR hS ls (lv_sub hl [1, 2, 0] rfl)
    · skip
      refine lv_iconst (v := iI (2)) hx hb dX5_pass_29 rfl ?_
      refine lv_goto (tgt := 34) hx hb dX5_pass_30 (by decide) ?_
      refine xp_900 (v := 2) hx hb hw5 hown hK hR hS (md_5 hG) (hts _ kw_748) dX5_pass_34 (fun H locs hR hS => ?_)
      refine lv_aload_n hx hb dX5_pass_37 rfl (lv_at hl 0 rfl) ?_
      refine xg_900 (v := 2) hx hb hw5 hown hK hR ((dmM_st (by decide) _ _).mpr (md_5 hG)) (hts _ kw_748) (st_s) dX5_pass_38 ?_
      refine xr_if_le (tgt := 46) hx hb dX5_pass_41 (by decide) (by decide) (fun h21 => absurd h21 (by decide)) (fun _ => ?_)
      refine lv_iconst (v := iI (0)) hx hb dX5_pass_44 rfl ?_
      exact xm_i hx hb hr hlk hS dX5_pass_45 (by exact (mR_k (2) (by ((try unfold mDraft at *); (try unfold mTaken at *); unfold passME; (repeat' split) <;> first | rfl | omega)) (by decide)).symm) (by rw [mT_k (2) (by ((try unfold mDraft at *); (try unfold mTaken at *); unfold passME; (repeat' split) <;> first | rfl | omega)) (by decide)]; exact hR)
  · skip
    refine lv_iconst (v := iI (1)) hx hb dX5_pass_13 rfl ?_
    refine lv_goto (tgt := 34) hx hb dX5_pass_14 (by decide) ?_
    refine xp_900 (v := 1) hx hb hw5 hown hK hR hS (md_5 hG) (hts _ kw_748) dX5_pass_34 (fun H locs hR hS => ?_)
    refine lv_aload_n hx hb dX5_pass_37 rfl (lv_at hl 0 rfl) ?_
    refine xg_900 (v := 1) hx hb hw5 hown hK hR ((dmM_st (by decide) _ _).mpr (md_5 hG)) (hts _ kw_748) (st_s) dX5_pass_38 ?_
    refine xr_if_le (tgt := 46) hx hb dX5_pass_41 (by decide) (by decide) (fun h22 => absurd h22 (by decide)) (fun _ => ?_)
    refine lv_iconst (v := iI (0)) hx hb dX5_pass_44 rfl ?_
    exact xm_i hx hb hr hlk hS dX5_pass_45 (by exact (mR_k (1) (by ((try unfold mDraft at *); (try unfold mTaken at *); unfold passME; (repeat' split) <;> first | rfl | omega)) (by decide)).symm) (by rw [mT_k (1) (by ((try unfold mDraft at *); (try unfold mTaken at *); unfold passME; (repeat' split) <;> first | rfl | omega)) (by decide)]; exact hR)
theorem ms_X5_drop : MVi RX5 yX5_drop cX5_drop 4 (some .int) 1 := ⟨kw_981, kw_979, kw_980, kw_4, rfl, by decide, by decide, by decide +kernel⟩
set_option maxRecDepth 100000 in
set_option maxHeartbeats 4000000 in
theorem c_X5_drop {l : Launch} {D : va_G} {cy : Nat → ClassId} {A : Nat → Prop} {ad : Nat → Int → Nat} {mu : Nat → Int → Int} {H : Heap} (hR : RM D cy A ad mu H) (hG : GM mu)  (w : Int) (h_w : in32 w) : Met l yX5_drop (Cond.code yX5_drop cX5_drop 4 (some .int) :: wG) (rmF 2 44 0 0) (Pc D cy H [.ref (ad 5 (0)), .int (iI (w))]) (Qm (some (.int (iI (mR (dropME mu w) (mdrC (st (st (st mu 900 0 0) 1029 w 2) 1031 w (mu 901 0)) w 36))))) (fun H' => RM D cy A ad (mT mu (dropME mu w) (mdrN (st (st (st mu 900 0 0) 1029 w 2) 1031 w (mu 901 0)) w 36)) H') A) 0 0 A := by
  refine met_of (la := [(0, .ref (ad 5 (0))), (1, .int (iI (w)))]) (by decide) (Nat.le_of_ble_eq_true rfl) rfl ?_
  intro p e R s m args below meth c ls hRm hx hb hml hr hlk hin hown hts hsH hK hl
  subst hRm
  have hown : s.vm.findClass "TakinghallModel" = some m.cls := hown
  have hw5 : ∀ w ∈ u_ws RX5 TX5 35, w.before args s = true := fun w h => hts w (uw_X5 w h)
  have hS : va_S A s.heap H [] := by rw [hsH]; exact va_S.rf
  have g901 := mr_901 hG 0
  have g926 := mr_926 hG 0
  have hG0 : GM (st (st (st mu 900 0 0) 1029 w 2) 1031 w (mu 901 0)) := gc_1031 (gc_1029 (gc_900 hG 0 (by decide)) w (by decide)) w (by omega)
  refine lv_aload_n hx hb dX5_drop_0 rfl (lv_at hl 0 rfl) ?_
  refine lv_aload_n hx hb dX5_drop_1 rfl (lv_at hl 0 rfl) ?_
  refine lv_iload_n hx hb dX5_drop_2 rfl (lv_at hl 1 rfl) ?_
  refine xk_pF (xr_V (As := [.int (iI (w))]) (rest := [.ref (ad 5 (0))]) hx hb hml hown hts hK (c_X5_isScheme hR hG w (by omega)) ms_X5_isScheme kw_934 (wr_recv hK hR (md_5 hG) rfl rfl) ⟨by decide, by decide⟩ ⟨by decide, by decide⟩ rfl rfl hl.1 rfl (lv_room (Nat.le_of_ble_eq_true rfl)) dX5_drop_3) ?_
  refine xr_ifb_ne (tgt := 13) hx hb dX5_drop_6 (by decide) (fun h1 => ?_) (fun h1 => ?_)
  · skip
    refine lv_aload_n hx hb dX5_drop_13 rfl (lv_at hl 0 rfl) ?_
    refine xg_929 (v := mu 929 0) hx hb hw5 hown hK hR (md_5 hG) (hts _ kw_777) rfl dX5_drop_14 ?_
    have q2 : mu 929 0 = 0 := mh_929 hG
    rw [q2, rv_p (Int.le_refl 0)]
    refine lv_iload_n hx hb dX5_drop_17 rfl (lv_at hl 1 rfl) ?_
    refine xa_1029 (v := mu 1029 w) hx hb hK hR (md_49 hG) (by omega) rfl dX5_drop_18 ?_
    have g3 := mr_1029 hG (w)
    refine lv_iconst (v := iI (2)) hx hb dX5_drop_19 rfl ?_
    refine xr_icmp_ne (tgt := 27) hx hb dX5_drop_20 (by decide) (by omega) (by omega) (fun h4 => ?_) (fun h4 => ?_)
    · skip
      refine lv_iconst (v := iI (0)) hx hb dX5_drop_27 rfl ?_
      refine xp_900 (v := 0) hx hb hw5 hown hK hR hS (md_5 hG) (hts _ kw_748) dX5_drop_28 (fun H locs hR hS => ?_)
      refine lv_aload_n hx hb dX5_drop_31 rfl (lv_at hl 0 rfl) ?_
      refine xg_900 (v := 0) hx hb hw5 hown hK hR ((dmM_st (by decide) _ _).mpr (md_5 hG)) (hts _ kw_748) (st_s) dX5_drop_32 ?_
      refine xr_if_le (tgt := 40) hx hb dX5_drop_35 (by decide) (by decide) (fun _ => ?_) (fun h5 => absurd h5 (by decide))
      refine lv_aload_n hx hb dX5_drop_40 rfl (lv_at hl 0 rfl) ?_
      refine xg_929 (v := mu 929 0) hx hb hw5 hown hK hR ((dmM_st (by decide) _ _).mpr (md_5 hG)) (hts _ kw_777) ((st_f (by decide)).trans rfl) dX5_drop_41 ?_
      have q6 : mu 929 0 = 0 := mh_929 hG
      rw [q6, rv_p (Int.le_refl 0)]
      refine lv_iload_n hx hb dX5_drop_44 rfl (lv_at hl 1 rfl) ?_
      refine lv_iconst (v := iI (2)) hx hb dX5_drop_45 rfl ?_
      refine xs_1029 (v := 2) hx hb hK hR hS ((dmM_st (by decide) _ _).mpr (md_49 hG)) (by omega) dX5_drop_46 (fun H locs hR hS => ?_)
      refine lv_aload_n hx hb dX5_drop_47 rfl (lv_at hl 0 rfl) ?_
      refine xg_931 (v := mu 931 0) hx hb hw5 hown hK hR ((dmM_st (by decide) _ _).mpr ((dmM_st (by decide) _ _).mpr (md_5 hG))) (hts _ kw_779) ((st_f (by decide)).trans ((st_f (by decide)).trans rfl)) dX5_drop_48 ?_
      have q7 : mu 931 0 = 0 := mh_931 hG
      rw [q7, rv_p (Int.le_refl 0)]
      refine lv_iload_n hx hb dX5_drop_51 rfl (lv_at hl 1 rfl) ?_
      refine lv_aload_n hx hb dX5_drop_52 rfl (lv_at hl 0 rfl) ?_
      refine xg_901 (v := mu 901 0) hx hb hw5 hown hK hR ((dmM_st (by decide) _ _).mpr ((dmM_st (by decide) _ _).mpr (md_5 hG))) (hts _ kw_749) ((st_f (by decide)).trans ((st_f (by decide)).trans rfl)) dX5_drop_53 ?_
      have g8 := mr_901 hG (0)
      refine xs_1031 (v := mu 901 0) hx hb hK hR hS ((dmM_st (by decide) _ _).mpr ((dmM_st (by decide) _ _).mpr (md_51 hG))) (by omega) dX5_drop_56 (fun H locs hR hS => ?_)
      refine lv_iconst (v := iI (0)) hx hb dX5_drop_57 rfl ?_
      refine lv_istore_n (i := 2) (lv' := [(2, .int (iI (0))), (0, .ref (ad 5 (0))), (1, .int (iI (w)))]) hx hb dX5_drop_58 rfl hl (by decide) rfl (fun ls hl => ?_)
      refine lv_iconst (v := iI (0)) hx hb dX5_drop_59 rfl ?_
      refine lv_istore_n (i := 3) (lv' := [(3, .int (iI (0))), (2, .int (iI (0))), (0, .ref (ad 5 (0))), (1, .int (iI (w)))]) hx hb dX5_drop_60 rfl hl (by decide) rfl (fun ls hl => ?_)
      have loop61 : ∀ (n : Nat) (i : Int) (acc : Int), 0 ≤ i → i ≤ 36 → acc = mdrC (st (st (st mu 900 0 0) 1029 w 2) 1031 w (mu 901 0)) w i.toNat → (36 - i).toNat < n → ∀ (H : Heap) (locs : List Loc), RM D cy A ad (mdrN (st (st (st mu 900 0 0) 1029 w 2) 1031 w (mu 901 0)) w i.toNat) H → va_S A s.heap H locs → ∀ ls : Array Slot, lv_has ls 4 [(0, .ref (ad 5 (0))), (1, .int (iI (w))), (2, .int (iI (acc))), (3, .int (iI (i)))] → W p l e (rmF 2 44 0 0) s m args below meth c H locs 0 0 (MQ below (Qm (some (.int (iI (mR (dropME mu w) (mdrC (st (st (st mu 900 0 0) 1029 w 2) 1031 w (mu 901 0)) w 36))))) (fun H' => RM D cy A ad (mT mu (dropME mu w) (mdrN (st (st (st mu 900 0 0) 1029 w 2) 1031 w (mu 901 0)) w 36)) H') A) args s 0 0 A) (F0 m 61 ls []) := by
        intro n
        induction n with
        | zero =>
          intro i acc hi0 hi1 hacc hn H locs hR hS ls hl
          exact absurd hn (Nat.not_lt_zero _)
        | succ n ih =>
          intro i acc hi0 hi1 hacc hn H locs hR hS ls hl
          have hGi := gm_drN hG0 (w := w) i.toNat
          have hcr := mdrC_rng (s := (st (st (st mu 900 0 0) 1029 w 2) 1031 w (mu 901 0))) (w := w) i.toNat
          rw [← hacc] at hcr
          have gi901 := mr_901 hGi 0
          have gi1007 := mr_1007 hGi i
          refine lv_iload_n hx hb dX5_drop_61 rfl (lv_at hl 3 rfl) ?_
          refine lv_bipush (v := iI (36)) hx hb dX5_drop_62 (by decide) ?_
          refine xr_icmp_ge (tgt := 199) hx hb dX5_drop_64 (by decide) (by omega) (by omega) (fun h9 => ?_) (fun h9 => ?_)
          · skip
            refine lv_iload_n hx hb dX5_drop_199 rfl (lv_at hl 2 rfl) ?_
            exact xm_i hx hb hr hlk hS dX5_drop_200 (by refine Eq.trans ?_ (mR_0 (by ((try unfold mDraft at *); (try unfold mTaken at *); unfold dropME; (repeat' split) <;> first | rfl | omega))).symm; have ei : i = 36 := (by omega); subst ei; exact hacc) (by rw [mT_0 (by ((try unfold mDraft at *); (try unfold mTaken at *); unfold dropME; (repeat' split) <;> first | rfl | omega))]; have ei : i = 36 := (by omega); subst ei; exact hR)
          · skip
            refine lv_aload_n hx hb dX5_drop_67 rfl (lv_at hl 0 rfl) ?_
            refine xg_906 (v := (mdrN (st (st (st mu 900 0 0) 1029 w 2) 1031 w (mu 901 0)) w i.toNat) 906 0) hx hb hw5 hown hK hR (md_5 hGi) (hts _ kw_754) rfl dX5_drop_68 ?_
            have q10 : (mdrN (st (st (st mu 900 0 0) 1029 w 2) 1031 w (mu 901 0)) w i.toNat) 906 0 = 0 := mh_906 hGi
            rw [q10, rv_p (Int.le_refl 0)]
            refine lv_iload_n hx hb dX5_drop_71 rfl (lv_at hl 3 rfl) ?_
            refine xa_1006 (v := (mdrN (st (st (st mu 900 0 0) 1029 w 2) 1031 w (mu 901 0)) w i.toNat) 1006 i) hx hb hK hR (md_26 hGi) (by omega) rfl dX5_drop_72 ?_
            have g11 := mr_1006 hGi (i)
            refine lv_iload_n hx hb dX5_drop_73 rfl (lv_at hl 1 rfl) ?_
            refine xr_icmp_ne (tgt := 94) hx hb dX5_drop_74 (by decide) (by omega) (by omega) (fun h12 => ?_) (fun h12 => ?_)
            · skip
              refine lv_aload_n hx hb dX5_drop_94 rfl (lv_at hl 0 rfl) ?_
              refine xg_906 (v := (mdrN (st (st (st mu 900 0 0) 1029 w 2) 1031 w (mu 901 0)) w i.toNat) 906 0) hx hb hw5 hown hK hR (md_5 hGi) (hts _ kw_754) rfl dX5_drop_95 ?_
              have q13 : (mdrN (st (st (st mu 900 0 0) 1029 w 2) 1031 w (mu 901 0)) w i.toNat) 906 0 = 0 := mh_906 hGi
              rw [q13, rv_p (Int.le_refl 0)]
              refine lv_iload_n hx hb dX5_drop_98 rfl (lv_at hl 3 rfl) ?_
              refine xa_1006 (v := (mdrN (st (st (st mu 900 0 0) 1029 w 2) 1031 w (mu 901 0)) w i.toNat) 1006 i) hx hb hK hR (md_26 hGi) (by omega) rfl dX5_drop_99 ?_
              refine lv_iload_n hx hb dX5_drop_100 rfl (lv_at hl 1 rfl) ?_
              refine xr_icmp_ne (tgt := 193) hx hb dX5_drop_101 (by decide) (by omega) (by omega) (fun h14 => ?_) (fun h14 => ?_)
              · skip
                refine lv_iinc (v := iI (i + (1))) (lv' := [(3, .int (iI (i + (1)))), (0, .ref (ad 5 (0))), (1, .int (iI (w))), (2, .int (iI (acc)))]) hx hb dX5_drop_193 hl (k := 3) rfl (iI_add _ _) (by decide) rfl (fun ls hl => ?_)
                refine lv_goto (tgt := 61) hx hb dX5_drop_196 (by decide) ?_
                exact ih (i + 1) acc (by omega) (by omega) (by rw [mdrC_s hi0, ← hacc]; first | (exfalso; omega) | rw [if_pos (by omega)] | (rw [if_neg (by omega), if_pos (by omega)]; first | rw [if_pos (by omega)] | rw [if_neg (by omega)]) | rw [if_neg (by omega), if_neg (by omega)]) (by omega) _ _ (by first | (exfalso; omega) | rw [mdr_s hi0]; first | (rw [if_pos (by omega)]; exact hR) | (rw [if_neg (by omega), if_pos (by omega)]; exact hR) | (rw [if_neg (by omega), if_neg (by omega)]; exact hR)) hS ls (lv_sub hl [1, 2, 3, 0] rfl)
              · skip
                refine lv_aload_n hx hb dX5_drop_104 rfl (lv_at hl 0 rfl) ?_
                refine xg_906 (v := (mdrN (st (st (st mu 900 0 0) 1029 w 2) 1031 w (mu 901 0)) w i.toNat) 906 0) hx hb hw5 hown hK hR (md_5 hGi) (hts _ kw_754) rfl dX5_drop_105 ?_
                have q15 : (mdrN (st (st (st mu 900 0 0) 1029 w 2) 1031 w (mu 901 0)) w i.toNat) 906 0 = 0 := mh_906 hGi
                rw [q15, rv_p (Int.le_refl 0)]
                refine lv_iload_n hx hb dX5_drop_108 rfl (lv_at hl 3 rfl) ?_
                refine lv_iconst (v := iI (-1)) hx hb dX5_drop_109 rfl ?_
                refine xs_1006 (v := -1) hx hb hK hR hS (md_26 hGi) (by omega) dX5_drop_110 (fun H locs hR hS => ?_)
                refine lv_aload_n hx hb dX5_drop_111 rfl (lv_at hl 0 rfl) ?_
                refine xg_910 (v := (mdrN (st (st (st mu 900 0 0) 1029 w 2) 1031 w (mu 901 0)) w i.toNat) 910 0) hx hb hw5 hown hK hR ((dmM_st (by decide) _ _).mpr (md_5 hGi)) (hts _ kw_758) ((st_f (by decide)).trans rfl) dX5_drop_112 ?_
                have q16 : (mdrN (st (st (st mu 900 0 0) 1029 w 2) 1031 w (mu 901 0)) w i.toNat) 910 0 = 0 := mh_910 hGi
                rw [q16, rv_p (Int.le_refl 0)]
                refine lv_iload_n hx hb dX5_drop_115 rfl (lv_at hl 3 rfl) ?_
                refine lv_aload_n hx hb dX5_drop_116 rfl (lv_at hl 0 rfl) ?_
                refine xg_909 (v := (mdrN (st (st (st mu 900 0 0) 1029 w 2) 1031 w (mu 901 0)) w i.toNat) 909 0) hx hb hw5 hown hK hR ((dmM_st (by decide) _ _).mpr (md_5 hGi)) (hts _ kw_757) ((st_f (by decide)).trans rfl) dX5_drop_117 ?_
                have q17 : (mdrN (st (st (st mu 900 0 0) 1029 w 2) 1031 w (mu 901 0)) w i.toNat) 909 0 = 0 := mh_909 hGi
                rw [q17, rv_p (Int.le_refl 0)]
                refine lv_iload_n hx hb dX5_drop_120 rfl (lv_at hl 3 rfl) ?_
                refine xa_1009 (v := (mdrN (st (st (st mu 900 0 0) 1029 w 2) 1031 w (mu 901 0)) w i.toNat) 1009 i) hx hb hK hR ((dmM_st (by decide) _ _).mpr (md_29 hGi)) (by omega) ((st_f (by decide)).trans rfl) dX5_drop_121 ?_
                have g18 := mr_1009 hGi (i)
                refine xr_if_eq (tgt := 129) hx hb dX5_drop_122 (by decide) (by omega) (fun h19 => ?_) (fun h19 => ?_)
                · skip
                  refine lv_aload_n hx hb dX5_drop_129 rfl (lv_at hl 0 rfl) ?_
                  refine lv_iload_n hx hb dX5_drop_130 rfl (lv_at hl 3 rfl) ?_
                  refine lv_iconst (v := iI (-1)) hx hb dX5_drop_131 rfl ?_
                  refine xk_pF (xr_V (As := [.int (iI (i)), .int (iI (-1))]) (rest := [.int (iI (i)), .ref (ad 30 (0))]) hx hb hml hown hts hK (c_X5_ownerBehind hR (gc_1006 hGi (i) (v := -1) (by omega)) i (-1) (by omega) (by omega)) ms_X5_ownerBehind kw_982 (wr_recv hK hR ((dmM_st (by decide) _ _).mpr (md_5 hGi)) rfl rfl) ⟨by decide, by decide⟩ ⟨by decide, by decide⟩ rfl rfl hl.1 rfl (lv_room (Nat.le_of_ble_eq_true rfl)) dX5_drop_132) ?_
                  have g20 := mOwnB_rng (gc_1006 hGi (i) (v := -1) (by omega)) (i) ((-1))
                  refine xs_1010 (v := mOwnB (st (mdrN (st (st (st mu 900 0 0) 1029 w 2) 1031 w (mu 901 0)) w i.toNat) 1006 (i) (-1)) i (-1)) hx hb hK hR hS ((dmM_st (by decide) _ _).mpr (md_30 hGi)) (by omega) dX5_drop_135 (fun H locs hR hS => ?_)
                  have hO : mOwnB (st (mdrN (st (st (st mu 900 0 0) 1029 w 2) 1031 w (mu 901 0)) w i.toNat) 1006 (i) (-1)) i (-1) = mdrO (mdrN (st (st (st mu 900 0 0) 1029 w 2) 1031 w (mu 901 0)) w i.toNat) i := by unfold mdrO mdr1; first | (exfalso; omega) | rw [if_pos (by omega)] | rw [if_neg (by omega)]
                  have hR : RM D cy A ad (mdr2 (mdrN (st (st (st mu 900 0 0) 1029 w 2) 1031 w (mu 901 0)) w i.toNat) i) H := by show RM D cy A ad (st (st (mdrN (st (st (st mu 900 0 0) 1029 w 2) 1031 w (mu 901 0)) w i.toNat) 1006 i (-1)) 1010 i (mdrO (mdrN (st (st (st mu 900 0 0) 1029 w 2) 1031 w (mu 901 0)) w i.toNat) i)) H; rw [← hO]; exact hR
                  have hor := mdrO_rng hGi i
                  refine lv_aload_n hx hb dX5_drop_136 rfl (lv_at hl 0 rfl) ?_
                  refine xg_911 (v := (mdr2 (mdrN (st (st (st mu 900 0 0) 1029 w 2) 1031 w (mu 901 0)) w i.toNat) i) 911 0) hx hb hw5 hown hK hR (md_5 (gm_dr2 hGi i)) (hts _ kw_759) rfl dX5_drop_137 ?_
                  have q21 : (mdr2 (mdrN (st (st (st mu 900 0 0) 1029 w 2) 1031 w (mu 901 0)) w i.toNat) i) 911 0 = 0 := mh_911 (gm_dr2 hGi i)
                  rw [q21, rv_p (Int.le_refl 0)]
                  refine lv_iload_n hx hb dX5_drop_140 rfl (lv_at hl 3 rfl) ?_
                  refine lv_aload_n hx hb dX5_drop_141 rfl (lv_at hl 0 rfl) ?_
                  refine xg_910 (v := (mdr2 (mdrN (st (st (st mu 900 0 0) 1029 w 2) 1031 w (mu 901 0)) w i.toNat) i) 910 0) hx hb hw5 hown hK hR (md_5 (gm_dr2 hGi i)) (hts _ kw_758) rfl dX5_drop_142 ?_
                  have q22 : (mdr2 (mdrN (st (st (st mu 900 0 0) 1029 w 2) 1031 w (mu 901 0)) w i.toNat) i) 910 0 = 0 := mh_910 (gm_dr2 hGi i)
                  rw [q22, rv_p (Int.le_refl 0)]
                  refine lv_iload_n hx hb dX5_drop_145 rfl (lv_at hl 3 rfl) ?_
                  refine xa_1010 (v := mdrO (mdrN (st (st (st mu 900 0 0) 1029 w 2) 1031 w (mu 901 0)) w i.toNat) i) hx hb hK hR (md_30 (gm_dr2 hGi i)) (by omega) (mdr2_o) dX5_drop_146 ?_
                  refine lv_iconst (v := iI (-1)) hx hb dX5_drop_147 rfl ?_
                  refine xr_icmp_ne (tgt := 155) hx hb dX5_drop_148 (by decide) (by omega) (by omega) (fun h23 => ?_) (fun h23 => ?_)
                  · skip
                    refine lv_aload_n hx hb dX5_drop_155 rfl (lv_at hl 0 rfl) ?_
                    refine xg_907 (v := (mdr2 (mdrN (st (st (st mu 900 0 0) 1029 w 2) 1031 w (mu 901 0)) w i.toNat) i) 907 0) hx hb hw5 hown hK hR (md_5 (gm_dr2 hGi i)) (hts _ kw_755) rfl dX5_drop_156 ?_
                    have q24 : (mdr2 (mdrN (st (st (st mu 900 0 0) 1029 w 2) 1031 w (mu 901 0)) w i.toNat) i) 907 0 = 0 := mh_907 (gm_dr2 hGi i)
                    rw [q24, rv_p (Int.le_refl 0)]
                    refine lv_iload_n hx hb dX5_drop_159 rfl (lv_at hl 3 rfl) ?_
                    refine xa_1007 (v := (mdrN (st (st (st mu 900 0 0) 1029 w 2) 1031 w (mu 901 0)) w i.toNat) 1007 i) hx hb hK hR (md_27 (gm_dr2 hGi i)) (by omega) rfl dX5_drop_160 ?_
                    refine lv_aload_n hx hb dX5_drop_161 rfl (lv_at hl 0 rfl) ?_
                    refine lv_iload_n hx hb dX5_drop_162 rfl (lv_at hl 3 rfl) ?_
                    refine lv_aload_n hx hb dX5_drop_163 rfl (lv_at hl 0 rfl) ?_
                    refine xg_901 (v := (mdrN (st (st (st mu 900 0 0) 1029 w 2) 1031 w (mu 901 0)) w i.toNat) 901 0) hx hb hw5 hown hK hR (md_5 (gm_dr2 hGi i)) (hts _ kw_749) rfl dX5_drop_164 ?_
                    refine xk_pF (xr_V (As := [.int (iI (i)), .int (iI ((mdrN (st (st (st mu 900 0 0) 1029 w 2) 1031 w (mu 901 0)) w i.toNat) 901 0))]) (rest := [.int (iI ((mdrN (st (st (st mu 900 0 0) 1029 w 2) 1031 w (mu 901 0)) w i.toNat) 1007 i)), .int (iI (i)), .ref (ad 31 (0))]) hx hb hml hown hts hK (c_X5_worthOn hR (gm_dr2 hGi i) i ((mdrN (st (st (st mu 900 0 0) 1029 w 2) 1031 w (mu 901 0)) w i.toNat) 901 0) (by omega) (by omega)) ms_X5_worthOn kw_885 (wr_recv hK hR (md_5 (gm_dr2 hGi i)) rfl rfl) ⟨by decide, by decide⟩ ⟨by decide, by decide⟩ rfl rfl hl.1 rfl (lv_room (Nat.le_of_ble_eq_true rfl)) dX5_drop_167) ?_
                    have g25 := mWorth_rng (gm_dr2 hGi i) (i) (((mdrN (st (st (st mu 900 0 0) 1029 w 2) 1031 w (mu 901 0)) w i.toNat) 901 0))
                    have m1 := mul_rng (a := (mdrN (st (st (st mu 900 0 0) 1029 w 2) 1031 w (mu 901 0)) w i.toNat) 1007 i) (m := 100) (b := mWorth (mdr2 (mdrN (st (st (st mu 900 0 0) 1029 w 2) 1031 w (mu 901 0)) w i.toNat) i) i ((mdrN (st (st (st mu 900 0 0) 1029 w 2) 1031 w (mu 901 0)) w i.toNat) 901 0)) (n := 100000) (by omega) (by omega)
                    refine xr_imul hx hb dX5_drop_170 ?_
                    refine lv_bipush (v := iI (100)) hx hb dX5_drop_171 (by decide) ?_
                    refine xr_idiv hx hb dX5_drop_173 (by omega) (by omega) ?_
                    refine xs_1011 (v := (((mdrN (st (st (st mu 900 0 0) 1029 w 2) 1031 w (mu 901 0)) w i.toNat) 1007 i) * (mWorth (mdr2 (mdrN (st (st (st mu 900 0 0) 1029 w 2) 1031 w (mu 901 0)) w i.toNat) i) i ((mdrN (st (st (st mu 900 0 0) 1029 w 2) 1031 w (mu 901 0)) w i.toNat) 901 0))) / 100) hx hb hK hR hS (md_31 (gm_dr2 hGi i)) (by omega) dX5_drop_174 (fun H locs hR hS => ?_)
                    have hP : (((mdrN (st (st (st mu 900 0 0) 1029 w 2) 1031 w (mu 901 0)) w i.toNat) 1007 i) * (mWorth (mdr2 (mdrN (st (st (st mu 900 0 0) 1029 w 2) 1031 w (mu 901 0)) w i.toNat) i) i ((mdrN (st (st (st mu 900 0 0) 1029 w 2) 1031 w (mu 901 0)) w i.toNat) 901 0))) / 100 = mdrP (mdrN (st (st (st mu 900 0 0) 1029 w 2) 1031 w (mu 901 0)) w i.toNat) i := by unfold mdrP; first | (exfalso; omega) | rw [if_pos (by omega)] | rw [if_neg (by omega)]
                    have hR : RM D cy A ad (mdr3 (mdrN (st (st (st mu 900 0 0) 1029 w 2) 1031 w (mu 901 0)) w i.toNat) i) H := by unfold mdr3; rw [← hP]; exact hR
                    refine lv_iload_n hx hb dX5_drop_175 rfl (lv_at hl 2 rfl) ?_
                    refine lv_aload_n hx hb dX5_drop_176 rfl (lv_at hl 0 rfl) ?_
                    refine xg_910 (v := (mdr3 (mdrN (st (st (st mu 900 0 0) 1029 w 2) 1031 w (mu 901 0)) w i.toNat) i) 910 0) hx hb hw5 hown hK hR (md_5 (gm_dr3 hGi i)) (hts _ kw_758) rfl dX5_drop_177 ?_
                    have q26 : (mdr3 (mdrN (st (st (st mu 900 0 0) 1029 w 2) 1031 w (mu 901 0)) w i.toNat) i) 910 0 = 0 := mh_910 (gm_dr3 hGi i)
                    rw [q26, rv_p (Int.le_refl 0)]
                    refine lv_iload_n hx hb dX5_drop_180 rfl (lv_at hl 3 rfl) ?_
                    refine xa_1010 (v := mdrO (mdrN (st (st (st mu 900 0 0) 1029 w 2) 1031 w (mu 901 0)) w i.toNat) i) hx hb hK hR (md_30 (gm_dr3 hGi i)) (by omega) (mdr3_o) dX5_drop_181 ?_
                    refine lv_iconst (v := iI (-1)) hx hb dX5_drop_182 rfl ?_
                    refine xr_icmp_ne (tgt := 190) hx hb dX5_drop_183 (by decide) (by omega) (by omega) (fun h27 => ?_) (fun h27 => ?_)
                    · skip
                      refine lv_iconst (v := iI (1)) hx hb dX5_drop_190 rfl ?_
                      refine xr_iadd hx hb dX5_drop_191 ?_
                      refine lv_istore_n (i := 2) (lv' := [(2, .int (iI (acc + 1))), (0, .ref (ad 5 (0))), (1, .int (iI (w))), (3, .int (iI (i)))]) hx hb dX5_drop_192 rfl hl (by decide) rfl (fun ls hl => ?_)
                      refine lv_iinc (v := iI (i + (1))) (lv' := [(3, .int (iI (i + (1)))), (2, .int (iI (acc + 1))), (0, .ref (ad 5 (0))), (1, .int (iI (w)))]) hx hb dX5_drop_193 hl (k := 3) rfl (iI_add _ _) (by decide) rfl (fun ls hl => ?_)
                      refine lv_goto (tgt := 61) hx hb dX5_drop_196 (by decide) ?_
                      exact ih (i + 1) (acc + 1) (by omega) (by omega) (by rw [mdrC_s hi0, ← hacc]; first | (exfalso; omega) | rw [if_pos (by omega)] | (rw [if_neg (by omega), if_pos (by omega)]; first | rw [if_pos (by omega)] | rw [if_neg (by omega)]) | rw [if_neg (by omega), if_neg (by omega)]) (by omega) _ _ (by first | (exfalso; omega) | rw [mdr_s hi0]; first | (rw [if_pos (by omega)]; exact hR) | (rw [if_neg (by omega), if_pos (by omega)]; exact hR) | (rw [if_neg (by omega), if_neg (by omega)]; exact hR)) hS ls (lv_sub hl [2, 3, 1, 0] rfl)
                    · skip
                      refine lv_iconst (v := iI (0)) hx hb dX5_drop_186 rfl ?_
                      refine lv_goto (tgt := 191) hx hb dX5_drop_187 (by decide) ?_
                      refine xr_iadd hx hb dX5_drop_191 ?_
                      refine lv_istore_n (i := 2) (lv' := [(2, .int (iI (acc + 0))), (0, .ref (ad 5 (0))), (1, .int (iI (w))), (3, .int (iI (i)))]) hx hb dX5_drop_192 rfl hl (by decide) rfl (fun ls hl => ?_)
                      refine lv_iinc (v := iI (i + (1))) (lv' := [(3, .int (iI (i + (1)))), (2, .int (iI (acc + 0))), (0, .ref (ad 5 (0))), (1, .int (iI (w)))]) hx hb dX5_drop_193 hl (k := 3) rfl (iI_add _ _) (by decide) rfl (fun ls hl => ?_)
                      refine lv_goto (tgt := 61) hx hb dX5_drop_196 (by decide) ?_
                      exact ih (i + 1) (acc + 0) (by omega) (by omega) (by rw [mdrC_s hi0, ← hacc]; first | (exfalso; omega) | rw [if_pos (by omega)] | (rw [if_neg (by omega), if_pos (by omega)]; first | rw [if_pos (by omega)] | rw [if_neg (by omega)]) | rw [if_neg (by omega), if_neg (by omega)]) (by omega) _ _ (by first | (exfalso; omega) | rw [mdr_s hi0]; first | (rw [if_pos (by omega)]; exact hR) | (rw [if_neg (by omega), if_pos (by omega)]; exact hR) | (rw [if_neg (by omega), if_neg (by omega)]; exact hR)) hS ls (lv_sub hl [2, 3, 1, 0] rfl)
                  · skip
                    refine lv_iconst (v := iI (0)) hx hb dX5_drop_151 rfl ?_
                    refine lv_goto (tgt := 174) hx hb dX5_drop_152 (by decide) ?_
                    refine xs_1011 (v := 0) hx hb hK hR hS (md_31 (gm_dr2 hGi i)) (by omega) dX5_drop_174 (fun H locs hR hS => ?_)
                    have hP : 0 = mdrP (mdrN (st (st (st mu 900 0 0) 1029 w 2) 1031 w (mu 901 0)) w i.toNat) i := by unfold mdrP; first | (exfalso; omega) | rw [if_pos (by omega)] | rw [if_neg (by omega)]
                    have hR : RM D cy A ad (mdr3 (mdrN (st (st (st mu 900 0 0) 1029 w 2) 1031 w (mu 901 0)) w i.toNat) i) H := by unfold mdr3; rw [← hP]; exact hR
                    refine lv_iload_n hx hb dX5_drop_175 rfl (lv_at hl 2 rfl) ?_
                    refine lv_aload_n hx hb dX5_drop_176 rfl (lv_at hl 0 rfl) ?_
                    refine xg_910 (v := (mdr3 (mdrN (st (st (st mu 900 0 0) 1029 w 2) 1031 w (mu 901 0)) w i.toNat) i) 910 0) hx hb hw5 hown hK hR (md_5 (gm_dr3 hGi i)) (hts _ kw_758) rfl dX5_drop_177 ?_
                    have q28 : (mdr3 (mdrN (st (st (st mu 900 0 0) 1029 w 2) 1031 w (mu 901 0)) w i.toNat) i) 910 0 = 0 := mh_910 (gm_dr3 hGi i)
                    rw [q28, rv_p (Int.le_refl 0)]
                    refine lv_iload_n hx hb dX5_drop_180 rfl (lv_at hl 3 rfl) ?_
                    refine xa_1010 (v := mdrO (mdrN (st (st (st mu 900 0 0) 1029 w 2) 1031 w (mu 901 0)) w i.toNat) i) hx hb hK hR (md_30 (gm_dr3 hGi i)) (by omega) (mdr3_o) dX5_drop_181 ?_
                    refine lv_iconst (v := iI (-1)) hx hb dX5_drop_182 rfl ?_
                    refine xr_icmp_ne (tgt := 190) hx hb dX5_drop_183 (by decide) (by omega) (by omega) (fun h29 => ?_) (fun h29 => ?_)
                    · skip
                      refine lv_iconst (v := iI (1)) hx hb dX5_drop_190 rfl ?_
                      refine xr_iadd hx hb dX5_drop_191 ?_
                      refine lv_istore_n (i := 2) (lv' := [(2, .int (iI (acc + 1))), (0, .ref (ad 5 (0))), (1, .int (iI (w))), (3, .int (iI (i)))]) hx hb dX5_drop_192 rfl hl (by decide) rfl (fun ls hl => ?_)
                      refine lv_iinc (v := iI (i + (1))) (lv' := [(3, .int (iI (i + (1)))), (2, .int (iI (acc + 1))), (0, .ref (ad 5 (0))), (1, .int (iI (w)))]) hx hb dX5_drop_193 hl (k := 3) rfl (iI_add _ _) (by decide) rfl (fun ls hl => ?_)
                      refine lv_goto (tgt := 61) hx hb dX5_drop_196 (by decide) ?_
                      exact ih (i + 1) (acc + 1) (by omega) (by omega) (by rw [mdrC_s hi0, ← hacc]; first | (exfalso; omega) | rw [if_pos (by omega)] | (rw [if_neg (by omega), if_pos (by omega)]; first | rw [if_pos (by omega)] | rw [if_neg (by omega)]) | rw [if_neg (by omega), if_neg (by omega)]) (by omega) _ _ (by first | (exfalso; omega) | rw [mdr_s hi0]; first | (rw [if_pos (by omega)]; exact hR) | (rw [if_neg (by omega), if_pos (by omega)]; exact hR) | (rw [if_neg (by omega), if_neg (by omega)]; exact hR)) hS ls (lv_sub hl [2, 3, 1, 0] rfl)
                    · skip
                      refine lv_iconst (v := iI (0)) hx hb dX5_drop_186 rfl ?_
                      refine lv_goto (tgt := 191) hx hb dX5_drop_187 (by decide) ?_
                      refine xr_iadd hx hb dX5_drop_191 ?_
                      refine lv_istore_n (i := 2) (lv' := [(2, .int (iI (acc + 0))), (0, .ref (ad 5 (0))), (1, .int (iI (w))), (3, .int (iI (i)))]) hx hb dX5_drop_192 rfl hl (by decide) rfl (fun ls hl => ?_)
                      refine lv_iinc (v := iI (i + (1))) (lv' := [(3, .int (iI (i + (1)))), (2, .int (iI (acc + 0))), (0, .ref (ad 5 (0))), (1, .int (iI (w)))]) hx hb dX5_drop_193 hl (k := 3) rfl (iI_add _ _) (by decide) rfl (fun ls hl => ?_)
                      refine lv_goto (tgt := 61) hx hb dX5_drop_196 (by decide) ?_
                      exact ih (i + 1) (acc + 0) (by omega) (by omega) (by rw [mdrC_s hi0, ← hacc]; first | (exfalso; omega) | rw [if_pos (by omega)] | (rw [if_neg (by omega), if_pos (by omega)]; first | rw [if_pos (by omega)] | rw [if_neg (by omega)]) | rw [if_neg (by omega), if_neg (by omega)]) (by omega) _ _ (by first | (exfalso; omega) | rw [mdr_s hi0]; first | (rw [if_pos (by omega)]; exact hR) | (rw [if_neg (by omega), if_pos (by omega)]; exact hR) | (rw [if_neg (by omega), if_neg (by omega)]; exact hR)) hS ls (lv_sub hl [2, 3, 1, 0] rfl)
                · skip
                  refine lv_iconst (v := iI (-1)) hx hb dX5_drop_125 rfl ?_
                  refine lv_goto (tgt := 135) hx hb dX5_drop_126 (by decide) ?_
                  refine xs_1010 (v := -1) hx hb hK hR hS ((dmM_st (by decide) _ _).mpr (md_30 hGi)) (by omega) dX5_drop_135 (fun H locs hR hS => ?_)
                  have hO : -1 = mdrO (mdrN (st (st (st mu 900 0 0) 1029 w 2) 1031 w (mu 901 0)) w i.toNat) i := by unfold mdrO mdr1; first | (exfalso; omega) | rw [if_pos (by omega)] | rw [if_neg (by omega)]
                  have hR : RM D cy A ad (mdr2 (mdrN (st (st (st mu 900 0 0) 1029 w 2) 1031 w (mu 901 0)) w i.toNat) i) H := by show RM D cy A ad (st (st (mdrN (st (st (st mu 900 0 0) 1029 w 2) 1031 w (mu 901 0)) w i.toNat) 1006 i (-1)) 1010 i (mdrO (mdrN (st (st (st mu 900 0 0) 1029 w 2) 1031 w (mu 901 0)) w i.toNat) i)) H; rw [← hO]; exact hR
                  have hor := mdrO_rng hGi i
                  refine lv_aload_n hx hb dX5_drop_136 rfl (lv_at hl 0 rfl) ?_
                  refine xg_911 (v := (mdr2 (mdrN (st (st (st mu 900 0 0) 1029 w 2) 1031 w (mu 901 0)) w i.toNat) i) 911 0) hx hb hw5 hown hK hR (md_5 (gm_dr2 hGi i)) (hts _ kw_759) rfl dX5_drop_137 ?_
                  have q30 : (mdr2 (mdrN (st (st (st mu 900 0 0) 1029 w 2) 1031 w (mu 901 0)) w i.toNat) i) 911 0 = 0 := mh_911 (gm_dr2 hGi i)
                  rw [q30, rv_p (Int.le_refl 0)]
                  refine lv_iload_n hx hb dX5_drop_140 rfl (lv_at hl 3 rfl) ?_
                  refine lv_aload_n hx hb dX5_drop_141 rfl (lv_at hl 0 rfl) ?_
                  refine xg_910 (v := (mdr2 (mdrN (st (st (st mu 900 0 0) 1029 w 2) 1031 w (mu 901 0)) w i.toNat) i) 910 0) hx hb hw5 hown hK hR (md_5 (gm_dr2 hGi i)) (hts _ kw_758) rfl dX5_drop_142 ?_
                  have q31 : (mdr2 (mdrN (st (st (st mu 900 0 0) 1029 w 2) 1031 w (mu 901 0)) w i.toNat) i) 910 0 = 0 := mh_910 (gm_dr2 hGi i)
                  rw [q31, rv_p (Int.le_refl 0)]
                  refine lv_iload_n hx hb dX5_drop_145 rfl (lv_at hl 3 rfl) ?_
                  refine xa_1010 (v := mdrO (mdrN (st (st (st mu 900 0 0) 1029 w 2) 1031 w (mu 901 0)) w i.toNat) i) hx hb hK hR (md_30 (gm_dr2 hGi i)) (by omega) (mdr2_o) dX5_drop_146 ?_
                  refine lv_iconst (v := iI (-1)) hx hb dX5_drop_147 rfl ?_
                  refine xr_icmp_ne (tgt := 155) hx hb dX5_drop_148 (by decide) (by omega) (by omega) (fun h32 => ?_) (fun h32 => ?_)
                  · skip
                    refine lv_aload_n hx hb dX5_drop_155 rfl (lv_at hl 0 rfl) ?_
                    refine xg_907 (v := (mdr2 (mdrN (st (st (st mu 900 0 0) 1029 w 2) 1031 w (mu 901 0)) w i.toNat) i) 907 0) hx hb hw5 hown hK hR (md_5 (gm_dr2 hGi i)) (hts _ kw_755) rfl dX5_drop_156 ?_
                    have q33 : (mdr2 (mdrN (st (st (st mu 900 0 0) 1029 w 2) 1031 w (mu 901 0)) w i.toNat) i) 907 0 = 0 := mh_907 (gm_dr2 hGi i)
                    rw [q33, rv_p (Int.le_refl 0)]
                    refine lv_iload_n hx hb dX5_drop_159 rfl (lv_at hl 3 rfl) ?_
                    refine xa_1007 (v := (mdrN (st (st (st mu 900 0 0) 1029 w 2) 1031 w (mu 901 0)) w i.toNat) 1007 i) hx hb hK hR (md_27 (gm_dr2 hGi i)) (by omega) rfl dX5_drop_160 ?_
                    refine lv_aload_n hx hb dX5_drop_161 rfl (lv_at hl 0 rfl) ?_
                    refine lv_iload_n hx hb dX5_drop_162 rfl (lv_at hl 3 rfl) ?_
                    refine lv_aload_n hx hb dX5_drop_163 rfl (lv_at hl 0 rfl) ?_
                    refine xg_901 (v := (mdrN (st (st (st mu 900 0 0) 1029 w 2) 1031 w (mu 901 0)) w i.toNat) 901 0) hx hb hw5 hown hK hR (md_5 (gm_dr2 hGi i)) (hts _ kw_749) rfl dX5_drop_164 ?_
                    refine xk_pF (xr_V (As := [.int (iI (i)), .int (iI ((mdrN (st (st (st mu 900 0 0) 1029 w 2) 1031 w (mu 901 0)) w i.toNat) 901 0))]) (rest := [.int (iI ((mdrN (st (st (st mu 900 0 0) 1029 w 2) 1031 w (mu 901 0)) w i.toNat) 1007 i)), .int (iI (i)), .ref (ad 31 (0))]) hx hb hml hown hts hK (c_X5_worthOn hR (gm_dr2 hGi i) i ((mdrN (st (st (st mu 900 0 0) 1029 w 2) 1031 w (mu 901 0)) w i.toNat) 901 0) (by omega) (by omega)) ms_X5_worthOn kw_885 (wr_recv hK hR (md_5 (gm_dr2 hGi i)) rfl rfl) ⟨by decide, by decide⟩ ⟨by decide, by decide⟩ rfl rfl hl.1 rfl (lv_room (Nat.le_of_ble_eq_true rfl)) dX5_drop_167) ?_
                    have g34 := mWorth_rng (gm_dr2 hGi i) (i) (((mdrN (st (st (st mu 900 0 0) 1029 w 2) 1031 w (mu 901 0)) w i.toNat) 901 0))
                    have m1 := mul_rng (a := (mdrN (st (st (st mu 900 0 0) 1029 w 2) 1031 w (mu 901 0)) w i.toNat) 1007 i) (m := 100) (b := mWorth (mdr2 (mdrN (st (st (st mu 900 0 0) 1029 w 2) 1031 w (mu 901 0)) w i.toNat) i) i ((mdrN (st (st (st mu 900 0 0) 1029 w 2) 1031 w (mu 901 0)) w i.toNat) 901 0)) (n := 100000) (by omega) (by omega)
                    refine xr_imul hx hb dX5_drop_170 ?_
                    refine lv_bipush (v := iI (100)) hx hb dX5_drop_171 (by decide) ?_
                    refine xr_idiv hx hb dX5_drop_173 (by omega) (by omega) ?_
                    refine xs_1011 (v := (((mdrN (st (st (st mu 900 0 0) 1029 w 2) 1031 w (mu 901 0)) w i.toNat) 1007 i) * (mWorth (mdr2 (mdrN (st (st (st mu 900 0 0) 1029 w 2) 1031 w (mu 901 0)) w i.toNat) i) i ((mdrN (st (st (st mu 900 0 0) 1029 w 2) 1031 w (mu 901 0)) w i.toNat) 901 0))) / 100) hx hb hK hR hS (md_31 (gm_dr2 hGi i)) (by omega) dX5_drop_174 (fun H locs hR hS => ?_)
                    have hP : (((mdrN (st (st (st mu 900 0 0) 1029 w 2) 1031 w (mu 901 0)) w i.toNat) 1007 i) * (mWorth (mdr2 (mdrN (st (st (st mu 900 0 0) 1029 w 2) 1031 w (mu 901 0)) w i.toNat) i) i ((mdrN (st (st (st mu 900 0 0) 1029 w 2) 1031 w (mu 901 0)) w i.toNat) 901 0))) / 100 = mdrP (mdrN (st (st (st mu 900 0 0) 1029 w 2) 1031 w (mu 901 0)) w i.toNat) i := by unfold mdrP; first | (exfalso; omega) | rw [if_pos (by omega)] | rw [if_neg (by omega)]
                    have hR : RM D cy A ad (mdr3 (mdrN (st (st (st mu 900 0 0) 1029 w 2) 1031 w (mu 901 0)) w i.toNat) i) H := by unfold mdr3; rw [← hP]; exact hR
                    refine lv_iload_n hx hb dX5_drop_175 rfl (lv_at hl 2 rfl) ?_
                    refine lv_aload_n hx hb dX5_drop_176 rfl (lv_at hl 0 rfl) ?_
                    refine xg_910 (v := (mdr3 (mdrN (st (st (st mu 900 0 0) 1029 w 2) 1031 w (mu 901 0)) w i.toNat) i) 910 0) hx hb hw5 hown hK hR (md_5 (gm_dr3 hGi i)) (hts _ kw_758) rfl dX5_drop_177 ?_
                    have q35 : (mdr3 (mdrN (st (st (st mu 900 0 0) 1029 w 2) 1031 w (mu 901 0)) w i.toNat) i) 910 0 = 0 := mh_910 (gm_dr3 hGi i)
                    rw [q35, rv_p (Int.le_refl 0)]
                    refine lv_iload_n hx hb dX5_drop_180 rfl (lv_at hl 3 rfl) ?_
                    refine xa_1010 (v := mdrO (mdrN (st (st (st mu 900 0 0) 1029 w 2) 1031 w (mu 901 0)) w i.toNat) i) hx hb hK hR (md_30 (gm_dr3 hGi i)) (by omega) (mdr3_o) dX5_drop_181 ?_
                    refine lv_iconst (v := iI (-1)) hx hb dX5_drop_182 rfl ?_
                    refine xr_icmp_ne (tgt := 190) hx hb dX5_drop_183 (by decide) (by omega) (by omega) (fun h36 => ?_) (fun h36 => ?_)
                    · skip
                      refine lv_iconst (v := iI (1)) hx hb dX5_drop_190 rfl ?_
                      refine xr_iadd hx hb dX5_drop_191 ?_
                      refine lv_istore_n (i := 2) (lv' := [(2, .int (iI (acc + 1))), (0, .ref (ad 5 (0))), (1, .int (iI (w))), (3, .int (iI (i)))]) hx hb dX5_drop_192 rfl hl (by decide) rfl (fun ls hl => ?_)
                      refine lv_iinc (v := iI (i + (1))) (lv' := [(3, .int (iI (i + (1)))), (2, .int (iI (acc + 1))), (0, .ref (ad 5 (0))), (1, .int (iI (w)))]) hx hb dX5_drop_193 hl (k := 3) rfl (iI_add _ _) (by decide) rfl (fun ls hl => ?_)
                      refine lv_goto (tgt := 61) hx hb dX5_drop_196 (by decide) ?_
                      exact ih (i + 1) (acc + 1) (by omega) (by omega) (by rw [mdrC_s hi0, ← hacc]; first | (exfalso; omega) | rw [if_pos (by omega)] | (rw [if_neg (by omega), if_pos (by omega)]; first | rw [if_pos (by omega)] | rw [if_neg (by omega)]) | rw [if_neg (by omega), if_neg (by omega)]) (by omega) _ _ (by first | (exfalso; omega) | rw [mdr_s hi0]; first | (rw [if_pos (by omega)]; exact hR) | (rw [if_neg (by omega), if_pos (by omega)]; exact hR) | (rw [if_neg (by omega), if_neg (by omega)]; exact hR)) hS ls (lv_sub hl [2, 3, 1, 0] rfl)
                    · skip
                      refine lv_iconst (v := iI (0)) hx hb dX5_drop_186 rfl ?_
                      refine lv_goto (tgt := 191) hx hb dX5_drop_187 (by decide) ?_
                      refine xr_iadd hx hb dX5_drop_191 ?_
                      refine lv_istore_n (i := 2) (lv' := [(2, .int (iI (acc + 0))), (0, .ref (ad 5 (0))), (1, .int (iI (w))), (3, .int (iI (i)))]) hx hb dX5_drop_192 rfl hl (by decide) rfl (fun ls hl => ?_)
                      refine lv_iinc (v := iI (i + (1))) (lv' := [(3, .int (iI (i + (1)))), (2, .int (iI (acc + 0))), (0, .ref (ad 5 (0))), (1, .int (iI (w)))]) hx hb dX5_drop_193 hl (k := 3) rfl (iI_add _ _) (by decide) rfl (fun ls hl => ?_)
                      refine lv_goto (tgt := 61) hx hb dX5_drop_196 (by decide) ?_
                      exact ih (i + 1) (acc + 0) (by omega) (by omega) (by rw [mdrC_s hi0, ← hacc]; first | (exfalso; omega) | rw [if_pos (by omega)] | (rw [if_neg (by omega), if_pos (by omega)]; first | rw [if_pos (by omega)] | rw [if_neg (by omega)]) | rw [if_neg (by omega), if_neg (by omega)]) (by omega) _ _ (by first | (exfalso; omega) | rw [mdr_s hi0]; first | (rw [if_pos (by omega)]; exact hR) | (rw [if_neg (by omega), if_pos (by omega)]; exact hR) | (rw [if_neg (by omega), if_neg (by omega)]; exact hR)) hS ls (lv_sub hl [2, 3, 1, 0] rfl)
                  · skip
                    refine lv_iconst (v := iI (0)) hx hb dX5_drop_151 rfl ?_
                    refine lv_goto (tgt := 174) hx hb dX5_drop_152 (by decide) ?_
                    refine xs_1011 (v := 0) hx hb hK hR hS (md_31 (gm_dr2 hGi i)) (by omega) dX5_drop_174 (fun H locs hR hS => ?_)
                    have hP : 0 = mdrP (mdrN (st (st (st mu 900 0 0) 1029 w 2) 1031 w (mu 901 0)) w i.toNat) i := by unfold mdrP; first | (exfalso; omega) | rw [if_pos (by omega)] | rw [if_neg (by omega)]
                    have hR : RM D cy A ad (mdr3 (mdrN (st (st (st mu 900 0 0) 1029 w 2) 1031 w (mu 901 0)) w i.toNat) i) H := by unfold mdr3; rw [← hP]; exact hR
                    refine lv_iload_n hx hb dX5_drop_175 rfl (lv_at hl 2 rfl) ?_
                    refine lv_aload_n hx hb dX5_drop_176 rfl (lv_at hl 0 rfl) ?_
                    refine xg_910 (v := (mdr3 (mdrN (st (st (st mu 900 0 0) 1029 w 2) 1031 w (mu 901 0)) w i.toNat) i) 910 0) hx hb hw5 hown hK hR (md_5 (gm_dr3 hGi i)) (hts _ kw_758) rfl dX5_drop_177 ?_
                    have q37 : (mdr3 (mdrN (st (st (st mu 900 0 0) 1029 w 2) 1031 w (mu 901 0)) w i.toNat) i) 910 0 = 0 := mh_910 (gm_dr3 hGi i)
                    rw [q37, rv_p (Int.le_refl 0)]
                    refine lv_iload_n hx hb dX5_drop_180 rfl (lv_at hl 3 rfl) ?_
                    refine xa_1010 (v := mdrO (mdrN (st (st (st mu 900 0 0) 1029 w 2) 1031 w (mu 901 0)) w i.toNat) i) hx hb hK hR (md_30 (gm_dr3 hGi i)) (by omega) (mdr3_o) dX5_drop_181 ?_
                    refine lv_iconst (v := iI (-1)) hx hb dX5_drop_182 rfl ?_
                    refine xr_icmp_ne (tgt := 190) hx hb dX5_drop_183 (by decide) (by omega) (by omega) (fun h38 => ?_) (fun h38 => ?_)
                    · skip
                      refine lv_iconst (v := iI (1)) hx hb dX5_drop_190 rfl ?_
                      refine xr_iadd hx hb dX5_drop_191 ?_
                      refine lv_istore_n (i := 2) (lv' := [(2, .int (iI (acc + 1))), (0, .ref (ad 5 (0))), (1, .int (iI (w))), (3, .int (iI (i)))]) hx hb dX5_drop_192 rfl hl (by decide) rfl (fun ls hl => ?_)
                      refine lv_iinc (v := iI (i + (1))) (lv' := [(3, .int (iI (i + (1)))), (2, .int (iI (acc + 1))), (0, .ref (ad 5 (0))), (1, .int (iI (w)))]) hx hb dX5_drop_193 hl (k := 3) rfl (iI_add _ _) (by decide) rfl (fun ls hl => ?_)
                      refine lv_goto (tgt := 61) hx hb dX5_drop_196 (by decide) ?_
                      exact ih (i + 1) (acc + 1) (by omega) (by omega) (by rw [mdrC_s hi0, ← hacc]; first | (exfalso; omega) | rw [if_pos (by omega)] | (rw [if_neg (by omega), if_pos (by omega)]; first | rw [if_pos (by omega)] | rw [if_neg (by omega)]) | rw [if_neg (by omega), if_neg (by omega)]) (by omega) _ _ (by first | (exfalso; omega) | rw [mdr_s hi0]; first | (rw [if_pos (by omega)]; exact hR) | (rw [if_neg (by omega), if_pos (by omega)]; exact hR) | (rw [if_neg (by omega), if_neg (by omega)]; exact hR)) hS ls (lv_sub hl [2, 3, 1, 0] rfl)
                    · skip
                      refine lv_iconst (v := iI (0)) hx hb dX5_drop_186 rfl ?_
                      refine lv_goto (tgt := 191) hx hb dX5_drop_187 (by decide) ?_
                      refine xr_iadd hx hb dX5_drop_191 ?_
                      refine lv_istore_n (i := 2) (lv' := [(2, .int (iI (acc + 0))), (0, .ref (ad 5 (0))), (1, .int (iI (w))), (3, .int (iI (i)))]) hx hb dX5_drop_192 rfl hl (by decide) rfl (fun ls hl => ?_)
                      refine lv_iinc (v := iI (i + (1))) (lv' := [(3, .int (iI (i + (1)))), (2, .int (iI (acc + 0))), (0, .ref (ad 5 (0))), (1, .int (iI (w)))]) hx hb dX5_drop_193 hl (k := 3) rfl (iI_add _ _) (by decide) rfl (fun ls hl => ?_)
                      refine lv_goto (tgt := 61) hx hb dX5_drop_196 (by decide) ?_
                      exact ih (i + 1) (acc + 0) (by omega) (by omega) (by rw [mdrC_s hi0, ← hacc]; first | (exfalso; omega) | rw [if_pos (by omega)] | (rw [if_neg (by omega), if_pos (by omega)]; first | rw [if_pos (by omega)] | rw [if_neg (by omega)]) | rw [if_neg (by omega), if_neg (by omega)]) (by omega) _ _ (by first | (exfalso; omega) | rw [mdr_s hi0]; first | (rw [if_pos (by omega)]; exact hR) | (rw [if_neg (by omega), if_pos (by omega)]; exact hR) | (rw [if_neg (by omega), if_neg (by omega)]; exact hR)) hS ls (lv_sub hl [2, 3, 1, 0] rfl)
            · skip
              refine lv_aload_n hx hb dX5_drop_77 rfl (lv_at hl 0 rfl) ?_
              refine xg_905 (v := (mdrN (st (st (st mu 900 0 0) 1029 w 2) 1031 w (mu 901 0)) w i.toNat) 905 0) hx hb hw5 hown hK hR (md_5 hGi) (hts _ kw_753) rfl dX5_drop_78 ?_
              have q39 : (mdrN (st (st (st mu 900 0 0) 1029 w 2) 1031 w (mu 901 0)) w i.toNat) 905 0 = 0 := mh_905 hGi
              rw [q39, rv_p (Int.le_refl 0)]
              refine lv_iload_n hx hb dX5_drop_81 rfl (lv_at hl 3 rfl) ?_
              refine xa_1005 (v := (mdrN (st (st (st mu 900 0 0) 1029 w 2) 1031 w (mu 901 0)) w i.toNat) 1005 i) hx hb hK hR (md_25 hGi) (by omega) rfl dX5_drop_82 ?_
              have g40 := mr_1005 hGi (i)
              refine xr_if_ne (tgt := 94) hx hb dX5_drop_83 (by decide) (by omega) (fun h41 => ?_) (fun h41 => ?_)
              · skip
                refine lv_aload_n hx hb dX5_drop_94 rfl (lv_at hl 0 rfl) ?_
                refine xg_906 (v := (mdrN (st (st (st mu 900 0 0) 1029 w 2) 1031 w (mu 901 0)) w i.toNat) 906 0) hx hb hw5 hown hK hR (md_5 hGi) (hts _ kw_754) rfl dX5_drop_95 ?_
                have q42 : (mdrN (st (st (st mu 900 0 0) 1029 w 2) 1031 w (mu 901 0)) w i.toNat) 906 0 = 0 := mh_906 hGi
                rw [q42, rv_p (Int.le_refl 0)]
                refine lv_iload_n hx hb dX5_drop_98 rfl (lv_at hl 3 rfl) ?_
                refine xa_1006 (v := (mdrN (st (st (st mu 900 0 0) 1029 w 2) 1031 w (mu 901 0)) w i.toNat) 1006 i) hx hb hK hR (md_26 hGi) (by omega) rfl dX5_drop_99 ?_
                refine lv_iload_n hx hb dX5_drop_100 rfl (lv_at hl 1 rfl) ?_
                refine xr_icmp_ne (tgt := 193) hx hb dX5_drop_101 (by decide) (by omega) (by omega) (fun h43 => ?_) (fun h43 => ?_)
                · skip
                  refine lv_iinc (v := iI (i + (1))) (lv' := [(3, .int (iI (i + (1)))), (0, .ref (ad 5 (0))), (1, .int (iI (w))), (2, .int (iI (acc)))]) hx hb dX5_drop_193 hl (k := 3) rfl (iI_add _ _) (by decide) rfl (fun ls hl => ?_)
                  refine lv_goto (tgt := 61) hx hb dX5_drop_196 (by decide) ?_
                  exact ih (i + 1) acc (by omega) (by omega) (by rw [mdrC_s hi0, ← hacc]; first | (exfalso; omega) | rw [if_pos (by omega)] | (rw [if_neg (by omega), if_pos (by omega)]; first | rw [if_pos (by omega)] | rw [if_neg (by omega)]) | rw [if_neg (by omega), if_neg (by omega)]) (by omega) _ _ (by first | (exfalso; omega) | rw [mdr_s hi0]; first | (rw [if_pos (by omega)]; exact hR) | (rw [if_neg (by omega), if_pos (by omega)]; exact hR) | (rw [if_neg (by omega), if_neg (by omega)]; exact hR)) hS ls (lv_sub hl [1, 2, 3, 0] rfl)
                · skip
                  refine lv_aload_n hx hb dX5_drop_104 rfl (lv_at hl 0 rfl) ?_
                  refine xg_906 (v := (mdrN (st (st (st mu 900 0 0) 1029 w 2) 1031 w (mu 901 0)) w i.toNat) 906 0) hx hb hw5 hown hK hR (md_5 hGi) (hts _ kw_754) rfl dX5_drop_105 ?_
                  have q44 : (mdrN (st (st (st mu 900 0 0) 1029 w 2) 1031 w (mu 901 0)) w i.toNat) 906 0 = 0 := mh_906 hGi
                  rw [q44, rv_p (Int.le_refl 0)]
                  refine lv_iload_n hx hb dX5_drop_108 rfl (lv_at hl 3 rfl) ?_
                  refine lv_iconst (v := iI (-1)) hx hb dX5_drop_109 rfl ?_
                  refine xs_1006 (v := -1) hx hb hK hR hS (md_26 hGi) (by omega) dX5_drop_110 (fun H locs hR hS => ?_)
                  refine lv_aload_n hx hb dX5_drop_111 rfl (lv_at hl 0 rfl) ?_
                  refine xg_910 (v := (mdrN (st (st (st mu 900 0 0) 1029 w 2) 1031 w (mu 901 0)) w i.toNat) 910 0) hx hb hw5 hown hK hR ((dmM_st (by decide) _ _).mpr (md_5 hGi)) (hts _ kw_758) ((st_f (by decide)).trans rfl) dX5_drop_112 ?_
                  have q45 : (mdrN (st (st (st mu 900 0 0) 1029 w 2) 1031 w (mu 901 0)) w i.toNat) 910 0 = 0 := mh_910 hGi
                  rw [q45, rv_p (Int.le_refl 0)]
                  refine lv_iload_n hx hb dX5_drop_115 rfl (lv_at hl 3 rfl) ?_
                  refine lv_aload_n hx hb dX5_drop_116 rfl (lv_at hl 0 rfl) ?_
                  refine xg_909 (v := (mdrN (st (st (st mu 900 0 0) 1029 w 2) 1031 w (mu 901 0)) w i.toNat) 909 0) hx hb hw5 hown hK hR ((dmM_st (by decide) _ _).mpr (md_5 hGi)) (hts _ kw_757) ((st_f (by decide)).trans rfl) dX5_drop_117 ?_
                  have q46 : (mdrN (st (st (st mu 900 0 0) 1029 w 2) 1031 w (mu 901 0)) w i.toNat) 909 0 = 0 := mh_909 hGi
                  rw [q46, rv_p (Int.le_refl 0)]
                  refine lv_iload_n hx hb dX5_drop_120 rfl (lv_at hl 3 rfl) ?_
                  refine xa_1009 (v := (mdrN (st (st (st mu 900 0 0) 1029 w 2) 1031 w (mu 901 0)) w i.toNat) 1009 i) hx hb hK hR ((dmM_st (by decide) _ _).mpr (md_29 hGi)) (by omega) ((st_f (by decide)).trans rfl) dX5_drop_121 ?_
                  have g47 := mr_1009 hGi (i)
                  refine xr_if_eq (tgt := 129) hx hb dX5_drop_122 (by decide) (by omega) (fun h48 => ?_) (fun h48 => ?_)
                  · skip
                    refine lv_aload_n hx hb dX5_drop_129 rfl (lv_at hl 0 rfl) ?_
                    refine lv_iload_n hx hb dX5_drop_130 rfl (lv_at hl 3 rfl) ?_
                    refine lv_iconst (v := iI (-1)) hx hb dX5_drop_131 rfl ?_
                    refine xk_pF (xr_V (As := [.int (iI (i)), .int (iI (-1))]) (rest := [.int (iI (i)), .ref (ad 30 (0))]) hx hb hml hown hts hK (c_X5_ownerBehind hR (gc_1006 hGi (i) (v := -1) (by omega)) i (-1) (by omega) (by omega)) ms_X5_ownerBehind kw_982 (wr_recv hK hR ((dmM_st (by decide) _ _).mpr (md_5 hGi)) rfl rfl) ⟨by decide, by decide⟩ ⟨by decide, by decide⟩ rfl rfl hl.1 rfl (lv_room (Nat.le_of_ble_eq_true rfl)) dX5_drop_132) ?_
                    have g49 := mOwnB_rng (gc_1006 hGi (i) (v := -1) (by omega)) (i) ((-1))
                    refine xs_1010 (v := mOwnB (st (mdrN (st (st (st mu 900 0 0) 1029 w 2) 1031 w (mu 901 0)) w i.toNat) 1006 (i) (-1)) i (-1)) hx hb hK hR hS ((dmM_st (by decide) _ _).mpr (md_30 hGi)) (by omega) dX5_drop_135 (fun H locs hR hS => ?_)
                    have hO : mOwnB (st (mdrN (st (st (st mu 900 0 0) 1029 w 2) 1031 w (mu 901 0)) w i.toNat) 1006 (i) (-1)) i (-1) = mdrO (mdrN (st (st (st mu 900 0 0) 1029 w 2) 1031 w (mu 901 0)) w i.toNat) i := by unfold mdrO mdr1; first | (exfalso; omega) | rw [if_pos (by omega)] | rw [if_neg (by omega)]
                    have hR : RM D cy A ad (mdr2 (mdrN (st (st (st mu 900 0 0) 1029 w 2) 1031 w (mu 901 0)) w i.toNat) i) H := by show RM D cy A ad (st (st (mdrN (st (st (st mu 900 0 0) 1029 w 2) 1031 w (mu 901 0)) w i.toNat) 1006 i (-1)) 1010 i (mdrO (mdrN (st (st (st mu 900 0 0) 1029 w 2) 1031 w (mu 901 0)) w i.toNat) i)) H; rw [← hO]; exact hR
                    have hor := mdrO_rng hGi i
                    refine lv_aload_n hx hb dX5_drop_136 rfl (lv_at hl 0 rfl) ?_
                    refine xg_911 (v := (mdr2 (mdrN (st (st (st mu 900 0 0) 1029 w 2) 1031 w (mu 901 0)) w i.toNat) i) 911 0) hx hb hw5 hown hK hR (md_5 (gm_dr2 hGi i)) (hts _ kw_759) rfl dX5_drop_137 ?_
                    have q50 : (mdr2 (mdrN (st (st (st mu 900 0 0) 1029 w 2) 1031 w (mu 901 0)) w i.toNat) i) 911 0 = 0 := mh_911 (gm_dr2 hGi i)
                    rw [q50, rv_p (Int.le_refl 0)]
                    refine lv_iload_n hx hb dX5_drop_140 rfl (lv_at hl 3 rfl) ?_
                    refine lv_aload_n hx hb dX5_drop_141 rfl (lv_at hl 0 rfl) ?_
                    refine xg_910 (v := (mdr2 (mdrN (st (st (st mu 900 0 0) 1029 w 2) 1031 w (mu 901 0)) w i.toNat) i) 910 0) hx hb hw5 hown hK hR (md_5 (gm_dr2 hGi i)) (hts _ kw_758) rfl dX5_drop_142 ?_
                    have q51 : (mdr2 (mdrN (st (st (st mu 900 0 0) 1029 w 2) 1031 w (mu 901 0)) w i.toNat) i) 910 0 = 0 := mh_910 (gm_dr2 hGi i)
                    rw [q51, rv_p (Int.le_refl 0)]
                    refine lv_iload_n hx hb dX5_drop_145 rfl (lv_at hl 3 rfl) ?_
                    refine xa_1010 (v := mdrO (mdrN (st (st (st mu 900 0 0) 1029 w 2) 1031 w (mu 901 0)) w i.toNat) i) hx hb hK hR (md_30 (gm_dr2 hGi i)) (by omega) (mdr2_o) dX5_drop_146 ?_
                    refine lv_iconst (v := iI (-1)) hx hb dX5_drop_147 rfl ?_
                    refine xr_icmp_ne (tgt := 155) hx hb dX5_drop_148 (by decide) (by omega) (by omega) (fun h52 => ?_) (fun h52 => ?_)
                    · skip
                      refine lv_aload_n hx hb dX5_drop_155 rfl (lv_at hl 0 rfl) ?_
                      refine xg_907 (v := (mdr2 (mdrN (st (st (st mu 900 0 0) 1029 w 2) 1031 w (mu 901 0)) w i.toNat) i) 907 0) hx hb hw5 hown hK hR (md_5 (gm_dr2 hGi i)) (hts _ kw_755) rfl dX5_drop_156 ?_
                      have q53 : (mdr2 (mdrN (st (st (st mu 900 0 0) 1029 w 2) 1031 w (mu 901 0)) w i.toNat) i) 907 0 = 0 := mh_907 (gm_dr2 hGi i)
                      rw [q53, rv_p (Int.le_refl 0)]
                      refine lv_iload_n hx hb dX5_drop_159 rfl (lv_at hl 3 rfl) ?_
                      refine xa_1007 (v := (mdrN (st (st (st mu 900 0 0) 1029 w 2) 1031 w (mu 901 0)) w i.toNat) 1007 i) hx hb hK hR (md_27 (gm_dr2 hGi i)) (by omega) rfl dX5_drop_160 ?_
                      refine lv_aload_n hx hb dX5_drop_161 rfl (lv_at hl 0 rfl) ?_
                      refine lv_iload_n hx hb dX5_drop_162 rfl (lv_at hl 3 rfl) ?_
                      refine lv_aload_n hx hb dX5_drop_163 rfl (lv_at hl 0 rfl) ?_
                      refine xg_901 (v := (mdrN (st (st (st mu 900 0 0) 1029 w 2) 1031 w (mu 901 0)) w i.toNat) 901 0) hx hb hw5 hown hK hR (md_5 (gm_dr2 hGi i)) (hts _ kw_749) rfl dX5_drop_164 ?_
                      refine xk_pF (xr_V (As := [.int (iI (i)), .int (iI ((mdrN (st (st (st mu 900 0 0) 1029 w 2) 1031 w (mu 901 0)) w i.toNat) 901 0))]) (rest := [.int (iI ((mdrN (st (st (st mu 900 0 0) 1029 w 2) 1031 w (mu 901 0)) w i.toNat) 1007 i)), .int (iI (i)), .ref (ad 31 (0))]) hx hb hml hown hts hK (c_X5_worthOn hR (gm_dr2 hGi i) i ((mdrN (st (st (st mu 900 0 0) 1029 w 2) 1031 w (mu 901 0)) w i.toNat) 901 0) (by omega) (by omega)) ms_X5_worthOn kw_885 (wr_recv hK hR (md_5 (gm_dr2 hGi i)) rfl rfl) ⟨by decide, by decide⟩ ⟨by decide, by decide⟩ rfl rfl hl.1 rfl (lv_room (Nat.le_of_ble_eq_true rfl)) dX5_drop_167) ?_
                      have g54 := mWorth_rng (gm_dr2 hGi i) (i) (((mdrN (st (st (st mu 900 0 0) 1029 w 2) 1031 w (mu 901 0)) w i.toNat) 901 0))
                      have m1 := mul_rng (a := (mdrN (st (st (st mu 900 0 0) 1029 w 2) 1031 w (mu 901 0)) w i.toNat) 1007 i) (m := 100) (b := mWorth (mdr2 (mdrN (st (st (st mu 900 0 0) 1029 w 2) 1031 w (mu 901 0)) w i.toNat) i) i ((mdrN (st (st (st mu 900 0 0) 1029 w 2) 1031 w (mu 901 0)) w i.toNat) 901 0)) (n := 100000) (by omega) (by omega)
                      refine xr_imul hx hb dX5_drop_170 ?_
                      refine lv_bipush (v := iI (100)) hx hb dX5_drop_171 (by decide) ?_
                      refine xr_idiv hx hb dX5_drop_173 (by omega) (by omega) ?_
                      refine xs_1011 (v := (((mdrN (st (st (st mu 900 0 0) 1029 w 2) 1031 w (mu 901 0)) w i.toNat) 1007 i) * (mWorth (mdr2 (mdrN (st (st (st mu 900 0 0) 1029 w 2) 1031 w (mu 901 0)) w i.toNat) i) i ((mdrN (st (st (st mu 900 0 0) 1029 w 2) 1031 w (mu 901 0)) w i.toNat) 901 0))) / 100) hx hb hK hR hS (md_31 (gm_dr2 hGi i)) (by omega) dX5_drop_174 (fun H locs hR hS => ?_)
                      have hP : (((mdrN (st (st (st mu 900 0 0) 1029 w 2) 1031 w (mu 901 0)) w i.toNat) 1007 i) * (mWorth (mdr2 (mdrN (st (st (st mu 900 0 0) 1029 w 2) 1031 w (mu 901 0)) w i.toNat) i) i ((mdrN (st (st (st mu 900 0 0) 1029 w 2) 1031 w (mu 901 0)) w i.toNat) 901 0))) / 100 = mdrP (mdrN (st (st (st mu 900 0 0) 1029 w 2) 1031 w (mu 901 0)) w i.toNat) i := by unfold mdrP; first | (exfalso; omega) | rw [if_pos (by omega)] | rw [if_neg (by omega)]
                      have hR : RM D cy A ad (mdr3 (mdrN (st (st (st mu 900 0 0) 1029 w 2) 1031 w (mu 901 0)) w i.toNat) i) H := by unfold mdr3; rw [← hP]; exact hR
                      refine lv_iload_n hx hb dX5_drop_175 rfl (lv_at hl 2 rfl) ?_
                      refine lv_aload_n hx hb dX5_drop_176 rfl (lv_at hl 0 rfl) ?_
                      refine xg_910 (v := (mdr3 (mdrN (st (st (st mu 900 0 0) 1029 w 2) 1031 w (mu 901 0)) w i.toNat) i) 910 0) hx hb hw5 hown hK hR (md_5 (gm_dr3 hGi i)) (hts _ kw_758) rfl dX5_drop_177 ?_
                      have q55 : (mdr3 (mdrN (st (st (st mu 900 0 0) 1029 w 2) 1031 w (mu 901 0)) w i.toNat) i) 910 0 = 0 := mh_910 (gm_dr3 hGi i)
                      rw [q55, rv_p (Int.le_refl 0)]
                      refine lv_iload_n hx hb dX5_drop_180 rfl (lv_at hl 3 rfl) ?_
                      refine xa_1010 (v := mdrO (mdrN (st (st (st mu 900 0 0) 1029 w 2) 1031 w (mu 901 0)) w i.toNat) i) hx hb hK hR (md_30 (gm_dr3 hGi i)) (by omega) (mdr3_o) dX5_drop_181 ?_
                      refine lv_iconst (v := iI (-1)) hx hb dX5_drop_182 rfl ?_
                      refine xr_icmp_ne (tgt := 190) hx hb dX5_drop_183 (by decide) (by omega) (by omega) (fun h56 => ?_) (fun h56 => ?_)
                      · skip
                        refine lv_iconst (v := iI (1)) hx hb dX5_drop_190 rfl ?_
                        refine xr_iadd hx hb dX5_drop_191 ?_
                        refine lv_istore_n (i := 2) (lv' := [(2, .int (iI (acc + 1))), (0, .ref (ad 5 (0))), (1, .int (iI (w))), (3, .int (iI (i)))]) hx hb dX5_drop_192 rfl hl (by decide) rfl (fun ls hl => ?_)
                        refine lv_iinc (v := iI (i + (1))) (lv' := [(3, .int (iI (i + (1)))), (2, .int (iI (acc + 1))), (0, .ref (ad 5 (0))), (1, .int (iI (w)))]) hx hb dX5_drop_193 hl (k := 3) rfl (iI_add _ _) (by decide) rfl (fun ls hl => ?_)
                        refine lv_goto (tgt := 61) hx hb dX5_drop_196 (by decide) ?_
                        exact ih (i + 1) (acc + 1) (by omega) (by omega) (by rw [mdrC_s hi0, ← hacc]; first | (exfalso; omega) | rw [if_pos (by omega)] | (rw [if_neg (by omega), if_pos (by omega)]; first | rw [if_pos (by omega)] | rw [if_neg (by omega)]) | rw [if_neg (by omega), if_neg (by omega)]) (by omega) _ _ (by first | (exfalso; omega) | rw [mdr_s hi0]; first | (rw [if_pos (by omega)]; exact hR) | (rw [if_neg (by omega), if_pos (by omega)]; exact hR) | (rw [if_neg (by omega), if_neg (by omega)]; exact hR)) hS ls (lv_sub hl [2, 3, 1, 0] rfl)
                      · skip
                        refine lv_iconst (v := iI (0)) hx hb dX5_drop_186 rfl ?_
                        refine lv_goto (tgt := 191) hx hb dX5_drop_187 (by decide) ?_
                        refine xr_iadd hx hb dX5_drop_191 ?_
                        refine lv_istore_n (i := 2) (lv' := [(2, .int (iI (acc + 0))), (0, .ref (ad 5 (0))), (1, .int (iI (w))), (3, .int (iI (i)))]) hx hb dX5_drop_192 rfl hl (by decide) rfl (fun ls hl => ?_)
                        refine lv_iinc (v := iI (i + (1))) (lv' := [(3, .int (iI (i + (1)))), (2, .int (iI (acc + 0))), (0, .ref (ad 5 (0))), (1, .int (iI (w)))]) hx hb dX5_drop_193 hl (k := 3) rfl (iI_add _ _) (by decide) rfl (fun ls hl => ?_)
                        refine lv_goto (tgt := 61) hx hb dX5_drop_196 (by decide) ?_
                        exact ih (i + 1) (acc + 0) (by omega) (by omega) (by rw [mdrC_s hi0, ← hacc]; first | (exfalso; omega) | rw [if_pos (by omega)] | (rw [if_neg (by omega), if_pos (by omega)]; first | rw [if_pos (by omega)] | rw [if_neg (by omega)]) | rw [if_neg (by omega), if_neg (by omega)]) (by omega) _ _ (by first | (exfalso; omega) | rw [mdr_s hi0]; first | (rw [if_pos (by omega)]; exact hR) | (rw [if_neg (by omega), if_pos (by omega)]; exact hR) | (rw [if_neg (by omega), if_neg (by omega)]; exact hR)) hS ls (lv_sub hl [2, 3, 1, 0] rfl)
                    · skip
                      refine lv_iconst (v := iI (0)) hx hb dX5_drop_151 rfl ?_
                      refine lv_goto (tgt := 174) hx hb dX5_drop_152 (by decide) ?_
                      refine xs_1011 (v := 0) hx hb hK hR hS (md_31 (gm_dr2 hGi i)) (by omega) dX5_drop_174 (fun H locs hR hS => ?_)
                      have hP : 0 = mdrP (mdrN (st (st (st mu 900 0 0) 1029 w 2) 1031 w (mu 901 0)) w i.toNat) i := by unfold mdrP; first | (exfalso; omega) | rw [if_pos (by omega)] | rw [if_neg (by omega)]
                      have hR : RM D cy A ad (mdr3 (mdrN (st (st (st mu 900 0 0) 1029 w 2) 1031 w (mu 901 0)) w i.toNat) i) H := by unfold mdr3; rw [← hP]; exact hR
                      refine lv_iload_n hx hb dX5_drop_175 rfl (lv_at hl 2 rfl) ?_
                      refine lv_aload_n hx hb dX5_drop_176 rfl (lv_at hl 0 rfl) ?_
                      refine xg_910 (v := (mdr3 (mdrN (st (st (st mu 900 0 0) 1029 w 2) 1031 w (mu 901 0)) w i.toNat) i) 910 0) hx hb hw5 hown hK hR (md_5 (gm_dr3 hGi i)) (hts _ kw_758) rfl dX5_drop_177 ?_
                      have q57 : (mdr3 (mdrN (st (st (st mu 900 0 0) 1029 w 2) 1031 w (mu 901 0)) w i.toNat) i) 910 0 = 0 := mh_910 (gm_dr3 hGi i)
                      rw [q57, rv_p (Int.le_refl 0)]
                      refine lv_iload_n hx hb dX5_drop_180 rfl (lv_at hl 3 rfl) ?_
                      refine xa_1010 (v := mdrO (mdrN (st (st (st mu 900 0 0) 1029 w 2) 1031 w (mu 901 0)) w i.toNat) i) hx hb hK hR (md_30 (gm_dr3 hGi i)) (by omega) (mdr3_o) dX5_drop_181 ?_
                      refine lv_iconst (v := iI (-1)) hx hb dX5_drop_182 rfl ?_
                      refine xr_icmp_ne (tgt := 190) hx hb dX5_drop_183 (by decide) (by omega) (by omega) (fun h58 => ?_) (fun h58 => ?_)
                      · skip
                        refine lv_iconst (v := iI (1)) hx hb dX5_drop_190 rfl ?_
                        refine xr_iadd hx hb dX5_drop_191 ?_
                        refine lv_istore_n (i := 2) (lv' := [(2, .int (iI (acc + 1))), (0, .ref (ad 5 (0))), (1, .int (iI (w))), (3, .int (iI (i)))]) hx hb dX5_drop_192 rfl hl (by decide) rfl (fun ls hl => ?_)
                        refine lv_iinc (v := iI (i + (1))) (lv' := [(3, .int (iI (i + (1)))), (2, .int (iI (acc + 1))), (0, .ref (ad 5 (0))), (1, .int (iI (w)))]) hx hb dX5_drop_193 hl (k := 3) rfl (iI_add _ _) (by decide) rfl (fun ls hl => ?_)
                        refine lv_goto (tgt := 61) hx hb dX5_drop_196 (by decide) ?_
                        exact ih (i + 1) (acc + 1) (by omega) (by omega) (by rw [mdrC_s hi0, ← hacc]; first | (exfalso; omega) | rw [if_pos (by omega)] | (rw [if_neg (by omega), if_pos (by omega)]; first | rw [if_pos (by omega)] | rw [if_neg (by omega)]) | rw [if_neg (by omega), if_neg (by omega)]) (by omega) _ _ (by first | (exfalso; omega) | rw [mdr_s hi0]; first | (rw [if_pos (by omega)]; exact hR) | (rw [if_neg (by omega), if_pos (by omega)]; exact hR) | (rw [if_neg (by omega), if_neg (by omega)]; exact hR)) hS ls (lv_sub hl [2, 3, 1, 0] rfl)
                      · skip
                        refine lv_iconst (v := iI (0)) hx hb dX5_drop_186 rfl ?_
                        refine lv_goto (tgt := 191) hx hb dX5_drop_187 (by decide) ?_
                        refine xr_iadd hx hb dX5_drop_191 ?_
                        refine lv_istore_n (i := 2) (lv' := [(2, .int (iI (acc + 0))), (0, .ref (ad 5 (0))), (1, .int (iI (w))), (3, .int (iI (i)))]) hx hb dX5_drop_192 rfl hl (by decide) rfl (fun ls hl => ?_)
                        refine lv_iinc (v := iI (i + (1))) (lv' := [(3, .int (iI (i + (1)))), (2, .int (iI (acc + 0))), (0, .ref (ad 5 (0))), (1, .int (iI (w)))]) hx hb dX5_drop_193 hl (k := 3) rfl (iI_add _ _) (by decide) rfl (fun ls hl => ?_)
                        refine lv_goto (tgt := 61) hx hb dX5_drop_196 (by decide) ?_
                        exact ih (i + 1) (acc + 0) (by omega) (by omega) (by rw [mdrC_s hi0, ← hacc]; first | (exfalso; omega) | rw [if_pos (by omega)] | (rw [if_neg (by omega), if_pos (by omega)]; first | rw [if_pos (by omega)] | rw [if_neg (by omega)]) | rw [if_neg (by omega), if_neg (by omega)]) (by omega) _ _ (by first | (exfalso; omega) | rw [mdr_s hi0]; first | (rw [if_pos (by omega)]; exact hR) | (rw [if_neg (by omega), if_pos (by omega)]; exact hR) | (rw [if_neg (by omega), if_neg (by omega)]; exact hR)) hS ls (lv_sub hl [2, 3, 1, 0] rfl)
                  · skip
                    refine lv_iconst (v := iI (-1)) hx hb dX5_drop_125 rfl ?_
                    refine lv_goto (tgt := 135) hx hb dX5_drop_126 (by decide) ?_
                    refine xs_1010 (v := -1) hx hb hK hR hS ((dmM_st (by decide) _ _).mpr (md_30 hGi)) (by omega) dX5_drop_135 (fun H locs hR hS => ?_)
                    have hO : -1 = mdrO (mdrN (st (st (st mu 900 0 0) 1029 w 2) 1031 w (mu 901 0)) w i.toNat) i := by unfold mdrO mdr1; first | (exfalso; omega) | rw [if_pos (by omega)] | rw [if_neg (by omega)]
                    have hR : RM D cy A ad (mdr2 (mdrN (st (st (st mu 900 0 0) 1029 w 2) 1031 w (mu 901 0)) w i.toNat) i) H := by show RM D cy A ad (st (st (mdrN (st (st (st mu 900 0 0) 1029 w 2) 1031 w (mu 901 0)) w i.toNat) 1006 i (-1)) 1010 i (mdrO (mdrN (st (st (st mu 900 0 0) 1029 w 2) 1031 w (mu 901 0)) w i.toNat) i)) H; rw [← hO]; exact hR
                    have hor := mdrO_rng hGi i
                    refine lv_aload_n hx hb dX5_drop_136 rfl (lv_at hl 0 rfl) ?_
                    refine xg_911 (v := (mdr2 (mdrN (st (st (st mu 900 0 0) 1029 w 2) 1031 w (mu 901 0)) w i.toNat) i) 911 0) hx hb hw5 hown hK hR (md_5 (gm_dr2 hGi i)) (hts _ kw_759) rfl dX5_drop_137 ?_
                    have q59 : (mdr2 (mdrN (st (st (st mu 900 0 0) 1029 w 2) 1031 w (mu 901 0)) w i.toNat) i) 911 0 = 0 := mh_911 (gm_dr2 hGi i)
                    rw [q59, rv_p (Int.le_refl 0)]
                    refine lv_iload_n hx hb dX5_drop_140 rfl (lv_at hl 3 rfl) ?_
                    refine lv_aload_n hx hb dX5_drop_141 rfl (lv_at hl 0 rfl) ?_
                    refine xg_910 (v := (mdr2 (mdrN (st (st (st mu 900 0 0) 1029 w 2) 1031 w (mu 901 0)) w i.toNat) i) 910 0) hx hb hw5 hown hK hR (md_5 (gm_dr2 hGi i)) (hts _ kw_758) rfl dX5_drop_142 ?_
                    have q60 : (mdr2 (mdrN (st (st (st mu 900 0 0) 1029 w 2) 1031 w (mu 901 0)) w i.toNat) i) 910 0 = 0 := mh_910 (gm_dr2 hGi i)
                    rw [q60, rv_p (Int.le_refl 0)]
                    refine lv_iload_n hx hb dX5_drop_145 rfl (lv_at hl 3 rfl) ?_
                    refine xa_1010 (v := mdrO (mdrN (st (st (st mu 900 0 0) 1029 w 2) 1031 w (mu 901 0)) w i.toNat) i) hx hb hK hR (md_30 (gm_dr2 hGi i)) (by omega) (mdr2_o) dX5_drop_146 ?_
                    refine lv_iconst (v := iI (-1)) hx hb dX5_drop_147 rfl ?_
                    refine xr_icmp_ne (tgt := 155) hx hb dX5_drop_148 (by decide) (by omega) (by omega) (fun h61 => ?_) (fun h61 => ?_)
                    · skip
                      refine lv_aload_n hx hb dX5_drop_155 rfl (lv_at hl 0 rfl) ?_
                      refine xg_907 (v := (mdr2 (mdrN (st (st (st mu 900 0 0) 1029 w 2) 1031 w (mu 901 0)) w i.toNat) i) 907 0) hx hb hw5 hown hK hR (md_5 (gm_dr2 hGi i)) (hts _ kw_755) rfl dX5_drop_156 ?_
                      have q62 : (mdr2 (mdrN (st (st (st mu 900 0 0) 1029 w 2) 1031 w (mu 901 0)) w i.toNat) i) 907 0 = 0 := mh_907 (gm_dr2 hGi i)
                      rw [q62, rv_p (Int.le_refl 0)]
                      refine lv_iload_n hx hb dX5_drop_159 rfl (lv_at hl 3 rfl) ?_
                      refine xa_1007 (v := (mdrN (st (st (st mu 900 0 0) 1029 w 2) 1031 w (mu 901 0)) w i.toNat) 1007 i) hx hb hK hR (md_27 (gm_dr2 hGi i)) (by omega) rfl dX5_drop_160 ?_
                      refine lv_aload_n hx hb dX5_drop_161 rfl (lv_at hl 0 rfl) ?_
                      refine lv_iload_n hx hb dX5_drop_162 rfl (lv_at hl 3 rfl) ?_
                      refine lv_aload_n hx hb dX5_drop_163 rfl (lv_at hl 0 rfl) ?_
                      refine xg_901 (v := (mdrN (st (st (st mu 900 0 0) 1029 w 2) 1031 w (mu 901 0)) w i.toNat) 901 0) hx hb hw5 hown hK hR (md_5 (gm_dr2 hGi i)) (hts _ kw_749) rfl dX5_drop_164 ?_
                      refine xk_pF (xr_V (As := [.int (iI (i)), .int (iI ((mdrN (st (st (st mu 900 0 0) 1029 w 2) 1031 w (mu 901 0)) w i.toNat) 901 0))]) (rest := [.int (iI ((mdrN (st (st (st mu 900 0 0) 1029 w 2) 1031 w (mu 901 0)) w i.toNat) 1007 i)), .int (iI (i)), .ref (ad 31 (0))]) hx hb hml hown hts hK (c_X5_worthOn hR (gm_dr2 hGi i) i ((mdrN (st (st (st mu 900 0 0) 1029 w 2) 1031 w (mu 901 0)) w i.toNat) 901 0) (by omega) (by omega)) ms_X5_worthOn kw_885 (wr_recv hK hR (md_5 (gm_dr2 hGi i)) rfl rfl) ⟨by decide, by decide⟩ ⟨by decide, by decide⟩ rfl rfl hl.1 rfl (lv_room (Nat.le_of_ble_eq_true rfl)) dX5_drop_167) ?_
                      have g63 := mWorth_rng (gm_dr2 hGi i) (i) (((mdrN (st (st (st mu 900 0 0) 1029 w 2) 1031 w (mu 901 0)) w i.toNat) 901 0))
                      have m1 := mul_rng (a := (mdrN (st (st (st mu 900 0 0) 1029 w 2) 1031 w (mu 901 0)) w i.toNat) 1007 i) (m := 100) (b := mWorth (mdr2 (mdrN (st (st (st mu 900 0 0) 1029 w 2) 1031 w (mu 901 0)) w i.toNat) i) i ((mdrN (st (st (st mu 900 0 0) 1029 w 2) 1031 w (mu 901 0)) w i.toNat) 901 0)) (n := 100000) (by omega) (by omega)
                      refine xr_imul hx hb dX5_drop_170 ?_
                      refine lv_bipush (v := iI (100)) hx hb dX5_drop_171 (by decide) ?_
                      refine xr_idiv hx hb dX5_drop_173 (by omega) (by omega) ?_
                      refine xs_1011 (v := (((mdrN (st (st (st mu 900 0 0) 1029 w 2) 1031 w (mu 901 0)) w i.toNat) 1007 i) * (mWorth (mdr2 (mdrN (st (st (st mu 900 0 0) 1029 w 2) 1031 w (mu 901 0)) w i.toNat) i) i ((mdrN (st (st (st mu 900 0 0) 1029 w 2) 1031 w (mu 901 0)) w i.toNat) 901 0))) / 100) hx hb hK hR hS (md_31 (gm_dr2 hGi i)) (by omega) dX5_drop_174 (fun H locs hR hS => ?_)
                      have hP : (((mdrN (st (st (st mu 900 0 0) 1029 w 2) 1031 w (mu 901 0)) w i.toNat) 1007 i) * (mWorth (mdr2 (mdrN (st (st (st mu 900 0 0) 1029 w 2) 1031 w (mu 901 0)) w i.toNat) i) i ((mdrN (st (st (st mu 900 0 0) 1029 w 2) 1031 w (mu 901 0)) w i.toNat) 901 0))) / 100 = mdrP (mdrN (st (st (st mu 900 0 0) 1029 w 2) 1031 w (mu 901 0)) w i.toNat) i := by unfold mdrP; first | (exfalso; omega) | rw [if_pos (by omega)] | rw [if_neg (by omega)]
                      have hR : RM D cy A ad (mdr3 (mdrN (st (st (st mu 900 0 0) 1029 w 2) 1031 w (mu 901 0)) w i.toNat) i) H := by unfold mdr3; rw [← hP]; exact hR
                      refine lv_iload_n hx hb dX5_drop_175 rfl (lv_at hl 2 rfl) ?_
                      refine lv_aload_n hx hb dX5_drop_176 rfl (lv_at hl 0 rfl) ?_
                      refine xg_910 (v := (mdr3 (mdrN (st (st (st mu 900 0 0) 1029 w 2) 1031 w (mu 901 0)) w i.toNat) i) 910 0) hx hb hw5 hown hK hR (md_5 (gm_dr3 hGi i)) (hts _ kw_758) rfl dX5_drop_177 ?_
                      have q64 : (mdr3 (mdrN (st (st (st mu 900 0 0) 1029 w 2) 1031 w (mu 901 0)) w i.toNat) i) 910 0 = 0 := mh_910 (gm_dr3 hGi i)
                      rw [q64, rv_p (Int.le_refl 0)]
                      refine lv_iload_n hx hb dX5_drop_180 rfl (lv_at hl 3 rfl) ?_
                      refine xa_1010 (v := mdrO (mdrN (st (st (st mu 900 0 0) 1029 w 2) 1031 w (mu 901 0)) w i.toNat) i) hx hb hK hR (md_30 (gm_dr3 hGi i)) (by omega) (mdr3_o) dX5_drop_181 ?_
                      refine lv_iconst (v := iI (-1)) hx hb dX5_drop_182 rfl ?_
                      refine xr_icmp_ne (tgt := 190) hx hb dX5_drop_183 (by decide) (by omega) (by omega) (fun h65 => ?_) (fun h65 => ?_)
                      · skip
                        refine lv_iconst (v := iI (1)) hx hb dX5_drop_190 rfl ?_
                        refine xr_iadd hx hb dX5_drop_191 ?_
                        refine lv_istore_n (i := 2) (lv' := [(2, .int (iI (acc + 1))), (0, .ref (ad 5 (0))), (1, .int (iI (w))), (3, .int (iI (i)))]) hx hb dX5_drop_192 rfl hl (by decide) rfl (fun ls hl => ?_)
                        refine lv_iinc (v := iI (i + (1))) (lv' := [(3, .int (iI (i + (1)))), (2, .int (iI (acc + 1))), (0, .ref (ad 5 (0))), (1, .int (iI (w)))]) hx hb dX5_drop_193 hl (k := 3) rfl (iI_add _ _) (by decide) rfl (fun ls hl => ?_)
                        refine lv_goto (tgt := 61) hx hb dX5_drop_196 (by decide) ?_
                        exact ih (i + 1) (acc + 1) (by omega) (by omega) (by rw [mdrC_s hi0, ← hacc]; first | (exfalso; omega) | rw [if_pos (by omega)] | (rw [if_neg (by omega), if_pos (by omega)]; first | rw [if_pos (by omega)] | rw [if_neg (by omega)]) | rw [if_neg (by omega), if_neg (by omega)]) (by omega) _ _ (by first | (exfalso; omega) | rw [mdr_s hi0]; first | (rw [if_pos (by omega)]; exact hR) | (rw [if_neg (by omega), if_pos (by omega)]; exact hR) | (rw [if_neg (by omega), if_neg (by omega)]; exact hR)) hS ls (lv_sub hl [2, 3, 1, 0] rfl)
                      · skip
                        refine lv_iconst (v := iI (0)) hx hb dX5_drop_186 rfl ?_
                        refine lv_goto (tgt := 191) hx hb dX5_drop_187 (by decide) ?_
                        refine xr_iadd hx hb dX5_drop_191 ?_
                        refine lv_istore_n (i := 2) (lv' := [(2, .int (iI (acc + 0))), (0, .ref (ad 5 (0))), (1, .int (iI (w))), (3, .int (iI (i)))]) hx hb dX5_drop_192 rfl hl (by decide) rfl (fun ls hl => ?_)
                        refine lv_iinc (v := iI (i + (1))) (lv' := [(3, .int (iI (i + (1)))), (2, .int (iI (acc + 0))), (0, .ref (ad 5 (0))), (1, .int (iI (w)))]) hx hb dX5_drop_193 hl (k := 3) rfl (iI_add _ _) (by decide) rfl (fun ls hl => ?_)
                        refine lv_goto (tgt := 61) hx hb dX5_drop_196 (by decide) ?_
                        exact ih (i + 1) (acc + 0) (by omega) (by omega) (by rw [mdrC_s hi0, ← hacc]; first | (exfalso; omega) | rw [if_pos (by omega)] | (rw [if_neg (by omega), if_pos (by omega)]; first | rw [if_pos (by omega)] | rw [if_neg (by omega)]) | rw [if_neg (by omega), if_neg (by omega)]) (by omega) _ _ (by first | (exfalso; omega) | rw [mdr_s hi0]; first | (rw [if_pos (by omega)]; exact hR) | (rw [if_neg (by omega), if_pos (by omega)]; exact hR) | (rw [if_neg (by omega), if_neg (by omega)]; exact hR)) hS ls (lv_sub hl [2, 3, 1, 0] rfl)
                    · skip
                      refine lv_iconst (v := iI (0)) hx hb dX5_drop_151 rfl ?_
                      refine lv_goto (tgt := 174) hx hb dX5_drop_152 (by decide) ?_
                      refine xs_1011 (v := 0) hx hb hK hR hS (md_31 (gm_dr2 hGi i)) (by omega) dX5_drop_174 (fun H locs hR hS => ?_)
                      have hP : 0 = mdrP (mdrN (st (st (st mu 900 0 0) 1029 w 2) 1031 w (mu 901 0)) w i.toNat) i := by unfold mdrP; first | (exfalso; omega) | rw [if_pos (by omega)] | rw [if_neg (by omega)]
                      have hR : RM D cy A ad (mdr3 (mdrN (st (st (st mu 900 0 0) 1029 w 2) 1031 w (mu 901 0)) w i.toNat) i) H := by unfold mdr3; rw [← hP]; exact hR
                      refine lv_iload_n hx hb dX5_drop_175 rfl (lv_at hl 2 rfl) ?_
                      refine lv_aload_n hx hb dX5_drop_176 rfl (lv_at hl 0 rfl) ?_
                      refine xg_910 (v := (mdr3 (mdrN (st (st (st mu 900 0 0) 1029 w 2) 1031 w (mu 901 0)) w i.toNat) i) 910 0) hx hb hw5 hown hK hR (md_5 (gm_dr3 hGi i)) (hts _ kw_758) rfl dX5_drop_177 ?_
                      have q66 : (mdr3 (mdrN (st (st (st mu 900 0 0) 1029 w 2) 1031 w (mu 901 0)) w i.toNat) i) 910 0 = 0 := mh_910 (gm_dr3 hGi i)
                      rw [q66, rv_p (Int.le_refl 0)]
                      refine lv_iload_n hx hb dX5_drop_180 rfl (lv_at hl 3 rfl) ?_
                      refine xa_1010 (v := mdrO (mdrN (st (st (st mu 900 0 0) 1029 w 2) 1031 w (mu 901 0)) w i.toNat) i) hx hb hK hR (md_30 (gm_dr3 hGi i)) (by omega) (mdr3_o) dX5_drop_181 ?_
                      refine lv_iconst (v := iI (-1)) hx hb dX5_drop_182 rfl ?_
                      refine xr_icmp_ne (tgt := 190) hx hb dX5_drop_183 (by decide) (by omega) (by omega) (fun h67 => ?_) (fun h67 => ?_)
                      · skip
                        refine lv_iconst (v := iI (1)) hx hb dX5_drop_190 rfl ?_
                        refine xr_iadd hx hb dX5_drop_191 ?_
                        refine lv_istore_n (i := 2) (lv' := [(2, .int (iI (acc + 1))), (0, .ref (ad 5 (0))), (1, .int (iI (w))), (3, .int (iI (i)))]) hx hb dX5_drop_192 rfl hl (by decide) rfl (fun ls hl => ?_)
                        refine lv_iinc (v := iI (i + (1))) (lv' := [(3, .int (iI (i + (1)))), (2, .int (iI (acc + 1))), (0, .ref (ad 5 (0))), (1, .int (iI (w)))]) hx hb dX5_drop_193 hl (k := 3) rfl (iI_add _ _) (by decide) rfl (fun ls hl => ?_)
                        refine lv_goto (tgt := 61) hx hb dX5_drop_196 (by decide) ?_
                        exact ih (i + 1) (acc + 1) (by omega) (by omega) (by rw [mdrC_s hi0, ← hacc]; first | (exfalso; omega) | rw [if_pos (by omega)] | (rw [if_neg (by omega), if_pos (by omega)]; first | rw [if_pos (by omega)] | rw [if_neg (by omega)]) | rw [if_neg (by omega), if_neg (by omega)]) (by omega) _ _ (by first | (exfalso; omega) | rw [mdr_s hi0]; first | (rw [if_pos (by omega)]; exact hR) | (rw [if_neg (by omega), if_pos (by omega)]; exact hR) | (rw [if_neg (by omega), if_neg (by omega)]; exact hR)) hS ls (lv_sub hl [2, 3, 1, 0] rfl)
                      · skip
                        refine lv_iconst (v := iI (0)) hx hb dX5_drop_186 rfl ?_
                        refine lv_goto (tgt := 191) hx hb dX5_drop_187 (by decide) ?_
                        refine xr_iadd hx hb dX5_drop_191 ?_
                        refine lv_istore_n (i := 2) (lv' := [(2, .int (iI (acc + 0))), (0, .ref (ad 5 (0))), (1, .int (iI (w))), (3, .int (iI (i)))]) hx hb dX5_drop_192 rfl hl (by decide) rfl (fun ls hl => ?_)
                        refine lv_iinc (v := iI (i + (1))) (lv' := [(3, .int (iI (i + (1)))), (2, .int (iI (acc + 0))), (0, .ref (ad 5 (0))), (1, .int (iI (w)))]) hx hb dX5_drop_193 hl (k := 3) rfl (iI_add _ _) (by decide) rfl (fun ls hl => ?_)
                        refine lv_goto (tgt := 61) hx hb dX5_drop_196 (by decide) ?_
                        exact ih (i + 1) (acc + 0) (by omega) (by omega) (by rw [mdrC_s hi0, ← hacc]; first | (exfalso; omega) | rw [if_pos (by omega)] | (rw [if_neg (by omega), if_pos (by omega)]; first | rw [if_pos (by omega)] | rw [if_neg (by omega)]) | rw [if_neg (by omega), if_neg (by omega)]) (by omega) _ _ (by first | (exfalso; omega) | rw [mdr_s hi0]; first | (rw [if_pos (by omega)]; exact hR) | (rw [if_neg (by omega), if_pos (by omega)]; exact hR) | (rw [if_neg (by omega), if_neg (by omega)]; exact hR)) hS ls (lv_sub hl [2, 3, 1, 0] rfl)
              · skip
                refine lv_aload_n hx hb dX5_drop_86 rfl (lv_at hl 0 rfl) ?_
                refine lv_iload_n hx hb dX5_drop_87 rfl (lv_at hl 3 rfl) ?_
                refine xk_mF (xr_V (As := [.int (iI (i))]) (rest := []) hx hb hml hown hts hK (c_X5_letGo hR hGi i (by omega)) ms_X5_letGo kw_962 (wr_recv hK hR (md_5 hGi) rfl rfl) ⟨by decide, by decide⟩ ⟨by decide, by decide⟩ rfl rfl hl.1 rfl (lv_room (by decide)) dX5_drop_88) hS (fun H locs hR hS hz hq => ?_)
                have G68 : GM (mLgT (mdrN (st (st (st mu 900 0 0) 1029 w 2) 1031 w (mu 901 0)) w i.toNat) i) := gm_lgN hGi _ _
                refine lv_goto (tgt := 193) hx hb dX5_drop_91 (by decide) ?_
                refine lv_iinc (v := iI (i + (1))) (lv' := [(3, .int (iI (i + (1)))), (0, .ref (ad 5 (0))), (1, .int (iI (w))), (2, .int (iI (acc)))]) hx hb dX5_drop_193 hl (k := 3) rfl (iI_add _ _) (by decide) rfl (fun ls hl => ?_)
                refine lv_goto (tgt := 61) hx hb dX5_drop_196 (by decide) ?_
                exact ih (i + 1) acc (by omega) (by omega) (by rw [mdrC_s hi0, ← hacc]; first | (exfalso; omega) | rw [if_pos (by omega)] | (rw [if_neg (by omega), if_pos (by omega)]; first | rw [if_pos (by omega)] | rw [if_neg (by omega)]) | rw [if_neg (by omega), if_neg (by omega)]) (by omega) _ _ (by first | (exfalso; omega) | rw [mdr_s hi0]; first | (rw [if_pos (by omega)]; exact hR) | (rw [if_neg (by omega), if_pos (by omega)]; exact hR) | (rw [if_neg (by omega), if_neg (by omega)]; exact hR)) hS ls (lv_sub hl [1, 2, 3, 0] rfl)
      exact loop61 _ 0 0 (by decide) (by decide) rfl (Nat.lt_succ_self _) _ _ hR hS ls (lv_sub hl [2, 3, 1, 0] rfl)
    · skip
      refine lv_iconst (v := iI (2)) hx hb dX5_drop_23 rfl ?_
      refine lv_goto (tgt := 28) hx hb dX5_drop_24 (by decide) ?_
      refine xp_900 (v := 2) hx hb hw5 hown hK hR hS (md_5 hG) (hts _ kw_748) dX5_drop_28 (fun H locs hR hS => ?_)
      refine lv_aload_n hx hb dX5_drop_31 rfl (lv_at hl 0 rfl) ?_
      refine xg_900 (v := 2) hx hb hw5 hown hK hR ((dmM_st (by decide) _ _).mpr (md_5 hG)) (hts _ kw_748) (st_s) dX5_drop_32 ?_
      refine xr_if_le (tgt := 40) hx hb dX5_drop_35 (by decide) (by decide) (fun h69 => absurd h69 (by decide)) (fun _ => ?_)
      refine lv_iconst (v := iI (0)) hx hb dX5_drop_38 rfl ?_
      exact xm_i hx hb hr hlk hS dX5_drop_39 (by exact (mR_k (2) (by ((try unfold mDraft at *); (try unfold mTaken at *); unfold dropME; (repeat' split) <;> first | rfl | omega)) (by decide)).symm) (by rw [mT_k (2) (by ((try unfold mDraft at *); (try unfold mTaken at *); unfold dropME; (repeat' split) <;> first | rfl | omega)) (by decide)]; exact hR)
  · skip
    refine lv_iconst (v := iI (1)) hx hb dX5_drop_9 rfl ?_
    refine lv_goto (tgt := 28) hx hb dX5_drop_10 (by decide) ?_
    refine xp_900 (v := 1) hx hb hw5 hown hK hR hS (md_5 hG) (hts _ kw_748) dX5_drop_28 (fun H locs hR hS => ?_)
    refine lv_aload_n hx hb dX5_drop_31 rfl (lv_at hl 0 rfl) ?_
    refine xg_900 (v := 1) hx hb hw5 hown hK hR ((dmM_st (by decide) _ _).mpr (md_5 hG)) (hts _ kw_748) (st_s) dX5_drop_32 ?_
    refine xr_if_le (tgt := 40) hx hb dX5_drop_35 (by decide) (by decide) (fun h70 => absurd h70 (by decide)) (fun _ => ?_)
    refine lv_iconst (v := iI (0)) hx hb dX5_drop_38 rfl ?_
    exact xm_i hx hb hr hlk hS dX5_drop_39 (by exact (mR_k (1) (by ((try unfold mDraft at *); (try unfold mTaken at *); unfold dropME; (repeat' split) <;> first | rfl | omega)) (by decide)).symm) (by rw [mT_k (1) (by ((try unfold mDraft at *); (try unfold mTaken at *); unfold dropME; (repeat' split) <;> first | rfl | omega)) (by decide)]; exact hR)
