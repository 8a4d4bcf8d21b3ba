theorem ms_X4_offer : MSt yX4_offer cX4_offer 3 none 3 := ⟨kw_630, kw_629, kw_1, by decide, by decide, by decide +kernel⟩
set_option maxRecDepth 100000 in
set_option maxHeartbeats 4000000 in
theorem c_X4_offer {l : Launch} {D : va_G} {cy : Nat → ClassId} {A : Nat → Prop} {ad : Nat → Int → Nat} {sg : Nat → Int → Int} {H : Heap} (hR : RC D cy A ad sg H) (hG : GC sg)  (j : Int) (w : Int) {x_w : Value} (hx_w : x_w = rv (ad 0) w) (pr : Int) (h1 : 0 ≤ j ∧ j < 36) (h2 : -1 ≤ w ∧ w < sg 503 0) (h3 : 0 ≤ pr ∧ pr ≤ 100000) : Met l yX4_offer (Cond.code yX4_offer cX4_offer 3 none :: wG) (rmF 0 0 0 0) (Pc D cy H [.ref (ad 1 (j)), x_w, .int (iI (pr))]) (Qm none (fun H' => RC D cy A ad (offT sg j w pr) H') A) 0 0 A := by
  subst hx_w
  refine met_of (la := [(0, .ref (ad 1 (j))), (1, rv (ad 0) (w)), (2, .int (iI (pr)))]) (by decide) (by simp [lg_sl, rv_cat, cat_i, cat_l, cat_r, cat_n]) (by simp [lv_args, rv_cat, cat_i, cat_l, cat_r, cat_n]) ?_
  intro p e R s m args below meth c ls hRm hx hb hml hr hlk hin hown hts hsH hK hl
  subst hRm
  have hown : s.vm.findClass "Takinghall" = some m.cls := hown
  have hw1 : ∀ w ∈ u_ws RX1 TX1 11, w.before args s = true := fun w h => hts w (uw_X1 w h)
  have hS : va_S A s.heap H [] := by rw [hsH]; exact va_S.rf
  refine lv_aload_n hx hb dX4_offer_0 rfl (lv_at hl 0 rfl) ?_
  refine lv_ifnull hx hb dX4_offer_1 ?_
  refine lv_aload_n hx hb dX4_offer_4 rfl (lv_at hl 0 rfl) ?_
  refine xr_aload_n hx hb dX4_offer_5 rfl (lv_at hl 1 rfl) ?_
  refine xp_209 (v := w) hx hb hw1 hown hK hR hS (gd_1 hG (by omega)) rfl (hts _ kw_48) dX4_offer_6 (fun H locs hR hS => ?_)
  refine lv_aload_n hx hb dX4_offer_9 rfl (lv_at hl 0 rfl) ?_
  refine xr_aload_n hx hb dX4_offer_10 rfl (lv_at hl 1 rfl) ?_
  refine xr_ifnonnull (tgt := 18) hx hb dX4_offer_11 (by decide) (fun h2 => ?_) (fun h2 => ?_)
  · skip
    rw [rv_p h2] at hl
    refine lv_iload_n hx hb dX4_offer_18 rfl (lv_at hl 2 rfl) ?_
    refine xp_210 (v := pr) hx hb hw1 hown hK hR hS ((dm_st (by decide) _ _).mpr (gd_1 hG (by omega))) (hts _ kw_49) dX4_offer_19 (fun H locs hR hS => ?_)
    exact xm_v hx hb hr hlk hS dX4_offer_22 (by unfold offT; first | (rw [if_pos (by omega)]; exact hR) | (rw [if_neg (by omega)]; exact hR))
  · skip
    rw [rv_n h2] at hl
    refine lv_iconst (v := iI (0)) hx hb dX4_offer_14 rfl ?_
    refine lv_goto (tgt := 19) hx hb dX4_offer_15 (by decide) ?_
    refine xp_210 (v := 0) hx hb hw1 hown hK hR hS ((dm_st (by decide) _ _).mpr (gd_1 hG (by omega))) (hts _ kw_49) dX4_offer_19 (fun H locs hR hS => ?_)
    exact xm_v hx hb hr hlk hS dX4_offer_22 (by unfold offT; first | (rw [if_pos (by omega)]; exact hR) | (rw [if_neg (by omega)]; exact hR))
theorem ms_X4_release : MVi RX4 yX4_release cX4_release 6 none 1 := ⟨kw_573, kw_572, kp_19, kw_1, rfl, by decide, by decide, by decide +kernel⟩
set_option maxRecDepth 100000 in
set_option maxHeartbeats 4000000 in
theorem c_X4_release {l : Launch} {D : va_G} {cy : Nat → ClassId} {A : Nat → Prop} {ad : Nat → Int → Nat} {sg : Nat → Int → Int} {H : Heap} (hR : RC D cy A ad sg H) (hG : GC sg)  (j : Int) (h1 : 0 ≤ j ∧ j < 36) : Met l yX4_release (Cond.code yX4_release cX4_release 6 none :: wG) (rmF 0 0 0 0) (Pc D cy H [.ref (ad 4 (0)), .ref (ad 1 (j))]) (Qm none (fun H' => RC D cy A ad (relT sg j) H') A) 0 0 A := by
  refine met_of (la := [(0, .ref (ad 4 (0))), (1, .ref (ad 1 (j)))]) (by decide) (Nat.le_of_ble_eq_true rfl) rfl ?_
  intro p e R s m args below meth c ls hRm hx hb hml hr hlk hin hown hts hsH hK hl
  subst hRm
  have hown : s.vm.findClass "Takinghall" = some m.cls := hown
  have hw0 : ∀ w ∈ u_ws RX0 TX0 15, w.before args s = true := fun w h => hts w (uw_X0 w h)
  have hw1 : ∀ w ∈ u_ws RX1 TX1 11, w.before args s = true := fun w h => hts w (uw_X1 w h)
  have hw4 : ∀ w ∈ u_ws RX4 TX4 12, w.before args s = true := fun w h => hts w (uw_X4 w h)
  have hS : va_S A s.heap H [] := by rw [hsH]; exact va_S.rf
  have g503 := gr_503 hG 0
  refine lv_aload_n hx hb dX4_release_0 rfl (lv_at hl 1 rfl) ?_
  refine lv_ifnonnull (tgt := 5) hx hb dX4_release_1 (by decide) ?_
  refine lv_aload_n hx hb dX4_release_5 rfl (lv_at hl 1 rfl) ?_
  refine lv_null hx hb dX4_release_6 ?_
  refine xp_204 (v := -1) hx hb hw1 hown hK hR hS (gd_1 hG (by omega)) ((rv_n (v := -1) (by decide)).symm) (hts _ kw_42) dX4_release_7 (fun H locs hR hS => ?_)
  refine lv_aload_n hx hb dX4_release_10 rfl (lv_at hl 1 rfl) ?_
  refine lv_iconst (v := iI (0)) hx hb dX4_release_11 rfl ?_
  refine xp_205 (v := 0) hx hb hw1 hown hK hR hS ((dm_st (by decide) _ _).mpr (gd_1 hG (by omega))) (hts _ kw_43) dX4_release_12 (fun H locs hR hS => ?_)
  refine lv_aload_n hx hb dX4_release_15 rfl (lv_at hl 0 rfl) ?_
  refine xg_502 (v := sg 502 0) hx hb hw4 hown hK hR ((dm_st (by decide) _ _).mpr ((dm_st (by decide) _ _).mpr (gd_4 hG))) (hts _ kw_93) ((st_f (by decide)).trans ((st_f (by decide)).trans rfl)) dX4_release_16 ?_
  have g2 := gh_502 hG (0)
  have q3 : sg 502 0 = 0 := gh_502 hG _
  rw [q3, rv_p (Int.le_refl 0)]
  refine lv_astore_n (i := 2) (lv' := [(2, .ref (ad 9 (0))), (0, .ref (ad 4 (0))), (1, .ref (ad 1 (j)))]) hx hb dX4_release_19 rfl hl (by decide) rfl (fun ls hl => ?_)
  refine lv_aload_n hx hb dX4_release_20 rfl (lv_at hl 0 rfl) ?_
  refine xl_600 hx hb hK hR ((dm_st (by decide) _ _).mpr ((dm_st (by decide) _ _).mpr (gd_9 hG))) dX4_release_21 ?_
  refine lv_istore_n (i := 3) (lv' := [(3, .int (iI (24))), (2, .ref (ad 9 (0))), (0, .ref (ad 4 (0))), (1, .ref (ad 1 (j)))]) hx hb dX4_release_22 rfl hl (by decide) rfl (fun ls hl => ?_)
  refine lv_iconst (v := iI (0)) hx hb dX4_release_23 rfl ?_
  refine lv_istore (i := 4) (lv' := [(4, .int (iI (0))), (3, .int (iI (24))), (2, .ref (ad 9 (0))), (0, .ref (ad 4 (0))), (1, .ref (ad 1 (j)))]) hx hb dX4_release_24 hl (by decide) rfl (fun ls hl => ?_)
  have loop26 : ∀ (n : Nat) (i : Int), 0 ≤ i → i ≤ 24 → (24 - i).toNat ≤ n → ∀ (H : Heap) (locs : List Loc), RC D cy A ad (relN sg j i) H → va_S A s.heap H locs → ∀ ls : Array Slot, lv_has ls 6 [(0, .ref (ad 4 (0))), (1, .ref (ad 1 (j))), (2, .ref (ad 9 (0))), (3, .int (iI (24))), (4, .int (iI (i)))] → W p l e (rmF 0 0 0 0) s m args below meth c H locs 0 0 (MQ below (Qm none (fun H' => RC D cy A ad (relT sg j) H') A) args s 0 0 A) (F0 m 26 ls []) := by
    intro n
    induction n with
    | zero =>
      intro i hi0 hi1 hn H locs hR hS ls hl
      refine lv_iload hx hb dX4_release_26 (lv_at hl 4 rfl) ?_
      refine lv_iload_n hx hb dX4_release_28 rfl (lv_at hl 3 rfl) ?_
      refine xr_icmp_ge (tgt := 76) hx hb dX4_release_29 (by decide) (by omega) (by omega) (fun h4 => ?_) (fun h4 => ?_)
      · skip
        exact xm_v hx hb hr hlk hS dX4_release_76 (by have e : i = 24 := (by omega); subst e; exact hR)
      · skip
        refine lv_aload_n hx hb dX4_release_32 rfl (lv_at hl 2 rfl) ?_
        refine lv_iload hx hb dX4_release_33 (lv_at hl 4 rfl) ?_
        refine xa_600 (v := sg 600 i) hx hb hK hR ((dm_rel _ (gd_9 hG))) (by omega) rfl dX4_release_35 ?_
        have q5 := ga_600 hG (q := i) (by omega)
        rcases (show i < sg 503 0 ∨ sg 503 0 ≤ i by omega) with i6 | i6
        · skip
          rw [if_pos i6] at q5
          rw [q5, rv_p (f := ad 0) (v := i) (by omega)]
          refine lv_astore (i := 5) (lv' := [(5, .ref (ad 0 (i))), (0, .ref (ad 4 (0))), (1, .ref (ad 1 (j))), (2, .ref (ad 9 (0))), (3, .int (iI (24))), (4, .int (iI (i)))]) hx hb dX4_release_36 hl (by decide) rfl (fun ls hl => ?_)
          refine lv_aload hx hb dX4_release_38 (lv_at hl 0 rfl) ?_
          refine lv_ifnull hx hb dX4_release_40 ?_
          refine lv_aload hx hb dX4_release_43 (lv_at hl 0 rfl) ?_
          refine xg_102 (v := sg 102 i) hx hb hw0 hown hK hR ((dm_rel _ (gd_0 hG (by omega)))) (hts _ kw_476) rfl dX4_release_45 ?_
          have g8 := gr_102 hG (i)
          rw [rv_p (f := ad 1) (v := sg 102 i) (by omega)]
          refine lv_aload_n hx hb dX4_release_48 rfl (lv_at hl 2 rfl) ?_
          refine lv_acmp_ne (rx := some (ad 1 (sg 102 i))) (ry := some (ad 1 (j))) (tgt := 70) hx hb dX4_release_49 (by decide) (fun h9 => ?_) (fun h9 => ?_)
          · skip
            rw [← ro_p (f := ad 1) (v := sg 102 i) (by omega), ← ro_p (f := ad 1) (v := j) (by omega)] at h9
            have h10 := (not_congr (wr_eq hR (k := 1) (a := sg 102 i) (b := j) (fun _ => ((dm_rel _ (gd_1 hG (by omega))))) (fun _ => ((dm_rel _ (gd_1 hG (by omega))))))).mp h9
            refine lv_iinc (v := iI (i + (1))) (lv' := [(4, .int (iI (i + (1)))), (5, .ref (ad 0 (i))), (0, .ref (ad 4 (0))), (1, .ref (ad 1 (j))), (2, .ref (ad 9 (0))), (3, .int (iI (24)))]) hx hb dX4_release_70 hl (k := 5) rfl (iI_add _ _) (by decide) rfl (fun ls hl => ?_)
            refine lv_goto (tgt := 26) hx hb dX4_release_73 (by decide) ?_
            exact absurd hn (by omega)
          · skip
            rw [← ro_p (f := ad 1) (v := sg 102 i) (by omega), ← ro_p (f := ad 1) (v := j) (by omega)] at h9
            have h11 := (wr_eq hR (k := 1) (a := sg 102 i) (b := j) (fun _ => ((dm_rel _ (gd_1 hG (by omega))))) (fun _ => ((dm_rel _ (gd_1 hG (by omega)))))).mp h9
            refine lv_aload hx hb dX4_release_52 (lv_at hl 0 rfl) ?_
            refine lv_iconst (v := iI (-1)) hx hb dX4_release_54 rfl ?_
            refine xp_107 (v := -1) hx hb hw0 hown hK hR hS ((dm_rel _ (gd_0 hG (by omega)))) (hts _ kw_486) dX4_release_55 (fun H locs hR hS => ?_)
            refine lv_aload hx hb dX4_release_58 (lv_at hl 0 rfl) ?_
            refine lv_iconst (v := iI (0)) hx hb dX4_release_60 rfl ?_
            refine xp_108 (v := 0) hx hb hw0 hown hK hR hS ((dm_st (by decide) _ _).mpr ((dm_rel _ (gd_0 hG (by omega))))) (by omega) (hts _ kw_487) dX4_release_61 (fun H locs hR hS => ?_)
            refine lv_aload hx hb dX4_release_64 (lv_at hl 0 rfl) ?_
            refine lv_iconst (v := iI (0)) hx hb dX4_release_66 rfl ?_
            refine xp_109 (v := 0) hx hb hw0 hown hK hR hS ((dm_st (by decide) _ _).mpr ((dm_st (by decide) _ _).mpr ((dm_rel _ (gd_0 hG (by omega)))))) (by omega) (hts _ kw_488) dX4_release_67 (fun H locs hR hS => ?_)
            refine lv_iinc (v := iI (i + (1))) (lv' := [(4, .int (iI (i + (1)))), (5, .ref (ad 0 (i))), (0, .ref (ad 4 (0))), (1, .ref (ad 1 (j))), (2, .ref (ad 9 (0))), (3, .int (iI (24)))]) hx hb dX4_release_70 hl (k := 5) rfl (iI_add _ _) (by decide) rfl (fun ls hl => ?_)
            refine lv_goto (tgt := 26) hx hb dX4_release_73 (by decide) ?_
            exact absurd hn (by omega)
        · skip
          rw [if_neg (by omega)] at q5
          rw [q5, rv_n (f := ad 0) (v := -1) (by decide)]
          refine lv_astoreN (i := 5) (lv' := [(5, .null), (0, .ref (ad 4 (0))), (1, .ref (ad 1 (j))), (2, .ref (ad 9 (0))), (3, .int (iI (24))), (4, .int (iI (i)))]) hx hb dX4_release_36 hl (by decide) rfl (fun ls hl => ?_)
          refine lv_aloadN hx hb dX4_release_38 (lv_at hl 0 rfl) ?_
          refine lv_ifnullN (tgt := 70) hx hb dX4_release_40 (by decide) ?_
          refine lv_iinc (v := iI (i + (1))) (lv' := [(4, .int (iI (i + (1)))), (5, .null), (0, .ref (ad 4 (0))), (1, .ref (ad 1 (j))), (2, .ref (ad 9 (0))), (3, .int (iI (24)))]) hx hb dX4_release_70 hl (k := 5) rfl (iI_add _ _) (by decide) rfl (fun ls hl => ?_)
          refine lv_goto (tgt := 26) hx hb dX4_release_73 (by decide) ?_
          exact absurd hn (by omega)
    | succ n ih =>
      intro i hi0 hi1 hn H locs hR hS ls hl
      refine lv_iload hx hb dX4_release_26 (lv_at hl 4 rfl) ?_
      refine lv_iload_n hx hb dX4_release_28 rfl (lv_at hl 3 rfl) ?_
      refine xr_icmp_ge (tgt := 76) hx hb dX4_release_29 (by decide) (by omega) (by omega) (fun h13 => ?_) (fun h13 => ?_)
      · skip
        exact xm_v hx hb hr hlk hS dX4_release_76 (by have e : i = 24 := (by omega); subst e; exact hR)
      · skip
        refine lv_aload_n hx hb dX4_release_32 rfl (lv_at hl 2 rfl) ?_
        refine lv_iload hx hb dX4_release_33 (lv_at hl 4 rfl) ?_
        refine xa_600 (v := sg 600 i) hx hb hK hR ((dm_rel _ (gd_9 hG))) (by omega) rfl dX4_release_35 ?_
        have q14 := ga_600 hG (q := i) (by omega)
        rcases (show i < sg 503 0 ∨ sg 503 0 ≤ i by omega) with i15 | i15
        · skip
          rw [if_pos i15] at q14
          rw [q14, rv_p (f := ad 0) (v := i) (by omega)]
          refine lv_astore (i := 5) (lv' := [(5, .ref (ad 0 (i))), (0, .ref (ad 4 (0))), (1, .ref (ad 1 (j))), (2, .ref (ad 9 (0))), (3, .int (iI (24))), (4, .int (iI (i)))]) hx hb dX4_release_36 hl (by decide) rfl (fun ls hl => ?_)
          refine lv_aload hx hb dX4_release_38 (lv_at hl 0 rfl) ?_
          refine lv_ifnull hx hb dX4_release_40 ?_
          refine lv_aload hx hb dX4_release_43 (lv_at hl 0 rfl) ?_
          refine xg_102 (v := sg 102 i) hx hb hw0 hown hK hR ((dm_rel _ (gd_0 hG (by omega)))) (hts _ kw_476) rfl dX4_release_45 ?_
          have g17 := gr_102 hG (i)
          rw [rv_p (f := ad 1) (v := sg 102 i) (by omega)]
          refine lv_aload_n hx hb dX4_release_48 rfl (lv_at hl 2 rfl) ?_
          refine lv_acmp_ne (rx := some (ad 1 (sg 102 i))) (ry := some (ad 1 (j))) (tgt := 70) hx hb dX4_release_49 (by decide) (fun h18 => ?_) (fun h18 => ?_)
          · skip
            rw [← ro_p (f := ad 1) (v := sg 102 i) (by omega), ← ro_p (f := ad 1) (v := j) (by omega)] at h18
            have h19 := (not_congr (wr_eq hR (k := 1) (a := sg 102 i) (b := j) (fun _ => ((dm_rel _ (gd_1 hG (by omega))))) (fun _ => ((dm_rel _ (gd_1 hG (by omega))))))).mp h18
            refine lv_iinc (v := iI (i + (1))) (lv' := [(4, .int (iI (i + (1)))), (5, .ref (ad 0 (i))), (0, .ref (ad 4 (0))), (1, .ref (ad 1 (j))), (2, .ref (ad 9 (0))), (3, .int (iI (24)))]) hx hb dX4_release_70 hl (k := 5) rfl (iI_add _ _) (by decide) rfl (fun ls hl => ?_)
            refine lv_goto (tgt := 26) hx hb dX4_release_73 (by decide) ?_
            exact ih (i + 1) (by omega) (by omega) (by omega) _ _ (by first | (rw [← rel_y hi0 (by omega) (by omega)]; exact hR) | (rw [← rel_n (by omega)]; exact hR)) hS ls (lv_sub hl [2, 3, 4, 5, 0] rfl)
          · skip
            rw [← ro_p (f := ad 1) (v := sg 102 i) (by omega), ← ro_p (f := ad 1) (v := j) (by omega)] at h18
            have h20 := (wr_eq hR (k := 1) (a := sg 102 i) (b := j) (fun _ => ((dm_rel _ (gd_1 hG (by omega))))) (fun _ => ((dm_rel _ (gd_1 hG (by omega)))))).mp h18
            refine lv_aload hx hb dX4_release_52 (lv_at hl 0 rfl) ?_
            refine lv_iconst (v := iI (-1)) hx hb dX4_release_54 rfl ?_
            refine xp_107 (v := -1) hx hb hw0 hown hK hR hS ((dm_rel _ (gd_0 hG (by omega)))) (hts _ kw_486) dX4_release_55 (fun H locs hR hS => ?_)
            refine lv_aload hx hb dX4_release_58 (lv_at hl 0 rfl) ?_
            refine lv_iconst (v := iI (0)) hx hb dX4_release_60 rfl ?_
            refine xp_108 (v := 0) hx hb hw0 hown hK hR hS ((dm_st (by decide) _ _).mpr ((dm_rel _ (gd_0 hG (by omega))))) (by omega) (hts _ kw_487) dX4_release_61 (fun H locs hR hS => ?_)
            refine lv_aload hx hb dX4_release_64 (lv_at hl 0 rfl) ?_
            refine lv_iconst (v := iI (0)) hx hb dX4_release_66 rfl ?_
            refine xp_109 (v := 0) hx hb hw0 hown hK hR hS ((dm_st (by decide) _ _).mpr ((dm_st (by decide) _ _).mpr ((dm_rel _ (gd_0 hG (by omega)))))) (by omega) (hts _ kw_488) dX4_release_67 (fun H locs hR hS => ?_)
            refine lv_iinc (v := iI (i + (1))) (lv' := [(4, .int (iI (i + (1)))), (5, .ref (ad 0 (i))), (0, .ref (ad 4 (0))), (1, .ref (ad 1 (j))), (2, .ref (ad 9 (0))), (3, .int (iI (24)))]) hx hb dX4_release_70 hl (k := 5) rfl (iI_add _ _) (by decide) rfl (fun ls hl => ?_)
            refine lv_goto (tgt := 26) hx hb dX4_release_73 (by decide) ?_
            exact ih (i + 1) (by omega) (by omega) (by omega) _ _ (by first | (rw [← rel_y hi0 (by omega) (by omega)]; exact hR) | (rw [← rel_n (by omega)]; exact hR)) hS ls (lv_sub hl [2, 3, 4, 5, 0] rfl)
        · skip
          rw [if_neg (by omega)] at q14
          rw [q14, rv_n (f := ad 0) (v := -1) (by decide)]
          refine lv_astoreN (i := 5) (lv' := [(5, .null), (0, .ref (ad 4 (0))), (1, .ref (ad 1 (j))), (2, .ref (ad 9 (0))), (3, .int (iI (24))), (4, .int (iI (i)))]) hx hb dX4_release_36 hl (by decide) rfl (fun ls hl => ?_)
          refine lv_aloadN hx hb dX4_release_38 (lv_at hl 0 rfl) ?_
          refine lv_ifnullN (tgt := 70) hx hb dX4_release_40 (by decide) ?_
          refine lv_iinc (v := iI (i + (1))) (lv' := [(4, .int (iI (i + (1)))), (5, .null), (0, .ref (ad 4 (0))), (1, .ref (ad 1 (j))), (2, .ref (ad 9 (0))), (3, .int (iI (24)))]) hx hb dX4_release_70 hl (k := 5) rfl (iI_add _ _) (by decide) rfl (fun ls hl => ?_)
          refine lv_goto (tgt := 26) hx hb dX4_release_73 (by decide) ?_
          exact ih (i + 1) (by omega) (by omega) (by omega) _ _ (by first | (rw [← rel_y hi0 (by omega) (by omega)]; exact hR) | (rw [← rel_n (by omega)]; exact hR)) hS ls (lv_sub hl [2, 3, 4, 5, 0] rfl)
  exact loop26 _ 0 (by decide) (by decide) (Nat.le_refl _) _ _ (by rw [← rel_0]; exact hR) hS ls (lv_sub hl [3, 4, 2, 1, 0] rfl)
theorem ms_X4_letGo : MVi RX4 yX4_letGo cX4_letGo 2 (some .boolean) 1 := ⟨kw_620, kw_619, kp_24, kw_1, rfl, by decide, by decide, by decide +kernel⟩
set_option maxRecDepth 100000 in
set_option maxHeartbeats 4000000 in
theorem c_X4_letGo {l : Launch} {D : va_G} {cy : Nat → ClassId} {A : Nat → Prop} {ad : Nat → Int → Nat} {sg : Nat → Int → Int} {H : Heap} (hR : RC D cy A ad sg H) (hG : GC sg)  (j : Int) (h1 : 0 ≤ j ∧ j < 36) : Met l yX4_letGo (Cond.code yX4_letGo cX4_letGo 2 (some .boolean) :: wG) (rmF 3 62 0 0) (Pc D cy H [.ref (ad 4 (0)), .ref (ad 1 (j))]) (Qm (some (.int (iI (bI (sg 203 j ≠ 0 ∧ sg 208 j = 0 ∧ 0 ≤ ownBeh sg j (-1)))))) (fun H' => RC D cy A ad (lgT sg j) H') A) 0 0 A := by
  refine met_of (la := [(0, .ref (ad 4 (0))), (1, .ref (ad 1 (j)))]) (by decide) (Nat.le_of_ble_eq_true rfl) rfl ?_
  intro p e R s m args below meth c ls hRm hx hb hml hr hlk hin hown hts hsH hK hl
  subst hRm
  have hown : s.vm.findClass "Takinghall" = some m.cls := hown
  have hw1 : ∀ w ∈ u_ws RX1 TX1 11, w.before args s = true := fun w h => hts w (uw_X1 w h)
  have hS : va_S A s.heap H [] := by rw [hsH]; exact va_S.rf
  have g503 := gr_503 hG 0
  refine lv_aload_n hx hb dX4_letGo_0 rfl (lv_at hl 1 rfl) ?_
  refine lv_ifnonnull (tgt := 6) hx hb dX4_letGo_1 (by decide) ?_
  refine lv_aload_n hx hb dX4_letGo_6 rfl (lv_at hl 1 rfl) ?_
  refine xg_203 (v := sg 203 j) hx hb hw1 hown hK hR (gd_1 hG (by omega)) (hts _ kw_41) rfl dX4_letGo_7 ?_
  have g2 := gr_203 hG (j)
  refine xr_if_ne (tgt := 20) hx hb dX4_letGo_10 (by decide) (by omega) (fun h3 => ?_) (fun h3 => ?_)
  · skip
    refine lv_aload_n hx hb dX4_letGo_20 rfl (lv_at hl 1 rfl) ?_
    refine xg_208 (v := sg 208 j) hx hb hw1 hown hK hR (gd_1 hG (by omega)) (hts _ kw_47) rfl dX4_letGo_21 ?_
    have g4 := gr_208 hG (j)
    refine xr_if_eq (tgt := 29) hx hb dX4_letGo_24 (by decide) (by omega) (fun h5 => ?_) (fun h5 => ?_)
    · skip
      refine lv_aload_n hx hb dX4_letGo_29 rfl (lv_at hl 1 rfl) ?_
      refine lv_aload_n hx hb dX4_letGo_30 rfl (lv_at hl 0 rfl) ?_
      refine lv_aload_n hx hb dX4_letGo_31 rfl (lv_at hl 1 rfl) ?_
      refine lv_null hx hb dX4_letGo_32 ?_
      refine xk_pF (xr_V (As := [.ref (ad 1 (j)), .null]) (rest := [.ref (ad 1 (j))]) hx hb hml hown hts hK (c_X4_ownerBehind hR hG j (-1) (rv_n (by decide)).symm (by omega) (by omega)) ms_X4_ownerBehind kw_621 (wr_recv hK hR (gd_4 hG) rfl rfl) ⟨by decide, by decide⟩ ⟨by decide, by decide⟩ rfl rfl hl.1 rfl (lv_room (Nat.le_of_ble_eq_true rfl)) dX4_letGo_33) ?_
      have g6 := ownBeh_rng hG (j) ((-1))
      refine lv_aload_n hx hb dX4_letGo_36 rfl (lv_at hl 0 rfl) ?_
      refine lv_aload_n hx hb dX4_letGo_37 rfl (lv_at hl 1 rfl) ?_
      refine xk_pF (xr_V (As := [.ref (ad 1 (j))]) (rest := [rv (ad 0) (ownBeh sg j (-1)), .ref (ad 1 (j))]) hx hb hml hown hts hK (c_X4_worthToday hR hG j ((rv_p (by omega)).symm) (by omega)) ms_X4_worthToday kw_272 (wr_recv hK hR (gd_4 hG) rfl rfl) ⟨by decide, by decide⟩ ⟨by decide, by decide⟩ rfl rfl hl.1 rfl (lv_room (by simp [rv_cat, cat_i, cat_l, cat_r, cat_n])) dX4_letGo_38) ?_
      have g7 := worthT_rng hG (j)
      refine lv_aload_n hx hb dX4_letGo_41 rfl (lv_at hl 1 rfl) ?_
      refine xg_205 (v := sg 205 j) hx hb hw1 hown hK hR (gd_1 hG (by omega)) (hts _ kw_43) rfl dX4_letGo_42 ?_
      have g8 := gr_205 hG (j)
      have m1 := mul_rng (a := worthT sg j) (m := 100000) (b := sg 205 j) (n := 100) (by omega) (by omega)
      refine xk_pF (xr_S (As := [.int (iI (worthT sg j)), .int (iI (sg 205 j))]) (rest := [rv (ad 0) (ownBeh sg j (-1)), .ref (ad 1 (j))]) hx hb hml hown hts hK (c_X4_hundredths hR hG (worthT sg j) (sg 205 j) (by omega)) ms_X4_hundredths kw_276 ⟨by decide, by decide⟩ ⟨by decide, by decide⟩ rfl rfl hl.1 rfl (lv_room (by simp [rv_cat, cat_i, cat_l, cat_r, cat_n])) dX4_letGo_45) ?_
      refine xk_mF (xr_S (As := [.ref (ad 1 (j)), rv (ad 0) (ownBeh sg j (-1)), .int (iI ((worthT sg j) * (sg 205 j) / 100))]) (rest := []) hx hb hml hown hts hK (c_X4_offer hR hG j (ownBeh sg j (-1)) (rfl) ((worthT sg j) * (sg 205 j) / 100) (by omega) (by omega) (by omega)) ms_X4_offer kw_628 ⟨by decide, by decide⟩ ⟨by decide, by decide⟩ rfl rfl hl.1 rfl (lv_room (by decide)) dX4_letGo_48) hS (fun H locs hR hS hz hq => ?_)
      have G9 : GC (offT sg j (ownBeh sg j (-1)) ((worthT sg j) * (sg 205 j) / 100)) := gc_offT hG (by omega) (by omega)
      refine lv_aload_n hx hb dX4_letGo_51 rfl (lv_at hl 1 rfl) ?_
      refine xg_209 (v := ownBeh sg j (-1)) hx hb hw1 hown hK hR (gd_1 G9 (by omega)) (hts _ kw_48) (offT_209) dX4_letGo_52 ?_
      refine xr_ifnull (tgt := 62) hx hb dX4_letGo_55 (by decide) (fun h10 => ?_) (fun h10 => ?_)
      · skip
        refine lv_iconst (v := iI (0)) hx hb dX4_letGo_62 rfl ?_
        exact xm_zb hx hb hr hlk hS dX4_letGo_63 (by omega) (by unfold lgT; first | (rw [if_pos (by omega)]; exact hR) | (rw [if_neg (by omega)]; first | (rw [if_pos (by omega)]; exact hR) | (rw [if_neg (by omega)]; exact hR)))
      · skip
        refine lv_iconst (v := iI (1)) hx hb dX4_letGo_58 rfl ?_
        refine lv_goto (tgt := 63) hx hb dX4_letGo_59 (by decide) ?_
        exact xm_zb hx hb hr hlk hS dX4_letGo_63 (by omega) (by unfold lgT; first | (rw [if_pos (by omega)]; exact hR) | (rw [if_neg (by omega)]; first | (rw [if_pos (by omega)]; exact hR) | (rw [if_neg (by omega)]; exact hR)))
    · skip
      refine lv_iconst (v := iI (0)) hx hb dX4_letGo_27 rfl ?_
      exact xm_zb hx hb hr hlk hS dX4_letGo_28 (by omega) (by unfold lgT; first | (rw [if_pos (by omega)]; exact hR) | (rw [if_neg (by omega)]; first | (rw [if_pos (by omega)]; exact hR) | (rw [if_neg (by omega)]; exact hR)))
  · skip
    refine lv_aload_n hx hb dX4_letGo_13 rfl (lv_at hl 0 rfl) ?_
    refine lv_aload_n hx hb dX4_letGo_14 rfl (lv_at hl 1 rfl) ?_
    refine xk_mF (xr_V (As := [.ref (ad 1 (j))]) (rest := []) hx hb hml hown hts hK (c_X4_release hR hG j (by omega)) ms_X4_release kw_570 (wr_recv hK hR (gd_4 hG) rfl rfl) ⟨by decide, by decide⟩ ⟨by decide, by decide⟩ rfl rfl hl.1 rfl (lv_room (by decide)) dX4_letGo_15) hS (fun H locs hR hS hz hq => ?_)
    have G11 : GC (relT sg j) := gc_relN hG _ 24
    refine lv_iconst (v := iI (0)) hx hb dX4_letGo_18 rfl ?_
    exact xm_zb hx hb hr hlk hS dX4_letGo_19 (by omega) (by unfold lgT; first | (rw [if_pos (by omega)]; exact hR) | (rw [if_neg (by omega)]; first | (rw [if_pos (by omega)]; exact hR) | (rw [if_neg (by omega)]; exact hR)))
theorem ms_X4_take : MVi RX4 yX4_take cX4_take 7 (some .int) 1 := ⟨kw_592, kw_591, kp_21, kw_1, rfl, by decide, by decide, by decide +kernel⟩
set_option maxRecDepth 100000 in
set_option maxHeartbeats 4000000 in
theorem c_X4_take {l : Launch} {D : va_G} {cy : Nat → ClassId} {A : Nat → Prop} {ad : Nat → Int → Nat} {sg : Nat → Int → Int} {H : Heap} (hR : RC D cy A ad sg H) (hG : GC sg)  (j : Int) (h1 : 0 ≤ j ∧ j < 36) (h2 : sg 702 0 ≤ 1000000) : Met l yX4_take (Cond.code yX4_take cX4_take 7 (some .int) :: wG) (rmF 4 115 0 0) (Pc D cy H [.ref (ad 4 (0)), .ref (ad 1 (j))]) (Qm (some (.int (iI (landO (tk2 sg j) j)))) (fun H' => RC D cy A ad (tkT sg j) H') A) 0 0 A := by
  refine met_of (la := [(0, .ref (ad 4 (0))), (1, .ref (ad 1 (j)))]) (by decide) (Nat.le_of_ble_eq_true rfl) rfl ?_
  intro p e R s m args below meth c ls hRm hx hb hml hr hlk hin hown hts hsH hK hl
  subst hRm
  have hown : s.vm.findClass "Takinghall" = some m.cls := hown
  have hw0 : ∀ w ∈ u_ws RX0 TX0 15, w.before args s = true := fun w h => hts w (uw_X0 w h)
  have hw1 : ∀ w ∈ u_ws RX1 TX1 11, w.before args s = true := fun w h => hts w (uw_X1 w h)
  have hw4 : ∀ w ∈ u_ws RX4 TX4 12, w.before args s = true := fun w h => hts w (uw_X4 w h)
  have hS : va_S A s.heap H [] := by rw [hsH]; exact va_S.rf
  have g503 := gr_503 hG 0
  have hG2 := gc_tk2 hG j h2
  have hland := landO_rng hG2 j
  have g506 := gr_506 hG 0
  refine lv_aload_n hx hb dX4_take_0 rfl (lv_at hl 1 rfl) ?_
  refine lv_ifnonnull (tgt := 6) hx hb dX4_take_1 (by decide) ?_
  refine lv_aload_n hx hb dX4_take_6 rfl (lv_at hl 1 rfl) ?_
  refine lv_iconst (v := iI (1)) hx hb dX4_take_7 rfl ?_
  refine xp_203 (v := 1) hx hb hw1 hown hK hR hS (gd_1 hG (by omega)) (hts _ kw_41) dX4_take_8 (fun H locs hR hS => ?_)
  refine lv_aload_n hx hb dX4_take_11 rfl (lv_at hl 1 rfl) ?_
  refine lv_aload_n hx hb dX4_take_12 rfl (lv_at hl 0 rfl) ?_
  refine xg_506 (v := sg 506 0) hx hb hw4 hown hK hR ((dm_st (by decide) _ _).mpr (gd_4 hG)) (hts _ kw_97) ((st_f (by decide)).trans rfl) dX4_take_13 ?_
  have g2 := gr_506 hG (0)
  refine xp_206 (v := sg 506 0) hx hb hw1 hown hK hR hS ((dm_st (by decide) _ _).mpr (gd_1 hG (by omega))) (hts _ kw_45) dX4_take_16 (fun H locs hR hS => ?_)
  refine lv_aload_n hx hb dX4_take_19 rfl (lv_at hl 1 rfl) ?_
  refine lv_aload_n hx hb dX4_take_20 rfl (lv_at hl 0 rfl) ?_
  refine lv_aload_n hx hb dX4_take_21 rfl (lv_at hl 1 rfl) ?_
  refine xg_202 (v := sg 202 j) hx hb hw1 hown hK hR ((dm_st (by decide) _ _).mpr ((dm_st (by decide) _ _).mpr (gd_1 hG (by omega)))) (hts _ kw_39) ((st_f (by decide)).trans ((st_f (by decide)).trans rfl)) dX4_take_22 ?_
  have g3 := gr_202 hG (j)
  refine lv_aload_n hx hb dX4_take_25 rfl (lv_at hl 0 rfl) ?_
  refine xg_506 (v := sg 506 0) hx hb hw4 hown hK hR ((dm_st (by decide) _ _).mpr ((dm_st (by decide) _ _).mpr (gd_4 hG))) (hts _ kw_97) ((st_f (by decide)).trans ((st_f (by decide)).trans rfl)) dX4_take_26 ?_
  refine xk_pF (xr_V (As := [.int (iI (sg 202 j)), .int (iI (sg 506 0))]) (rest := [.ref (ad 1 (j))]) hx hb hml hown hts hK (c_X4_priceOn hR (gc_206 (gc_203 hG (j) (v := 1) (by omega)) (j) (v := sg 506 0) (by omega)) (sg 202 j) (sg 506 0) (by omega) (by omega)) ms_X4_priceOn kw_253 (wr_recv hK hR ((dm_st (by decide) _ _).mpr ((dm_st (by decide) _ _).mpr (gd_4 hG))) rfl rfl) ⟨by decide, by decide⟩ ⟨by decide, by decide⟩ rfl rfl hl.1 rfl (lv_room (Nat.le_of_ble_eq_true rfl)) dX4_take_29) ?_
  have g4 := prOn_lt (gc_206 (gc_203 hG (j) (v := 1) (by omega)) (j) (v := sg 506 0) (by omega)) ((sg 202 j)) ((sg 506 0))
  refine xp_207 (v := prOn (st (st sg 203 (j) (1)) 206 (j) (sg 506 0)) (sg 202 j) (sg 506 0)) hx hb hw1 hown hK hR hS ((dm_st (by decide) _ _).mpr ((dm_st (by decide) _ _).mpr (gd_1 hG (by omega)))) rfl (hts _ kw_46) dX4_take_32 (fun H locs hR hS => ?_)
  have hR : RC D cy A ad (tk2 sg j) H := hR
  refine lv_aload_n hx hb dX4_take_35 rfl (lv_at hl 1 rfl) ?_
  refine xk_pF (xr_S (As := [.ref (ad 1 (j))]) (rest := []) hx hb hml hown hts hK (c_X4_landOf hR hG2 j ((rv_p (by omega)).symm) (by omega)) ms_X4_landOf kw_375 ⟨by decide, by decide⟩ ⟨by decide, by decide⟩ rfl rfl hl.1 rfl (lv_room (by decide)) dX4_take_36) ?_
  have g5 := landO_rng hG2 (j)
  refine lv_istore_n (i := 2) (lv' := [(2, .int (iI (landO (tk2 sg j) j))), (0, .ref (ad 4 (0))), (1, .ref (ad 1 (j)))]) hx hb dX4_take_39 rfl hl (by decide) rfl (fun ls hl => ?_)
  refine lv_aload_n hx hb dX4_take_40 rfl (lv_at hl 1 rfl) ?_
  refine xg_502 (v := (tk2 sg j) 502 0) hx hb hw4 hown hK hR (gd_4 hG2) (hts _ kw_93) rfl dX4_take_41 ?_
  have g6 := gh_502 hG2 (0)
  have q7 : (tk2 sg j) 502 0 = 0 := gh_502 hG2 _
  rw [q7, rv_p (Int.le_refl 0)]
  refine lv_astore_n (i := 3) (lv' := [(3, .ref (ad 9 (0))), (2, .int (iI (landO (tk2 sg j) j))), (0, .ref (ad 4 (0))), (1, .ref (ad 1 (j)))]) hx hb dX4_take_44 rfl hl (by decide) rfl (fun ls hl => ?_)
  refine lv_aload_n hx hb dX4_take_45 rfl (lv_at hl 0 rfl) ?_
  refine xl_600 hx hb hK hR (gd_9 hG2) dX4_take_46 ?_
  refine lv_istore (i := 4) (lv' := [(4, .int (iI (24))), (3, .ref (ad 9 (0))), (2, .int (iI (landO (tk2 sg j) j))), (0, .ref (ad 4 (0))), (1, .ref (ad 1 (j)))]) hx hb dX4_take_47 hl (by decide) rfl (fun ls hl => ?_)
  refine lv_iconst (v := iI (0)) hx hb dX4_take_49 rfl ?_
  refine lv_istore (i := 5) (lv' := [(5, .int (iI (0))), (4, .int (iI (24))), (3, .ref (ad 9 (0))), (2, .int (iI (landO (tk2 sg j) j))), (0, .ref (ad 4 (0))), (1, .ref (ad 1 (j)))]) hx hb dX4_take_50 hl (by decide) rfl (fun ls hl => ?_)
  have loop52 : ∀ (n : Nat) (i : Int), 0 ≤ i → i ≤ 24 → (24 - i).toNat ≤ n → ∀ (H : Heap) (locs : List Loc), RC D cy A ad (tkN (tk2 sg j) j (landO (tk2 sg j) j) i.toNat) H → va_S A s.heap H locs → ∀ ls : Array Slot, lv_has ls 7 [(0, .ref (ad 4 (0))), (1, .ref (ad 1 (j))), (2, .int (iI (landO (tk2 sg j) j))), (3, .ref (ad 9 (0))), (4, .int (iI (24))), (5, .int (iI (i)))] → W p l e (rmF 4 115 0 0) s m args below meth c H locs 0 0 (MQ below (Qm (some (.int (iI (landO (tk2 sg j) j)))) (fun H' => RC D cy A ad (tkT sg j) H') A) args s 0 0 A) (F0 m 52 ls []) := by
    intro n
    induction n with
    | zero =>
      intro i hi0 hi1 hn H locs hR hS ls hl
      have t503 : tkN (tk2 sg j) j (landO (tk2 sg j) j) i.toNat 503 0 = tk2 sg j 503 0 := tk_f (by decide) (by decide) _ _
      refine lv_iload hx hb dX4_take_52 (lv_at hl 5 rfl) ?_
      refine lv_iload hx hb dX4_take_54 (lv_at hl 4 rfl) ?_
      refine xr_icmp_ge (tgt := 111) hx hb dX4_take_56 (by decide) (by omega) (by omega) (fun h8 => ?_) (fun h8 => ?_)
      · skip
        have e : i = 24 := (by omega)
        subst e
        have hR : RC D cy A ad (tk3 sg j) H := hR
        have hG3 := gc_tk3 hG j h2
        refine lv_aload_n hx hb dX4_take_111 rfl (lv_at hl 0 rfl) ?_
        refine lv_dup hx hb dX4_take_112 rfl ?_
        refine xg_509 (v := (tk3 sg j) 509 0) hx hb hw4 hown hK hR (gd_4 hG3) (hts _ kw_100) rfl dX4_take_113 ?_
        refine lv_aload_n hx hb dX4_take_116 rfl (lv_at hl 0 rfl) ?_
        refine lv_aload_n hx hb dX4_take_117 rfl (lv_at hl 1 rfl) ?_
        refine lv_iload_n hx hb dX4_take_118 rfl (lv_at hl 2 rfl) ?_
        refine xk_pF (xr_V (As := [.ref (ad 1 (j)), .int (iI (landO (tk2 sg j) j))]) (rest := [.long (lI ((tk3 sg j) 509 0)), .ref (ad 4 (0))]) hx hb hml hown hts hK (c_X4_leftForCourt hR hG3 j (landO (tk2 sg j) j) (by omega) (by omega)) ms_X4_leftForCourt kw_593 (wr_recv hK hR (gd_4 hG3) rfl rfl) ⟨by decide, by decide⟩ ⟨by decide, by decide⟩ rfl rfl hl.1 rfl (lv_room (Nat.le_of_ble_eq_true rfl)) dX4_take_119) ?_
        have g10 := courtL_rng hG3 (j) (land := ((landO (tk2 sg j) j))) (by omega)
        refine xr_i2l hx hb dX4_take_122 (by omega) ?_
        refine xr_ladd hx hb dX4_take_123 ?_
        refine xp_509 (v := ((tk3 sg j) 509 0) + (courtL (tk3 sg j) j (landO (tk2 sg j) j))) hx hb hw4 hown hK hR hS (gd_4 hG3) (hts _ kw_100) dX4_take_124 (fun H locs hR hS => ?_)
        refine lv_aload_n hx hb dX4_take_127 rfl (lv_at hl 0 rfl) ?_
        refine lv_dup hx hb dX4_take_128 rfl ?_
        refine xg_511 (v := (tk3 sg j) 511 0) hx hb hw4 hown hK hR ((dm_st (by decide) _ _).mpr (gd_4 hG3)) (hts _ kw_102) ((st_f (by decide)).trans rfl) dX4_take_129 ?_
        refine lv_iload_n hx hb dX4_take_132 rfl (lv_at hl 2 rfl) ?_
        refine xr_i2l hx hb dX4_take_133 (by omega) ?_
        refine xr_ladd hx hb dX4_take_134 ?_
        refine xp_511 (v := ((tk3 sg j) 511 0) + (landO (tk2 sg j) j)) hx hb hw4 hown hK hR hS ((dm_st (by decide) _ _).mpr (gd_4 hG3)) (hts _ kw_102) dX4_take_135 (fun H locs hR hS => ?_)
        refine lv_iload_n hx hb dX4_take_138 rfl (lv_at hl 2 rfl) ?_
        exact xm_i hx hb hr hlk hS dX4_take_139 (by omega) (by exact hR)
      · skip
        refine lv_aload_n hx hb dX4_take_59 rfl (lv_at hl 3 rfl) ?_
        refine lv_iload hx hb dX4_take_60 (lv_at hl 5 rfl) ?_
        refine xa_600 (v := (tk2 sg j) 600 i) hx hb hK hR ((dm_tk _ _ (gd_9 hG2))) (by omega) (tk_f (by decide) (by decide) _ _) dX4_take_62 ?_
        have q12 := ga_600 hG2 (q := i) (by omega)
        rcases (show i < (tk2 sg j) 503 0 ∨ (tk2 sg j) 503 0 ≤ i by omega) with i13 | i13
        · skip
          rw [if_pos i13] at q12
          rw [q12, rv_p (f := ad 0) (v := i) (by omega)]
          refine lv_astore (i := 6) (lv' := [(6, .ref (ad 0 (i))), (0, .ref (ad 4 (0))), (1, .ref (ad 1 (j))), (2, .int (iI (landO (tk2 sg j) j))), (3, .ref (ad 9 (0))), (4, .int (iI (24))), (5, .int (iI (i)))]) hx hb dX4_take_63 hl (by decide) rfl (fun ls hl => ?_)
          refine lv_aload hx hb dX4_take_65 (lv_at hl 0 rfl) ?_
          refine lv_ifnull hx hb dX4_take_67 ?_
          refine lv_aload hx hb dX4_take_70 (lv_at hl 0 rfl) ?_
          refine xg_102 (v := (tk2 sg j) 102 i) hx hb hw0 hown hK hR ((dm_tk _ _ (gd_0 hG2 (by omega)))) (hts _ kw_476) (tk_f (by decide) (by decide) _ _) dX4_take_72 ?_
          have g15 := gr_102 hG2 (i)
          rw [rv_p (f := ad 1) (v := (tk2 sg j) 102 i) (by omega)]
          refine lv_aload_n hx hb dX4_take_75 rfl (lv_at hl 2 rfl) ?_
          refine lv_acmp_ne (rx := some (ad 1 ((tk2 sg j) 102 i))) (ry := some (ad 1 (j))) (tgt := 105) hx hb dX4_take_76 (by decide) (fun h16 => ?_) (fun h16 => ?_)
          · skip
            rw [← ro_p (f := ad 1) (v := (tk2 sg j) 102 i) (by omega), ← ro_p (f := ad 1) (v := j) (by omega)] at h16
            have h17 := (not_congr (wr_eq hR (k := 1) (a := (tk2 sg j) 102 i) (b := j) (fun _ => ((dm_tk _ _ (gd_1 hG2 (by omega))))) (fun _ => ((dm_tk _ _ (gd_1 hG2 (by omega))))))).mp h16
            refine lv_iinc (v := iI (i + (1))) (lv' := [(5, .int (iI (i + (1)))), (6, .ref (ad 0 (i))), (0, .ref (ad 4 (0))), (1, .ref (ad 1 (j))), (2, .int (iI (landO (tk2 sg j) j))), (3, .ref (ad 9 (0))), (4, .int (iI (24)))]) hx hb dX4_take_105 hl (k := 6) rfl (iI_add _ _) (by decide) rfl (fun ls hl => ?_)
            refine lv_goto (tgt := 52) hx hb dX4_take_108 (by decide) ?_
            exact absurd hn (by omega)
          · skip
            rw [← ro_p (f := ad 1) (v := (tk2 sg j) 102 i) (by omega), ← ro_p (f := ad 1) (v := j) (by omega)] at h16
            have h18 := (wr_eq hR (k := 1) (a := (tk2 sg j) 102 i) (b := j) (fun _ => ((dm_tk _ _ (gd_1 hG2 (by omega))))) (fun _ => ((dm_tk _ _ (gd_1 hG2 (by omega)))))).mp h16
            refine lv_aload hx hb dX4_take_79 (lv_at hl 0 rfl) ?_
            refine lv_aload_n hx hb dX4_take_81 rfl (lv_at hl 1 rfl) ?_
            refine lv_aload hx hb dX4_take_82 (lv_at hl 0 rfl) ?_
            refine lv_iload_n hx hb dX4_take_84 rfl (lv_at hl 3 rfl) ?_
            refine xk_pF (xr_V (As := [.ref (ad 0 (i)), .int (iI (landO (tk2 sg j) j))]) (rest := [.ref (ad 0 (i))]) hx hb hml hown hts hK (c_X4_sumBy hR (gc_tkN hG2 (j := j) hland i.toNat) i (landO (tk2 sg j) j) (by first | omega | (have z : 0 ≤ i ∧ i < sg 503 0 := (by omega); exact z)) (by omega)) ms_X4_sumBy kw_381 (wr_recv hK hR ((dm_tk _ _ (gd_4 hG2))) rfl rfl) ⟨by decide, by decide⟩ ⟨by decide, by decide⟩ rfl rfl hl.1 rfl (lv_room (Nat.le_of_ble_eq_true rfl)) dX4_take_85) ?_
            have g19 := sumB_rng (gc_tkN hG2 (j := j) hland i.toNat) (x := (i)) (land := ((landO (tk2 sg j) j))) (by omega)
            refine xp_110 (v := sumB (tkN (tk2 sg j) j (landO (tk2 sg j) j) i.toNat) i (landO (tk2 sg j) j)) hx hb hw0 hown hK hR hS ((dm_tk _ _ (gd_0 hG2 (by omega)))) (hts _ kw_489) dX4_take_88 (fun H locs hR hS => ?_)
            refine lv_aload_n hx hb dX4_take_91 rfl (lv_at hl 1 rfl) ?_
            refine lv_dup hx hb dX4_take_92 rfl ?_
            refine xg_507 (v := (tkN (tk2 sg j) j (landO (tk2 sg j) j) i.toNat) 507 0) hx hb hw4 hown hK hR ((dm_st (by decide) _ _).mpr ((dm_tk _ _ (gd_4 hG2)))) (hts _ kw_98) ((st_f (by decide)).trans rfl) dX4_take_93 ?_
            refine lv_aload hx hb dX4_take_96 (lv_at hl 0 rfl) ?_
            refine xg_110 (v := sumB (tkN (tk2 sg j) j (landO (tk2 sg j) j) i.toNat) i (landO (tk2 sg j) j)) hx hb hw0 hown hK hR ((dm_st (by decide) _ _).mpr ((dm_tk _ _ (gd_0 hG2 (by omega))))) (hts _ kw_489) (st_s) dX4_take_98 ?_
            refine xr_ladd hx hb dX4_take_101 ?_
            refine xp_507 (v := ((tkN (tk2 sg j) j (landO (tk2 sg j) j) i.toNat) 507 0) + (sumB (tkN (tk2 sg j) j (landO (tk2 sg j) j) i.toNat) i (landO (tk2 sg j) j))) hx hb hw4 hown hK hR hS ((dm_st (by decide) _ _).mpr ((dm_tk _ _ (gd_4 hG2)))) (hts _ kw_98) dX4_take_102 (fun H locs hR hS => ?_)
            refine lv_iinc (v := iI (i + (1))) (lv' := [(5, .int (iI (i + (1)))), (6, .ref (ad 0 (i))), (0, .ref (ad 4 (0))), (1, .ref (ad 1 (j))), (2, .int (iI (landO (tk2 sg j) j))), (3, .ref (ad 9 (0))), (4, .int (iI (24)))]) hx hb dX4_take_105 hl (k := 6) rfl (iI_add _ _) (by decide) rfl (fun ls hl => ?_)
            refine lv_goto (tgt := 52) hx hb dX4_take_108 (by decide) ?_
            exact absurd hn (by omega)
        · skip
          rw [if_neg (by omega)] at q12
          rw [q12, rv_n (f := ad 0) (v := -1) (by decide)]
          refine lv_astoreN (i := 6) (lv' := [(6, .null), (0, .ref (ad 4 (0))), (1, .ref (ad 1 (j))), (2, .int (iI (landO (tk2 sg j) j))), (3, .ref (ad 9 (0))), (4, .int (iI (24))), (5, .int (iI (i)))]) hx hb dX4_take_63 hl (by decide) rfl (fun ls hl => ?_)
          refine lv_aloadN hx hb dX4_take_65 (lv_at hl 0 rfl) ?_
          refine lv_ifnullN (tgt := 105) hx hb dX4_take_67 (by decide) ?_
          refine lv_iinc (v := iI (i + (1))) (lv' := [(5, .int (iI (i + (1)))), (6, .null), (0, .ref (ad 4 (0))), (1, .ref (ad 1 (j))), (2, .int (iI (landO (tk2 sg j) j))), (3, .ref (ad 9 (0))), (4, .int (iI (24)))]) hx hb dX4_take_105 hl (k := 6) rfl (iI_add _ _) (by decide) rfl (fun ls hl => ?_)
          refine lv_goto (tgt := 52) hx hb dX4_take_108 (by decide) ?_
          exact absurd hn (by omega)
    | succ n ih =>
      intro i hi0 hi1 hn H locs hR hS ls hl
      have t503 : tkN (tk2 sg j) j (landO (tk2 sg j) j) i.toNat 503 0 = tk2 sg j 503 0 := tk_f (by decide) (by decide) _ _
      refine lv_iload hx hb dX4_take_52 (lv_at hl 5 rfl) ?_
      refine lv_iload hx hb dX4_take_54 (lv_at hl 4 rfl) ?_
      refine xr_icmp_ge (tgt := 111) hx hb dX4_take_56 (by decide) (by omega) (by omega) (fun h22 => ?_) (fun h22 => ?_)
      · skip
        have e : i = 24 := (by omega)
        subst e
        have hR : RC D cy A ad (tk3 sg j) H := hR
        have hG3 := gc_tk3 hG j h2
        refine lv_aload_n hx hb dX4_take_111 rfl (lv_at hl 0 rfl) ?_
        refine lv_dup hx hb dX4_take_112 rfl ?_
        refine xg_509 (v := (tk3 sg j) 509 0) hx hb hw4 hown hK hR (gd_4 hG3) (hts _ kw_100) rfl dX4_take_113 ?_
        refine lv_aload_n hx hb dX4_take_116 rfl (lv_at hl 0 rfl) ?_
        refine lv_aload_n hx hb dX4_take_117 rfl (lv_at hl 1 rfl) ?_
        refine lv_iload_n hx hb dX4_take_118 rfl (lv_at hl 2 rfl) ?_
        refine xk_pF (xr_V (As := [.ref (ad 1 (j)), .int (iI (landO (tk2 sg j) j))]) (rest := [.long (lI ((tk3 sg j) 509 0)), .ref (ad 4 (0))]) hx hb hml hown hts hK (c_X4_leftForCourt hR hG3 j (landO (tk2 sg j) j) (by omega) (by omega)) ms_X4_leftForCourt kw_593 (wr_recv hK hR (gd_4 hG3) rfl rfl) ⟨by decide, by decide⟩ ⟨by decide, by decide⟩ rfl rfl hl.1 rfl (lv_room (Nat.le_of_ble_eq_true rfl)) dX4_take_119) ?_
        have g24 := courtL_rng hG3 (j) (land := ((landO (tk2 sg j) j))) (by omega)
        refine xr_i2l hx hb dX4_take_122 (by omega) ?_
        refine xr_ladd hx hb dX4_take_123 ?_
        refine xp_509 (v := ((tk3 sg j) 509 0) + (courtL (tk3 sg j) j (landO (tk2 sg j) j))) hx hb hw4 hown hK hR hS (gd_4 hG3) (hts _ kw_100) dX4_take_124 (fun H locs hR hS => ?_)
        refine lv_aload_n hx hb dX4_take_127 rfl (lv_at hl 0 rfl) ?_
        refine lv_dup hx hb dX4_take_128 rfl ?_
        refine xg_511 (v := (tk3 sg j) 511 0) hx hb hw4 hown hK hR ((dm_st (by decide) _ _).mpr (gd_4 hG3)) (hts _ kw_102) ((st_f (by decide)).trans rfl) dX4_take_129 ?_
        refine lv_iload_n hx hb dX4_take_132 rfl (lv_at hl 2 rfl) ?_
        refine xr_i2l hx hb dX4_take_133 (by omega) ?_
        refine xr_ladd hx hb dX4_take_134 ?_
        refine xp_511 (v := ((tk3 sg j) 511 0) + (landO (tk2 sg j) j)) hx hb hw4 hown hK hR hS ((dm_st (by decide) _ _).mpr (gd_4 hG3)) (hts _ kw_102) dX4_take_135 (fun H locs hR hS => ?_)
        refine lv_iload_n hx hb dX4_take_138 rfl (lv_at hl 2 rfl) ?_
        exact xm_i hx hb hr hlk hS dX4_take_139 (by omega) (by exact hR)
      · skip
        refine lv_aload_n hx hb dX4_take_59 rfl (lv_at hl 3 rfl) ?_
        refine lv_iload hx hb dX4_take_60 (lv_at hl 5 rfl) ?_
        refine xa_600 (v := (tk2 sg j) 600 i) hx hb hK hR ((dm_tk _ _ (gd_9 hG2))) (by omega) (tk_f (by decide) (by decide) _ _) dX4_take_62 ?_
        have q26 := ga_600 hG2 (q := i) (by omega)
        rcases (show i < (tk2 sg j) 503 0 ∨ (tk2 sg j) 503 0 ≤ i by omega) with i27 | i27
        · skip
          rw [if_pos i27] at q26
          rw [q26, rv_p (f := ad 0) (v := i) (by omega)]
          refine lv_astore (i := 6) (lv' := [(6, .ref (ad 0 (i))), (0, .ref (ad 4 (0))), (1, .ref (ad 1 (j))), (2, .int (iI (landO (tk2 sg j) j))), (3, .ref (ad 9 (0))), (4, .int (iI (24))), (5, .int (iI (i)))]) hx hb dX4_take_63 hl (by decide) rfl (fun ls hl => ?_)
          refine lv_aload hx hb dX4_take_65 (lv_at hl 0 rfl) ?_
          refine lv_ifnull hx hb dX4_take_67 ?_
          refine lv_aload hx hb dX4_take_70 (lv_at hl 0 rfl) ?_
          refine xg_102 (v := (tk2 sg j) 102 i) hx hb hw0 hown hK hR ((dm_tk _ _ (gd_0 hG2 (by omega)))) (hts _ kw_476) (tk_f (by decide) (by decide) _ _) dX4_take_72 ?_
          have g29 := gr_102 hG2 (i)
          rw [rv_p (f := ad 1) (v := (tk2 sg j) 102 i) (by omega)]
          refine lv_aload_n hx hb dX4_take_75 rfl (lv_at hl 2 rfl) ?_
          refine lv_acmp_ne (rx := some (ad 1 ((tk2 sg j) 102 i))) (ry := some (ad 1 (j))) (tgt := 105) hx hb dX4_take_76 (by decide) (fun h30 => ?_) (fun h30 => ?_)
          · skip
            rw [← ro_p (f := ad 1) (v := (tk2 sg j) 102 i) (by omega), ← ro_p (f := ad 1) (v := j) (by omega)] at h30
            have h31 := (not_congr (wr_eq hR (k := 1) (a := (tk2 sg j) 102 i) (b := j) (fun _ => ((dm_tk _ _ (gd_1 hG2 (by omega))))) (fun _ => ((dm_tk _ _ (gd_1 hG2 (by omega))))))).mp h30
            refine lv_iinc (v := iI (i + (1))) (lv' := [(5, .int (iI (i + (1)))), (6, .ref (ad 0 (i))), (0, .ref (ad 4 (0))), (1, .ref (ad 1 (j))), (2, .int (iI (landO (tk2 sg j) j))), (3, .ref (ad 9 (0))), (4, .int (iI (24)))]) hx hb dX4_take_105 hl (k := 6) rfl (iI_add _ _) (by decide) rfl (fun ls hl => ?_)
            refine lv_goto (tgt := 52) hx hb dX4_take_108 (by decide) ?_
            exact ih (i + 1) (by omega) (by omega) (by omega) _ _ (by rw [tk_s hi0]; first | (rw [if_pos (by omega)]; exact hR) | (rw [if_neg (by omega)]; exact hR)) hS ls (lv_sub hl [2, 3, 4, 5, 6, 0] rfl)
          · skip
            rw [← ro_p (f := ad 1) (v := (tk2 sg j) 102 i) (by omega), ← ro_p (f := ad 1) (v := j) (by omega)] at h30
            have h32 := (wr_eq hR (k := 1) (a := (tk2 sg j) 102 i) (b := j) (fun _ => ((dm_tk _ _ (gd_1 hG2 (by omega))))) (fun _ => ((dm_tk _ _ (gd_1 hG2 (by omega)))))).mp h30
            refine lv_aload hx hb dX4_take_79 (lv_at hl 0 rfl) ?_
            refine lv_aload_n hx hb dX4_take_81 rfl (lv_at hl 1 rfl) ?_
            refine lv_aload hx hb dX4_take_82 (lv_at hl 0 rfl) ?_
            refine lv_iload_n hx hb dX4_take_84 rfl (lv_at hl 3 rfl) ?_
            refine xk_pF (xr_V (As := [.ref (ad 0 (i)), .int (iI (landO (tk2 sg j) j))]) (rest := [.ref (ad 0 (i))]) hx hb hml hown hts hK (c_X4_sumBy hR (gc_tkN hG2 (j := j) hland i.toNat) i (landO (tk2 sg j) j) (by first | omega | (have z : 0 ≤ i ∧ i < sg 503 0 := (by omega); exact z)) (by omega)) ms_X4_sumBy kw_381 (wr_recv hK hR ((dm_tk _ _ (gd_4 hG2))) rfl rfl) ⟨by decide, by decide⟩ ⟨by decide, by decide⟩ rfl rfl hl.1 rfl (lv_room (Nat.le_of_ble_eq_true rfl)) dX4_take_85) ?_
            have g33 := sumB_rng (gc_tkN hG2 (j := j) hland i.toNat) (x := (i)) (land := ((landO (tk2 sg j) j))) (by omega)
            refine xp_110 (v := sumB (tkN (tk2 sg j) j (landO (tk2 sg j) j) i.toNat) i (landO (tk2 sg j) j)) hx hb hw0 hown hK hR hS ((dm_tk _ _ (gd_0 hG2 (by omega)))) (hts _ kw_489) dX4_take_88 (fun H locs hR hS => ?_)
            refine lv_aload_n hx hb dX4_take_91 rfl (lv_at hl 1 rfl) ?_
            refine lv_dup hx hb dX4_take_92 rfl ?_
            refine xg_507 (v := (tkN (tk2 sg j) j (landO (tk2 sg j) j) i.toNat) 507 0) hx hb hw4 hown hK hR ((dm_st (by decide) _ _).mpr ((dm_tk _ _ (gd_4 hG2)))) (hts _ kw_98) ((st_f (by decide)).trans rfl) dX4_take_93 ?_
            refine lv_aload hx hb dX4_take_96 (lv_at hl 0 rfl) ?_
            refine xg_110 (v := sumB (tkN (tk2 sg j) j (landO (tk2 sg j) j) i.toNat) i (landO (tk2 sg j) j)) hx hb hw0 hown hK hR ((dm_st (by decide) _ _).mpr ((dm_tk _ _ (gd_0 hG2 (by omega))))) (hts _ kw_489) (st_s) dX4_take_98 ?_
            refine xr_ladd hx hb dX4_take_101 ?_
            refine xp_507 (v := ((tkN (tk2 sg j) j (landO (tk2 sg j) j) i.toNat) 507 0) + (sumB (tkN (tk2 sg j) j (landO (tk2 sg j) j) i.toNat) i (landO (tk2 sg j) j))) hx hb hw4 hown hK hR hS ((dm_st (by decide) _ _).mpr ((dm_tk _ _ (gd_4 hG2)))) (hts _ kw_98) dX4_take_102 (fun H locs hR hS => ?_)
            refine lv_iinc (v := iI (i + (1))) (lv' := [(5, .int (iI (i + (1)))), (6, .ref (ad 0 (i))), (0, .ref (ad 4 (0))), (1, .ref (ad 1 (j))), (2, .int (iI (landO (tk2 sg j) j))), (3, .ref (ad 9 (0))), (4, .int (iI (24)))]) hx hb dX4_take_105 hl (k := 6) rfl (iI_add _ _) (by decide) rfl (fun ls hl => ?_)
            refine lv_goto (tgt := 52) hx hb dX4_take_108 (by decide) ?_
            exact ih (i + 1) (by omega) (by omega) (by omega) _ _ (by rw [tk_s hi0]; first | (rw [if_pos (by omega)]; exact hR) | (rw [if_neg (by omega)]; exact hR)) hS ls (lv_sub hl [2, 3, 4, 5, 6, 0] rfl)
        · skip
          rw [if_neg (by omega)] at q26
          rw [q26, rv_n (f := ad 0) (v := -1) (by decide)]
          refine lv_astoreN (i := 6) (lv' := [(6, .null), (0, .ref (ad 4 (0))), (1, .ref (ad 1 (j))), (2, .int (iI (landO (tk2 sg j) j))), (3, .ref (ad 9 (0))), (4, .int (iI (24))), (5, .int (iI (i)))]) hx hb dX4_take_63 hl (by decide) rfl (fun ls hl => ?_)
          refine lv_aloadN hx hb dX4_take_65 (lv_at hl 0 rfl) ?_
          refine lv_ifnullN (tgt := 105) hx hb dX4_take_67 (by decide) ?_
          refine lv_iinc (v := iI (i + (1))) (lv' := [(5, .int (iI (i + (1)))), (6, .null), (0, .ref (ad 4 (0))), (1, .ref (ad 1 (j))), (2, .int (iI (landO (tk2 sg j) j))), (3, .ref (ad 9 (0))), (4, .int (iI (24)))]) hx hb dX4_take_105 hl (k := 6) rfl (iI_add _ _) (by decide) rfl (fun ls hl => ?_)
          refine lv_goto (tgt := 52) hx hb dX4_take_108 (by decide) ?_
          exact ih (i + 1) (by omega) (by omega) (by omega) _ _ (by rw [tk_s hi0]; first | (rw [if_pos (by omega)]; exact hR) | (rw [if_neg (by omega)]; exact hR)) hS ls (lv_sub hl [2, 3, 4, 5, 6, 0] rfl)
  exact loop52 _ 0 (by decide) (by decide) (Nat.le_refl _) _ _ hR hS ls (lv_sub hl [4, 5, 3, 2, 1, 0] rfl)
