theorem ms_X4_drop : MVi RX4 yX4_drop cX4_drop 8 (some .int) 1 := ⟨kw_615, kw_613, kw_614, kw_1, rfl, by decide, by decide, by decide +kernel⟩
set_option maxRecDepth 100000 in
set_option maxHeartbeats 4000000 in
theorem c_X4_drop {l : Launch} {D : va_G} {cy : Nat → ClassId} {A : Nat → Prop} {ad : Nat → Int → Nat} {sg : Nat → Int → Int} {H : Heap} (hR : RC D cy A ad sg H) (hG : GC sg) (hl0 : l.stackTraces = false) (hA : ∀ q : Nat, H.size ≤ q → A q) (w : Int) (h_w : in32 w) : vx_Met l yX4_drop (Cond.code yX4_drop cX4_drop 8 (some .int) :: wG) (rmF 6 83 1 6) (PcX A D cy H [.ref (ad 4 (0)), .int (iI (w))]) (QmT (dropE sg w = 0) (some (.int (iI (drC sg (sAt sg w) 36)))) (fun H' => RC D cy A ad (dropT sg (sAt sg w)) H') A) (XCx (dropE sg w) (fun H' => RC D cy A ad sg H') A) 1 6 A := by
  refine vmet_of (la := [(0, .ref (ad 4 (0))), (1, .int (iI (w)))]) (by decide) (Nat.le_of_ble_eq_true rfl) rfl ?_
  intro p e R s m args below meth c ls hRm hx hb hml hr hlk hxt hown hts hsH hK hX hl
  subst hRm
  have hown : s.vm.findClass "Takinghall" = some m.cls := hown
  have hw3 : ∀ w ∈ u_ws RX3 TX3 6, w.before args s = true := fun w h => hts w (uw_X3 w h)
  have hw4 : ∀ w ∈ u_ws RX4 TX4 12, w.before args s = true := fun w h => hts w (uw_X4 w h)
  have hS : va_S A s.heap H [] := by rw [hsH]; exact va_S.rf
  have g505 := gr_505 hG 0
  have g506 := gr_506 hG 0
  refine lv_aload_n hx hb dX4_drop_0 rfl (lv_at hl 0 rfl) ?_
  refine lv_iload_n hx hb dX4_drop_1 rfl (lv_at hl 1 rfl) ?_
  refine xk_pF (xr_V (As := [.int (iI (w))]) (rest := []) hx hb hml hown hts hK (c_X4_schemeAt hR hG w (by omega)) ms_X4_schemeAt kw_346 (wr_recv hK hR (gd_4 hG) rfl rfl) ⟨by decide, by decide⟩ ⟨by decide, by decide⟩ rfl rfl hl.1 rfl (lv_room (by decide)) dX4_drop_2) ?_
  have g1 := sAt_rng hG (w)
  refine xr_astore_n (i := 2) (lv' := [(2, rv (ad 3) (sAt sg w)), (0, .ref (ad 4 (0))), (1, .int (iI (w)))]) hx hb dX4_drop_5 rfl hl (by decide) rfl (fun ls hl => ?_)
  refine xr_aload_n hx hb dX4_drop_6 rfl (lv_at hl 0 rfl) ?_
  refine xr_ifnonnull (tgt := 21) hx hb dX4_drop_7 (by decide) (fun h2 => ?_) (fun h2 => ?_)
  · skip
    rw [rv_p h2] at hl
    refine lv_aload_n hx hb dX4_drop_21 rfl (lv_at hl 0 rfl) ?_
    refine xg_403 (v := sg 403 (sAt sg w)) hx hb hw3 hown hK hR (gd_3 hG (by omega)) (hts _ kw_324) rfl dX4_drop_22 ?_
    have g3 := gr_403 hG (sAt sg w)
    refine lv_iconst (v := iI (2)) hx hb dX4_drop_25 rfl ?_
    refine xr_icmp_ne (tgt := 40) hx hb dX4_drop_26 (by decide) (by omega) (by omega) (fun h4 => ?_) (fun h4 => ?_)
    · skip
      refine lv_iconst (v := iI (0)) hx hb dX4_drop_40 rfl ?_
      refine lv_istore_n (i := 3) (lv' := [(3, .int (iI (0))), (2, .ref (ad 3 (sAt sg w))), (0, .ref (ad 4 (0))), (1, .int (iI (w)))]) hx hb dX4_drop_41 rfl hl (by decide) rfl (fun ls hl => ?_)
      refine lv_aload_n hx hb dX4_drop_42 rfl (lv_at hl 2 rfl) ?_
      refine xg_500 (v := sg 500 0) hx hb hw4 hown hK hR (gd_4 hG) (hts _ kw_91) rfl dX4_drop_43 ?_
      have g5 := gh_500 hG (0)
      have q6 : sg 500 0 = 0 := gh_500 hG _
      rw [q6, rv_p (Int.le_refl 0)]
      refine lv_astore (i := 4) (lv' := [(4, .ref (ad 10 (0))), (3, .int (iI (0))), (2, .ref (ad 3 (sAt sg w))), (0, .ref (ad 4 (0))), (1, .int (iI (w)))]) hx hb dX4_drop_46 hl (by decide) rfl (fun ls hl => ?_)
      refine lv_aload hx hb dX4_drop_48 (lv_at hl 0 rfl) ?_
      refine xl_601 hx hb hK hR (gd_10 hG) dX4_drop_50 ?_
      refine lv_istore (i := 5) (lv' := [(5, .int (iI (36))), (4, .ref (ad 10 (0))), (3, .int (iI (0))), (2, .ref (ad 3 (sAt sg w))), (0, .ref (ad 4 (0))), (1, .int (iI (w)))]) hx hb dX4_drop_51 hl (by decide) rfl (fun ls hl => ?_)
      refine lv_iconst (v := iI (0)) hx hb dX4_drop_53 rfl ?_
      refine lv_istore (i := 6) (lv' := [(6, .int (iI (0))), (5, .int (iI (36))), (4, .ref (ad 10 (0))), (3, .int (iI (0))), (2, .ref (ad 3 (sAt sg w))), (0, .ref (ad 4 (0))), (1, .int (iI (w)))]) hx hb dX4_drop_54 hl (by decide) rfl (fun ls hl => ?_)
      have loop56 : ∀ (n : Nat) (i : Int) (acc : Int), 0 ≤ i → i ≤ 36 → acc = drC sg (sAt sg w) i.toNat → (36 - i).toNat < n → ∀ (H : Heap) (locs : List Loc), RC D cy A ad (drN sg (sAt sg w) i.toNat) H → va_S A s.heap H locs → ∀ ls : Array Slot, lv_has ls 8 [(0, .ref (ad 4 (0))), (1, .int (iI (w))), (2, .ref (ad 3 (sAt sg w))), (3, .int (iI (acc))), (4, .ref (ad 10 (0))), (5, .int (iI (36))), (6, .int (iI (i)))] → W p l e (rmF 6 83 1 6) s m args below meth c H locs 0 0 (vx_MQ below (QmT (dropE sg w = 0) (some (.int (iI (drC sg (sAt sg w) 36)))) (fun H' => RC D cy A ad (dropT sg (sAt sg w)) H') A) (XCx (dropE sg w) (fun H' => RC D cy A ad sg H') A) args s 1 6 A) (F0 m 56 ls []) := by
        intro n
        induction n with
        | zero =>
          intro i acc hi0 hi1 hacc hn H locs hR hS ls hl
          exact absurd hn (Nat.not_lt_zero _)
        | succ n ih =>
          intro i acc hi0 hi1 hacc hn H locs hR hS ls hl
          have hGi := gc_drN hG (w := sAt sg w) i.toNat
          have hcr := drC_rng (sg := sg) (w := sAt sg w) i.toNat
          rw [← hacc] at hcr
          have gi505 : (drN sg (sAt sg w) i.toNat) 505 0 = sg 505 0 := dr_f (by decide) (by decide) (by decide) (by decide) (by decide) (by decide) (by decide) _
          have gi506 : (drN sg (sAt sg w) i.toNat) 506 0 = sg 506 0 := dr_f (by decide) (by decide) (by decide) (by decide) (by decide) (by decide) (by decide) _
          refine lv_iload hx hb dX4_drop_56 (lv_at hl 6 rfl) ?_
          refine lv_iload hx hb dX4_drop_58 (lv_at hl 5 rfl) ?_
          refine xr_icmp_ge (tgt := 97) hx hb dX4_drop_60 (by decide) (by omega) (by omega) (fun h7 => ?_) (fun h7 => ?_)
          · skip
            refine lv_aload_n hx hb dX4_drop_97 rfl (lv_at hl 2 rfl) ?_
            refine lv_iconst (v := iI (2)) hx hb dX4_drop_98 rfl ?_
            refine xp_403 (v := 2) hx hb hw3 hown hK hR hS (gd_3 hGi (by omega)) (hts _ kw_324) dX4_drop_99 (fun H locs hR hS => ?_)
            refine lv_aload_n hx hb dX4_drop_102 rfl (lv_at hl 2 rfl) ?_
            refine lv_aload_n hx hb dX4_drop_103 rfl (lv_at hl 0 rfl) ?_
            refine xg_506 (v := (drN sg (sAt sg w) i.toNat) 506 0) hx hb hw4 hown hK hR ((dm_st (by decide) _ _).mpr (gd_4 hGi)) (hts _ kw_97) ((st_f (by decide)).trans rfl) dX4_drop_104 ?_
            have g8 := gr_506 hGi (0)
            refine xp_405 (v := (drN sg (sAt sg w) i.toNat) 506 0) hx hb hw3 hown hK hR hS ((dm_st (by decide) _ _).mpr (gd_3 hGi (by omega))) (hts _ kw_328) dX4_drop_107 (fun H locs hR hS => ?_)
            refine lv_iload_n hx hb dX4_drop_110 rfl (lv_at hl 3 rfl) ?_
            exact xv_i hx hb hr hlk hS (by decide) (by decide) dX4_drop_111 (by unfold dropE; (repeat' split) <;> first | omega | grind) (by have ei : i = 36 := (by omega); subst ei; exact hacc) (by have ei : i = 36 := (by omega); subst ei; exact hR)
          · skip
            refine lv_aload hx hb dX4_drop_63 (lv_at hl 4 rfl) ?_
            refine lv_iload hx hb dX4_drop_65 (lv_at hl 6 rfl) ?_
            refine xa_601 (v := (drN sg (sAt sg w) i.toNat) 601 i) hx hb hK hR (gd_10 hGi) (by omega) rfl dX4_drop_67 ?_
            have q9 := ga_601 hGi (q := i) (by omega)
            rw [q9, rv_p (f := ad 1) (v := i) (by omega)]
            refine lv_astore (i := 7) (lv' := [(7, .ref (ad 1 (i))), (0, .ref (ad 4 (0))), (1, .int (iI (w))), (2, .ref (ad 3 (sAt sg w))), (3, .int (iI (acc))), (4, .ref (ad 10 (0))), (5, .int (iI (36))), (6, .int (iI (i)))]) hx hb dX4_drop_68 hl (by decide) rfl (fun ls hl => ?_)
            refine lv_aload hx hb dX4_drop_70 (lv_at hl 0 rfl) ?_
            refine lv_aload_n hx hb dX4_drop_72 rfl (lv_at hl 3 rfl) ?_
            refine xk_pF (xr_S (As := [.ref (ad 1 (i)), .ref (ad 3 (sAt sg w))]) (rest := []) hx hb hml hown hts hK (c_X4_isNeededBy hR hGi i ((rv_p (by omega)).symm) (sAt sg w) ((rv_p (by omega)).symm) (by omega) (by first | omega | (have z : (sAt sg w) < sg 505 0 := (by omega); exact z))) ms_X4_isNeededBy kw_358 ⟨by decide, by decide⟩ ⟨by decide, by decide⟩ rfl rfl hl.1 rfl (lv_room (by decide)) dX4_drop_73) ?_
            refine xr_ifb_eq (tgt := 91) hx hb dX4_drop_76 (by decide) (fun h10 => ?_) (fun h10 => ?_)
            · skip
              refine lv_iinc (v := iI (i + (1))) (lv' := [(6, .int (iI (i + (1)))), (7, .ref (ad 1 (i))), (0, .ref (ad 4 (0))), (1, .int (iI (w))), (2, .ref (ad 3 (sAt sg w))), (3, .int (iI (acc))), (4, .ref (ad 10 (0))), (5, .int (iI (36)))]) hx hb dX4_drop_91 hl (k := 7) rfl (iI_add _ _) (by decide) rfl (fun ls hl => ?_)
              refine lv_goto (tgt := 56) hx hb dX4_drop_94 (by decide) ?_
              exact ih (i + 1) acc (by omega) (by omega) (by rw [drC_s hi0, ← hacc]; first | (exfalso; omega) | (rw [if_pos (by omega)]; first | rw [bI_t (by assumption)] | rw [bI_f (by assumption), Int.add_zero]) | rw [if_neg (by omega)]) (by omega) _ _ (by first | (exfalso; omega) | rw [dr_s hi0]; first | (rw [if_pos (by omega)]; exact hR) | (rw [if_neg (by omega)]; exact hR)) hS ls (lv_sub hl [2, 3, 4, 5, 6, 7, 0] rfl)
            · skip
              refine lv_aload_n hx hb dX4_drop_79 rfl (lv_at hl 1 rfl) ?_
              refine lv_aload hx hb dX4_drop_80 (lv_at hl 0 rfl) ?_
              refine xk_mF (xr_V (As := [.ref (ad 1 (i))]) (rest := []) hx hb hml hown hts hK (c_X4_letGo hR hGi i (by omega)) ms_X4_letGo kw_617 (wr_recv hK hR (gd_4 hGi) rfl rfl) ⟨by decide, by decide⟩ ⟨by decide, by decide⟩ rfl rfl hl.1 rfl (lv_room (by decide)) dX4_drop_82) hS (fun H locs hR hS hz hq => ?_)
              show W p l e (rmF 6 83 1 6) s m args below meth c H locs (0 + 0) (0 + 0) _ (F0 m (82 + 3) ls (.int (iI (bI ((drN sg (sAt sg w) i.toNat) 203 i ≠ 0 ∧ (drN sg (sAt sg w) i.toNat) 208 i = 0 ∧ 0 ≤ ownBeh (drN sg (sAt sg w) i.toNat) i (-1)))) :: []))
              have G11 : GC (lgT (drN sg (sAt sg w) i.toNat) i) := gc_lgT hGi _
              refine xr_ifb_eq (tgt := 91) hx hb dX4_drop_85 (by decide) (fun h12 => ?_) (fun h12 => ?_)
              · skip
                refine lv_iinc (v := iI (i + (1))) (lv' := [(6, .int (iI (i + (1)))), (7, .ref (ad 1 (i))), (0, .ref (ad 4 (0))), (1, .int (iI (w))), (2, .ref (ad 3 (sAt sg w))), (3, .int (iI (acc))), (4, .ref (ad 10 (0))), (5, .int (iI (36)))]) hx hb dX4_drop_91 hl (k := 7) rfl (iI_add _ _) (by decide) rfl (fun ls hl => ?_)
                refine lv_goto (tgt := 56) hx hb dX4_drop_94 (by decide) ?_
                exact ih (i + 1) acc (by omega) (by omega) (by rw [drC_s hi0, ← hacc]; first | (exfalso; omega) | (rw [if_pos (by omega)]; first | rw [bI_t (by assumption)] | rw [bI_f (by assumption), Int.add_zero]) | rw [if_neg (by omega)]) (by omega) _ _ (by first | (exfalso; omega) | rw [dr_s hi0]; first | (rw [if_pos (by omega)]; exact hR) | (rw [if_neg (by omega)]; exact hR)) hS ls (lv_sub hl [2, 3, 4, 5, 6, 7, 0] rfl)
              · skip
                refine lv_iinc (v := iI (acc + (1))) (lv' := [(3, .int (iI (acc + (1)))), (7, .ref (ad 1 (i))), (0, .ref (ad 4 (0))), (1, .int (iI (w))), (2, .ref (ad 3 (sAt sg w))), (4, .ref (ad 10 (0))), (5, .int (iI (36))), (6, .int (iI (i)))]) hx hb dX4_drop_88 hl (k := 4) rfl (iI_add _ _) (by decide) rfl (fun ls hl => ?_)
                refine lv_iinc (v := iI (i + (1))) (lv' := [(6, .int (iI (i + (1)))), (3, .int (iI (acc + (1)))), (7, .ref (ad 1 (i))), (0, .ref (ad 4 (0))), (1, .int (iI (w))), (2, .ref (ad 3 (sAt sg w))), (4, .ref (ad 10 (0))), (5, .int (iI (36)))]) hx hb dX4_drop_91 hl (k := 7) rfl (iI_add _ _) (by decide) rfl (fun ls hl => ?_)
                refine lv_goto (tgt := 56) hx hb dX4_drop_94 (by decide) ?_
                exact ih (i + 1) (acc + (1)) (by omega) (by omega) (by rw [drC_s hi0, ← hacc]; first | (exfalso; omega) | (rw [if_pos (by omega)]; first | rw [bI_t (by assumption)] | rw [bI_f (by assumption), Int.add_zero]) | rw [if_neg (by omega)]) (by omega) _ _ (by first | (exfalso; omega) | rw [dr_s hi0]; first | (rw [if_pos (by omega)]; exact hR) | (rw [if_neg (by omega)]; exact hR)) hS ls (lv_sub hl [3, 4, 5, 1, 6, 7, 0] rfl)
      exact loop56 _ 0 0 (by decide) (by decide) rfl (Nat.lt_succ_self _) _ _ hR hS ls (lv_sub hl [5, 6, 4, 3, 2, 1, 0] rfl)
    · skip
      exact xtw_3 (thr := dropE sg w) (text := "the SCHEME is DROPPED") (P := fun H' => RC D cy A ad sg H') hx hb hl0 hown hts hX hS (hl.1.trans hml.symm) hxt hlk (by decide) dX4_drop_29 dX4_drop_32 dX4_drop_33 dX4_drop_36 dX4_drop_39 (by decide) (by decide) (by decide) (by decide) (by decide) (by decide) (wr_more hR) (by unfold dropE; (repeat' split) <;> first | omega | grind)
  · skip
    rw [rv_n h2] at hl
    exact xtw_1 (thr := dropE sg w) (text := "no such SCHEME") (P := fun H' => RC D cy A ad sg H') hx hb hl0 hown hts hX hS (hl.1.trans hml.symm) hxt hlk (by decide) dX4_drop_10 dX4_drop_13 dX4_drop_14 dX4_drop_17 dX4_drop_20 (by decide) (by decide) (by decide) (by decide) (by decide) (by decide) (wr_more hR) (by unfold dropE; (repeat' split) <;> first | omega | grind)
theorem ms_X4_tellInterest : MVi RX4 yX4_tellInterest cX4_tellInterest 7 (some .int) 5 := ⟨kw_465, kw_464, kp_16, kw_1, rfl, by decide, by decide, by decide +kernel⟩
set_option maxRecDepth 100000 in
set_option maxHeartbeats 4000000 in
theorem c_X4_tellInterest {l : Launch} {D : va_G} {cy : Nat → ClassId} {A : Nat → Prop} {ad : Nat → Int → Nat} {sg : Nat → Int → Int} {H : Heap} (hR : RC D cy A ad sg H) (hG : GC sg) (hA : ∀ q : Nat, H.size ≤ q → A q) (k : Int) (j : Int) (u : Int) (ms : Int) (pr : Int) (hk : 0 ≤ k ∧ k ≤ 2) (h1 : 0 ≤ j ∧ j < 36) (hu : 0 ≤ u ∧ u ≤ 9) (hms : 0 ≤ ms ∧ ms ≤ 100000) (hpr : 0 ≤ pr ∧ pr ≤ 100) (hn : sg 503 0 < 24) : Met l yX4_tellInterest (Cond.code yX4_tellInterest cX4_tellInterest 7 (some .int) :: wG) (rmF 2 67 1 15) (Pc D cy H [.ref (ad 4 (0)), .int (iI (k)), .ref (ad 1 (j)), .int (iI (u)), .int (iI (ms)), .int (iI (pr))]) (Qm (some (.int (iI (sg 503 0)))) (fun H' => ∃ ad' : Nat → Int → Nat, (∀ k j, dmC sg k j → ad' k j = ad k j) ∧ RC D cy A ad' (tellT sg k j u ms pr) H') A) 1 15 A := by
  refine met_of (la := [(0, .ref (ad 4 (0))), (1, .int (iI (k))), (2, .ref (ad 1 (j))), (3, .int (iI (u))), (4, .int (iI (ms))), (5, .int (iI (pr)))]) (by decide) (Nat.le_of_ble_eq_true rfl) rfl ?_
  intro p e R s m args below meth c ls hRm hx hb hml hr hlk hin hown hts hsH hK hl
  subst hRm
  have hown : s.vm.findClass "Takinghall" = some m.cls := hown
  have hw0 : ∀ w ∈ u_ws RX0 TX0 15, w.before args s = true := fun w h => hts w (uw_X0 w h)
  have hw4 : ∀ w ∈ u_ws RX4 TX4 12, w.before args s = true := fun w h => hts w (uw_X4 w h)
  have hS : va_S A s.heap H [] := by rw [hsH]; exact va_S.rf
  have g503 := gr_503 hG 0
  have g506 := gr_506 hG 0
  refine lv_aload_n hx hb dX4_tellInterest_0 rfl (lv_at hl 0 rfl) ?_
  refine xg_503 (v := sg 503 0) hx hb hw4 hown hK hR (gd_4 hG) (hts _ kw_94) rfl dX4_tellInterest_1 ?_
  have g1 := gr_503 hG (0)
  refine lv_istore (i := 6) (lv' := [(6, .int (iI (sg 503 0))), (0, .ref (ad 4 (0))), (1, .int (iI (k))), (2, .ref (ad 1 (j))), (3, .int (iI (u))), (4, .int (iI (ms))), (5, .int (iI (pr)))]) hx hb dX4_tellInterest_4 hl (by decide) rfl (fun ls hl => ?_)
  refine lv_iload hx hb dX4_tellInterest_6 (lv_at hl 0 rfl) ?_
  refine xr_if_lt (tgt := 21) hx hb dX4_tellInterest_8 (by decide) (by omega) (fun h2 => ?_) (fun h2 => ?_)
  · skip
    refine lv_iconst (v := iI (-1)) hx hb dX4_tellInterest_21 rfl ?_
    refine W.widen (k := 1) (n := 15) (by decide) (by decide) ?_
    exact xm_i hx hb hr hlk hS dX4_tellInterest_22 (by omega) (by first | (exfalso; omega) | exact ⟨ad, fun _ _ _ => rfl, hR⟩)
  · skip
    refine lv_iload hx hb dX4_tellInterest_11 (lv_at hl 0 rfl) ?_
    refine lv_aload_n hx hb dX4_tellInterest_13 rfl (lv_at hl 1 rfl) ?_
    refine xg_502 (v := sg 502 0) hx hb hw4 hown hK hR (gd_4 hG) (hts _ kw_93) rfl dX4_tellInterest_14 ?_
    have g3 := gh_502 hG (0)
    have q4 : sg 502 0 = 0 := gh_502 hG _
    rw [q4, rv_p (Int.le_refl 0)]
    refine xl_600 hx hb hK hR (gd_9 hG) dX4_tellInterest_17 ?_
    refine xr_icmp_lt (tgt := 23) hx hb dX4_tellInterest_18 (by decide) (by omega) (by omega) (fun h5 => ?_) (fun h5 => ?_)
    · skip
      refine lv_aload_n hx hb dX4_tellInterest_23 rfl (lv_at hl 1 rfl) ?_
      refine xg_502 (v := sg 502 0) hx hb hw4 hown hK hR (gd_4 hG) (hts _ kw_93) rfl dX4_tellInterest_24 ?_
      have q6 : sg 502 0 = 0 := gh_502 hG _
      rw [q6, rv_p (Int.le_refl 0)]
      refine lv_iload hx hb dX4_tellInterest_27 (lv_at hl 0 rfl) ?_
      refine wr_new (C := RX0) (ci := 0) (fs := [.int 0, .int 0, .null, .int 0, .int 0, .int 0, .int 0, .int 0, .int 0, .int 0, .long 0, .long 0, .int 0, .long 0, .int 0]) hx hb hw0 tyX0 tyX0_ok hown (hts _ kw_25) (hts _ kw_466) (hts _ kw_11) hK hR hS (by rw [hsH]; exact hA) rfl xd_0 (Nat.le_of_ble_eq_true rfl) (Nat.le_of_ble_eq_true rfl) dX4_tellInterest_29 (fun q H hR hO hne hq hS => ?_)
      refine lv_dup hx hb dX4_tellInterest_32 rfl ?_
      refine lv_iload hx hb dX4_tellInterest_33 (lv_at hl 0 rfl) ?_
      refine lv_iload_n hx hb dX4_tellInterest_35 rfl (lv_at hl 2 rfl) ?_
      refine lv_aload_n hx hb dX4_tellInterest_36 rfl (lv_at hl 3 rfl) ?_
      refine lv_iload_n hx hb dX4_tellInterest_37 rfl (lv_at hl 4 rfl) ?_
      refine lv_aload_n hx hb dX4_tellInterest_38 rfl (lv_at hl 1 rfl) ?_
      refine xg_506 (v := sg 506 0) hx hb hw4 hown hK hR (gd_4 hG) (hts _ kw_97) rfl dX4_tellInterest_39 ?_
      have g7 := gr_506 hG (0)
      refine lv_iload hx hb dX4_tellInterest_42 (lv_at hl 5 rfl) ?_
      refine lv_iload hx hb dX4_tellInterest_44 (lv_at hl 6 rfl) ?_
      refine xk_m2 (xr_I (n := 7) (As := [.int (iI (sg 503 0)), .int (iI (k)), .ref (ad 1 (j)), .int (iI (u)), .int (iI (sg 506 0)), .int (iI (ms)), .int (iI (pr))]) (rest := [.ref q, .int (iI (sg 503 0)), .ref (ad 9 (0))]) hx hb hml hown hts hK (c_X0_init hO (sg 503 0) k (fv := ad 1) j (rv_p (by omega)).symm u (sg 506 0) ms pr) ms_X0_init.1 ms_X0_init.2.1 ms_X0_init.2.2 rfl ⟨by decide, by decide, by decide +kernel⟩ kw_467 ⟨by decide, by decide⟩ ⟨(Nat.le_of_ble_eq_true rfl), (Nat.le_of_ble_eq_true rfl)⟩ rfl rfl hl.1 rfl (lv_room (Nat.le_of_ble_eq_true rfl)) dX4_tellInterest_46) hS (fun x (hx1 : x = q) => by rw [hx1]; exact hq) (fun H locs hO hS hz hqq => ?_)
      have hR := wr_kept hR (fun k j hd => hqq _ (wr_lt hR hd).1 (hne k j hd))
      obtain ⟨ad2, hn, ho⟩ := ad_ext (ad := ad) (q := q) (K := 0) (n := (sg 503 0)) (dm := dmC sg) (fun z => by have z2 : sg 503 0 < sg 700 0 := z.2; have z3 : sg 700 0 = sg 503 0 := hG.2.2.1.1; omega)
      rw [← rv_ad (f := ad2 1) (g := ad 1) (v := j) (fun _ => ho 1 _ (gd_1 hG (by omega)))] at hO
      have hR : RC D cy A ad2 (nw sg 100 700 (sg 503 0) [sg 503 0, k, j, u, sg 506 0, ms, pr, -1, 0, 0, 0, 0, -1, 0, 0]) H := pu_0 hR hG hG.2.2.1.1 (by omega) hn ho hne hq hO
      rw [← ho 4 0 (gd_4 hG)] at hl
      rw [← ho 1 j (gd_1 hG (by omega))] at hl
      rw [← ho 9 0 (gd_9 hG)]
      subst hn
      refine xs_600 (v := sg 503 0) hx hb hK hR hS ((nwd (by simp) hG.2.2.1.1 (gd_9 hG))) (nwd_n (by simp) (by omega) rfl) (by first | omega | (refine ⟨by omega, ?_⟩; (repeat rw [st_f (by decide)]); first | exact hG.2.2.1.2.2.2.2.1 | (rw [nw_o (Or.inl (by simp)) (Or.inl (by decide))]; first | exact hG.2.2.1.2.2.2.2.1 | exact hG.2.2.1.2.2.2.2.2.2.1 | exact hG.2.2.1.2.2.2.2.2.2.2))) dX4_tellInterest_49 (fun H locs hR hS => ?_)
      refine lv_aload_n hx hb dX4_tellInterest_50 rfl (lv_at hl 1 rfl) ?_
      refine lv_iload hx hb dX4_tellInterest_51 (lv_at hl 0 rfl) ?_
      refine lv_iconst (v := iI (1)) hx hb dX4_tellInterest_53 rfl ?_
      refine xr_iadd hx hb dX4_tellInterest_54 ?_
      refine xp_503 (v := (sg 503 0) + 1) hx hb hw4 hown hK hR hS ((dm_st (by decide) _ _).mpr ((nwd (by simp) hG.2.2.1.1 (gd_4 hG)))) (hts _ kw_94) dX4_tellInterest_55 (fun H locs hR hS => ?_)
      refine lv_iload hx hb dX4_tellInterest_58 (lv_at hl 0 rfl) ?_
      refine W.widen (k := 1) (n := 15) (by decide) (by decide) ?_
      exact xm_i hx hb hr hlk hS dX4_tellInterest_60 (by omega) (by first | (exfalso; omega) | exact ⟨ad2, ho, hR⟩)
    · skip
      refine lv_iconst (v := iI (-1)) hx hb dX4_tellInterest_21 rfl ?_
      refine W.widen (k := 1) (n := 15) (by decide) (by decide) ?_
      exact xm_i hx hb hr hlk hS dX4_tellInterest_22 (by omega) (by first | (exfalso; omega) | exact ⟨ad, fun _ _ _ => rfl, hR⟩)
theorem ms_X4_scheme : MVi RX4 yX4_scheme cX4_scheme 4 (some .int) 2 := ⟨kw_309, kw_307, kw_308, kw_1, rfl, by decide, by decide, by decide +kernel⟩
set_option maxRecDepth 100000 in
set_option maxHeartbeats 4000000 in
theorem c_X4_scheme {l : Launch} {D : va_G} {cy : Nat → ClassId} {A : Nat → Prop} {ad : Nat → Int → Nat} {sg : Nat → Int → Int} {H : Heap} (hR : RC D cy A ad sg H) (hG : GC sg) (hl0 : l.stackTraces = false) (hA : ∀ q : Nat, H.size ≤ q → A q) (a : Int) (b : Int) (h_a : in32 a) (h_b : in32 b) : vx_Met l yX4_scheme (Cond.code yX4_scheme cX4_scheme 4 (some .int) :: wG) (rmF 6 82 1 6) (PcX A D cy H [.ref (ad 4 (0)), .int (iI (a)), .int (iI (b))]) (QmT (schemeE sg a b = 0) (some (.int (iI (sg 505 0)))) (fun H' => ∃ ad' : Nat → Int → Nat, (∀ k j, dmC sg k j → ad' k j = ad k j) ∧ RC D cy A ad' (schemeT sg a b) H') A) (XCx (schemeE sg a b) (fun H' => RC D cy A ad sg H') A) 1 6 A := by
  refine vmet_of (la := [(0, .ref (ad 4 (0))), (1, .int (iI (a))), (2, .int (iI (b)))]) (by decide) (Nat.le_of_ble_eq_true rfl) rfl ?_
  intro p e R s m args below meth c ls hRm hx hb hml hr hlk hxt hown hts hsH hK hX hl
  subst hRm
  have hown : s.vm.findClass "Takinghall" = some m.cls := hown
  have hw3 : ∀ w ∈ u_ws RX3 TX3 6, w.before args s = true := fun w h => hts w (uw_X3 w h)
  have hw4 : ∀ w ∈ u_ws RX4 TX4 12, w.before args s = true := fun w h => hts w (uw_X4 w h)
  have hS : va_S A s.heap H [] := by rw [hsH]; exact va_S.rf
  have g505 := gr_505 hG 0
  refine lv_iload_n hx hb dX4_scheme_0 rfl (lv_at hl 1 rfl) ?_
  refine lv_iconst (v := iI (0)) hx hb dX4_scheme_1 rfl ?_
  refine lv_bipush (v := iI (50)) hx hb dX4_scheme_2 (by decide) ?_
  refine xk_pF (xr_S (As := [.int (iI (a)), .int (iI (0)), .int (iI (50))]) (rest := []) hx hb hml hown hts hK (c_X4_isWithin hR hG a 0 50 (by omega) (by omega) (by omega)) ms_X4_isWithin kw_204 ⟨by decide, by decide⟩ ⟨by decide, by decide⟩ rfl rfl hl.1 rfl (lv_room (by decide)) dX4_scheme_4) ?_
  refine xr_ifb_eq (tgt := 20) hx hb dX4_scheme_7 (by decide) (fun h1 => ?_) (fun h1 => ?_)
  · skip
    exact xt_2 (thr := schemeE sg a b) (text := "harm or rise out of its range") (P := fun H' => RC D cy A ad sg H') hx hb hl0 hown hts hX hS (hl.1.trans hml.symm) hxt hlk (by decide) dX4_scheme_20 dX4_scheme_23 dX4_scheme_24 dX4_scheme_26 dX4_scheme_29 (by decide) (by decide) (by decide) (by decide) (by decide) (by decide) (wr_more hR) (by unfold schemeE; (repeat' split) <;> first | omega | grind)
  · skip
    refine lv_iload_n hx hb dX4_scheme_10 rfl (lv_at hl 2 rfl) ?_
    refine lv_iconst (v := iI (0)) hx hb dX4_scheme_11 rfl ?_
    refine lv_bipush (v := iI (50)) hx hb dX4_scheme_12 (by decide) ?_
    refine xk_pF (xr_S (As := [.int (iI (b)), .int (iI (0)), .int (iI (50))]) (rest := []) hx hb hml hown hts hK (c_X4_isWithin hR hG b 0 50 (by omega) (by omega) (by omega)) ms_X4_isWithin kw_204 ⟨by decide, by decide⟩ ⟨by decide, by decide⟩ rfl rfl hl.1 rfl (lv_room (by decide)) dX4_scheme_14) ?_
    refine xr_ifb_ne (tgt := 30) hx hb dX4_scheme_17 (by decide) (fun h2 => ?_) (fun h2 => ?_)
    · skip
      refine lv_aload_n hx hb dX4_scheme_30 rfl (lv_at hl 0 rfl) ?_
      refine xg_505 (v := sg 505 0) hx hb hw4 hown hK hR (gd_4 hG) (hts _ kw_96) rfl dX4_scheme_31 ?_
      have g3 := gr_505 hG (0)
      refine lv_istore_n (i := 3) (lv' := [(3, .int (iI (sg 505 0))), (0, .ref (ad 4 (0))), (1, .int (iI (a))), (2, .int (iI (b)))]) hx hb dX4_scheme_34 rfl hl (by decide) rfl (fun ls hl => ?_)
      refine lv_iload_n hx hb dX4_scheme_35 rfl (lv_at hl 0 rfl) ?_
      refine xr_if_lt (tgt := 48) hx hb dX4_scheme_36 (by decide) (by omega) (fun h4 => ?_) (fun h4 => ?_)
      · skip
        exact xt_3 (thr := schemeE sg a b) (text := "too many SCHEMES") (P := fun H' => RC D cy A ad sg H') hx hb hl0 hown hts hX hS (hl.1.trans hml.symm) hxt hlk (by decide) dX4_scheme_48 dX4_scheme_51 dX4_scheme_52 dX4_scheme_54 dX4_scheme_57 (by decide) (by decide) (by decide) (by decide) (by decide) (by decide) (wr_more hR) (by unfold schemeE; (repeat' split) <;> first | omega | grind)
      · skip
        refine lv_iload_n hx hb dX4_scheme_39 rfl (lv_at hl 0 rfl) ?_
        refine lv_aload_n hx hb dX4_scheme_40 rfl (lv_at hl 1 rfl) ?_
        refine xg_504 (v := sg 504 0) hx hb hw4 hown hK hR (gd_4 hG) (hts _ kw_95) rfl dX4_scheme_41 ?_
        have g5 := gh_504 hG (0)
        have q6 : sg 504 0 = 0 := gh_504 hG _
        rw [q6, rv_p (Int.le_refl 0)]
        refine xl_603 hx hb hK hR (gd_12 hG) dX4_scheme_44 ?_
        refine xr_icmp_lt (tgt := 58) hx hb dX4_scheme_45 (by decide) (by omega) (by omega) (fun h7 => ?_) (fun h7 => ?_)
        · skip
          refine lv_aload_n hx hb dX4_scheme_58 rfl (lv_at hl 1 rfl) ?_
          refine xg_504 (v := sg 504 0) hx hb hw4 hown hK hR (gd_4 hG) (hts _ kw_95) rfl dX4_scheme_59 ?_
          have q8 : sg 504 0 = 0 := gh_504 hG _
          rw [q8, rv_p (Int.le_refl 0)]
          refine lv_iload_n hx hb dX4_scheme_62 rfl (lv_at hl 0 rfl) ?_
          refine wr_new (C := RX3) (ci := 3) (fs := [.int 0, .int 0, .int 0, .int 0, .int 0, .int 0]) hx hb hw3 tyX3 tyX3_ok hown (hts _ kw_27) (hts _ kw_312) (hts _ kw_10) hK hR hS (by rw [hsH]; exact hA) rfl xd_3 (Nat.le_of_ble_eq_true rfl) (Nat.le_of_ble_eq_true rfl) dX4_scheme_63 (fun q H hR hO hne hq hS => ?_)
          refine lv_dup hx hb dX4_scheme_66 rfl ?_
          refine lv_iload_n hx hb dX4_scheme_67 rfl (lv_at hl 0 rfl) ?_
          refine lv_iload_n hx hb dX4_scheme_68 rfl (lv_at hl 2 rfl) ?_
          refine lv_iload_n hx hb dX4_scheme_69 rfl (lv_at hl 3 rfl) ?_
          refine xk_m2 (xr_I (n := 3) (As := [.int (iI (sg 505 0)), .int (iI (a)), .int (iI (b))]) (rest := [.ref q, .int (iI (sg 505 0)), .ref (ad 12 (0))]) hx hb hml hown hts hK (c_X3_init hO (sg 505 0) a b) ms_X3_init.1 ms_X3_init.2.1 ms_X3_init.2.2 rfl ⟨by decide, by decide, by decide +kernel⟩ kw_313 ⟨by decide, by decide⟩ ⟨(Nat.le_of_ble_eq_true rfl), (Nat.le_of_ble_eq_true rfl)⟩ rfl rfl hl.1 rfl (lv_room (Nat.le_of_ble_eq_true rfl)) dX4_scheme_70) hS (fun x (hx1 : x = q) => by rw [hx1]; exact hq) (fun H locs hO hS hz hqq => ?_)
          have hR := wr_kept hR (fun k j hd => hqq _ (wr_lt hR hd).1 (hne k j hd))
          obtain ⟨ad2, hn, ho⟩ := ad_ext (ad := ad) (q := q) (K := 3) (n := (sg 505 0)) (dm := dmC sg) (fun z => by have z2 : sg 505 0 < sg 703 0 := z.2; have z3 : sg 703 0 = sg 505 0 := hG.2.2.1.2.2.1; omega)
          have hR : RC D cy A ad2 (nw sg 400 703 (sg 505 0) [sg 505 0, a, b, 0, -1, -1]) H := pu_3 hR hG hG.2.2.1.2.2.1 (by omega) hn ho hne hq hO
          rw [← ho 4 0 (gd_4 hG)] at hl
          rw [← ho 12 0 (gd_12 hG)]
          subst hn
          refine xs_603 (v := sg 505 0) hx hb hK hR hS ((nwd (by simp) hG.2.2.1.2.2.1 (gd_12 hG))) (nwd_n (by simp) (by omega) rfl) (by first | omega | (refine ⟨by omega, ?_⟩; (repeat rw [st_f (by decide)]); first | exact hG.2.2.1.2.2.2.2.1 | (rw [nw_o (Or.inl (by simp)) (Or.inl (by decide))]; first | exact hG.2.2.1.2.2.2.2.1 | exact hG.2.2.1.2.2.2.2.2.2.1 | exact hG.2.2.1.2.2.2.2.2.2.2))) dX4_scheme_73 (fun H locs hR hS => ?_)
          refine lv_aload_n hx hb dX4_scheme_74 rfl (lv_at hl 1 rfl) ?_
          refine lv_iload_n hx hb dX4_scheme_75 rfl (lv_at hl 0 rfl) ?_
          refine lv_iconst (v := iI (1)) hx hb dX4_scheme_76 rfl ?_
          refine xr_iadd hx hb dX4_scheme_77 ?_
          refine xp_505 (v := (sg 505 0) + 1) hx hb hw4 hown hK hR hS ((dm_st (by decide) _ _).mpr ((nwd (by simp) hG.2.2.1.2.2.1 (gd_4 hG)))) (hts _ kw_96) dX4_scheme_78 (fun H locs hR hS => ?_)
          refine lv_iload_n hx hb dX4_scheme_81 rfl (lv_at hl 0 rfl) ?_
          exact xv_i hx hb hr hlk hS (by decide) (by decide) dX4_scheme_82 (by unfold schemeE; (repeat' split) <;> first | omega | grind) (by rfl) (by exact ⟨ad2, ho, hR⟩)
        · skip
          exact xt_3 (thr := schemeE sg a b) (text := "too many SCHEMES") (P := fun H' => RC D cy A ad sg H') hx hb hl0 hown hts hX hS (hl.1.trans hml.symm) hxt hlk (by decide) dX4_scheme_48 dX4_scheme_51 dX4_scheme_52 dX4_scheme_54 dX4_scheme_57 (by decide) (by decide) (by decide) (by decide) (by decide) (by decide) (wr_more hR) (by unfold schemeE; (repeat' split) <;> first | omega | grind)
    · skip
      exact xt_2 (thr := schemeE sg a b) (text := "harm or rise out of its range") (P := fun H' => RC D cy A ad sg H') hx hb hl0 hown hts hX hS (hl.1.trans hml.symm) hxt hlk (by decide) dX4_scheme_20 dX4_scheme_23 dX4_scheme_24 dX4_scheme_26 dX4_scheme_29 (by decide) (by decide) (by decide) (by decide) (by decide) (by decide) (wr_more hR) (by unfold schemeE; (repeat' split) <;> first | omega | grind)
theorem ms_X4_price : MVi RX4 yX4_price cX4_price 4 (some .int) 2 := ⟨kw_251, kw_249, kw_250, kw_1, rfl, by decide, by decide, by decide +kernel⟩
set_option maxRecDepth 100000 in
set_option maxHeartbeats 4000000 in
theorem c_X4_price {l : Launch} {D : va_G} {cy : Nat → ClassId} {A : Nat → Prop} {ad : Nat → Int → Nat} {sg : Nat → Int → Int} {H : Heap} (hR : RC D cy A ad sg H) (hG : GC sg) (hl0 : l.stackTraces = false) (hA : ∀ q : Nat, H.size ≤ q → A q) (u : Int) (ce : Int) (h_u : in32 u) (h_ce : in32 ce) : vx_Met l yX4_price (Cond.code yX4_price cX4_price 4 (some .int) :: wG) (rmF 6 82 1 6) (PcX A D cy H [.ref (ad 4 (0)), .int (iI (u)), .int (iI (ce))]) (QmT (priceE u ce = 0) (some (.int (iI (centsO sg (prOn sg u (sg 506 0)))))) (fun H' => ∃ ad' : Nat → Int → Nat, (∀ k j, dmC sg k j → ad' k j = ad k j) ∧ RC D cy A ad' (priceT sg u ce) H') A) (XCx (priceE u ce) (fun H' => RC D cy A ad sg H') A) 1 6 A := by
  refine vmet_of (la := [(0, .ref (ad 4 (0))), (1, .int (iI (u))), (2, .int (iI (ce)))]) (by decide) (Nat.le_of_ble_eq_true rfl) rfl ?_
  intro p e R s m args below meth c ls hRm hx hb hml hr hlk hxt hown hts hsH hK hX hl
  subst hRm
  have hown : s.vm.findClass "Takinghall" = some m.cls := hown
  have hw2 : ∀ w ∈ u_ws RX2 TX2 3, w.before args s = true := fun w h => hts w (uw_X2 w h)
  have hw4 : ∀ w ∈ u_ws RX4 TX4 12, w.before args s = true := fun w h => hts w (uw_X4 w h)
  have hS : va_S A s.heap H [] := by rw [hsH]; exact va_S.rf
  have g506 := gr_506 hG 0
  have g702 : 0 ≤ sg 702 0 := by have := hG.2.1.2.2.2 0 (by decide) (by decide); omega
  refine lv_iload_n hx hb dX4_price_0 rfl (lv_at hl 1 rfl) ?_
  refine xr_if_lt (tgt := 24) hx hb dX4_price_1 (by decide) (by omega) (fun h1 => ?_) (fun h1 => ?_)
  · skip
    exact xt_2 (thr := priceE u ce) (text := "use or cents out of its range") (P := fun H' => RC D cy A ad sg H') hx hb hl0 hown hts hX hS (hl.1.trans hml.symm) hxt hlk (by decide) dX4_price_24 dX4_price_27 dX4_price_28 dX4_price_30 dX4_price_33 (by decide) (by decide) (by decide) (by decide) (by decide) (by decide) (wr_more hR) (by unfold priceE; (repeat' split) <;> first | omega | grind)
  · skip
    refine lv_iload_n hx hb dX4_price_4 rfl (lv_at hl 1 rfl) ?_
    refine lv_aload_n hx hb dX4_price_5 rfl (lv_at hl 0 rfl) ?_
    refine xg_501 (v := sg 501 0) hx hb hw4 hown hK hR (gd_4 hG) (hts _ kw_92) rfl dX4_price_6 ?_
    have g2 := gh_501 hG (0)
    have q3 : sg 501 0 = 0 := gh_501 hG _
    rw [q3, rv_p (Int.le_refl 0)]
    refine xl_602 hx hb hK hR (gd_11 hG) dX4_price_9 ?_
    refine xr_icmp_ge (tgt := 24) hx hb dX4_price_10 (by decide) (by omega) (by omega) (fun h4 => ?_) (fun h4 => ?_)
    · skip
      exact xt_2 (thr := priceE u ce) (text := "use or cents out of its range") (P := fun H' => RC D cy A ad sg H') hx hb hl0 hown hts hX hS (hl.1.trans hml.symm) hxt hlk (by decide) dX4_price_24 dX4_price_27 dX4_price_28 dX4_price_30 dX4_price_33 (by decide) (by decide) (by decide) (by decide) (by decide) (by decide) (wr_more hR) (by unfold priceE; (repeat' split) <;> first | omega | grind)
    · skip
      refine lv_iload_n hx hb dX4_price_13 rfl (lv_at hl 2 rfl) ?_
      refine lv_iconst (v := iI (0)) hx hb dX4_price_14 rfl ?_
      refine lv_sipush (v := iI (1000)) hx hb dX4_price_15 (by decide) ?_
      refine xk_pF (xr_S (As := [.int (iI (ce)), .int (iI (0)), .int (iI (1000))]) (rest := []) hx hb hml hown hts hK (c_X4_isWithin hR hG ce 0 1000 (by omega) (by omega) (by omega)) ms_X4_isWithin kw_204 ⟨by decide, by decide⟩ ⟨by decide, by decide⟩ rfl rfl hl.1 rfl (lv_room (by decide)) dX4_price_18) ?_
      refine xr_ifb_ne (tgt := 34) hx hb dX4_price_21 (by decide) (fun h5 => ?_) (fun h5 => ?_)
      · skip
        refine lv_aload_n hx hb dX4_price_34 rfl (lv_at hl 0 rfl) ?_
        refine lv_iload_n hx hb dX4_price_35 rfl (lv_at hl 1 rfl) ?_
        refine lv_aload_n hx hb dX4_price_36 rfl (lv_at hl 0 rfl) ?_
        refine xg_506 (v := sg 506 0) hx hb hw4 hown hK hR (gd_4 hG) (hts _ kw_97) rfl dX4_price_37 ?_
        have g6 := gr_506 hG (0)
        refine xk_pF (xr_V (As := [.int (iI (u)), .int (iI (sg 506 0))]) (rest := []) hx hb hml hown hts hK (c_X4_priceOn hR hG u (sg 506 0) (by omega) (by omega)) ms_X4_priceOn kw_253 (wr_recv hK hR (gd_4 hG) rfl rfl) ⟨by decide, by decide⟩ ⟨by decide, by decide⟩ rfl rfl hl.1 rfl (lv_room (by decide)) dX4_price_40) ?_
        have g7 := prOn_lt hG (u) ((sg 506 0))
        refine xk_pF (xr_S (As := [rv (ad 2) (prOn sg u (sg 506 0))]) (rest := []) hx hb hml hown hts hK (c_X4_centsOf hR hG (prOn sg u (sg 506 0)) (rfl) (by omega)) ms_X4_centsOf kw_257 ⟨by decide, by decide⟩ ⟨by decide, by decide⟩ rfl rfl hl.1 rfl (lv_room (by decide)) dX4_price_43) ?_
        have g8 := centsO_rng hG ((prOn sg u (sg 506 0)))
        refine lv_istore_n (i := 3) (lv' := [(3, .int (iI (centsO sg (prOn sg u (sg 506 0))))), (0, .ref (ad 4 (0))), (1, .int (iI (u))), (2, .int (iI (ce)))]) hx hb dX4_price_46 rfl hl (by decide) rfl (fun ls hl => ?_)
        refine lv_aload_n hx hb dX4_price_47 rfl (lv_at hl 1 rfl) ?_
        refine xg_501 (v := sg 501 0) hx hb hw4 hown hK hR (gd_4 hG) (hts _ kw_92) rfl dX4_price_48 ?_
        have q9 : sg 501 0 = 0 := gh_501 hG _
        rw [q9, rv_p (Int.le_refl 0)]
        refine lv_iload_n hx hb dX4_price_51 rfl (lv_at hl 2 rfl) ?_
        refine wr_new (C := RX2) (ci := 2) (fs := [.int 0, .int 0, .null]) hx hb hw2 tyX2 tyX2_ok hown (hts _ kw_23) (hts _ kw_73) (hts _ kw_3) hK hR hS (by rw [hsH]; exact hA) rfl xd_2 (Nat.le_of_ble_eq_true rfl) (Nat.le_of_ble_eq_true rfl) dX4_price_52 (fun q H hR hO hne hq hS => ?_)
        refine lv_dup hx hb dX4_price_55 rfl ?_
        refine lv_aload_n hx hb dX4_price_56 rfl (lv_at hl 1 rfl) ?_
        refine xg_506 (v := sg 506 0) hx hb hw4 hown hK hR (gd_4 hG) (hts _ kw_97) rfl dX4_price_57 ?_
        refine lv_iload_n hx hb dX4_price_60 rfl (lv_at hl 3 rfl) ?_
        refine lv_aload_n hx hb dX4_price_61 rfl (lv_at hl 1 rfl) ?_
        refine lv_iload_n hx hb dX4_price_62 rfl (lv_at hl 2 rfl) ?_
        refine lv_aload_n hx hb dX4_price_63 rfl (lv_at hl 1 rfl) ?_
        refine xg_506 (v := sg 506 0) hx hb hw4 hown hK hR (gd_4 hG) (hts _ kw_97) rfl dX4_price_64 ?_
        refine lv_iconst (v := iI (1)) hx hb dX4_price_67 rfl ?_
        refine xr_isub hx hb dX4_price_68 ?_
        refine xk_pF (xr_V (As := [.int (iI (u)), .int (iI ((sg 506 0) - 1))]) (rest := [.int (iI (ce)), .int (iI (sg 506 0)), .ref q, .ref q, .int (iI (u)), .ref (ad 11 (0))]) hx hb hml hown hts hK (c_X4_priceOn hR hG u ((sg 506 0) - 1) (by omega) (by omega)) ms_X4_priceOn kw_253 (wr_recv hK hR (gd_4 hG) rfl rfl) ⟨by decide, by decide⟩ ⟨by decide, by decide⟩ rfl rfl hl.1 rfl (lv_room (by simp [rv_cat, cat_i, cat_l, cat_r, cat_n])) dX4_price_69) ?_
        have g10 := prOn_lt hG (u) (((sg 506 0) - 1))
        refine xk_m2 (xr_I (n := 3) (As := [.int (iI (sg 506 0)), .int (iI (ce)), rv (ad 2) (prOn sg u ((sg 506 0) - 1))]) (rest := [.ref q, .int (iI (u)), .ref (ad 11 (0))]) hx hb hml hown hts hK (c_X2_init hO (sg 506 0) ce (fv := ad 2) (prOn sg u ((sg 506 0) - 1)) rfl) ms_X2_init.1 ms_X2_init.2.1 ms_X2_init.2.2 rfl ⟨by decide, by decide, by decide +kernel⟩ kw_74 ⟨by decide, by decide⟩ ⟨(Nat.le_of_ble_eq_true rfl), (Nat.le_of_ble_eq_true rfl)⟩ rfl rfl hl.1 rfl (lv_room (Nat.le_of_ble_eq_true rfl)) dX4_price_72) hS (fun x (hx1 : x = q) => by rw [hx1]; exact hq) (fun H locs hO hS hz hqq => ?_)
        have hR := wr_kept hR (fun k j hd => hqq _ (wr_lt hR hd).1 (hne k j hd))
        obtain ⟨ad2, hn, ho⟩ := ad_ext (ad := ad) (q := q) (K := 2) (n := (sg 702 0)) (dm := dmC sg) (fun z => by have z2 : sg 702 0 < sg 702 0 := z.2; have z3 : sg 702 0 = sg 702 0 := rfl; omega)
        rw [← rv_ad (f := ad2 2) (g := ad 2) (v := prOn sg u ((sg 506 0) - 1)) (fun h => ho 2 _ (⟨h, (prOn_lt hG _ _).2⟩))] at hO
        have hR : RC D cy A ad2 (nw sg 300 702 (sg 702 0) [sg 506 0, ce, prOn sg u (sg 506 0 - 1)]) H := pu_2 hR hG rfl (by omega) hn ho hne hq hO
        rw [← ho 4 0 (gd_4 hG)] at hl
        rw [← ho 11 0 (gd_11 hG)]
        subst hn
        refine xs_602 (v := sg 702 0) hx hb hK hR hS ((nwd (by simp) rfl (gd_11 hG))) (nwd_n (by simp) (by omega) rfl) (by first | omega | (refine ⟨by omega, ?_⟩; (repeat rw [st_f (by decide)]); first | exact hG.2.2.1.2.2.2.2.1 | (rw [nw_o (Or.inl (by simp)) (Or.inl (by decide))]; first | exact hG.2.2.1.2.2.2.2.1 | exact hG.2.2.1.2.2.2.2.2.2.1 | exact hG.2.2.1.2.2.2.2.2.2.2))) dX4_price_75 (fun H locs hR hS => ?_)
        refine lv_iload_n hx hb dX4_price_76 rfl (lv_at hl 0 rfl) ?_
        exact xv_i hx hb hr hlk hS (by decide) (by decide) dX4_price_77 (by unfold priceE; (repeat' split) <;> first | omega | grind) (by rfl) (by exact ⟨ad2, ho, hR⟩)
      · skip
        exact xt_2 (thr := priceE u ce) (text := "use or cents out of its range") (P := fun H' => RC D cy A ad sg H') hx hb hl0 hown hts hX hS (hl.1.trans hml.symm) hxt hlk (by decide) dX4_price_24 dX4_price_27 dX4_price_28 dX4_price_30 dX4_price_33 (by decide) (by decide) (by decide) (by decide) (by decide) (by decide) (wr_more hR) (by unfold priceE; (repeat' split) <;> first | omega | grind)
theorem ms_X4_own : MVi RX4 yX4_own cX4_own 5 (some .int) 3 := ⟨kw_447, kw_445, kw_446, kw_1, rfl, by decide, by decide, by decide +kernel⟩
set_option maxRecDepth 100000 in
set_option maxHeartbeats 4000000 in
theorem c_X4_own {l : Launch} {D : va_G} {cy : Nat → ClassId} {A : Nat → Prop} {ad : Nat → Int → Nat} {sg : Nat → Int → Int} {H : Heap} (hR : RC D cy A ad sg H) (hG : GC sg) (hl0 : l.stackTraces = false) (hA : ∀ q : Nat, H.size ≤ q → A q) (x : Int) (u : Int) (sh : Int) (h_x : in32 x) (h_u : in32 u) (h_sh : in32 sh) : vx_Met l yX4_own (Cond.code yX4_own cX4_own 5 (some .int) :: wG) (rmF 6 93 1 15) (PcX A D cy H [.ref (ad 4 (0)), .int (iI (x)), .int (iI (u)), .int (iI (sh))]) (QmT (ownE sg x u sh = 0) (some (.int (iI (sg 503 0)))) (fun H' => ∃ ad' : Nat → Int → Nat, (∀ k j, dmC sg k j → ad' k j = ad k j) ∧ RC D cy A ad' (tellT sg 0 (pAt x) u sh 0) H') A) (XCx (ownE sg x u sh) (fun H' => RC D cy A ad sg H') A) 1 15 A := by
  refine vmet_of (la := [(0, .ref (ad 4 (0))), (1, .int (iI (x))), (2, .int (iI (u))), (3, .int (iI (sh)))]) (by decide) (Nat.le_of_ble_eq_true rfl) rfl ?_
  intro p e R s m args below meth c ls hRm hx hb hml hr hlk hxt hown hts hsH hK hX hl
  subst hRm
  have hown : s.vm.findClass "Takinghall" = some m.cls := hown
  have hS : va_S A s.heap H [] := by rw [hsH]; exact va_S.rf
  have g503 := gr_503 hG 0
  refine lv_aload_n hx hb dX4_own_0 rfl (lv_at hl 0 rfl) ?_
  refine lv_iload_n hx hb dX4_own_1 rfl (lv_at hl 1 rfl) ?_
  refine xk_pF (xr_V (As := [.int (iI (x))]) (rest := []) hx hb hml hown hts hK (c_X4_plotAt hR hG x (by omega)) ms_X4_plotAt kw_132 (wr_recv hK hR (gd_4 hG) rfl rfl) ⟨by decide, by decide⟩ ⟨by decide, by decide⟩ rfl rfl hl.1 rfl (lv_room (by decide)) dX4_own_2) ?_
  have g1 := pAt_rng (x)
  refine xr_astore (i := 4) (lv' := [(4, rv (ad 1) (pAt x)), (0, .ref (ad 4 (0))), (1, .int (iI (x))), (2, .int (iI (u))), (3, .int (iI (sh)))]) hx hb dX4_own_5 hl (by decide) rfl (fun ls hl => ?_)
  refine xr_aload hx hb dX4_own_7 (lv_at hl 0 rfl) ?_
  refine xr_ifnull (tgt := 19) hx hb dX4_own_9 (by decide) (fun h2 => ?_) (fun h2 => ?_)
  · skip
    rw [rv_n h2] at hl
    exact xt_1 (thr := ownE sg x u sh) (text := "no such PLOT or PERSON") (P := fun H' => RC D cy A ad sg H') hx hb hl0 hown hts hX hS (hl.1.trans hml.symm) hxt hlk (by decide) dX4_own_19 dX4_own_22 dX4_own_23 dX4_own_25 dX4_own_28 (by decide) (by decide) (by decide) (by decide) (by decide) (by decide) (wr_more hR) (by (try unfold canTell at *); unfold ownE; (repeat' split) <;> first | omega | grind)
  · skip
    rw [rv_p h2] at hl
    refine lv_iload_n hx hb dX4_own_12 rfl (lv_at hl 3 rfl) ?_
    refine xk_pF (xr_S (As := [.int (iI (u))]) (rest := []) hx hb hml hown hts hK (c_X4_isPerson hR hG u (by omega)) ms_X4_isPerson kw_448 ⟨by decide, by decide⟩ ⟨by decide, by decide⟩ rfl rfl hl.1 rfl (lv_room (by decide)) dX4_own_13) ?_
    refine xr_ifb_ne (tgt := 29) hx hb dX4_own_16 (by decide) (fun h3 => ?_) (fun h3 => ?_)
    · skip
      refine lv_iload_n hx hb dX4_own_29 rfl (lv_at hl 4 rfl) ?_
      refine lv_iconst (v := iI (1)) hx hb dX4_own_30 rfl ?_
      refine lv_bipush (v := iI (100)) hx hb dX4_own_31 (by decide) ?_
      refine xk_pF (xr_S (As := [.int (iI (sh)), .int (iI (1)), .int (iI (100))]) (rest := []) hx hb hml hown hts hK (c_X4_isWithin hR hG sh 1 100 (by omega) (by omega) (by omega)) ms_X4_isWithin kw_204 ⟨by decide, by decide⟩ ⟨by decide, by decide⟩ rfl rfl hl.1 rfl (lv_room (by decide)) dX4_own_33) ?_
      refine xr_ifb_eq (tgt := 52) hx hb dX4_own_36 (by decide) (fun h4 => ?_) (fun h4 => ?_)
      · skip
        exact xt_2 (thr := ownE sg x u sh) (text := "share out of its range, or too much with the others") (P := fun H' => RC D cy A ad sg H') hx hb hl0 hown hts hX hS (hl.1.trans hml.symm) hxt hlk (by decide) dX4_own_52 dX4_own_55 dX4_own_56 dX4_own_58 dX4_own_61 (by decide) (by decide) (by decide) (by decide) (by decide) (by decide) (wr_more hR) (by (try unfold canTell at *); unfold ownE; (repeat' split) <;> first | omega | grind)
      · skip
        refine lv_aload_n hx hb dX4_own_39 rfl (lv_at hl 1 rfl) ?_
        refine lv_aload hx hb dX4_own_40 (lv_at hl 0 rfl) ?_
        refine xk_pF (xr_V (As := [.ref (ad 1 (pAt x))]) (rest := []) hx hb hml hown hts hK (c_X4_sharesOf hR hG (pAt x) (by omega)) ms_X4_sharesOf kw_452 (wr_recv hK hR (gd_4 hG) rfl rfl) ⟨by decide, by decide⟩ ⟨by decide, by decide⟩ rfl rfl hl.1 rfl (lv_room (by decide)) dX4_own_42) ?_
        have g5 := shares_rng hG ((pAt x))
        refine lv_iload_n hx hb dX4_own_45 rfl (lv_at hl 4 rfl) ?_
        refine xr_iadd hx hb dX4_own_46 ?_
        refine lv_bipush (v := iI (100)) hx hb dX4_own_47 (by decide) ?_
        refine xr_icmp_le (tgt := 62) hx hb dX4_own_49 (by decide) (by omega) (by omega) (fun h6 => ?_) (fun h6 => ?_)
        · skip
          refine lv_aload_n hx hb dX4_own_62 rfl (lv_at hl 1 rfl) ?_
          refine lv_aload hx hb dX4_own_63 (lv_at hl 0 rfl) ?_
          refine xk_pF (xr_V (As := [.ref (ad 1 (pAt x))]) (rest := []) hx hb hml hown hts hK (c_X4_canTellInterest hR hG (pAt x) ((rv_p (by omega)).symm) (by omega)) ms_X4_canTellInterest kw_457 (wr_recv hK hR (gd_4 hG) rfl rfl) ⟨by decide, by decide⟩ ⟨by decide, by decide⟩ rfl rfl hl.1 rfl (lv_room (by decide)) dX4_own_65) ?_
          refine xr_ifb_ne (tgt := 81) hx hb dX4_own_68 (by decide) (fun h7 => ?_) (fun h7 => ?_)
          · skip
            have hct : canTell sg (pAt x) := by assumption
            unfold canTell at hct
            refine lv_aload_n hx hb dX4_own_81 rfl (lv_at hl 1 rfl) ?_
            refine lv_iconst (v := iI (0)) hx hb dX4_own_82 rfl ?_
            refine lv_aload hx hb dX4_own_83 (lv_at hl 0 rfl) ?_
            refine lv_iload_n hx hb dX4_own_85 rfl (lv_at hl 3 rfl) ?_
            refine lv_iload_n hx hb dX4_own_86 rfl (lv_at hl 4 rfl) ?_
            refine lv_iconst (v := iI (0)) hx hb dX4_own_87 rfl ?_
            refine xk_mF (xr_V (As := [.int (iI (0)), .ref (ad 1 (pAt x)), .int (iI (u)), .int (iI (sh)), .int (iI (0))]) (rest := []) hx hb hml hown hts hK (c_X4_tellInterest hR hG hA 0 (pAt x) u sh 0 (by omega) (by omega) (by omega) (by omega) (by omega) (by omega)) ms_X4_tellInterest kw_462 (wr_recv hK hR (gd_4 hG) rfl rfl) ⟨by decide, by decide⟩ ⟨by decide, by decide⟩ rfl rfl hl.1 rfl (lv_room (by decide)) dX4_own_88) hS (fun H locs hR hS hz hq => ?_)
            obtain ⟨ad2, ho, hR⟩ := hR
            show W p l e (rmF 6 93 1 15) s m args below meth c H locs (0 + 1) (0 + 15) _ (F0 m (88 + 3) ls (.int (iI (sg 503 0)) :: []))
            exact xv_i hx hb hr hlk hS (by decide) (by decide) dX4_own_91 (by (try unfold canTell at *); unfold ownE; (repeat' split) <;> first | omega | grind) (by rfl) (by exact ⟨ad2, ho, hR⟩)
          · skip
            exact xt_3 (thr := ownE sg x u sh) (text := "too many INTERESTS, or the PLOT is not FREE") (P := fun H' => RC D cy A ad sg H') hx hb hl0 hown hts hX hS (hl.1.trans hml.symm) hxt hlk (by decide) dX4_own_71 dX4_own_74 dX4_own_75 dX4_own_77 dX4_own_80 (by decide) (by decide) (by decide) (by decide) (by decide) (by decide) (wr_more hR) (by (try unfold canTell at *); unfold ownE; (repeat' split) <;> first | omega | grind)
        · skip
          exact xt_2 (thr := ownE sg x u sh) (text := "share out of its range, or too much with the others") (P := fun H' => RC D cy A ad sg H') hx hb hl0 hown hts hX hS (hl.1.trans hml.symm) hxt hlk (by decide) dX4_own_52 dX4_own_55 dX4_own_56 dX4_own_58 dX4_own_61 (by decide) (by decide) (by decide) (by decide) (by decide) (by decide) (wr_more hR) (by (try unfold canTell at *); unfold ownE; (repeat' split) <;> first | omega | grind)
    · skip
      exact xt_1 (thr := ownE sg x u sh) (text := "no such PLOT or PERSON") (P := fun H' => RC D cy A ad sg H') hx hb hl0 hown hts hX hS (hl.1.trans hml.symm) hxt hlk (by decide) dX4_own_19 dX4_own_22 dX4_own_23 dX4_own_25 dX4_own_28 (by decide) (by decide) (by decide) (by decide) (by decide) (by decide) (wr_more hR) (by (try unfold canTell at *); unfold ownE; (repeat' split) <;> first | omega | grind)
theorem ms_X4_lease : MVi RX4 yX4_lease cX4_lease 6 (some .int) 4 := ⟨kw_529, kw_527, kw_528, kw_1, rfl, by decide, by decide, by decide +kernel⟩
set_option maxRecDepth 100000 in
set_option maxHeartbeats 4000000 in
theorem c_X4_lease {l : Launch} {D : va_G} {cy : Nat → ClassId} {A : Nat → Prop} {ad : Nat → Int → Nat} {sg : Nat → Int → Int} {H : Heap} (hR : RC D cy A ad sg H) (hG : GC sg) (hl0 : l.stackTraces = false) (hA : ∀ q : Nat, H.size ≤ q → A q) (x : Int) (u : Int) (til : Int) (pr : Int) (h_x : in32 x) (h_u : in32 u) (h_til : in32 til) (h_pr : in32 pr) : vx_Met l yX4_lease (Cond.code yX4_lease cX4_lease 6 (some .int) :: wG) (rmF 6 93 1 15) (PcX A D cy H [.ref (ad 4 (0)), .int (iI (x)), .int (iI (u)), .int (iI (til)), .int (iI (pr))]) (QmT (leaseE sg x u til pr = 0) (some (.int (iI (sg 503 0)))) (fun H' => ∃ ad' : Nat → Int → Nat, (∀ k j, dmC sg k j → ad' k j = ad k j) ∧ RC D cy A ad' (tellT sg 1 (pAt x) u til pr) H') A) (XCx (leaseE sg x u til pr) (fun H' => RC D cy A ad sg H') A) 1 15 A := by
  refine vmet_of (la := [(0, .ref (ad 4 (0))), (1, .int (iI (x))), (2, .int (iI (u))), (3, .int (iI (til))), (4, .int (iI (pr)))]) (by decide) (Nat.le_of_ble_eq_true rfl) rfl ?_
  intro p e R s m args below meth c ls hRm hx hb hml hr hlk hxt hown hts hsH hK hX hl
  subst hRm
  have hown : s.vm.findClass "Takinghall" = some m.cls := hown
  have hw4 : ∀ w ∈ u_ws RX4 TX4 12, w.before args s = true := fun w h => hts w (uw_X4 w h)
  have hS : va_S A s.heap H [] := by rw [hsH]; exact va_S.rf
  have g503 := gr_503 hG 0
  have g506 := gr_506 hG 0
  refine lv_aload_n hx hb dX4_lease_0 rfl (lv_at hl 0 rfl) ?_
  refine lv_iload_n hx hb dX4_lease_1 rfl (lv_at hl 1 rfl) ?_
  refine xk_pF (xr_V (As := [.int (iI (x))]) (rest := []) hx hb hml hown hts hK (c_X4_plotAt hR hG x (by omega)) ms_X4_plotAt kw_132 (wr_recv hK hR (gd_4 hG) rfl rfl) ⟨by decide, by decide⟩ ⟨by decide, by decide⟩ rfl rfl hl.1 rfl (lv_room (by decide)) dX4_lease_2) ?_
  have g1 := pAt_rng (x)
  refine xr_astore (i := 5) (lv' := [(5, rv (ad 1) (pAt x)), (0, .ref (ad 4 (0))), (1, .int (iI (x))), (2, .int (iI (u))), (3, .int (iI (til))), (4, .int (iI (pr)))]) hx hb dX4_lease_5 hl (by decide) rfl (fun ls hl => ?_)
  refine xr_aload hx hb dX4_lease_7 (lv_at hl 0 rfl) ?_
  refine xr_ifnull (tgt := 19) hx hb dX4_lease_9 (by decide) (fun h2 => ?_) (fun h2 => ?_)
  · skip
    rw [rv_n h2] at hl
    exact xt_1 (thr := leaseE sg x u til pr) (text := "no such PLOT or PERSON") (P := fun H' => RC D cy A ad sg H') hx hb hl0 hown hts hX hS (hl.1.trans hml.symm) hxt hlk (by decide) dX4_lease_19 dX4_lease_22 dX4_lease_23 dX4_lease_25 dX4_lease_28 (by decide) (by decide) (by decide) (by decide) (by decide) (by decide) (wr_more hR) (by (try unfold canTell at *); unfold leaseE; (repeat' split) <;> first | omega | grind)
  · skip
    rw [rv_p h2] at hl
    refine lv_iload_n hx hb dX4_lease_12 rfl (lv_at hl 3 rfl) ?_
    refine xk_pF (xr_S (As := [.int (iI (u))]) (rest := []) hx hb hml hown hts hK (c_X4_isPerson hR hG u (by omega)) ms_X4_isPerson kw_448 ⟨by decide, by decide⟩ ⟨by decide, by decide⟩ rfl rfl hl.1 rfl (lv_room (by decide)) dX4_lease_13) ?_
    refine xr_ifb_ne (tgt := 29) hx hb dX4_lease_16 (by decide) (fun h3 => ?_) (fun h3 => ?_)
    · skip
      refine lv_iload_n hx hb dX4_lease_29 rfl (lv_at hl 4 rfl) ?_
      refine lv_aload_n hx hb dX4_lease_30 rfl (lv_at hl 1 rfl) ?_
      refine xg_506 (v := sg 506 0) hx hb hw4 hown hK hR (gd_4 hG) (hts _ kw_97) rfl dX4_lease_31 ?_
      have g4 := gr_506 hG (0)
      refine lv_iconst (v := iI (1)) hx hb dX4_lease_34 rfl ?_
      refine xr_iadd hx hb dX4_lease_35 ?_
      refine lv_sipush (v := iI (30000)) hx hb dX4_lease_36 (by decide) ?_
      refine xk_pF (xr_S (As := [.int (iI (til)), .int (iI ((sg 506 0) + 1)), .int (iI (30000))]) (rest := []) hx hb hml hown hts hK (c_X4_isWithin hR hG til ((sg 506 0) + 1) 30000 (by omega) (by omega) (by omega)) ms_X4_isWithin kw_204 ⟨by decide, by decide⟩ ⟨by decide, by decide⟩ rfl rfl hl.1 rfl (lv_room (by decide)) dX4_lease_39) ?_
      refine xr_ifb_eq (tgt := 56) hx hb dX4_lease_42 (by decide) (fun h5 => ?_) (fun h5 => ?_)
      · skip
        exact xt_2 (thr := leaseE sg x u til pr) (text := "until or profit out of its range") (P := fun H' => RC D cy A ad sg H') hx hb hl0 hown hts hX hS (hl.1.trans hml.symm) hxt hlk (by decide) dX4_lease_56 dX4_lease_59 dX4_lease_60 dX4_lease_62 dX4_lease_65 (by decide) (by decide) (by decide) (by decide) (by decide) (by decide) (wr_more hR) (by (try unfold canTell at *); unfold leaseE; (repeat' split) <;> first | omega | grind)
      · skip
        refine lv_iload hx hb dX4_lease_45 (lv_at hl 5 rfl) ?_
        refine lv_iconst (v := iI (0)) hx hb dX4_lease_47 rfl ?_
        refine lv_bipush (v := iI (100)) hx hb dX4_lease_48 (by decide) ?_
        refine xk_pF (xr_S (As := [.int (iI (pr)), .int (iI (0)), .int (iI (100))]) (rest := []) hx hb hml hown hts hK (c_X4_isWithin hR hG pr 0 100 (by omega) (by omega) (by omega)) ms_X4_isWithin kw_204 ⟨by decide, by decide⟩ ⟨by decide, by decide⟩ rfl rfl hl.1 rfl (lv_room (by decide)) dX4_lease_50) ?_
        refine xr_ifb_ne (tgt := 66) hx hb dX4_lease_53 (by decide) (fun h6 => ?_) (fun h6 => ?_)
        · skip
          refine lv_aload_n hx hb dX4_lease_66 rfl (lv_at hl 1 rfl) ?_
          refine lv_aload hx hb dX4_lease_67 (lv_at hl 0 rfl) ?_
          refine xk_pF (xr_V (As := [.ref (ad 1 (pAt x))]) (rest := []) hx hb hml hown hts hK (c_X4_canTellInterest hR hG (pAt x) ((rv_p (by omega)).symm) (by omega)) ms_X4_canTellInterest kw_457 (wr_recv hK hR (gd_4 hG) rfl rfl) ⟨by decide, by decide⟩ ⟨by decide, by decide⟩ rfl rfl hl.1 rfl (lv_room (by decide)) dX4_lease_69) ?_
          refine xr_ifb_ne (tgt := 85) hx hb dX4_lease_72 (by decide) (fun h7 => ?_) (fun h7 => ?_)
          · skip
            have hct : canTell sg (pAt x) := by assumption
            unfold canTell at hct
            refine lv_aload_n hx hb dX4_lease_85 rfl (lv_at hl 1 rfl) ?_
            refine lv_iconst (v := iI (1)) hx hb dX4_lease_86 rfl ?_
            refine lv_aload hx hb dX4_lease_87 (lv_at hl 0 rfl) ?_
            refine lv_iload_n hx hb dX4_lease_89 rfl (lv_at hl 3 rfl) ?_
            refine lv_iload_n hx hb dX4_lease_90 rfl (lv_at hl 4 rfl) ?_
            refine lv_iload hx hb dX4_lease_91 (lv_at hl 5 rfl) ?_
            refine xk_mF (xr_V (As := [.int (iI (1)), .ref (ad 1 (pAt x)), .int (iI (u)), .int (iI (til)), .int (iI (pr))]) (rest := []) hx hb hml hown hts hK (c_X4_tellInterest hR hG hA 1 (pAt x) u til pr (by omega) (by omega) (by omega) (by omega) (by omega) (by omega)) ms_X4_tellInterest kw_462 (wr_recv hK hR (gd_4 hG) rfl rfl) ⟨by decide, by decide⟩ ⟨by decide, by decide⟩ rfl rfl hl.1 rfl (lv_room (by decide)) dX4_lease_93) hS (fun H locs hR hS hz hq => ?_)
            obtain ⟨ad2, ho, hR⟩ := hR
            show W p l e (rmF 6 93 1 15) s m args below meth c H locs (0 + 1) (0 + 15) _ (F0 m (93 + 3) ls (.int (iI (sg 503 0)) :: []))
            exact xv_i hx hb hr hlk hS (by decide) (by decide) dX4_lease_96 (by (try unfold canTell at *); unfold leaseE; (repeat' split) <;> first | omega | grind) (by rfl) (by exact ⟨ad2, ho, hR⟩)
          · skip
            exact xt_3 (thr := leaseE sg x u til pr) (text := "too many INTERESTS, or the PLOT is not FREE") (P := fun H' => RC D cy A ad sg H') hx hb hl0 hown hts hX hS (hl.1.trans hml.symm) hxt hlk (by decide) dX4_lease_75 dX4_lease_78 dX4_lease_79 dX4_lease_81 dX4_lease_84 (by decide) (by decide) (by decide) (by decide) (by decide) (by decide) (wr_more hR) (by (try unfold canTell at *); unfold leaseE; (repeat' split) <;> first | omega | grind)
        · skip
          exact xt_2 (thr := leaseE sg x u til pr) (text := "until or profit out of its range") (P := fun H' => RC D cy A ad sg H') hx hb hl0 hown hts hX hS (hl.1.trans hml.symm) hxt hlk (by decide) dX4_lease_56 dX4_lease_59 dX4_lease_60 dX4_lease_62 dX4_lease_65 (by decide) (by decide) (by decide) (by decide) (by decide) (by decide) (wr_more hR) (by (try unfold canTell at *); unfold leaseE; (repeat' split) <;> first | omega | grind)
    · skip
      exact xt_1 (thr := leaseE sg x u til pr) (text := "no such PLOT or PERSON") (P := fun H' => RC D cy A ad sg H') hx hb hl0 hown hts hX hS (hl.1.trans hml.symm) hxt hlk (by decide) dX4_lease_19 dX4_lease_22 dX4_lease_23 dX4_lease_25 dX4_lease_28 (by decide) (by decide) (by decide) (by decide) (by decide) (by decide) (wr_more hR) (by (try unfold canTell at *); unfold leaseE; (repeat' split) <;> first | omega | grind)
theorem ms_X4_charge : MVi RX4 yX4_charge cX4_charge 5 (some .int) 3 := ⟨kw_534, kw_532, kw_533, kw_1, rfl, by decide, by decide, by decide +kernel⟩
set_option maxRecDepth 100000 in
set_option maxHeartbeats 4000000 in
theorem c_X4_charge {l : Launch} {D : va_G} {cy : Nat → ClassId} {A : Nat → Prop} {ad : Nat → Int → Nat} {sg : Nat → Int → Int} {H : Heap} (hR : RC D cy A ad sg H) (hG : GC sg) (hl0 : l.stackTraces = false) (hA : ∀ q : Nat, H.size ≤ q → A q) (x : Int) (u : Int) (ms : Int) (h_x : in32 x) (h_u : in32 u) (h_ms : in32 ms) : vx_Met l yX4_charge (Cond.code yX4_charge cX4_charge 5 (some .int) :: wG) (rmF 6 93 1 15) (PcX A D cy H [.ref (ad 4 (0)), .int (iI (x)), .int (iI (u)), .int (iI (ms))]) (QmT (chargeE sg x u ms = 0) (some (.int (iI (sg 503 0)))) (fun H' => ∃ ad' : Nat → Int → Nat, (∀ k j, dmC sg k j → ad' k j = ad k j) ∧ RC D cy A ad' (tellT sg 2 (pAt x) u ms 0) H') A) (XCx (chargeE sg x u ms) (fun H' => RC D cy A ad sg H') A) 1 15 A := by
  refine vmet_of (la := [(0, .ref (ad 4 (0))), (1, .int (iI (x))), (2, .int (iI (u))), (3, .int (iI (ms)))]) (by decide) (Nat.le_of_ble_eq_true rfl) rfl ?_
  intro p e R s m args below meth c ls hRm hx hb hml hr hlk hxt hown hts hsH hK hX hl
  subst hRm
  have hown : s.vm.findClass "Takinghall" = some m.cls := hown
  have hS : va_S A s.heap H [] := by rw [hsH]; exact va_S.rf
  have g503 := gr_503 hG 0
  refine lv_aload_n hx hb dX4_charge_0 rfl (lv_at hl 0 rfl) ?_
  refine lv_iload_n hx hb dX4_charge_1 rfl (lv_at hl 1 rfl) ?_
  refine xk_pF (xr_V (As := [.int (iI (x))]) (rest := []) hx hb hml hown hts hK (c_X4_plotAt hR hG x (by omega)) ms_X4_plotAt kw_132 (wr_recv hK hR (gd_4 hG) rfl rfl) ⟨by decide, by decide⟩ ⟨by decide, by decide⟩ rfl rfl hl.1 rfl (lv_room (by decide)) dX4_charge_2) ?_
  have g1 := pAt_rng (x)
  refine xr_astore (i := 4) (lv' := [(4, rv (ad 1) (pAt x)), (0, .ref (ad 4 (0))), (1, .int (iI (x))), (2, .int (iI (u))), (3, .int (iI (ms)))]) hx hb dX4_charge_5 hl (by decide) rfl (fun ls hl => ?_)
  refine xr_aload hx hb dX4_charge_7 (lv_at hl 0 rfl) ?_
  refine xr_ifnull (tgt := 19) hx hb dX4_charge_9 (by decide) (fun h2 => ?_) (fun h2 => ?_)
  · skip
    rw [rv_n h2] at hl
    exact xt_1 (thr := chargeE sg x u ms) (text := "no such PLOT or PERSON") (P := fun H' => RC D cy A ad sg H') hx hb hl0 hown hts hX hS (hl.1.trans hml.symm) hxt hlk (by decide) dX4_charge_19 dX4_charge_22 dX4_charge_23 dX4_charge_25 dX4_charge_28 (by decide) (by decide) (by decide) (by decide) (by decide) (by decide) (wr_more hR) (by (try unfold canTell at *); unfold chargeE; (repeat' split) <;> first | omega | grind)
  · skip
    rw [rv_p h2] at hl
    refine lv_iload_n hx hb dX4_charge_12 rfl (lv_at hl 3 rfl) ?_
    refine xk_pF (xr_S (As := [.int (iI (u))]) (rest := []) hx hb hml hown hts hK (c_X4_isPerson hR hG u (by omega)) ms_X4_isPerson kw_448 ⟨by decide, by decide⟩ ⟨by decide, by decide⟩ rfl rfl hl.1 rfl (lv_room (by decide)) dX4_charge_13) ?_
    refine xr_ifb_ne (tgt := 29) hx hb dX4_charge_16 (by decide) (fun h3 => ?_) (fun h3 => ?_)
    · skip
      refine lv_iload_n hx hb dX4_charge_29 rfl (lv_at hl 4 rfl) ?_
      refine lv_iconst (v := iI (1)) hx hb dX4_charge_30 rfl ?_
      refine lv_ldc (v := iI (100000)) hx hb hown (hts _ kw_535) dX4_charge_31 ?_
      refine xk_pF (xr_S (As := [.int (iI (ms)), .int (iI (1)), .int (iI (100000))]) (rest := []) hx hb hml hown hts hK (c_X4_isWithin hR hG ms 1 100000 (by omega) (by omega) (by omega)) ms_X4_isWithin kw_204 ⟨by decide, by decide⟩ ⟨by decide, by decide⟩ rfl rfl hl.1 rfl (lv_room (by decide)) dX4_charge_33) ?_
      refine xr_ifb_ne (tgt := 49) hx hb dX4_charge_36 (by decide) (fun h4 => ?_) (fun h4 => ?_)
      · skip
        refine lv_aload_n hx hb dX4_charge_49 rfl (lv_at hl 1 rfl) ?_
        refine lv_aload hx hb dX4_charge_50 (lv_at hl 0 rfl) ?_
        refine xk_pF (xr_V (As := [.ref (ad 1 (pAt x))]) (rest := []) hx hb hml hown hts hK (c_X4_canTellInterest hR hG (pAt x) ((rv_p (by omega)).symm) (by omega)) ms_X4_canTellInterest kw_457 (wr_recv hK hR (gd_4 hG) rfl rfl) ⟨by decide, by decide⟩ ⟨by decide, by decide⟩ rfl rfl hl.1 rfl (lv_room (by decide)) dX4_charge_52) ?_
        refine xr_ifb_ne (tgt := 68) hx hb dX4_charge_55 (by decide) (fun h5 => ?_) (fun h5 => ?_)
        · skip
          have hct : canTell sg (pAt x) := by assumption
          unfold canTell at hct
          refine lv_aload_n hx hb dX4_charge_68 rfl (lv_at hl 1 rfl) ?_
          refine lv_iconst (v := iI (2)) hx hb dX4_charge_69 rfl ?_
          refine lv_aload hx hb dX4_charge_70 (lv_at hl 0 rfl) ?_
          refine lv_iload_n hx hb dX4_charge_72 rfl (lv_at hl 3 rfl) ?_
          refine lv_iload_n hx hb dX4_charge_73 rfl (lv_at hl 4 rfl) ?_
          refine lv_iconst (v := iI (0)) hx hb dX4_charge_74 rfl ?_
          refine xk_mF (xr_V (As := [.int (iI (2)), .ref (ad 1 (pAt x)), .int (iI (u)), .int (iI (ms)), .int (iI (0))]) (rest := []) hx hb hml hown hts hK (c_X4_tellInterest hR hG hA 2 (pAt x) u ms 0 (by omega) (by omega) (by omega) (by omega) (by omega) (by omega)) ms_X4_tellInterest kw_462 (wr_recv hK hR (gd_4 hG) rfl rfl) ⟨by decide, by decide⟩ ⟨by decide, by decide⟩ rfl rfl hl.1 rfl (lv_room (by decide)) dX4_charge_75) hS (fun H locs hR hS hz hq => ?_)
          obtain ⟨ad2, ho, hR⟩ := hR
          show W p l e (rmF 6 93 1 15) s m args below meth c H locs (0 + 1) (0 + 15) _ (F0 m (75 + 3) ls (.int (iI (sg 503 0)) :: []))
          exact xv_i hx hb hr hlk hS (by decide) (by decide) dX4_charge_78 (by (try unfold canTell at *); unfold chargeE; (repeat' split) <;> first | omega | grind) (by rfl) (by exact ⟨ad2, ho, hR⟩)
        · skip
          exact xt_3 (thr := chargeE sg x u ms) (text := "too many INTERESTS, or the PLOT is not FREE") (P := fun H' => RC D cy A ad sg H') hx hb hl0 hown hts hX hS (hl.1.trans hml.symm) hxt hlk (by decide) dX4_charge_58 dX4_charge_61 dX4_charge_62 dX4_charge_64 dX4_charge_67 (by decide) (by decide) (by decide) (by decide) (by decide) (by decide) (wr_more hR) (by (try unfold canTell at *); unfold chargeE; (repeat' split) <;> first | omega | grind)
      · skip
        exact xt_2 (thr := chargeE sg x u ms) (text := "debt out of its range") (P := fun H' => RC D cy A ad sg H') hx hb hl0 hown hts hX hS (hl.1.trans hml.symm) hxt hlk (by decide) dX4_charge_39 dX4_charge_42 dX4_charge_43 dX4_charge_45 dX4_charge_48 (by decide) (by decide) (by decide) (by decide) (by decide) (by decide) (wr_more hR) (by (try unfold canTell at *); unfold chargeE; (repeat' split) <;> first | omega | grind)
    · skip
      exact xt_1 (thr := chargeE sg x u ms) (text := "no such PLOT or PERSON") (P := fun H' => RC D cy A ad sg H') hx hb hl0 hown hts hX hS (hl.1.trans hml.symm) hxt hlk (by decide) dX4_charge_19 dX4_charge_22 dX4_charge_23 dX4_charge_25 dX4_charge_28 (by decide) (by decide) (by decide) (by decide) (by decide) (by decide) (wr_more hR) (by (try unfold canTell at *); unfold chargeE; (repeat' split) <;> first | omega | grind)
