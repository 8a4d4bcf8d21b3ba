theorem ms_X4_priceOn : MVi RX4 yX4_priceOn cX4_priceOn 4 (some (.object "Takinghall$Price")) 2 := ⟨kw_256, kw_255, kp_2, kw_1, rfl, by decide, by decide, by decide +kernel⟩
set_option maxRecDepth 100000 in
set_option maxHeartbeats 4000000 in
theorem c_X4_priceOn {l : Launch} {D : va_G} {cy : Nat → ClassId} {A : Nat → Prop} {ad : Nat → Int → Nat} {sg : Nat → Int → Int} {H : Heap} (hR : RC D cy A ad sg H) (hG : GC sg)  (use : Int) (day : Int) (h_use : in32 use) (h_day : in32 day) : Met l yX4_priceOn (Cond.code yX4_priceOn cX4_priceOn 4 (some (.object "Takinghall$Price")) :: wG) (rmF 0 0 0 0) (Pc D cy H [.ref (ad 4 (0)), .int (iI (use)), .int (iI (day))]) (Qp (rv (ad 2) (prOn sg use day))) 0 0 Kn := by
  refine met_of (la := [(0, .ref (ad 4 (0))), (1, .int (iI (use))), (2, .int (iI (day)))]) (by decide) (Nat.le_of_ble_eq_true rfl) rfl ?_
  intro p e R s m args below meth c ls hRm hx hb hml hr hlk hin hown hts hsH hK hl
  subst hRm
  have hown : s.vm.findClass "Takinghall" = some m.cls := hown
  have hw2 : ∀ w ∈ u_ws RX2 TX2 3, w.before args s = true := fun w h => hts w (uw_X2 w h)
  have hw4 : ∀ w ∈ u_ws RX4 TX4 12, w.before args s = true := fun w h => hts w (uw_X4 w h)
  refine lv_iload_n hx hb dX4_priceOn_0 rfl (lv_at hl 1 rfl) ?_
  refine xr_if_lt (tgt := 22) hx hb dX4_priceOn_1 (by decide) (by omega) (fun h1 => ?_) (fun h1 => ?_)
  · skip
    refine lv_null hx hb dX4_priceOn_22 ?_
    refine lv_astore_nN (i := 3) (lv' := [(3, .null), (0, .ref (ad 4 (0))), (1, .int (iI (use))), (2, .int (iI (day)))]) hx hb dX4_priceOn_23 rfl hl (by decide) rfl (fun ls hl => ?_)
    have loop24 : ∀ (n : Nat) (n0 : Int), -1 ≤ n0 → n0 < sg 702 0 → prN sg day n0 = prOn sg use day → (n0 + 1).toNat ≤ n → ∀ ls : Array Slot, lv_has ls 4 [(3, rv (ad 2) (n0)), (0, .ref (ad 4 (0))), (1, .int (iI (use))), (2, .int (iI (day)))] → W p l e (rmF 0 0 0 0) s m args below meth c H [] 0 0 (MQ below (Qp (rv (ad 2) (prOn sg use day))) args s 0 0 Kn) (F0 m 24 ls []) := by
      intro n
      induction n with
      | zero =>
        intro n0 hn1 hn2 hn3 hn ls hl
        refine xr_aload_n hx hb dX4_priceOn_24 rfl (lv_at hl 0 rfl) ?_
        refine xr_ifnull (tgt := 44) hx hb dX4_priceOn_25 (by decide) (fun h2 => ?_) (fun h2 => ?_)
        · skip
          rw [rv_n h2] at hl
          refine lv_aload_nN hx hb dX4_priceOn_44 rfl (lv_at hl 0 rfl) ?_
          exact xe_a hx hb hr hlk hsH dX4_priceOn_45 (by exact (rv_eq_n (f := ad 2) (b := prOn sg use day) (by first | (rw [← hn3, prN_n _ (by omega)]; decide) | rw [← hn3, prN_p hG day (n := n0) (by omega), if_neg (by omega)])))
        · skip
          rw [rv_p h2] at hl
          refine lv_aload_n hx hb dX4_priceOn_28 rfl (lv_at hl 0 rfl) ?_
          refine xg_300 (v := sg 300 n0) hx hb hw2 hown hK hR (gd_2 hG (by omega)) (hts _ kw_79) rfl dX4_priceOn_29 ?_
          have g3 := gr_300 hG (n0)
          refine lv_iload_n hx hb dX4_priceOn_32 rfl (lv_at hl 3 rfl) ?_
          refine xr_icmp_le (tgt := 44) hx hb dX4_priceOn_33 (by decide) (by omega) (by omega) (fun h4 => ?_) (fun h4 => ?_)
          · skip
            refine lv_aload_n hx hb dX4_priceOn_44 rfl (lv_at hl 0 rfl) ?_
            exact xe_a hx hb hr hlk hsH dX4_priceOn_45 (by exact (rv_eq_p (a := n0) (b := prOn sg use day) (by omega) (by first | (rw [← hn3, prN_n _ (by omega)]; decide) | rw [← hn3, prN_p hG day (n := n0) (by omega), if_neg (by omega)])))
          · skip
            refine lv_aload_n hx hb dX4_priceOn_36 rfl (lv_at hl 0 rfl) ?_
            refine xg_302 (v := sg 302 n0) hx hb hw2 hown hK hR (gd_2 hG (by omega)) (hts _ kw_83) rfl dX4_priceOn_37 ?_
            have g5 := gp_302 hG (j := n0) (by omega)
            refine xr_astore_n (i := 3) (lv' := [(3, rv (ad 2) (sg 302 n0)), (0, .ref (ad 4 (0))), (1, .int (iI (use))), (2, .int (iI (day)))]) hx hb dX4_priceOn_40 rfl hl (by decide) rfl (fun ls hl => ?_)
            refine lv_goto (tgt := 24) hx hb dX4_priceOn_41 (by decide) ?_
            exact absurd hn (by omega)
      | succ n ih =>
        intro n0 hn1 hn2 hn3 hn ls hl
        refine xr_aload_n hx hb dX4_priceOn_24 rfl (lv_at hl 0 rfl) ?_
        refine xr_ifnull (tgt := 44) hx hb dX4_priceOn_25 (by decide) (fun h6 => ?_) (fun h6 => ?_)
        · skip
          rw [rv_n h6] at hl
          refine lv_aload_nN hx hb dX4_priceOn_44 rfl (lv_at hl 0 rfl) ?_
          exact xe_a hx hb hr hlk hsH dX4_priceOn_45 (by exact (rv_eq_n (f := ad 2) (b := prOn sg use day) (by first | (rw [← hn3, prN_n _ (by omega)]; decide) | rw [← hn3, prN_p hG day (n := n0) (by omega), if_neg (by omega)])))
        · skip
          rw [rv_p h6] at hl
          refine lv_aload_n hx hb dX4_priceOn_28 rfl (lv_at hl 0 rfl) ?_
          refine xg_300 (v := sg 300 n0) hx hb hw2 hown hK hR (gd_2 hG (by omega)) (hts _ kw_79) rfl dX4_priceOn_29 ?_
          have g7 := gr_300 hG (n0)
          refine lv_iload_n hx hb dX4_priceOn_32 rfl (lv_at hl 3 rfl) ?_
          refine xr_icmp_le (tgt := 44) hx hb dX4_priceOn_33 (by decide) (by omega) (by omega) (fun h8 => ?_) (fun h8 => ?_)
          · skip
            refine lv_aload_n hx hb dX4_priceOn_44 rfl (lv_at hl 0 rfl) ?_
            exact xe_a hx hb hr hlk hsH dX4_priceOn_45 (by exact (rv_eq_p (a := n0) (b := prOn sg use day) (by omega) (by first | (rw [← hn3, prN_n _ (by omega)]; decide) | rw [← hn3, prN_p hG day (n := n0) (by omega), if_neg (by omega)])))
          · skip
            refine lv_aload_n hx hb dX4_priceOn_36 rfl (lv_at hl 0 rfl) ?_
            refine xg_302 (v := sg 302 n0) hx hb hw2 hown hK hR (gd_2 hG (by omega)) (hts _ kw_83) rfl dX4_priceOn_37 ?_
            have g9 := gp_302 hG (j := n0) (by omega)
            refine xr_astore_n (i := 3) (lv' := [(3, rv (ad 2) (sg 302 n0)), (0, .ref (ad 4 (0))), (1, .int (iI (use))), (2, .int (iI (day)))]) hx hb dX4_priceOn_40 rfl hl (by decide) rfl (fun ls hl => ?_)
            refine lv_goto (tgt := 24) hx hb dX4_priceOn_41 (by decide) ?_
            exact ih (sg 302 n0) (by omega) (by omega) (by rw [← hn3, prN_p hG day (n := n0) (by omega), if_pos (by omega)]) (by omega) ls (lv_sub hl [0, 1, 2, 3] rfl)
    rw [← rv_n (f := ad 2) (v := -1) (by decide)] at hl
    exact loop24 _ (-1) (by omega) (by have z := np_pos hG; omega) (by unfold prOn; rw [if_neg (by omega), prN_n _ (by decide)]) (Nat.le_refl _) ls (lv_sub hl [0, 1, 2, 3] rfl)
  · skip
    refine lv_iload_n hx hb dX4_priceOn_4 rfl (lv_at hl 1 rfl) ?_
    refine lv_aload_n hx hb dX4_priceOn_5 rfl (lv_at hl 0 rfl) ?_
    refine xg_501 (v := sg 501 0) hx hb hw4 hown hK hR (gd_4 hG) (hts _ kw_92) rfl dX4_priceOn_6 ?_
    have g10 := gh_501 hG (0)
    have q11 : sg 501 0 = 0 := gh_501 hG _
    rw [q11, rv_p (Int.le_refl 0)]
    refine xl_602 hx hb hK hR (gd_11 hG) dX4_priceOn_9 ?_
    refine xr_icmp_ge (tgt := 22) hx hb dX4_priceOn_10 (by decide) (by omega) (by omega) (fun h12 => ?_) (fun h12 => ?_)
    · skip
      refine lv_null hx hb dX4_priceOn_22 ?_
      refine lv_astore_nN (i := 3) (lv' := [(3, .null), (0, .ref (ad 4 (0))), (1, .int (iI (use))), (2, .int (iI (day)))]) hx hb dX4_priceOn_23 rfl hl (by decide) rfl (fun ls hl => ?_)
      have loop24 : ∀ (n : Nat) (n0 : Int), -1 ≤ n0 → n0 < sg 702 0 → prN sg day n0 = prOn sg use day → (n0 + 1).toNat ≤ n → ∀ ls : Array Slot, lv_has ls 4 [(3, rv (ad 2) (n0)), (0, .ref (ad 4 (0))), (1, .int (iI (use))), (2, .int (iI (day)))] → W p l e (rmF 0 0 0 0) s m args below meth c H [] 0 0 (MQ below (Qp (rv (ad 2) (prOn sg use day))) args s 0 0 Kn) (F0 m 24 ls []) := by
        intro n
        induction n with
        | zero =>
          intro n0 hn1 hn2 hn3 hn ls hl
          refine xr_aload_n hx hb dX4_priceOn_24 rfl (lv_at hl 0 rfl) ?_
          refine xr_ifnull (tgt := 44) hx hb dX4_priceOn_25 (by decide) (fun h13 => ?_) (fun h13 => ?_)
          · skip
            rw [rv_n h13] at hl
            refine lv_aload_nN hx hb dX4_priceOn_44 rfl (lv_at hl 0 rfl) ?_
            exact xe_a hx hb hr hlk hsH dX4_priceOn_45 (by exact (rv_eq_n (f := ad 2) (b := prOn sg use day) (by first | (rw [← hn3, prN_n _ (by omega)]; decide) | rw [← hn3, prN_p hG day (n := n0) (by omega), if_neg (by omega)])))
          · skip
            rw [rv_p h13] at hl
            refine lv_aload_n hx hb dX4_priceOn_28 rfl (lv_at hl 0 rfl) ?_
            refine xg_300 (v := sg 300 n0) hx hb hw2 hown hK hR (gd_2 hG (by omega)) (hts _ kw_79) rfl dX4_priceOn_29 ?_
            have g14 := gr_300 hG (n0)
            refine lv_iload_n hx hb dX4_priceOn_32 rfl (lv_at hl 3 rfl) ?_
            refine xr_icmp_le (tgt := 44) hx hb dX4_priceOn_33 (by decide) (by omega) (by omega) (fun h15 => ?_) (fun h15 => ?_)
            · skip
              refine lv_aload_n hx hb dX4_priceOn_44 rfl (lv_at hl 0 rfl) ?_
              exact xe_a hx hb hr hlk hsH dX4_priceOn_45 (by exact (rv_eq_p (a := n0) (b := prOn sg use day) (by omega) (by first | (rw [← hn3, prN_n _ (by omega)]; decide) | rw [← hn3, prN_p hG day (n := n0) (by omega), if_neg (by omega)])))
            · skip
              refine lv_aload_n hx hb dX4_priceOn_36 rfl (lv_at hl 0 rfl) ?_
              refine xg_302 (v := sg 302 n0) hx hb hw2 hown hK hR (gd_2 hG (by omega)) (hts _ kw_83) rfl dX4_priceOn_37 ?_
              have g16 := gp_302 hG (j := n0) (by omega)
              refine xr_astore_n (i := 3) (lv' := [(3, rv (ad 2) (sg 302 n0)), (0, .ref (ad 4 (0))), (1, .int (iI (use))), (2, .int (iI (day)))]) hx hb dX4_priceOn_40 rfl hl (by decide) rfl (fun ls hl => ?_)
              refine lv_goto (tgt := 24) hx hb dX4_priceOn_41 (by decide) ?_
              exact absurd hn (by omega)
        | succ n ih =>
          intro n0 hn1 hn2 hn3 hn ls hl
          refine xr_aload_n hx hb dX4_priceOn_24 rfl (lv_at hl 0 rfl) ?_
          refine xr_ifnull (tgt := 44) hx hb dX4_priceOn_25 (by decide) (fun h17 => ?_) (fun h17 => ?_)
          · skip
            rw [rv_n h17] at hl
            refine lv_aload_nN hx hb dX4_priceOn_44 rfl (lv_at hl 0 rfl) ?_
            exact xe_a hx hb hr hlk hsH dX4_priceOn_45 (by exact (rv_eq_n (f := ad 2) (b := prOn sg use day) (by first | (rw [← hn3, prN_n _ (by omega)]; decide) | rw [← hn3, prN_p hG day (n := n0) (by omega), if_neg (by omega)])))
          · skip
            rw [rv_p h17] at hl
            refine lv_aload_n hx hb dX4_priceOn_28 rfl (lv_at hl 0 rfl) ?_
            refine xg_300 (v := sg 300 n0) hx hb hw2 hown hK hR (gd_2 hG (by omega)) (hts _ kw_79) rfl dX4_priceOn_29 ?_
            have g18 := gr_300 hG (n0)
            refine lv_iload_n hx hb dX4_priceOn_32 rfl (lv_at hl 3 rfl) ?_
            refine xr_icmp_le (tgt := 44) hx hb dX4_priceOn_33 (by decide) (by omega) (by omega) (fun h19 => ?_) (fun h19 => ?_)
            · skip
              refine lv_aload_n hx hb dX4_priceOn_44 rfl (lv_at hl 0 rfl) ?_
              exact xe_a hx hb hr hlk hsH dX4_priceOn_45 (by exact (rv_eq_p (a := n0) (b := prOn sg use day) (by omega) (by first | (rw [← hn3, prN_n _ (by omega)]; decide) | rw [← hn3, prN_p hG day (n := n0) (by omega), if_neg (by omega)])))
            · skip
              refine lv_aload_n hx hb dX4_priceOn_36 rfl (lv_at hl 0 rfl) ?_
              refine xg_302 (v := sg 302 n0) hx hb hw2 hown hK hR (gd_2 hG (by omega)) (hts _ kw_83) rfl dX4_priceOn_37 ?_
              have g20 := gp_302 hG (j := n0) (by omega)
              refine xr_astore_n (i := 3) (lv' := [(3, rv (ad 2) (sg 302 n0)), (0, .ref (ad 4 (0))), (1, .int (iI (use))), (2, .int (iI (day)))]) hx hb dX4_priceOn_40 rfl hl (by decide) rfl (fun ls hl => ?_)
              refine lv_goto (tgt := 24) hx hb dX4_priceOn_41 (by decide) ?_
              exact ih (sg 302 n0) (by omega) (by omega) (by rw [← hn3, prN_p hG day (n := n0) (by omega), if_pos (by omega)]) (by omega) ls (lv_sub hl [0, 1, 2, 3] rfl)
      rw [← rv_n (f := ad 2) (v := -1) (by decide)] at hl
      exact loop24 _ (-1) (by omega) (by have z := np_pos hG; omega) (by unfold prOn; rw [if_neg (by omega), prN_n _ (by decide)]) (Nat.le_refl _) ls (lv_sub hl [0, 1, 2, 3] rfl)
    · skip
      refine lv_aload_n hx hb dX4_priceOn_13 rfl (lv_at hl 0 rfl) ?_
      refine xg_501 (v := sg 501 0) hx hb hw4 hown hK hR (gd_4 hG) (hts _ kw_92) rfl dX4_priceOn_14 ?_
      have q21 : sg 501 0 = 0 := gh_501 hG _
      rw [q21, rv_p (Int.le_refl 0)]
      refine lv_iload_n hx hb dX4_priceOn_17 rfl (lv_at hl 1 rfl) ?_
      refine xa_602 (v := sg 602 use) hx hb hK hR (gd_11 hG) (by omega) rfl dX4_priceOn_18 ?_
      have q22 := ga_602 hG (q := use) (by omega)
      rw [rv_p (f := ad 2) (v := sg 602 use) (by omega)]
      refine lv_goto (tgt := 23) hx hb dX4_priceOn_19 (by decide) ?_
      refine lv_astore_n (i := 3) (lv' := [(3, .ref (ad 2 (sg 602 use))), (0, .ref (ad 4 (0))), (1, .int (iI (use))), (2, .int (iI (day)))]) hx hb dX4_priceOn_23 rfl hl (by decide) rfl (fun ls hl => ?_)
      have loop24 : ∀ (n : Nat) (n0 : Int), -1 ≤ n0 → n0 < sg 702 0 → prN sg day n0 = prOn sg use day → (n0 + 1).toNat ≤ n → ∀ ls : Array Slot, lv_has ls 4 [(3, rv (ad 2) (n0)), (0, .ref (ad 4 (0))), (1, .int (iI (use))), (2, .int (iI (day)))] → W p l e (rmF 0 0 0 0) s m args below meth c H [] 0 0 (MQ below (Qp (rv (ad 2) (prOn sg use day))) args s 0 0 Kn) (F0 m 24 ls []) := by
        intro n
        induction n with
        | zero =>
          intro n0 hn1 hn2 hn3 hn ls hl
          refine xr_aload_n hx hb dX4_priceOn_24 rfl (lv_at hl 0 rfl) ?_
          refine xr_ifnull (tgt := 44) hx hb dX4_priceOn_25 (by decide) (fun h23 => ?_) (fun h23 => ?_)
          · skip
            rw [rv_n h23] at hl
            refine lv_aload_nN hx hb dX4_priceOn_44 rfl (lv_at hl 0 rfl) ?_
            exact xe_a hx hb hr hlk hsH dX4_priceOn_45 (by exact (rv_eq_n (f := ad 2) (b := prOn sg use day) (by first | (rw [← hn3, prN_n _ (by omega)]; decide) | rw [← hn3, prN_p hG day (n := n0) (by omega), if_neg (by omega)])))
          · skip
            rw [rv_p h23] at hl
            refine lv_aload_n hx hb dX4_priceOn_28 rfl (lv_at hl 0 rfl) ?_
            refine xg_300 (v := sg 300 n0) hx hb hw2 hown hK hR (gd_2 hG (by omega)) (hts _ kw_79) rfl dX4_priceOn_29 ?_
            have g24 := gr_300 hG (n0)
            refine lv_iload_n hx hb dX4_priceOn_32 rfl (lv_at hl 3 rfl) ?_
            refine xr_icmp_le (tgt := 44) hx hb dX4_priceOn_33 (by decide) (by omega) (by omega) (fun h25 => ?_) (fun h25 => ?_)
            · skip
              refine lv_aload_n hx hb dX4_priceOn_44 rfl (lv_at hl 0 rfl) ?_
              exact xe_a hx hb hr hlk hsH dX4_priceOn_45 (by exact (rv_eq_p (a := n0) (b := prOn sg use day) (by omega) (by first | (rw [← hn3, prN_n _ (by omega)]; decide) | rw [← hn3, prN_p hG day (n := n0) (by omega), if_neg (by omega)])))
            · skip
              refine lv_aload_n hx hb dX4_priceOn_36 rfl (lv_at hl 0 rfl) ?_
              refine xg_302 (v := sg 302 n0) hx hb hw2 hown hK hR (gd_2 hG (by omega)) (hts _ kw_83) rfl dX4_priceOn_37 ?_
              have g26 := gp_302 hG (j := n0) (by omega)
              refine xr_astore_n (i := 3) (lv' := [(3, rv (ad 2) (sg 302 n0)), (0, .ref (ad 4 (0))), (1, .int (iI (use))), (2, .int (iI (day)))]) hx hb dX4_priceOn_40 rfl hl (by decide) rfl (fun ls hl => ?_)
              refine lv_goto (tgt := 24) hx hb dX4_priceOn_41 (by decide) ?_
              exact absurd hn (by omega)
        | succ n ih =>
          intro n0 hn1 hn2 hn3 hn ls hl
          refine xr_aload_n hx hb dX4_priceOn_24 rfl (lv_at hl 0 rfl) ?_
          refine xr_ifnull (tgt := 44) hx hb dX4_priceOn_25 (by decide) (fun h27 => ?_) (fun h27 => ?_)
          · skip
            rw [rv_n h27] at hl
            refine lv_aload_nN hx hb dX4_priceOn_44 rfl (lv_at hl 0 rfl) ?_
            exact xe_a hx hb hr hlk hsH dX4_priceOn_45 (by exact (rv_eq_n (f := ad 2) (b := prOn sg use day) (by first | (rw [← hn3, prN_n _ (by omega)]; decide) | rw [← hn3, prN_p hG day (n := n0) (by omega), if_neg (by omega)])))
          · skip
            rw [rv_p h27] at hl
            refine lv_aload_n hx hb dX4_priceOn_28 rfl (lv_at hl 0 rfl) ?_
            refine xg_300 (v := sg 300 n0) hx hb hw2 hown hK hR (gd_2 hG (by omega)) (hts _ kw_79) rfl dX4_priceOn_29 ?_
            have g28 := gr_300 hG (n0)
            refine lv_iload_n hx hb dX4_priceOn_32 rfl (lv_at hl 3 rfl) ?_
            refine xr_icmp_le (tgt := 44) hx hb dX4_priceOn_33 (by decide) (by omega) (by omega) (fun h29 => ?_) (fun h29 => ?_)
            · skip
              refine lv_aload_n hx hb dX4_priceOn_44 rfl (lv_at hl 0 rfl) ?_
              exact xe_a hx hb hr hlk hsH dX4_priceOn_45 (by exact (rv_eq_p (a := n0) (b := prOn sg use day) (by omega) (by first | (rw [← hn3, prN_n _ (by omega)]; decide) | rw [← hn3, prN_p hG day (n := n0) (by omega), if_neg (by omega)])))
            · skip
              refine lv_aload_n hx hb dX4_priceOn_36 rfl (lv_at hl 0 rfl) ?_
              refine xg_302 (v := sg 302 n0) hx hb hw2 hown hK hR (gd_2 hG (by omega)) (hts _ kw_83) rfl dX4_priceOn_37 ?_
              have g30 := gp_302 hG (j := n0) (by omega)
              refine xr_astore_n (i := 3) (lv' := [(3, rv (ad 2) (sg 302 n0)), (0, .ref (ad 4 (0))), (1, .int (iI (use))), (2, .int (iI (day)))]) hx hb dX4_priceOn_40 rfl hl (by decide) rfl (fun ls hl => ?_)
              refine lv_goto (tgt := 24) hx hb dX4_priceOn_41 (by decide) ?_
              exact ih (sg 302 n0) (by omega) (by omega) (by rw [← hn3, prN_p hG day (n := n0) (by omega), if_pos (by omega)]) (by omega) ls (lv_sub hl [0, 1, 2, 3] rfl)
      rw [← rv_p (f := ad 2) (v := sg 602 use) (by omega)] at hl
      exact loop24 _ (sg 602 use) (by omega) (by omega) (by unfold prOn; first | rw [if_pos (by omega)] | rw [if_neg (by omega), prN_n _ (by decide)]) (Nat.le_refl _) ls (lv_sub hl [0, 1, 2, 3] rfl)
theorem ms_X4_worthToday : MVi RX4 yX4_worthToday cX4_worthToday 2 (some .int) 1 := ⟨kw_275, kw_274, kp_3, kw_1, rfl, by decide, by decide, by decide +kernel⟩
set_option maxRecDepth 100000 in
set_option maxHeartbeats 4000000 in
theorem c_X4_worthToday {l : Launch} {D : va_G} {cy : Nat → ClassId} {A : Nat → Prop} {ad : Nat → Int → Nat} {sg : Nat → Int → Int} {H : Heap} (hR : RC D cy A ad sg H) (hG : GC sg)  (v : Int) {x_v : Value} (hx_v : x_v = rv (ad 1) v) (h1 : v < 36) : Met l yX4_worthToday (Cond.code yX4_worthToday cX4_worthToday 2 (some .int) :: wG) (rmF 2 41 0 0) (Pc D cy H [.ref (ad 4 (0)), x_v]) (Qp (.int (iI (worthT sg v)))) 0 0 Kn := by
  subst hx_v
  refine met_of (la := [(0, .ref (ad 4 (0))), (1, rv (ad 1) (v))]) (by decide) (by simp [lg_sl, rv_cat, cat_i, cat_l, cat_r, cat_n]) (by simp [lv_args, rv_cat, cat_i, cat_l, cat_r, cat_n]) ?_
  intro p e R s m args below meth c ls hRm hx hb hml hr hlk hin hown hts hsH hK hl
  subst hRm
  have hown : s.vm.findClass "Takinghall" = some m.cls := hown
  have hw1 : ∀ w ∈ u_ws RX1 TX1 11, w.before args s = true := fun w h => hts w (uw_X1 w h)
  have hw4 : ∀ w ∈ u_ws RX4 TX4 12, w.before args s = true := fun w h => hts w (uw_X4 w h)
  refine xr_aload_n hx hb dX4_worthToday_0 rfl (lv_at hl 1 rfl) ?_
  refine xr_ifnonnull (tgt := 8) hx hb dX4_worthToday_1 (by decide) (fun h1 => ?_) (fun h1 => ?_)
  · skip
    rw [rv_p h1] at hl
    refine lv_aload_n hx hb dX4_worthToday_8 rfl (lv_at hl 1 rfl) ?_
    refine lv_aload_n hx hb dX4_worthToday_9 rfl (lv_at hl 0 rfl) ?_
    refine lv_aload_n hx hb dX4_worthToday_10 rfl (lv_at hl 1 rfl) ?_
    refine xg_202 (v := sg 202 v) hx hb hw1 hown hK hR (gd_1 hG (by omega)) (hts _ kw_39) rfl dX4_worthToday_11 ?_
    have g2 := gr_202 hG (v)
    refine lv_aload_n hx hb dX4_worthToday_14 rfl (lv_at hl 0 rfl) ?_
    refine xg_506 (v := sg 506 0) hx hb hw4 hown hK hR (gd_4 hG) (hts _ kw_97) rfl dX4_worthToday_15 ?_
    have g3 := gr_506 hG (0)
    refine xk_pF (xr_V (As := [.int (iI (sg 202 v)), .int (iI (sg 506 0))]) (rest := [.ref (ad 1 (v))]) hx hb hml hown hts hK (c_X4_priceOn hR hG (sg 202 v) (sg 506 0) (by omega) (by omega)) ms_X4_priceOn kw_253 (wr_recv hK hR (gd_4 hG) rfl rfl) ⟨by decide, by decide⟩ ⟨by decide, by decide⟩ rfl rfl hl.1 rfl (lv_room (Nat.le_of_ble_eq_true rfl)) dX4_worthToday_18) ?_
    have g4 := prOn_lt hG ((sg 202 v)) ((sg 506 0))
    refine xk_pF (xr_S (As := [.ref (ad 1 (v)), rv (ad 2) (prOn sg (sg 202 v) (sg 506 0))]) (rest := []) hx hb hml hown hts hK (c_X4_worthBy hR hG v ((rv_p (by omega)).symm) (prOn sg (sg 202 v) (sg 506 0)) (rfl) (by omega) (by omega)) ms_X4_worthBy kw_265 ⟨by decide, by decide⟩ ⟨by decide, by decide⟩ rfl rfl hl.1 rfl (lv_room (by decide)) dX4_worthToday_21) ?_
    have g5 := worthB_rng hG (v) ((prOn sg (sg 202 v) (sg 506 0)))
    exact xe_i hx hb hr hlk hsH dX4_worthToday_24 (by unfold worthT; split <;> first | rfl | omega)
  · skip
    rw [rv_n h1] at hl
    refine lv_iconst (v := iI (0)) hx hb dX4_worthToday_4 rfl ?_
    refine lv_goto (tgt := 24) hx hb dX4_worthToday_5 (by decide) ?_
    exact xe_i hx hb hr hlk hsH dX4_worthToday_24 (by unfold worthT; split <;> first | rfl | omega)
theorem ms_X4_isBesideNeeded : MVi RX4 yX4_isBesideNeeded cX4_isBesideNeeded 3 (some .boolean) 1 := ⟨kw_282, kw_281, kp_4, kw_1, rfl, by decide, by decide, by decide +kernel⟩
set_option maxRecDepth 100000 in
set_option maxHeartbeats 4000000 in
theorem c_X4_isBesideNeeded {l : Launch} {D : va_G} {cy : Nat → ClassId} {A : Nat → Prop} {ad : Nat → Int → Nat} {sg : Nat → Int → Int} {H : Heap} (hR : RC D cy A ad sg H) (hG : GC sg)  (x : Int) (h1 : 0 ≤ x ∧ x < 36) : Met l yX4_isBesideNeeded (Cond.code yX4_isBesideNeeded cX4_isBesideNeeded 3 (some .boolean) :: wG) (rmF 2 41 0 0) (Pc D cy H [.ref (ad 4 (0)), .int (iI (x))]) (Qp (.int (iI (bI (beside sg x))))) 0 0 Kn := by
  refine met_of (la := [(0, .ref (ad 4 (0))), (1, .int (iI (x)))]) (by decide) (Nat.le_of_ble_eq_true rfl) rfl ?_
  intro p e R s m args below meth c ls hRm hx hb hml hr hlk hin hown hts hsH hK hl
  subst hRm
  have hown : s.vm.findClass "Takinghall" = some m.cls := hown
  refine lv_iload_n hx hb dX4_isBesideNeeded_0 rfl (lv_at hl 1 rfl) ?_
  refine lv_bipush (v := iI (6)) hx hb dX4_isBesideNeeded_1 (by decide) ?_
  refine xr_irem hx hb dX4_isBesideNeeded_3 (by omega) (by omega) ?_
  refine lv_istore_n (i := 2) (lv' := [(2, .int (iI (x % 6))), (0, .ref (ad 4 (0))), (1, .int (iI (x)))]) hx hb dX4_isBesideNeeded_4 rfl hl (by decide) rfl (fun ls hl => ?_)
  refine lv_iload_n hx hb dX4_isBesideNeeded_5 rfl (lv_at hl 0 rfl) ?_
  refine xr_if_le (tgt := 22) hx hb dX4_isBesideNeeded_6 (by decide) (by omega) (fun h1 => ?_) (fun h1 => ?_)
  · skip
    refine lv_iload_n hx hb dX4_isBesideNeeded_22 rfl (lv_at hl 0 rfl) ?_
    refine lv_iconst (v := iI (5)) hx hb dX4_isBesideNeeded_23 rfl ?_
    refine xr_icmp_ge (tgt := 40) hx hb dX4_isBesideNeeded_24 (by decide) (by omega) (by omega) (fun h2 => ?_) (fun h2 => ?_)
    · skip
      refine lv_aload_n hx hb dX4_isBesideNeeded_40 rfl (lv_at hl 1 rfl) ?_
      refine lv_iload_n hx hb dX4_isBesideNeeded_41 rfl (lv_at hl 2 rfl) ?_
      refine lv_bipush (v := iI (6)) hx hb dX4_isBesideNeeded_42 (by decide) ?_
      refine xr_isub hx hb dX4_isBesideNeeded_44 ?_
      refine xk_pF (xr_V (As := [.int (iI (x - 6))]) (rest := []) hx hb hml hown hts hK (c_X4_plotAt hR hG (x - 6) (by omega)) ms_X4_plotAt kw_132 (wr_recv hK hR (gd_4 hG) rfl rfl) ⟨by decide, by decide⟩ ⟨by decide, by decide⟩ rfl rfl hl.1 rfl (lv_room (by decide)) dX4_isBesideNeeded_45) ?_
      have g3 := pAt_rng ((x - 6))
      refine xk_pF (xr_S (As := [rv (ad 1) (pAt (x - 6))]) (rest := []) hx hb hml hown hts hK (c_X4_isNeeded hR hG (pAt (x - 6)) (rfl) (by omega)) ms_X4_isNeeded kw_226 ⟨by decide, by decide⟩ ⟨by decide, by decide⟩ rfl rfl hl.1 rfl (lv_room (by decide)) dX4_isBesideNeeded_48) ?_
      refine xr_ifb_ne (tgt := 68) hx hb dX4_isBesideNeeded_51 (by decide) (fun h4 => ?_) (fun h4 => ?_)
      · skip
        refine lv_iconst (v := iI (1)) hx hb dX4_isBesideNeeded_68 rfl ?_
        refine lv_goto (tgt := 73) hx hb dX4_isBesideNeeded_69 (by decide) ?_
        exact xe_zb hx hb hr hlk hsH dX4_isBesideNeeded_73 (by unfold beside; omega)
      · skip
        refine lv_aload_n hx hb dX4_isBesideNeeded_54 rfl (lv_at hl 1 rfl) ?_
        refine lv_iload_n hx hb dX4_isBesideNeeded_55 rfl (lv_at hl 2 rfl) ?_
        refine lv_bipush (v := iI (6)) hx hb dX4_isBesideNeeded_56 (by decide) ?_
        refine xr_iadd hx hb dX4_isBesideNeeded_58 ?_
        refine xk_pF (xr_V (As := [.int (iI (x + 6))]) (rest := []) hx hb hml hown hts hK (c_X4_plotAt hR hG (x + 6) (by omega)) ms_X4_plotAt kw_132 (wr_recv hK hR (gd_4 hG) rfl rfl) ⟨by decide, by decide⟩ ⟨by decide, by decide⟩ rfl rfl hl.1 rfl (lv_room (by decide)) dX4_isBesideNeeded_59) ?_
        have g5 := pAt_rng ((x + 6))
        refine xk_pF (xr_S (As := [rv (ad 1) (pAt (x + 6))]) (rest := []) hx hb hml hown hts hK (c_X4_isNeeded hR hG (pAt (x + 6)) (rfl) (by omega)) ms_X4_isNeeded kw_226 ⟨by decide, by decide⟩ ⟨by decide, by decide⟩ rfl rfl hl.1 rfl (lv_room (by decide)) dX4_isBesideNeeded_62) ?_
        refine xr_ifb_eq (tgt := 72) hx hb dX4_isBesideNeeded_65 (by decide) (fun h6 => ?_) (fun h6 => ?_)
        · skip
          refine lv_iconst (v := iI (0)) hx hb dX4_isBesideNeeded_72 rfl ?_
          exact xe_zb hx hb hr hlk hsH dX4_isBesideNeeded_73 (by unfold beside; omega)
        · skip
          refine lv_iconst (v := iI (1)) hx hb dX4_isBesideNeeded_68 rfl ?_
          refine lv_goto (tgt := 73) hx hb dX4_isBesideNeeded_69 (by decide) ?_
          exact xe_zb hx hb hr hlk hsH dX4_isBesideNeeded_73 (by unfold beside; omega)
    · skip
      refine lv_aload_n hx hb dX4_isBesideNeeded_27 rfl (lv_at hl 1 rfl) ?_
      refine lv_iload_n hx hb dX4_isBesideNeeded_28 rfl (lv_at hl 2 rfl) ?_
      refine lv_iconst (v := iI (1)) hx hb dX4_isBesideNeeded_29 rfl ?_
      refine xr_iadd hx hb dX4_isBesideNeeded_30 ?_
      refine xk_pF (xr_V (As := [.int (iI (x + 1))]) (rest := []) hx hb hml hown hts hK (c_X4_plotAt hR hG (x + 1) (by omega)) ms_X4_plotAt kw_132 (wr_recv hK hR (gd_4 hG) rfl rfl) ⟨by decide, by decide⟩ ⟨by decide, by decide⟩ rfl rfl hl.1 rfl (lv_room (by decide)) dX4_isBesideNeeded_31) ?_
      have g7 := pAt_rng ((x + 1))
      refine xk_pF (xr_S (As := [rv (ad 1) (pAt (x + 1))]) (rest := []) hx hb hml hown hts hK (c_X4_isNeeded hR hG (pAt (x + 1)) (rfl) (by omega)) ms_X4_isNeeded kw_226 ⟨by decide, by decide⟩ ⟨by decide, by decide⟩ rfl rfl hl.1 rfl (lv_room (by decide)) dX4_isBesideNeeded_34) ?_
      refine xr_ifb_ne (tgt := 68) hx hb dX4_isBesideNeeded_37 (by decide) (fun h8 => ?_) (fun h8 => ?_)
      · skip
        refine lv_iconst (v := iI (1)) hx hb dX4_isBesideNeeded_68 rfl ?_
        refine lv_goto (tgt := 73) hx hb dX4_isBesideNeeded_69 (by decide) ?_
        exact xe_zb hx hb hr hlk hsH dX4_isBesideNeeded_73 (by unfold beside; omega)
      · skip
        refine lv_aload_n hx hb dX4_isBesideNeeded_40 rfl (lv_at hl 1 rfl) ?_
        refine lv_iload_n hx hb dX4_isBesideNeeded_41 rfl (lv_at hl 2 rfl) ?_
        refine lv_bipush (v := iI (6)) hx hb dX4_isBesideNeeded_42 (by decide) ?_
        refine xr_isub hx hb dX4_isBesideNeeded_44 ?_
        refine xk_pF (xr_V (As := [.int (iI (x - 6))]) (rest := []) hx hb hml hown hts hK (c_X4_plotAt hR hG (x - 6) (by omega)) ms_X4_plotAt kw_132 (wr_recv hK hR (gd_4 hG) rfl rfl) ⟨by decide, by decide⟩ ⟨by decide, by decide⟩ rfl rfl hl.1 rfl (lv_room (by decide)) dX4_isBesideNeeded_45) ?_
        have g9 := pAt_rng ((x - 6))
        refine xk_pF (xr_S (As := [rv (ad 1) (pAt (x - 6))]) (rest := []) hx hb hml hown hts hK (c_X4_isNeeded hR hG (pAt (x - 6)) (rfl) (by omega)) ms_X4_isNeeded kw_226 ⟨by decide, by decide⟩ ⟨by decide, by decide⟩ rfl rfl hl.1 rfl (lv_room (by decide)) dX4_isBesideNeeded_48) ?_
        refine xr_ifb_ne (tgt := 68) hx hb dX4_isBesideNeeded_51 (by decide) (fun h10 => ?_) (fun h10 => ?_)
        · skip
          refine lv_iconst (v := iI (1)) hx hb dX4_isBesideNeeded_68 rfl ?_
          refine lv_goto (tgt := 73) hx hb dX4_isBesideNeeded_69 (by decide) ?_
          exact xe_zb hx hb hr hlk hsH dX4_isBesideNeeded_73 (by unfold beside; omega)
        · skip
          refine lv_aload_n hx hb dX4_isBesideNeeded_54 rfl (lv_at hl 1 rfl) ?_
          refine lv_iload_n hx hb dX4_isBesideNeeded_55 rfl (lv_at hl 2 rfl) ?_
          refine lv_bipush (v := iI (6)) hx hb dX4_isBesideNeeded_56 (by decide) ?_
          refine xr_iadd hx hb dX4_isBesideNeeded_58 ?_
          refine xk_pF (xr_V (As := [.int (iI (x + 6))]) (rest := []) hx hb hml hown hts hK (c_X4_plotAt hR hG (x + 6) (by omega)) ms_X4_plotAt kw_132 (wr_recv hK hR (gd_4 hG) rfl rfl) ⟨by decide, by decide⟩ ⟨by decide, by decide⟩ rfl rfl hl.1 rfl (lv_room (by decide)) dX4_isBesideNeeded_59) ?_
          have g11 := pAt_rng ((x + 6))
          refine xk_pF (xr_S (As := [rv (ad 1) (pAt (x + 6))]) (rest := []) hx hb hml hown hts hK (c_X4_isNeeded hR hG (pAt (x + 6)) (rfl) (by omega)) ms_X4_isNeeded kw_226 ⟨by decide, by decide⟩ ⟨by decide, by decide⟩ rfl rfl hl.1 rfl (lv_room (by decide)) dX4_isBesideNeeded_62) ?_
          refine xr_ifb_eq (tgt := 72) hx hb dX4_isBesideNeeded_65 (by decide) (fun h12 => ?_) (fun h12 => ?_)
          · skip
            refine lv_iconst (v := iI (0)) hx hb dX4_isBesideNeeded_72 rfl ?_
            exact xe_zb hx hb hr hlk hsH dX4_isBesideNeeded_73 (by unfold beside; omega)
          · skip
            refine lv_iconst (v := iI (1)) hx hb dX4_isBesideNeeded_68 rfl ?_
            refine lv_goto (tgt := 73) hx hb dX4_isBesideNeeded_69 (by decide) ?_
            exact xe_zb hx hb hr hlk hsH dX4_isBesideNeeded_73 (by unfold beside; omega)
  · skip
    refine lv_aload_n hx hb dX4_isBesideNeeded_9 rfl (lv_at hl 1 rfl) ?_
    refine lv_iload_n hx hb dX4_isBesideNeeded_10 rfl (lv_at hl 2 rfl) ?_
    refine lv_iconst (v := iI (1)) hx hb dX4_isBesideNeeded_11 rfl ?_
    refine xr_isub hx hb dX4_isBesideNeeded_12 ?_
    refine xk_pF (xr_V (As := [.int (iI (x - 1))]) (rest := []) hx hb hml hown hts hK (c_X4_plotAt hR hG (x - 1) (by omega)) ms_X4_plotAt kw_132 (wr_recv hK hR (gd_4 hG) rfl rfl) ⟨by decide, by decide⟩ ⟨by decide, by decide⟩ rfl rfl hl.1 rfl (lv_room (by decide)) dX4_isBesideNeeded_13) ?_
    have g13 := pAt_rng ((x - 1))
    refine xk_pF (xr_S (As := [rv (ad 1) (pAt (x - 1))]) (rest := []) hx hb hml hown hts hK (c_X4_isNeeded hR hG (pAt (x - 1)) (rfl) (by omega)) ms_X4_isNeeded kw_226 ⟨by decide, by decide⟩ ⟨by decide, by decide⟩ rfl rfl hl.1 rfl (lv_room (by decide)) dX4_isBesideNeeded_16) ?_
    refine xr_ifb_ne (tgt := 68) hx hb dX4_isBesideNeeded_19 (by decide) (fun h14 => ?_) (fun h14 => ?_)
    · skip
      refine lv_iconst (v := iI (1)) hx hb dX4_isBesideNeeded_68 rfl ?_
      refine lv_goto (tgt := 73) hx hb dX4_isBesideNeeded_69 (by decide) ?_
      exact xe_zb hx hb hr hlk hsH dX4_isBesideNeeded_73 (by unfold beside; omega)
    · skip
      refine lv_iload_n hx hb dX4_isBesideNeeded_22 rfl (lv_at hl 0 rfl) ?_
      refine lv_iconst (v := iI (5)) hx hb dX4_isBesideNeeded_23 rfl ?_
      refine xr_icmp_ge (tgt := 40) hx hb dX4_isBesideNeeded_24 (by decide) (by omega) (by omega) (fun h15 => ?_) (fun h15 => ?_)
      · skip
        refine lv_aload_n hx hb dX4_isBesideNeeded_40 rfl (lv_at hl 1 rfl) ?_
        refine lv_iload_n hx hb dX4_isBesideNeeded_41 rfl (lv_at hl 2 rfl) ?_
        refine lv_bipush (v := iI (6)) hx hb dX4_isBesideNeeded_42 (by decide) ?_
        refine xr_isub hx hb dX4_isBesideNeeded_44 ?_
        refine xk_pF (xr_V (As := [.int (iI (x - 6))]) (rest := []) hx hb hml hown hts hK (c_X4_plotAt hR hG (x - 6) (by omega)) ms_X4_plotAt kw_132 (wr_recv hK hR (gd_4 hG) rfl rfl) ⟨by decide, by decide⟩ ⟨by decide, by decide⟩ rfl rfl hl.1 rfl (lv_room (by decide)) dX4_isBesideNeeded_45) ?_
        have g16 := pAt_rng ((x - 6))
        refine xk_pF (xr_S (As := [rv (ad 1) (pAt (x - 6))]) (rest := []) hx hb hml hown hts hK (c_X4_isNeeded hR hG (pAt (x - 6)) (rfl) (by omega)) ms_X4_isNeeded kw_226 ⟨by decide, by decide⟩ ⟨by decide, by decide⟩ rfl rfl hl.1 rfl (lv_room (by decide)) dX4_isBesideNeeded_48) ?_
        refine xr_ifb_ne (tgt := 68) hx hb dX4_isBesideNeeded_51 (by decide) (fun h17 => ?_) (fun h17 => ?_)
        · skip
          refine lv_iconst (v := iI (1)) hx hb dX4_isBesideNeeded_68 rfl ?_
          refine lv_goto (tgt := 73) hx hb dX4_isBesideNeeded_69 (by decide) ?_
          exact xe_zb hx hb hr hlk hsH dX4_isBesideNeeded_73 (by unfold beside; omega)
        · skip
          refine lv_aload_n hx hb dX4_isBesideNeeded_54 rfl (lv_at hl 1 rfl) ?_
          refine lv_iload_n hx hb dX4_isBesideNeeded_55 rfl (lv_at hl 2 rfl) ?_
          refine lv_bipush (v := iI (6)) hx hb dX4_isBesideNeeded_56 (by decide) ?_
          refine xr_iadd hx hb dX4_isBesideNeeded_58 ?_
          refine xk_pF (xr_V (As := [.int (iI (x + 6))]) (rest := []) hx hb hml hown hts hK (c_X4_plotAt hR hG (x + 6) (by omega)) ms_X4_plotAt kw_132 (wr_recv hK hR (gd_4 hG) rfl rfl) ⟨by decide, by decide⟩ ⟨by decide, by decide⟩ rfl rfl hl.1 rfl (lv_room (by decide)) dX4_isBesideNeeded_59) ?_
          have g18 := pAt_rng ((x + 6))
          refine xk_pF (xr_S (As := [rv (ad 1) (pAt (x + 6))]) (rest := []) hx hb hml hown hts hK (c_X4_isNeeded hR hG (pAt (x + 6)) (rfl) (by omega)) ms_X4_isNeeded kw_226 ⟨by decide, by decide⟩ ⟨by decide, by decide⟩ rfl rfl hl.1 rfl (lv_room (by decide)) dX4_isBesideNeeded_62) ?_
          refine xr_ifb_eq (tgt := 72) hx hb dX4_isBesideNeeded_65 (by decide) (fun h19 => ?_) (fun h19 => ?_)
          · skip
            refine lv_iconst (v := iI (0)) hx hb dX4_isBesideNeeded_72 rfl ?_
            exact xe_zb hx hb hr hlk hsH dX4_isBesideNeeded_73 (by unfold beside; omega)
          · skip
            refine lv_iconst (v := iI (1)) hx hb dX4_isBesideNeeded_68 rfl ?_
            refine lv_goto (tgt := 73) hx hb dX4_isBesideNeeded_69 (by decide) ?_
            exact xe_zb hx hb hr hlk hsH dX4_isBesideNeeded_73 (by unfold beside; omega)
      · skip
        refine lv_aload_n hx hb dX4_isBesideNeeded_27 rfl (lv_at hl 1 rfl) ?_
        refine lv_iload_n hx hb dX4_isBesideNeeded_28 rfl (lv_at hl 2 rfl) ?_
        refine lv_iconst (v := iI (1)) hx hb dX4_isBesideNeeded_29 rfl ?_
        refine xr_iadd hx hb dX4_isBesideNeeded_30 ?_
        refine xk_pF (xr_V (As := [.int (iI (x + 1))]) (rest := []) hx hb hml hown hts hK (c_X4_plotAt hR hG (x + 1) (by omega)) ms_X4_plotAt kw_132 (wr_recv hK hR (gd_4 hG) rfl rfl) ⟨by decide, by decide⟩ ⟨by decide, by decide⟩ rfl rfl hl.1 rfl (lv_room (by decide)) dX4_isBesideNeeded_31) ?_
        have g20 := pAt_rng ((x + 1))
        refine xk_pF (xr_S (As := [rv (ad 1) (pAt (x + 1))]) (rest := []) hx hb hml hown hts hK (c_X4_isNeeded hR hG (pAt (x + 1)) (rfl) (by omega)) ms_X4_isNeeded kw_226 ⟨by decide, by decide⟩ ⟨by decide, by decide⟩ rfl rfl hl.1 rfl (lv_room (by decide)) dX4_isBesideNeeded_34) ?_
        refine xr_ifb_ne (tgt := 68) hx hb dX4_isBesideNeeded_37 (by decide) (fun h21 => ?_) (fun h21 => ?_)
        · skip
          refine lv_iconst (v := iI (1)) hx hb dX4_isBesideNeeded_68 rfl ?_
          refine lv_goto (tgt := 73) hx hb dX4_isBesideNeeded_69 (by decide) ?_
          exact xe_zb hx hb hr hlk hsH dX4_isBesideNeeded_73 (by unfold beside; omega)
        · skip
          refine lv_aload_n hx hb dX4_isBesideNeeded_40 rfl (lv_at hl 1 rfl) ?_
          refine lv_iload_n hx hb dX4_isBesideNeeded_41 rfl (lv_at hl 2 rfl) ?_
          refine lv_bipush (v := iI (6)) hx hb dX4_isBesideNeeded_42 (by decide) ?_
          refine xr_isub hx hb dX4_isBesideNeeded_44 ?_
          refine xk_pF (xr_V (As := [.int (iI (x - 6))]) (rest := []) hx hb hml hown hts hK (c_X4_plotAt hR hG (x - 6) (by omega)) ms_X4_plotAt kw_132 (wr_recv hK hR (gd_4 hG) rfl rfl) ⟨by decide, by decide⟩ ⟨by decide, by decide⟩ rfl rfl hl.1 rfl (lv_room (by decide)) dX4_isBesideNeeded_45) ?_
          have g22 := pAt_rng ((x - 6))
          refine xk_pF (xr_S (As := [rv (ad 1) (pAt (x - 6))]) (rest := []) hx hb hml hown hts hK (c_X4_isNeeded hR hG (pAt (x - 6)) (rfl) (by omega)) ms_X4_isNeeded kw_226 ⟨by decide, by decide⟩ ⟨by decide, by decide⟩ rfl rfl hl.1 rfl (lv_room (by decide)) dX4_isBesideNeeded_48) ?_
          refine xr_ifb_ne (tgt := 68) hx hb dX4_isBesideNeeded_51 (by decide) (fun h23 => ?_) (fun h23 => ?_)
          · skip
            refine lv_iconst (v := iI (1)) hx hb dX4_isBesideNeeded_68 rfl ?_
            refine lv_goto (tgt := 73) hx hb dX4_isBesideNeeded_69 (by decide) ?_
            exact xe_zb hx hb hr hlk hsH dX4_isBesideNeeded_73 (by unfold beside; omega)
          · skip
            refine lv_aload_n hx hb dX4_isBesideNeeded_54 rfl (lv_at hl 1 rfl) ?_
            refine lv_iload_n hx hb dX4_isBesideNeeded_55 rfl (lv_at hl 2 rfl) ?_
            refine lv_bipush (v := iI (6)) hx hb dX4_isBesideNeeded_56 (by decide) ?_
            refine xr_iadd hx hb dX4_isBesideNeeded_58 ?_
            refine xk_pF (xr_V (As := [.int (iI (x + 6))]) (rest := []) hx hb hml hown hts hK (c_X4_plotAt hR hG (x + 6) (by omega)) ms_X4_plotAt kw_132 (wr_recv hK hR (gd_4 hG) rfl rfl) ⟨by decide, by decide⟩ ⟨by decide, by decide⟩ rfl rfl hl.1 rfl (lv_room (by decide)) dX4_isBesideNeeded_59) ?_
            have g24 := pAt_rng ((x + 6))
            refine xk_pF (xr_S (As := [rv (ad 1) (pAt (x + 6))]) (rest := []) hx hb hml hown hts hK (c_X4_isNeeded hR hG (pAt (x + 6)) (rfl) (by omega)) ms_X4_isNeeded kw_226 ⟨by decide, by decide⟩ ⟨by decide, by decide⟩ rfl rfl hl.1 rfl (lv_room (by decide)) dX4_isBesideNeeded_62) ?_
            refine xr_ifb_eq (tgt := 72) hx hb dX4_isBesideNeeded_65 (by decide) (fun h25 => ?_) (fun h25 => ?_)
            · skip
              refine lv_iconst (v := iI (0)) hx hb dX4_isBesideNeeded_72 rfl ?_
              exact xe_zb hx hb hr hlk hsH dX4_isBesideNeeded_73 (by unfold beside; omega)
            · skip
              refine lv_iconst (v := iI (1)) hx hb dX4_isBesideNeeded_68 rfl ?_
              refine lv_goto (tgt := 73) hx hb dX4_isBesideNeeded_69 (by decide) ?_
              exact xe_zb hx hb hr hlk hsH dX4_isBesideNeeded_73 (by unfold beside; omega)
theorem ms_X4_countNeeded : MVi RX4 yX4_countNeeded cX4_countNeeded 7 (some .int) 1 := ⟨kw_547, kw_546, kp_17, kw_1, rfl, by decide, by decide, by decide +kernel⟩
set_option maxRecDepth 100000 in
set_option maxHeartbeats 4000000 in
theorem c_X4_countNeeded {l : Launch} {D : va_G} {cy : Nat → ClassId} {A : Nat → Prop} {ad : Nat → Int → Nat} {sg : Nat → Int → Int} {H : Heap} (hR : RC D cy A ad sg H) (hG : GC sg)  (w : Int) {x_w : Value} (hx_w : x_w = rv (ad 3) w) (h1 : w < sg 505 0) : Met l yX4_countNeeded (Cond.code yX4_countNeeded cX4_countNeeded 7 (some .int) :: wG) (rmF 2 42 0 0) (Pc D cy H [.ref (ad 4 (0)), x_w]) (Qp (.int (iI (cntNeed sg w)))) 0 0 Kn := by
  subst hx_w
  refine met_of (la := [(0, .ref (ad 4 (0))), (1, rv (ad 3) (w))]) (by decide) (by simp [lg_sl, rv_cat, cat_i, cat_l, cat_r, cat_n]) (by simp [lv_args, rv_cat, cat_i, cat_l, cat_r, cat_n]) ?_
  intro p e R s m args below meth c ls hRm hx hb hml hr hlk hin hown hts hsH hK hl
  subst hRm
  have hown : s.vm.findClass "Takinghall" = some m.cls := hown
  have hw4 : ∀ w ∈ u_ws RX4 TX4 12, w.before args s = true := fun w h => hts w (uw_X4 w h)
  refine lv_iconst (v := iI (0)) hx hb dX4_countNeeded_0 rfl ?_
  refine lv_istore_n (i := 2) (lv' := [(2, .int (iI (0))), (0, .ref (ad 4 (0))), (1, rv (ad 3) (w))]) hx hb dX4_countNeeded_1 rfl hl (by decide) (by simp [rv_cat, cat_i, cat_l, cat_r, cat_n]) (fun ls hl => ?_)
  refine lv_aload_n hx hb dX4_countNeeded_2 rfl (lv_at hl 1 rfl) ?_
  refine xg_500 (v := sg 500 0) hx hb hw4 hown hK hR (gd_4 hG) (hts _ kw_91) rfl dX4_countNeeded_3 ?_
  have g1 := gh_500 hG (0)
  have q2 : sg 500 0 = 0 := gh_500 hG _
  rw [q2, rv_p (Int.le_refl 0)]
  refine lv_astore_n (i := 3) (lv' := [(3, .ref (ad 10 (0))), (2, .int (iI (0))), (0, .ref (ad 4 (0))), (1, rv (ad 3) (w))]) hx hb dX4_countNeeded_6 rfl hl (by decide) rfl (fun ls hl => ?_)
  refine lv_aload_n hx hb dX4_countNeeded_7 rfl (lv_at hl 0 rfl) ?_
  refine xl_601 hx hb hK hR (gd_10 hG) dX4_countNeeded_8 ?_
  refine lv_istore (i := 4) (lv' := [(4, .int (iI (36))), (3, .ref (ad 10 (0))), (2, .int (iI (0))), (0, .ref (ad 4 (0))), (1, rv (ad 3) (w))]) hx hb dX4_countNeeded_9 hl (by decide) rfl (fun ls hl => ?_)
  refine lv_iconst (v := iI (0)) hx hb dX4_countNeeded_11 rfl ?_
  refine lv_istore (i := 5) (lv' := [(5, .int (iI (0))), (4, .int (iI (36))), (3, .ref (ad 10 (0))), (2, .int (iI (0))), (0, .ref (ad 4 (0))), (1, rv (ad 3) (w))]) hx hb dX4_countNeeded_12 hl (by decide) rfl (fun ls hl => ?_)
  have loop14 : ∀ (n : Nat) (i : Int) (acc : Int), 0 ≤ i → i ≤ 36 → acc = sumN (fun q => bI (0 ≤ w ∧ needO sg q = w)) i.toNat → (36 - i).toNat ≤ n → ∀ ls : Array Slot, lv_has ls 7 [(0, .ref (ad 4 (0))), (1, rv (ad 3) (w)), (2, .int (iI (acc))), (3, .ref (ad 10 (0))), (4, .int (iI (36))), (5, .int (iI (i)))] → W p l e (rmF 2 42 0 0) s m args below meth c H [] 0 0 (MQ below (Qp (.int (iI (cntNeed sg w)))) args s 0 0 Kn) (F0 m 14 ls []) := by
    intro n
    induction n with
    | zero =>
      intro i acc hi0 hi1 hacc hn ls hl
      refine lv_iload hx hb dX4_countNeeded_14 (lv_at hl 5 rfl) ?_
      refine lv_iload hx hb dX4_countNeeded_16 (lv_at hl 4 rfl) ?_
      refine xr_icmp_ge (tgt := 45) hx hb dX4_countNeeded_18 (by decide) (by omega) (by omega) (fun h3 => ?_) (fun h3 => ?_)
      · skip
        refine lv_iload_n hx hb dX4_countNeeded_45 rfl (lv_at hl 2 rfl) ?_
        exact xe_i hx hb hr hlk hsH dX4_countNeeded_46 (by have e : i = 36 := (by omega); subst e; exact hacc)
      · skip
        refine lv_aload_n hx hb dX4_countNeeded_21 rfl (lv_at hl 3 rfl) ?_
        refine lv_iload hx hb dX4_countNeeded_22 (lv_at hl 5 rfl) ?_
        refine xa_601 (v := sg 601 i) hx hb hK hR (gd_10 hG) (by omega) rfl dX4_countNeeded_24 ?_
        have q4 := ga_601 hG (q := i) (by omega)
        rw [q4, rv_p (f := ad 1) (v := i) (by omega)]
        refine lv_astore (i := 6) (lv' := [(6, .ref (ad 1 (i))), (0, .ref (ad 4 (0))), (1, rv (ad 3) (w)), (2, .int (iI (acc))), (3, .ref (ad 10 (0))), (4, .int (iI (36))), (5, .int (iI (i)))]) hx hb dX4_countNeeded_25 hl (by decide) rfl (fun ls hl => ?_)
        refine lv_aload hx hb dX4_countNeeded_27 (lv_at hl 0 rfl) ?_
        refine xr_aload_n hx hb dX4_countNeeded_29 rfl (lv_at hl 2 rfl) ?_
        refine xk_pF (xr_S (As := [.ref (ad 1 (i)), rv (ad 3) (w)]) (rest := []) hx hb hml hown hts hK (c_X4_isNeededBy hR hG i ((rv_p (by omega)).symm) w (rfl) (by omega) (by omega)) ms_X4_isNeededBy kw_358 ⟨by decide, by decide⟩ ⟨by decide, by decide⟩ rfl rfl hl.1 rfl (lv_room (by decide)) dX4_countNeeded_30) ?_
        refine xr_ifb_eq (tgt := 39) hx hb dX4_countNeeded_33 (by decide) (fun h5 => ?_) (fun h5 => ?_)
        · skip
          refine lv_iinc (v := iI (i + (1))) (lv' := [(5, .int (iI (i + (1)))), (6, .ref (ad 1 (i))), (0, .ref (ad 4 (0))), (1, rv (ad 3) (w)), (2, .int (iI (acc))), (3, .ref (ad 10 (0))), (4, .int (iI (36)))]) hx hb dX4_countNeeded_39 hl (k := 6) rfl (iI_add _ _) (by decide) rfl (fun ls hl => ?_)
          refine lv_goto (tgt := 14) hx hb dX4_countNeeded_42 (by decide) ?_
          exact absurd hn (by omega)
        · skip
          refine lv_iinc (v := iI (acc + (1))) (lv' := [(2, .int (iI (acc + (1)))), (6, .ref (ad 1 (i))), (0, .ref (ad 4 (0))), (1, rv (ad 3) (w)), (3, .ref (ad 10 (0))), (4, .int (iI (36))), (5, .int (iI (i)))]) hx hb dX4_countNeeded_36 hl (k := 3) rfl (iI_add _ _) (by decide) (by simp [rv_cat, cat_i, cat_l, cat_r, cat_n]) (fun ls hl => ?_)
          refine lv_iinc (v := iI (i + (1))) (lv' := [(5, .int (iI (i + (1)))), (2, .int (iI (acc + (1)))), (6, .ref (ad 1 (i))), (0, .ref (ad 4 (0))), (1, rv (ad 3) (w)), (3, .ref (ad 10 (0))), (4, .int (iI (36)))]) hx hb dX4_countNeeded_39 hl (k := 6) rfl (iI_add _ _) (by decide) rfl (fun ls hl => ?_)
          refine lv_goto (tgt := 14) hx hb dX4_countNeeded_42 (by decide) ?_
          exact absurd hn (by omega)
    | succ n ih =>
      intro i acc hi0 hi1 hacc hn ls hl
      refine lv_iload hx hb dX4_countNeeded_14 (lv_at hl 5 rfl) ?_
      refine lv_iload hx hb dX4_countNeeded_16 (lv_at hl 4 rfl) ?_
      refine xr_icmp_ge (tgt := 45) hx hb dX4_countNeeded_18 (by decide) (by omega) (by omega) (fun h6 => ?_) (fun h6 => ?_)
      · skip
        refine lv_iload_n hx hb dX4_countNeeded_45 rfl (lv_at hl 2 rfl) ?_
        exact xe_i hx hb hr hlk hsH dX4_countNeeded_46 (by have e : i = 36 := (by omega); subst e; exact hacc)
      · skip
        refine lv_aload_n hx hb dX4_countNeeded_21 rfl (lv_at hl 3 rfl) ?_
        refine lv_iload hx hb dX4_countNeeded_22 (lv_at hl 5 rfl) ?_
        refine xa_601 (v := sg 601 i) hx hb hK hR (gd_10 hG) (by omega) rfl dX4_countNeeded_24 ?_
        have q7 := ga_601 hG (q := i) (by omega)
        rw [q7, rv_p (f := ad 1) (v := i) (by omega)]
        refine lv_astore (i := 6) (lv' := [(6, .ref (ad 1 (i))), (0, .ref (ad 4 (0))), (1, rv (ad 3) (w)), (2, .int (iI (acc))), (3, .ref (ad 10 (0))), (4, .int (iI (36))), (5, .int (iI (i)))]) hx hb dX4_countNeeded_25 hl (by decide) rfl (fun ls hl => ?_)
        refine lv_aload hx hb dX4_countNeeded_27 (lv_at hl 0 rfl) ?_
        refine xr_aload_n hx hb dX4_countNeeded_29 rfl (lv_at hl 2 rfl) ?_
        refine xk_pF (xr_S (As := [.ref (ad 1 (i)), rv (ad 3) (w)]) (rest := []) hx hb hml hown hts hK (c_X4_isNeededBy hR hG i ((rv_p (by omega)).symm) w (rfl) (by omega) (by omega)) ms_X4_isNeededBy kw_358 ⟨by decide, by decide⟩ ⟨by decide, by decide⟩ rfl rfl hl.1 rfl (lv_room (by decide)) dX4_countNeeded_30) ?_
        refine xr_ifb_eq (tgt := 39) hx hb dX4_countNeeded_33 (by decide) (fun h8 => ?_) (fun h8 => ?_)
        · skip
          refine lv_iinc (v := iI (i + (1))) (lv' := [(5, .int (iI (i + (1)))), (6, .ref (ad 1 (i))), (0, .ref (ad 4 (0))), (1, rv (ad 3) (w)), (2, .int (iI (acc))), (3, .ref (ad 10 (0))), (4, .int (iI (36)))]) hx hb dX4_countNeeded_39 hl (k := 6) rfl (iI_add _ _) (by decide) rfl (fun ls hl => ?_)
          refine lv_goto (tgt := 14) hx hb dX4_countNeeded_42 (by decide) ?_
          exact ih (i + 1) acc (by omega) (by omega) (sum_0 hi0 hacc (by exact bI_f (by first | omega | grind))) (by omega) ls (lv_sub hl [2, 3, 4, 5, 6, 0] rfl)
        · skip
          refine lv_iinc (v := iI (acc + (1))) (lv' := [(2, .int (iI (acc + (1)))), (6, .ref (ad 1 (i))), (0, .ref (ad 4 (0))), (1, rv (ad 3) (w)), (3, .ref (ad 10 (0))), (4, .int (iI (36))), (5, .int (iI (i)))]) hx hb dX4_countNeeded_36 hl (k := 3) rfl (iI_add _ _) (by decide) (by simp [rv_cat, cat_i, cat_l, cat_r, cat_n]) (fun ls hl => ?_)
          refine lv_iinc (v := iI (i + (1))) (lv' := [(5, .int (iI (i + (1)))), (2, .int (iI (acc + (1)))), (6, .ref (ad 1 (i))), (0, .ref (ad 4 (0))), (1, rv (ad 3) (w)), (3, .ref (ad 10 (0))), (4, .int (iI (36)))]) hx hb dX4_countNeeded_39 hl (k := 6) rfl (iI_add _ _) (by decide) rfl (fun ls hl => ?_)
          refine lv_goto (tgt := 14) hx hb dX4_countNeeded_42 (by decide) ?_
          exact ih (i + 1) (acc + (1)) (by omega) (by omega) (sum_t hi0 hacc (by exact (bI_t (by first | omega | grind)).symm)) (by omega) ls (lv_sub hl [3, 4, 1, 5, 6, 0] rfl)
  exact loop14 _ 0 0 (by decide) (by decide) rfl (Nat.le_refl _) ls (lv_sub hl [4, 5, 3, 2, 1, 0] rfl)
theorem ms_X4_countFreeNeeded : MVi RX4 yX4_countFreeNeeded cX4_countFreeNeeded 7 (some .int) 1 := ⟨kw_581, kw_580, kp_20, kw_1, rfl, by decide, by decide, by decide +kernel⟩
set_option maxRecDepth 100000 in
set_option maxHeartbeats 4000000 in
theorem c_X4_countFreeNeeded {l : Launch} {D : va_G} {cy : Nat → ClassId} {A : Nat → Prop} {ad : Nat → Int → Nat} {sg : Nat → Int → Int} {H : Heap} (hR : RC D cy A ad sg H) (hG : GC sg)  (w : Int) {x_w : Value} (hx_w : x_w = rv (ad 3) w) (h1 : w < sg 505 0) : Met l yX4_countFreeNeeded (Cond.code yX4_countFreeNeeded cX4_countFreeNeeded 7 (some .int) :: wG) (rmF 3 63 0 0) (Pc D cy H [.ref (ad 4 (0)), x_w]) (Qp (.int (iI (cntFree sg w)))) 0 0 Kn := by
  subst hx_w
  refine met_of (la := [(0, .ref (ad 4 (0))), (1, rv (ad 3) (w))]) (by decide) (by simp [lg_sl, rv_cat, cat_i, cat_l, cat_r, cat_n]) (by simp [lv_args, rv_cat, cat_i, cat_l, cat_r, cat_n]) ?_
  intro p e R s m args below meth c ls hRm hx hb hml hr hlk hin hown hts hsH hK hl
  subst hRm
  have hown : s.vm.findClass "Takinghall" = some m.cls := hown
  have hw4 : ∀ w ∈ u_ws RX4 TX4 12, w.before args s = true := fun w h => hts w (uw_X4 w h)
  refine lv_iconst (v := iI (0)) hx hb dX4_countFreeNeeded_0 rfl ?_
  refine lv_istore_n (i := 2) (lv' := [(2, .int (iI (0))), (0, .ref (ad 4 (0))), (1, rv (ad 3) (w))]) hx hb dX4_countFreeNeeded_1 rfl hl (by decide) (by simp [rv_cat, cat_i, cat_l, cat_r, cat_n]) (fun ls hl => ?_)
  refine lv_aload_n hx hb dX4_countFreeNeeded_2 rfl (lv_at hl 1 rfl) ?_
  refine xg_500 (v := sg 500 0) hx hb hw4 hown hK hR (gd_4 hG) (hts _ kw_91) rfl dX4_countFreeNeeded_3 ?_
  have g1 := gh_500 hG (0)
  have q2 : sg 500 0 = 0 := gh_500 hG _
  rw [q2, rv_p (Int.le_refl 0)]
  refine lv_astore_n (i := 3) (lv' := [(3, .ref (ad 10 (0))), (2, .int (iI (0))), (0, .ref (ad 4 (0))), (1, rv (ad 3) (w))]) hx hb dX4_countFreeNeeded_6 rfl hl (by decide) rfl (fun ls hl => ?_)
  refine lv_aload_n hx hb dX4_countFreeNeeded_7 rfl (lv_at hl 0 rfl) ?_
  refine xl_601 hx hb hK hR (gd_10 hG) dX4_countFreeNeeded_8 ?_
  refine lv_istore (i := 4) (lv' := [(4, .int (iI (36))), (3, .ref (ad 10 (0))), (2, .int (iI (0))), (0, .ref (ad 4 (0))), (1, rv (ad 3) (w))]) hx hb dX4_countFreeNeeded_9 hl (by decide) rfl (fun ls hl => ?_)
  refine lv_iconst (v := iI (0)) hx hb dX4_countFreeNeeded_11 rfl ?_
  refine lv_istore (i := 5) (lv' := [(5, .int (iI (0))), (4, .int (iI (36))), (3, .ref (ad 10 (0))), (2, .int (iI (0))), (0, .ref (ad 4 (0))), (1, rv (ad 3) (w))]) hx hb dX4_countFreeNeeded_12 hl (by decide) rfl (fun ls hl => ?_)
  have loop14 : ∀ (n : Nat) (i : Int) (acc : Int), 0 ≤ i → i ≤ 36 → acc = sumN (fun q => bI (freeNeed sg q w)) i.toNat → (36 - i).toNat ≤ n → ∀ ls : Array Slot, lv_has ls 7 [(0, .ref (ad 4 (0))), (1, rv (ad 3) (w)), (2, .int (iI (acc))), (3, .ref (ad 10 (0))), (4, .int (iI (36))), (5, .int (iI (i)))] → W p l e (rmF 3 63 0 0) s m args below meth c H [] 0 0 (MQ below (Qp (.int (iI (cntFree sg w)))) args s 0 0 Kn) (F0 m 14 ls []) := by
    intro n
    induction n with
    | zero =>
      intro i acc hi0 hi1 hacc hn ls hl
      refine lv_iload hx hb dX4_countFreeNeeded_14 (lv_at hl 5 rfl) ?_
      refine lv_iload hx hb dX4_countFreeNeeded_16 (lv_at hl 4 rfl) ?_
      refine xr_icmp_ge (tgt := 45) hx hb dX4_countFreeNeeded_18 (by decide) (by omega) (by omega) (fun h3 => ?_) (fun h3 => ?_)
      · skip
        refine lv_iload_n hx hb dX4_countFreeNeeded_45 rfl (lv_at hl 2 rfl) ?_
        exact xe_i hx hb hr hlk hsH dX4_countFreeNeeded_46 (by have e : i = 36 := (by omega); subst e; exact hacc)
      · skip
        refine lv_aload_n hx hb dX4_countFreeNeeded_21 rfl (lv_at hl 3 rfl) ?_
        refine lv_iload hx hb dX4_countFreeNeeded_22 (lv_at hl 5 rfl) ?_
        refine xa_601 (v := sg 601 i) hx hb hK hR (gd_10 hG) (by omega) rfl dX4_countFreeNeeded_24 ?_
        have q4 := ga_601 hG (q := i) (by omega)
        rw [q4, rv_p (f := ad 1) (v := i) (by omega)]
        refine lv_astore (i := 6) (lv' := [(6, .ref (ad 1 (i))), (0, .ref (ad 4 (0))), (1, rv (ad 3) (w)), (2, .int (iI (acc))), (3, .ref (ad 10 (0))), (4, .int (iI (36))), (5, .int (iI (i)))]) hx hb dX4_countFreeNeeded_25 hl (by decide) rfl (fun ls hl => ?_)
        refine lv_aload hx hb dX4_countFreeNeeded_27 (lv_at hl 0 rfl) ?_
        refine xr_aload_n hx hb dX4_countFreeNeeded_29 rfl (lv_at hl 2 rfl) ?_
        refine xk_pF (xr_S (As := [.ref (ad 1 (i)), rv (ad 3) (w)]) (rest := []) hx hb hml hown hts hK (c_X4_isFreeAndNeededBy hR hG i ((rv_p (by omega)).symm) w (rfl) (by omega) (by omega)) ms_X4_isFreeAndNeededBy kw_355 ⟨by decide, by decide⟩ ⟨by decide, by decide⟩ rfl rfl hl.1 rfl (lv_room (by decide)) dX4_countFreeNeeded_30) ?_
        refine xr_ifb_eq (tgt := 39) hx hb dX4_countFreeNeeded_33 (by decide) (fun h5 => ?_) (fun h5 => ?_)
        · skip
          refine lv_iinc (v := iI (i + (1))) (lv' := [(5, .int (iI (i + (1)))), (6, .ref (ad 1 (i))), (0, .ref (ad 4 (0))), (1, rv (ad 3) (w)), (2, .int (iI (acc))), (3, .ref (ad 10 (0))), (4, .int (iI (36)))]) hx hb dX4_countFreeNeeded_39 hl (k := 6) rfl (iI_add _ _) (by decide) rfl (fun ls hl => ?_)
          refine lv_goto (tgt := 14) hx hb dX4_countFreeNeeded_42 (by decide) ?_
          exact absurd hn (by omega)
        · skip
          refine lv_iinc (v := iI (acc + (1))) (lv' := [(2, .int (iI (acc + (1)))), (6, .ref (ad 1 (i))), (0, .ref (ad 4 (0))), (1, rv (ad 3) (w)), (3, .ref (ad 10 (0))), (4, .int (iI (36))), (5, .int (iI (i)))]) hx hb dX4_countFreeNeeded_36 hl (k := 3) rfl (iI_add _ _) (by decide) (by simp [rv_cat, cat_i, cat_l, cat_r, cat_n]) (fun ls hl => ?_)
          refine lv_iinc (v := iI (i + (1))) (lv' := [(5, .int (iI (i + (1)))), (2, .int (iI (acc + (1)))), (6, .ref (ad 1 (i))), (0, .ref (ad 4 (0))), (1, rv (ad 3) (w)), (3, .ref (ad 10 (0))), (4, .int (iI (36)))]) hx hb dX4_countFreeNeeded_39 hl (k := 6) rfl (iI_add _ _) (by decide) rfl (fun ls hl => ?_)
          refine lv_goto (tgt := 14) hx hb dX4_countFreeNeeded_42 (by decide) ?_
          exact absurd hn (by omega)
    | succ n ih =>
      intro i acc hi0 hi1 hacc hn ls hl
      refine lv_iload hx hb dX4_countFreeNeeded_14 (lv_at hl 5 rfl) ?_
      refine lv_iload hx hb dX4_countFreeNeeded_16 (lv_at hl 4 rfl) ?_
      refine xr_icmp_ge (tgt := 45) hx hb dX4_countFreeNeeded_18 (by decide) (by omega) (by omega) (fun h6 => ?_) (fun h6 => ?_)
      · skip
        refine lv_iload_n hx hb dX4_countFreeNeeded_45 rfl (lv_at hl 2 rfl) ?_
        exact xe_i hx hb hr hlk hsH dX4_countFreeNeeded_46 (by have e : i = 36 := (by omega); subst e; exact hacc)
      · skip
        refine lv_aload_n hx hb dX4_countFreeNeeded_21 rfl (lv_at hl 3 rfl) ?_
        refine lv_iload hx hb dX4_countFreeNeeded_22 (lv_at hl 5 rfl) ?_
        refine xa_601 (v := sg 601 i) hx hb hK hR (gd_10 hG) (by omega) rfl dX4_countFreeNeeded_24 ?_
        have q7 := ga_601 hG (q := i) (by omega)
        rw [q7, rv_p (f := ad 1) (v := i) (by omega)]
        refine lv_astore (i := 6) (lv' := [(6, .ref (ad 1 (i))), (0, .ref (ad 4 (0))), (1, rv (ad 3) (w)), (2, .int (iI (acc))), (3, .ref (ad 10 (0))), (4, .int (iI (36))), (5, .int (iI (i)))]) hx hb dX4_countFreeNeeded_25 hl (by decide) rfl (fun ls hl => ?_)
        refine lv_aload hx hb dX4_countFreeNeeded_27 (lv_at hl 0 rfl) ?_
        refine xr_aload_n hx hb dX4_countFreeNeeded_29 rfl (lv_at hl 2 rfl) ?_
        refine xk_pF (xr_S (As := [.ref (ad 1 (i)), rv (ad 3) (w)]) (rest := []) hx hb hml hown hts hK (c_X4_isFreeAndNeededBy hR hG i ((rv_p (by omega)).symm) w (rfl) (by omega) (by omega)) ms_X4_isFreeAndNeededBy kw_355 ⟨by decide, by decide⟩ ⟨by decide, by decide⟩ rfl rfl hl.1 rfl (lv_room (by decide)) dX4_countFreeNeeded_30) ?_
        refine xr_ifb_eq (tgt := 39) hx hb dX4_countFreeNeeded_33 (by decide) (fun h8 => ?_) (fun h8 => ?_)
        · skip
          refine lv_iinc (v := iI (i + (1))) (lv' := [(5, .int (iI (i + (1)))), (6, .ref (ad 1 (i))), (0, .ref (ad 4 (0))), (1, rv (ad 3) (w)), (2, .int (iI (acc))), (3, .ref (ad 10 (0))), (4, .int (iI (36)))]) hx hb dX4_countFreeNeeded_39 hl (k := 6) rfl (iI_add _ _) (by decide) rfl (fun ls hl => ?_)
          refine lv_goto (tgt := 14) hx hb dX4_countFreeNeeded_42 (by decide) ?_
          exact ih (i + 1) acc (by omega) (by omega) (sum_0 hi0 hacc (by exact bI_f (by first | omega | grind))) (by omega) ls (lv_sub hl [2, 3, 4, 5, 6, 0] rfl)
        · skip
          refine lv_iinc (v := iI (acc + (1))) (lv' := [(2, .int (iI (acc + (1)))), (6, .ref (ad 1 (i))), (0, .ref (ad 4 (0))), (1, rv (ad 3) (w)), (3, .ref (ad 10 (0))), (4, .int (iI (36))), (5, .int (iI (i)))]) hx hb dX4_countFreeNeeded_36 hl (k := 3) rfl (iI_add _ _) (by decide) (by simp [rv_cat, cat_i, cat_l, cat_r, cat_n]) (fun ls hl => ?_)
          refine lv_iinc (v := iI (i + (1))) (lv' := [(5, .int (iI (i + (1)))), (2, .int (iI (acc + (1)))), (6, .ref (ad 1 (i))), (0, .ref (ad 4 (0))), (1, rv (ad 3) (w)), (3, .ref (ad 10 (0))), (4, .int (iI (36)))]) hx hb dX4_countFreeNeeded_39 hl (k := 6) rfl (iI_add _ _) (by decide) rfl (fun ls hl => ?_)
          refine lv_goto (tgt := 14) hx hb dX4_countFreeNeeded_42 (by decide) ?_
          exact ih (i + 1) (acc + (1)) (by omega) (by omega) (sum_t hi0 hacc (by exact (bI_t (by first | omega | grind)).symm)) (by omega) ls (lv_sub hl [3, 4, 1, 5, 6, 0] rfl)
  exact loop14 _ 0 0 (by decide) (by decide) rfl (Nat.le_refl _) ls (lv_sub hl [4, 5, 3, 2, 1, 0] rfl)
theorem ms_X4_countWorks : MVi RX4 yX4_countWorks cX4_countWorks 6 (some .int) 0 := ⟨kw_611, kw_610, kp_23, kw_1, rfl, by decide, by decide, by decide +kernel⟩
set_option maxRecDepth 100000 in
set_option maxHeartbeats 4000000 in
theorem c_X4_countWorks {l : Launch} {D : va_G} {cy : Nat → ClassId} {A : Nat → Prop} {ad : Nat → Int → Nat} {sg : Nat → Int → Int} {H : Heap} (hR : RC D cy A ad sg H) (hG : GC sg)    : Met l yX4_countWorks (Cond.code yX4_countWorks cX4_countWorks 6 (some .int) :: wG) (rmF 0 0 0 0) (Pc D cy H [.ref (ad 4 (0))]) (Qp (.int (iI (cntWorks sg)))) 0 0 Kn := by
  refine met_of (la := [(0, .ref (ad 4 (0)))]) (by decide) (Nat.le_of_ble_eq_true rfl) rfl ?_
  intro p e R s m args below meth c ls hRm hx hb hml hr hlk hin hown hts hsH hK hl
  subst hRm
  have hown : s.vm.findClass "Takinghall" = some m.cls := hown
  have hw1 : ∀ w ∈ u_ws RX1 TX1 11, w.before args s = true := fun w h => hts w (uw_X1 w h)
  have hw4 : ∀ w ∈ u_ws RX4 TX4 12, w.before args s = true := fun w h => hts w (uw_X4 w h)
  refine lv_iconst (v := iI (0)) hx hb dX4_countWorks_0 rfl ?_
  refine lv_istore_n (i := 1) (lv' := [(1, .int (iI (0))), (0, .ref (ad 4 (0)))]) hx hb dX4_countWorks_1 rfl hl (by decide) rfl (fun ls hl => ?_)
  refine lv_aload_n hx hb dX4_countWorks_2 rfl (lv_at hl 1 rfl) ?_
  refine xg_500 (v := sg 500 0) hx hb hw4 hown hK hR (gd_4 hG) (hts _ kw_91) rfl dX4_countWorks_3 ?_
  have g1 := gh_500 hG (0)
  have q2 : sg 500 0 = 0 := gh_500 hG _
  rw [q2, rv_p (Int.le_refl 0)]
  refine lv_astore_n (i := 2) (lv' := [(2, .ref (ad 10 (0))), (1, .int (iI (0))), (0, .ref (ad 4 (0)))]) hx hb dX4_countWorks_6 rfl hl (by decide) rfl (fun ls hl => ?_)
  refine lv_aload_n hx hb dX4_countWorks_7 rfl (lv_at hl 0 rfl) ?_
  refine xl_601 hx hb hK hR (gd_10 hG) dX4_countWorks_8 ?_
  refine lv_istore_n (i := 3) (lv' := [(3, .int (iI (36))), (2, .ref (ad 10 (0))), (1, .int (iI (0))), (0, .ref (ad 4 (0)))]) hx hb dX4_countWorks_9 rfl hl (by decide) rfl (fun ls hl => ?_)
  refine lv_iconst (v := iI (0)) hx hb dX4_countWorks_10 rfl ?_
  refine lv_istore (i := 4) (lv' := [(4, .int (iI (0))), (3, .int (iI (36))), (2, .ref (ad 10 (0))), (1, .int (iI (0))), (0, .ref (ad 4 (0)))]) hx hb dX4_countWorks_11 hl (by decide) rfl (fun ls hl => ?_)
  have loop13 : ∀ (n : Nat) (i : Int) (acc : Int), 0 ≤ i → i ≤ 36 → acc = sumN (fun q => bI (sg 208 q ≠ 0)) i.toNat → (36 - i).toNat ≤ n → ∀ ls : Array Slot, lv_has ls 6 [(0, .ref (ad 4 (0))), (1, .int (iI (acc))), (2, .ref (ad 10 (0))), (3, .int (iI (36))), (4, .int (iI (i)))] → W p l e (rmF 0 0 0 0) s m args below meth c H [] 0 0 (MQ below (Qp (.int (iI (cntWorks sg)))) args s 0 0 Kn) (F0 m 13 ls []) := by
    intro n
    induction n with
    | zero =>
      intro i acc hi0 hi1 hacc hn ls hl
      refine lv_iload hx hb dX4_countWorks_13 (lv_at hl 4 rfl) ?_
      refine lv_iload_n hx hb dX4_countWorks_15 rfl (lv_at hl 3 rfl) ?_
      refine xr_icmp_ge (tgt := 47) hx hb dX4_countWorks_16 (by decide) (by omega) (by omega) (fun h3 => ?_) (fun h3 => ?_)
      · skip
        refine lv_iload_n hx hb dX4_countWorks_47 rfl (lv_at hl 1 rfl) ?_
        exact xe_i hx hb hr hlk hsH dX4_countWorks_48 (by have e : i = 36 := (by omega); subst e; exact hacc)
      · skip
        refine lv_aload_n hx hb dX4_countWorks_19 rfl (lv_at hl 2 rfl) ?_
        refine lv_iload hx hb dX4_countWorks_20 (lv_at hl 4 rfl) ?_
        refine xa_601 (v := sg 601 i) hx hb hK hR (gd_10 hG) (by omega) rfl dX4_countWorks_22 ?_
        have q4 := ga_601 hG (q := i) (by omega)
        rw [q4, rv_p (f := ad 1) (v := i) (by omega)]
        refine lv_astore (i := 5) (lv' := [(5, .ref (ad 1 (i))), (0, .ref (ad 4 (0))), (1, .int (iI (acc))), (2, .ref (ad 10 (0))), (3, .int (iI (36))), (4, .int (iI (i)))]) hx hb dX4_countWorks_23 hl (by decide) rfl (fun ls hl => ?_)
        refine lv_aload hx hb dX4_countWorks_25 (lv_at hl 0 rfl) ?_
        refine lv_ifnull hx hb dX4_countWorks_27 ?_
        refine lv_aload hx hb dX4_countWorks_30 (lv_at hl 0 rfl) ?_
        refine xg_208 (v := sg 208 i) hx hb hw1 hown hK hR (gd_1 hG (by omega)) (hts _ kw_47) rfl dX4_countWorks_32 ?_
        have g6 := gr_208 hG (i)
        refine xr_if_eq (tgt := 41) hx hb dX4_countWorks_35 (by decide) (by omega) (fun h7 => ?_) (fun h7 => ?_)
        · skip
          refine lv_iinc (v := iI (i + (1))) (lv' := [(4, .int (iI (i + (1)))), (5, .ref (ad 1 (i))), (0, .ref (ad 4 (0))), (1, .int (iI (acc))), (2, .ref (ad 10 (0))), (3, .int (iI (36)))]) hx hb dX4_countWorks_41 hl (k := 5) rfl (iI_add _ _) (by decide) rfl (fun ls hl => ?_)
          refine lv_goto (tgt := 13) hx hb dX4_countWorks_44 (by decide) ?_
          exact absurd hn (by omega)
        · skip
          refine lv_iinc (v := iI (acc + (1))) (lv' := [(1, .int (iI (acc + (1)))), (5, .ref (ad 1 (i))), (0, .ref (ad 4 (0))), (2, .ref (ad 10 (0))), (3, .int (iI (36))), (4, .int (iI (i)))]) hx hb dX4_countWorks_38 hl (k := 2) rfl (iI_add _ _) (by decide) rfl (fun ls hl => ?_)
          refine lv_iinc (v := iI (i + (1))) (lv' := [(4, .int (iI (i + (1)))), (1, .int (iI (acc + (1)))), (5, .ref (ad 1 (i))), (0, .ref (ad 4 (0))), (2, .ref (ad 10 (0))), (3, .int (iI (36)))]) hx hb dX4_countWorks_41 hl (k := 5) rfl (iI_add _ _) (by decide) rfl (fun ls hl => ?_)
          refine lv_goto (tgt := 13) hx hb dX4_countWorks_44 (by decide) ?_
          exact absurd hn (by omega)
    | succ n ih =>
      intro i acc hi0 hi1 hacc hn ls hl
      refine lv_iload hx hb dX4_countWorks_13 (lv_at hl 4 rfl) ?_
      refine lv_iload_n hx hb dX4_countWorks_15 rfl (lv_at hl 3 rfl) ?_
      refine xr_icmp_ge (tgt := 47) hx hb dX4_countWorks_16 (by decide) (by omega) (by omega) (fun h8 => ?_) (fun h8 => ?_)
      · skip
        refine lv_iload_n hx hb dX4_countWorks_47 rfl (lv_at hl 1 rfl) ?_
        exact xe_i hx hb hr hlk hsH dX4_countWorks_48 (by have e : i = 36 := (by omega); subst e; exact hacc)
      · skip
        refine lv_aload_n hx hb dX4_countWorks_19 rfl (lv_at hl 2 rfl) ?_
        refine lv_iload hx hb dX4_countWorks_20 (lv_at hl 4 rfl) ?_
        refine xa_601 (v := sg 601 i) hx hb hK hR (gd_10 hG) (by omega) rfl dX4_countWorks_22 ?_
        have q9 := ga_601 hG (q := i) (by omega)
        rw [q9, rv_p (f := ad 1) (v := i) (by omega)]
        refine lv_astore (i := 5) (lv' := [(5, .ref (ad 1 (i))), (0, .ref (ad 4 (0))), (1, .int (iI (acc))), (2, .ref (ad 10 (0))), (3, .int (iI (36))), (4, .int (iI (i)))]) hx hb dX4_countWorks_23 hl (by decide) rfl (fun ls hl => ?_)
        refine lv_aload hx hb dX4_countWorks_25 (lv_at hl 0 rfl) ?_
        refine lv_ifnull hx hb dX4_countWorks_27 ?_
        refine lv_aload hx hb dX4_countWorks_30 (lv_at hl 0 rfl) ?_
        refine xg_208 (v := sg 208 i) hx hb hw1 hown hK hR (gd_1 hG (by omega)) (hts _ kw_47) rfl dX4_countWorks_32 ?_
        have g11 := gr_208 hG (i)
        refine xr_if_eq (tgt := 41) hx hb dX4_countWorks_35 (by decide) (by omega) (fun h12 => ?_) (fun h12 => ?_)
        · skip
          refine lv_iinc (v := iI (i + (1))) (lv' := [(4, .int (iI (i + (1)))), (5, .ref (ad 1 (i))), (0, .ref (ad 4 (0))), (1, .int (iI (acc))), (2, .ref (ad 10 (0))), (3, .int (iI (36)))]) hx hb dX4_countWorks_41 hl (k := 5) rfl (iI_add _ _) (by decide) rfl (fun ls hl => ?_)
          refine lv_goto (tgt := 13) hx hb dX4_countWorks_44 (by decide) ?_
          exact ih (i + 1) acc (by omega) (by omega) (sum_0 hi0 hacc (by exact bI_f (by first | omega | grind))) (by omega) ls (lv_sub hl [2, 3, 4, 5, 0] rfl)
        · skip
          refine lv_iinc (v := iI (acc + (1))) (lv' := [(1, .int (iI (acc + (1)))), (5, .ref (ad 1 (i))), (0, .ref (ad 4 (0))), (2, .ref (ad 10 (0))), (3, .int (iI (36))), (4, .int (iI (i)))]) hx hb dX4_countWorks_38 hl (k := 2) rfl (iI_add _ _) (by decide) rfl (fun ls hl => ?_)
          refine lv_iinc (v := iI (i + (1))) (lv' := [(4, .int (iI (i + (1)))), (1, .int (iI (acc + (1)))), (5, .ref (ad 1 (i))), (0, .ref (ad 4 (0))), (2, .ref (ad 10 (0))), (3, .int (iI (36)))]) hx hb dX4_countWorks_41 hl (k := 5) rfl (iI_add _ _) (by decide) rfl (fun ls hl => ?_)
          refine lv_goto (tgt := 13) hx hb dX4_countWorks_44 (by decide) ?_
          exact ih (i + 1) (acc + (1)) (by omega) (by omega) (sum_t hi0 hacc (by exact (bI_t (by first | omega | grind)).symm)) (by omega) ls (lv_sub hl [3, 1, 4, 5, 0] rfl)
  exact loop13 _ 0 0 (by decide) (by decide) rfl (Nat.le_refl _) ls (lv_sub hl [4, 3, 2, 1, 0] rfl)
theorem ms_X4_countOpenObjections : MVi RX4 yX4_countOpenObjections cX4_countOpenObjections 7 (some .int) 1 := ⟨kw_564, kw_563, kp_18, kw_1, rfl, by decide, by decide, by decide +kernel⟩
set_option maxRecDepth 100000 in
set_option maxHeartbeats 4000000 in
theorem c_X4_countOpenObjections {l : Launch} {D : va_G} {cy : Nat → ClassId} {A : Nat → Prop} {ad : Nat → Int → Nat} {sg : Nat → Int → Int} {H : Heap} (hR : RC D cy A ad sg H) (hG : GC sg)  (w : Int) {x_w : Value} (hx_w : x_w = rv (ad 3) w) (h1 : w < sg 505 0) : Met l yX4_countOpenObjections (Cond.code yX4_countOpenObjections cX4_countOpenObjections 7 (some .int) :: wG) (rmF 3 63 0 0) (Pc D cy H [.ref (ad 4 (0)), x_w]) (Qp (.int (iI (cntOpen sg w)))) 0 0 Kn := by
  subst hx_w
  refine met_of (la := [(0, .ref (ad 4 (0))), (1, rv (ad 3) (w))]) (by decide) (by simp [lg_sl, rv_cat, cat_i, cat_l, cat_r, cat_n]) (by simp [lv_args, rv_cat, cat_i, cat_l, cat_r, cat_n]) ?_
  intro p e R s m args below meth c ls hRm hx hb hml hr hlk hin hown hts hsH hK hl
  subst hRm
  have hown : s.vm.findClass "Takinghall" = some m.cls := hown
  have hw0 : ∀ w ∈ u_ws RX0 TX0 15, w.before args s = true := fun w h => hts w (uw_X0 w h)
  have hw4 : ∀ w ∈ u_ws RX4 TX4 12, w.before args s = true := fun w h => hts w (uw_X4 w h)
  have g503 := gr_503 hG 0
  refine lv_iconst (v := iI (0)) hx hb dX4_countOpenObjections_0 rfl ?_
  refine lv_istore_n (i := 2) (lv' := [(2, .int (iI (0))), (0, .ref (ad 4 (0))), (1, rv (ad 3) (w))]) hx hb dX4_countOpenObjections_1 rfl hl (by decide) (by simp [rv_cat, cat_i, cat_l, cat_r, cat_n]) (fun ls hl => ?_)
  refine lv_aload_n hx hb dX4_countOpenObjections_2 rfl (lv_at hl 1 rfl) ?_
  refine xg_502 (v := sg 502 0) hx hb hw4 hown hK hR (gd_4 hG) (hts _ kw_93) rfl dX4_countOpenObjections_3 ?_
  have g1 := gh_502 hG (0)
  have q2 : sg 502 0 = 0 := gh_502 hG _
  rw [q2, rv_p (Int.le_refl 0)]
  refine lv_astore_n (i := 3) (lv' := [(3, .ref (ad 9 (0))), (2, .int (iI (0))), (0, .ref (ad 4 (0))), (1, rv (ad 3) (w))]) hx hb dX4_countOpenObjections_6 rfl hl (by decide) rfl (fun ls hl => ?_)
  refine lv_aload_n hx hb dX4_countOpenObjections_7 rfl (lv_at hl 0 rfl) ?_
  refine xl_600 hx hb hK hR (gd_9 hG) dX4_countOpenObjections_8 ?_
  refine lv_istore (i := 4) (lv' := [(4, .int (iI (24))), (3, .ref (ad 9 (0))), (2, .int (iI (0))), (0, .ref (ad 4 (0))), (1, rv (ad 3) (w))]) hx hb dX4_countOpenObjections_9 hl (by decide) rfl (fun ls hl => ?_)
  refine lv_iconst (v := iI (0)) hx hb dX4_countOpenObjections_11 rfl ?_
  refine lv_istore (i := 5) (lv' := [(5, .int (iI (0))), (4, .int (iI (24))), (3, .ref (ad 9 (0))), (2, .int (iI (0))), (0, .ref (ad 4 (0))), (1, rv (ad 3) (w))]) hx hb dX4_countOpenObjections_12 hl (by decide) rfl (fun ls hl => ?_)
  have loop14 : ∀ (n : Nat) (i : Int) (acc : Int), 0 ≤ i → i ≤ 24 → acc = sumN (fun q => bI (q < sg 503 0 ∧ sg 109 q ≠ 0 ∧ freeNeed sg (sg 102 q) w)) i.toNat → (24 - i).toNat ≤ n → ∀ ls : Array Slot, lv_has ls 7 [(0, .ref (ad 4 (0))), (1, rv (ad 3) (w)), (2, .int (iI (acc))), (3, .ref (ad 9 (0))), (4, .int (iI (24))), (5, .int (iI (i)))] → W p l e (rmF 3 63 0 0) s m args below meth c H [] 0 0 (MQ below (Qp (.int (iI (cntOpen sg w)))) args s 0 0 Kn) (F0 m 14 ls []) := by
    intro n
    induction n with
    | zero =>
      intro i acc hi0 hi1 hacc hn ls hl
      refine lv_iload hx hb dX4_countOpenObjections_14 (lv_at hl 5 rfl) ?_
      refine lv_iload hx hb dX4_countOpenObjections_16 (lv_at hl 4 rfl) ?_
      refine xr_icmp_ge (tgt := 61) hx hb dX4_countOpenObjections_18 (by decide) (by omega) (by omega) (fun h3 => ?_) (fun h3 => ?_)
      · skip
        refine lv_iload_n hx hb dX4_countOpenObjections_61 rfl (lv_at hl 2 rfl) ?_
        exact xe_i hx hb hr hlk hsH dX4_countOpenObjections_62 (by have e : i = 24 := (by omega); subst e; exact hacc)
      · skip
        refine lv_aload_n hx hb dX4_countOpenObjections_21 rfl (lv_at hl 3 rfl) ?_
        refine lv_iload hx hb dX4_countOpenObjections_22 (lv_at hl 5 rfl) ?_
        refine xa_600 (v := sg 600 i) hx hb hK hR (gd_9 hG) (by omega) rfl dX4_countOpenObjections_24 ?_
        have q4 := ga_600 hG (q := i) (by omega)
        rcases (show i < sg 503 0 ∨ sg 503 0 ≤ i by omega) with i5 | i5
        · skip
          rw [if_pos i5] at q4
          rw [q4, rv_p (f := ad 0) (v := i) (by omega)]
          refine lv_astore (i := 6) (lv' := [(6, .ref (ad 0 (i))), (0, .ref (ad 4 (0))), (1, rv (ad 3) (w)), (2, .int (iI (acc))), (3, .ref (ad 9 (0))), (4, .int (iI (24))), (5, .int (iI (i)))]) hx hb dX4_countOpenObjections_25 hl (by decide) rfl (fun ls hl => ?_)
          refine lv_aload hx hb dX4_countOpenObjections_27 (lv_at hl 0 rfl) ?_
          refine lv_ifnull hx hb dX4_countOpenObjections_29 ?_
          refine lv_aload hx hb dX4_countOpenObjections_32 (lv_at hl 0 rfl) ?_
          refine xg_109 (v := sg 109 i) hx hb hw0 hown hK hR (gd_0 hG (by omega)) (hts _ kw_488) rfl dX4_countOpenObjections_34 ?_
          have g7 := gr_109 hG (i)
          refine xr_if_eq (tgt := 55) hx hb dX4_countOpenObjections_37 (by decide) (by omega) (fun h8 => ?_) (fun h8 => ?_)
          · skip
            refine lv_iinc (v := iI (i + (1))) (lv' := [(5, .int (iI (i + (1)))), (6, .ref (ad 0 (i))), (0, .ref (ad 4 (0))), (1, rv (ad 3) (w)), (2, .int (iI (acc))), (3, .ref (ad 9 (0))), (4, .int (iI (24)))]) hx hb dX4_countOpenObjections_55 hl (k := 6) rfl (iI_add _ _) (by decide) rfl (fun ls hl => ?_)
            refine lv_goto (tgt := 14) hx hb dX4_countOpenObjections_58 (by decide) ?_
            exact absurd hn (by omega)
          · skip
            refine lv_aload hx hb dX4_countOpenObjections_40 (lv_at hl 0 rfl) ?_
            refine xg_102 (v := sg 102 i) hx hb hw0 hown hK hR (gd_0 hG (by omega)) (hts _ kw_476) rfl dX4_countOpenObjections_42 ?_
            have g9 := gr_102 hG (i)
            rw [rv_p (f := ad 1) (v := sg 102 i) (by omega)]
            refine xr_aload_n hx hb dX4_countOpenObjections_45 rfl (lv_at hl 2 rfl) ?_
            refine xk_pF (xr_S (As := [.ref (ad 1 (sg 102 i)), rv (ad 3) (w)]) (rest := []) hx hb hml hown hts hK (c_X4_isFreeAndNeededBy hR hG (sg 102 i) ((rv_p (by omega)).symm) w (rfl) (by omega) (by omega)) ms_X4_isFreeAndNeededBy kw_355 ⟨by decide, by decide⟩ ⟨by decide, by decide⟩ rfl rfl hl.1 rfl (lv_room (by decide)) dX4_countOpenObjections_46) ?_
            refine xr_ifb_eq (tgt := 55) hx hb dX4_countOpenObjections_49 (by decide) (fun h10 => ?_) (fun h10 => ?_)
            · skip
              refine lv_iinc (v := iI (i + (1))) (lv' := [(5, .int (iI (i + (1)))), (6, .ref (ad 0 (i))), (0, .ref (ad 4 (0))), (1, rv (ad 3) (w)), (2, .int (iI (acc))), (3, .ref (ad 9 (0))), (4, .int (iI (24)))]) hx hb dX4_countOpenObjections_55 hl (k := 6) rfl (iI_add _ _) (by decide) rfl (fun ls hl => ?_)
              refine lv_goto (tgt := 14) hx hb dX4_countOpenObjections_58 (by decide) ?_
              exact absurd hn (by omega)
            · skip
              refine lv_iinc (v := iI (acc + (1))) (lv' := [(2, .int (iI (acc + (1)))), (6, .ref (ad 0 (i))), (0, .ref (ad 4 (0))), (1, rv (ad 3) (w)), (3, .ref (ad 9 (0))), (4, .int (iI (24))), (5, .int (iI (i)))]) hx hb dX4_countOpenObjections_52 hl (k := 3) rfl (iI_add _ _) (by decide) (by simp [rv_cat, cat_i, cat_l, cat_r, cat_n]) (fun ls hl => ?_)
              refine lv_iinc (v := iI (i + (1))) (lv' := [(5, .int (iI (i + (1)))), (2, .int (iI (acc + (1)))), (6, .ref (ad 0 (i))), (0, .ref (ad 4 (0))), (1, rv (ad 3) (w)), (3, .ref (ad 9 (0))), (4, .int (iI (24)))]) hx hb dX4_countOpenObjections_55 hl (k := 6) rfl (iI_add _ _) (by decide) rfl (fun ls hl => ?_)
              refine lv_goto (tgt := 14) hx hb dX4_countOpenObjections_58 (by decide) ?_
              exact absurd hn (by omega)
        · skip
          rw [if_neg (by omega)] at q4
          rw [q4, rv_n (f := ad 0) (v := -1) (by decide)]
          refine lv_astoreN (i := 6) (lv' := [(6, .null), (0, .ref (ad 4 (0))), (1, rv (ad 3) (w)), (2, .int (iI (acc))), (3, .ref (ad 9 (0))), (4, .int (iI (24))), (5, .int (iI (i)))]) hx hb dX4_countOpenObjections_25 hl (by decide) rfl (fun ls hl => ?_)
          refine lv_aloadN hx hb dX4_countOpenObjections_27 (lv_at hl 0 rfl) ?_
          refine lv_ifnullN (tgt := 55) hx hb dX4_countOpenObjections_29 (by decide) ?_
          refine lv_iinc (v := iI (i + (1))) (lv' := [(5, .int (iI (i + (1)))), (6, .null), (0, .ref (ad 4 (0))), (1, rv (ad 3) (w)), (2, .int (iI (acc))), (3, .ref (ad 9 (0))), (4, .int (iI (24)))]) hx hb dX4_countOpenObjections_55 hl (k := 6) rfl (iI_add _ _) (by decide) rfl (fun ls hl => ?_)
          refine lv_goto (tgt := 14) hx hb dX4_countOpenObjections_58 (by decide) ?_
          exact absurd hn (by omega)
    | succ n ih =>
      intro i acc hi0 hi1 hacc hn ls hl
      refine lv_iload hx hb dX4_countOpenObjections_14 (lv_at hl 5 rfl) ?_
      refine lv_iload hx hb dX4_countOpenObjections_16 (lv_at hl 4 rfl) ?_
      refine xr_icmp_ge (tgt := 61) hx hb dX4_countOpenObjections_18 (by decide) (by omega) (by omega) (fun h12 => ?_) (fun h12 => ?_)
      · skip
        refine lv_iload_n hx hb dX4_countOpenObjections_61 rfl (lv_at hl 2 rfl) ?_
        exact xe_i hx hb hr hlk hsH dX4_countOpenObjections_62 (by have e : i = 24 := (by omega); subst e; exact hacc)
      · skip
        refine lv_aload_n hx hb dX4_countOpenObjections_21 rfl (lv_at hl 3 rfl) ?_
        refine lv_iload hx hb dX4_countOpenObjections_22 (lv_at hl 5 rfl) ?_
        refine xa_600 (v := sg 600 i) hx hb hK hR (gd_9 hG) (by omega) rfl dX4_countOpenObjections_24 ?_
        have q13 := ga_600 hG (q := i) (by omega)
        rcases (show i < sg 503 0 ∨ sg 503 0 ≤ i by omega) with i14 | i14
        · skip
          rw [if_pos i14] at q13
          rw [q13, rv_p (f := ad 0) (v := i) (by omega)]
          refine lv_astore (i := 6) (lv' := [(6, .ref (ad 0 (i))), (0, .ref (ad 4 (0))), (1, rv (ad 3) (w)), (2, .int (iI (acc))), (3, .ref (ad 9 (0))), (4, .int (iI (24))), (5, .int (iI (i)))]) hx hb dX4_countOpenObjections_25 hl (by decide) rfl (fun ls hl => ?_)
          refine lv_aload hx hb dX4_countOpenObjections_27 (lv_at hl 0 rfl) ?_
          refine lv_ifnull hx hb dX4_countOpenObjections_29 ?_
          refine lv_aload hx hb dX4_countOpenObjections_32 (lv_at hl 0 rfl) ?_
          refine xg_109 (v := sg 109 i) hx hb hw0 hown hK hR (gd_0 hG (by omega)) (hts _ kw_488) rfl dX4_countOpenObjections_34 ?_
          have g16 := gr_109 hG (i)
          refine xr_if_eq (tgt := 55) hx hb dX4_countOpenObjections_37 (by decide) (by omega) (fun h17 => ?_) (fun h17 => ?_)
          · skip
            refine lv_iinc (v := iI (i + (1))) (lv' := [(5, .int (iI (i + (1)))), (6, .ref (ad 0 (i))), (0, .ref (ad 4 (0))), (1, rv (ad 3) (w)), (2, .int (iI (acc))), (3, .ref (ad 9 (0))), (4, .int (iI (24)))]) hx hb dX4_countOpenObjections_55 hl (k := 6) rfl (iI_add _ _) (by decide) rfl (fun ls hl => ?_)
            refine lv_goto (tgt := 14) hx hb dX4_countOpenObjections_58 (by decide) ?_
            exact ih (i + 1) acc (by omega) (by omega) (sum_0 hi0 hacc (by exact bI_f (by first | omega | grind))) (by omega) ls (lv_sub hl [2, 3, 4, 5, 6, 0] rfl)
          · skip
            refine lv_aload hx hb dX4_countOpenObjections_40 (lv_at hl 0 rfl) ?_
            refine xg_102 (v := sg 102 i) hx hb hw0 hown hK hR (gd_0 hG (by omega)) (hts _ kw_476) rfl dX4_countOpenObjections_42 ?_
            have g18 := gr_102 hG (i)
            rw [rv_p (f := ad 1) (v := sg 102 i) (by omega)]
            refine xr_aload_n hx hb dX4_countOpenObjections_45 rfl (lv_at hl 2 rfl) ?_
            refine xk_pF (xr_S (As := [.ref (ad 1 (sg 102 i)), rv (ad 3) (w)]) (rest := []) hx hb hml hown hts hK (c_X4_isFreeAndNeededBy hR hG (sg 102 i) ((rv_p (by omega)).symm) w (rfl) (by omega) (by omega)) ms_X4_isFreeAndNeededBy kw_355 ⟨by decide, by decide⟩ ⟨by decide, by decide⟩ rfl rfl hl.1 rfl (lv_room (by decide)) dX4_countOpenObjections_46) ?_
            refine xr_ifb_eq (tgt := 55) hx hb dX4_countOpenObjections_49 (by decide) (fun h19 => ?_) (fun h19 => ?_)
            · skip
              refine lv_iinc (v := iI (i + (1))) (lv' := [(5, .int (iI (i + (1)))), (6, .ref (ad 0 (i))), (0, .ref (ad 4 (0))), (1, rv (ad 3) (w)), (2, .int (iI (acc))), (3, .ref (ad 9 (0))), (4, .int (iI (24)))]) hx hb dX4_countOpenObjections_55 hl (k := 6) rfl (iI_add _ _) (by decide) rfl (fun ls hl => ?_)
              refine lv_goto (tgt := 14) hx hb dX4_countOpenObjections_58 (by decide) ?_
              exact ih (i + 1) acc (by omega) (by omega) (sum_0 hi0 hacc (by exact bI_f (by first | omega | grind))) (by omega) ls (lv_sub hl [2, 3, 4, 5, 6, 0] rfl)
            · skip
              refine lv_iinc (v := iI (acc + (1))) (lv' := [(2, .int (iI (acc + (1)))), (6, .ref (ad 0 (i))), (0, .ref (ad 4 (0))), (1, rv (ad 3) (w)), (3, .ref (ad 9 (0))), (4, .int (iI (24))), (5, .int (iI (i)))]) hx hb dX4_countOpenObjections_52 hl (k := 3) rfl (iI_add _ _) (by decide) (by simp [rv_cat, cat_i, cat_l, cat_r, cat_n]) (fun ls hl => ?_)
              refine lv_iinc (v := iI (i + (1))) (lv' := [(5, .int (iI (i + (1)))), (2, .int (iI (acc + (1)))), (6, .ref (ad 0 (i))), (0, .ref (ad 4 (0))), (1, rv (ad 3) (w)), (3, .ref (ad 9 (0))), (4, .int (iI (24)))]) hx hb dX4_countOpenObjections_55 hl (k := 6) rfl (iI_add _ _) (by decide) rfl (fun ls hl => ?_)
              refine lv_goto (tgt := 14) hx hb dX4_countOpenObjections_58 (by decide) ?_
              exact ih (i + 1) (acc + (1)) (by omega) (by omega) (sum_t hi0 hacc (by exact (bI_t (by first | omega | grind)).symm)) (by omega) ls (lv_sub hl [3, 4, 1, 5, 6, 0] rfl)
        · skip
          rw [if_neg (by omega)] at q13
          rw [q13, rv_n (f := ad 0) (v := -1) (by decide)]
          refine lv_astoreN (i := 6) (lv' := [(6, .null), (0, .ref (ad 4 (0))), (1, rv (ad 3) (w)), (2, .int (iI (acc))), (3, .ref (ad 9 (0))), (4, .int (iI (24))), (5, .int (iI (i)))]) hx hb dX4_countOpenObjections_25 hl (by decide) rfl (fun ls hl => ?_)
          refine lv_aloadN hx hb dX4_countOpenObjections_27 (lv_at hl 0 rfl) ?_
          refine lv_ifnullN (tgt := 55) hx hb dX4_countOpenObjections_29 (by decide) ?_
          refine lv_iinc (v := iI (i + (1))) (lv' := [(5, .int (iI (i + (1)))), (6, .null), (0, .ref (ad 4 (0))), (1, rv (ad 3) (w)), (2, .int (iI (acc))), (3, .ref (ad 9 (0))), (4, .int (iI (24)))]) hx hb dX4_countOpenObjections_55 hl (k := 6) rfl (iI_add _ _) (by decide) rfl (fun ls hl => ?_)
          refine lv_goto (tgt := 14) hx hb dX4_countOpenObjections_58 (by decide) ?_
          exact ih (i + 1) acc (by omega) (by omega) (sum_0 hi0 hacc (by exact bI_f (by first | omega | grind))) (by omega) ls (lv_sub hl [2, 3, 4, 5, 6, 0] rfl)
  exact loop14 _ 0 0 (by decide) (by decide) rfl (Nat.le_refl _) ls (lv_sub hl [4, 5, 3, 2, 1, 0] rfl)
theorem ms_X4_stops : MVi RX4 yX4_stops cX4_stops 2 (some .boolean) 1 := ⟨kw_364, kw_363, kp_8, kw_1, rfl, by decide, by decide, by decide +kernel⟩
set_option maxRecDepth 100000 in
set_option maxHeartbeats 4000000 in
theorem c_X4_stops {l : Launch} {D : va_G} {cy : Nat → ClassId} {A : Nat → Prop} {ad : Nat → Int → Nat} {sg : Nat → Int → Int} {H : Heap} (hR : RC D cy A ad sg H) (hG : GC sg)  (v : Int) {x_v : Value} (hx_v : x_v = rv (ad 0) v) (h1 : v < sg 503 0) : Met l yX4_stops (Cond.code yX4_stops cX4_stops 2 (some .boolean) :: wG) (rmF 1 21 0 0) (Pc D cy H [.ref (ad 4 (0)), x_v]) (Qp (.int (iI (bI (stopsO sg v))))) 0 0 Kn := by
  subst hx_v
  refine met_of (la := [(0, .ref (ad 4 (0))), (1, rv (ad 0) (v))]) (by decide) (by simp [lg_sl, rv_cat, cat_i, cat_l, cat_r, cat_n]) (by simp [lv_args, rv_cat, cat_i, cat_l, cat_r, cat_n]) ?_
  intro p e R s m args below meth c ls hRm hx hb hml hr hlk hin hown hts hsH hK hl
  subst hRm
  have hown : s.vm.findClass "Takinghall" = some m.cls := hown
  have hw0 : ∀ w ∈ u_ws RX0 TX0 15, w.before args s = true := fun w h => hts w (uw_X0 w h)
  have hw4 : ∀ w ∈ u_ws RX4 TX4 12, w.before args s = true := fun w h => hts w (uw_X4 w h)
  refine xr_aload_n hx hb dX4_stops_0 rfl (lv_at hl 1 rfl) ?_
  refine xr_ifnull (tgt := 15) hx hb dX4_stops_1 (by decide) (fun h1 => ?_) (fun h1 => ?_)
  · skip
    rw [rv_n h1] at hl
    refine lv_iconst (v := iI (0)) hx hb dX4_stops_15 rfl ?_
    exact xe_zb hx hb hr hlk hsH dX4_stops_16 (by unfold stopsO; first | omega | grind)
  · skip
    rw [rv_p h1] at hl
    refine lv_aload_n hx hb dX4_stops_4 rfl (lv_at hl 1 rfl) ?_
    refine lv_aload_n hx hb dX4_stops_5 rfl (lv_at hl 0 rfl) ?_
    refine xg_506 (v := sg 506 0) hx hb hw4 hown hK hR (gd_4 hG) (hts _ kw_97) rfl dX4_stops_6 ?_
    have g2 := gr_506 hG (0)
    refine xk_pF (xr_S (As := [.ref (ad 0 (v)), .int (iI (sg 506 0))]) (rest := []) hx hb hml hown hts hK (c_X4_isOver hR hG v ((rv_p (by omega)).symm) (sg 506 0) (by omega) (by omega)) ms_X4_isOver kw_365 ⟨by decide, by decide⟩ ⟨by decide, by decide⟩ rfl rfl hl.1 rfl (lv_room (by decide)) dX4_stops_9) ?_
    refine xr_ifb_eq (tgt := 17) hx hb dX4_stops_12 (by decide) (fun h3 => ?_) (fun h3 => ?_)
    · skip
      refine lv_aload_n hx hb dX4_stops_17 rfl (lv_at hl 1 rfl) ?_
      refine xg_107 (v := sg 107 v) hx hb hw0 hown hK hR (gd_0 hG (by omega)) (hts _ kw_486) rfl dX4_stops_18 ?_
      have g4 := gr_107 hG (v)
      refine lv_iconst (v := iI (-1)) hx hb dX4_stops_21 rfl ?_
      refine xr_icmp_eq (tgt := 46) hx hb dX4_stops_22 (by decide) (by omega) (by omega) (fun h5 => ?_) (fun h5 => ?_)
      · skip
        refine lv_iconst (v := iI (1)) hx hb dX4_stops_46 rfl ?_
        refine lv_goto (tgt := 51) hx hb dX4_stops_47 (by decide) ?_
        exact xe_zb hx hb hr hlk hsH dX4_stops_51 (by unfold stopsO; first | omega | grind)
      · skip
        refine lv_aload_n hx hb dX4_stops_25 rfl (lv_at hl 0 rfl) ?_
        refine xg_506 (v := sg 506 0) hx hb hw4 hown hK hR (gd_4 hG) (hts _ kw_97) rfl dX4_stops_26 ?_
        refine lv_aload_n hx hb dX4_stops_29 rfl (lv_at hl 1 rfl) ?_
        refine xg_107 (v := sg 107 v) hx hb hw0 hown hK hR (gd_0 hG (by omega)) (hts _ kw_486) rfl dX4_stops_30 ?_
        refine xr_isub hx hb dX4_stops_33 ?_
        refine lv_bipush (v := iI (21)) hx hb dX4_stops_34 (by decide) ?_
        refine xr_icmp_lt (tgt := 46) hx hb dX4_stops_36 (by decide) (by omega) (by omega) (fun h6 => ?_) (fun h6 => ?_)
        · skip
          refine lv_iconst (v := iI (1)) hx hb dX4_stops_46 rfl ?_
          refine lv_goto (tgt := 51) hx hb dX4_stops_47 (by decide) ?_
          exact xe_zb hx hb hr hlk hsH dX4_stops_51 (by unfold stopsO; first | omega | grind)
        · skip
          refine lv_aload_n hx hb dX4_stops_39 rfl (lv_at hl 1 rfl) ?_
          refine xg_109 (v := sg 109 v) hx hb hw0 hown hK hR (gd_0 hG (by omega)) (hts _ kw_488) rfl dX4_stops_40 ?_
          have g7 := gr_109 hG (v)
          refine xr_if_eq (tgt := 50) hx hb dX4_stops_43 (by decide) (by omega) (fun h8 => ?_) (fun h8 => ?_)
          · skip
            refine lv_iconst (v := iI (0)) hx hb dX4_stops_50 rfl ?_
            exact xe_zb hx hb hr hlk hsH dX4_stops_51 (by unfold stopsO; first | omega | grind)
          · skip
            refine lv_iconst (v := iI (1)) hx hb dX4_stops_46 rfl ?_
            refine lv_goto (tgt := 51) hx hb dX4_stops_47 (by decide) ?_
            exact xe_zb hx hb hr hlk hsH dX4_stops_51 (by unfold stopsO; first | omega | grind)
    · skip
      refine lv_iconst (v := iI (0)) hx hb dX4_stops_15 rfl ?_
      exact xe_zb hx hb hr hlk hsH dX4_stops_16 (by unfold stopsO; first | omega | grind)
theorem ms_X4_lowestThatStops : MVi RX4 yX4_lowestThatStops cX4_lowestThatStops 6 (some (.object "Takinghall$Interest")) 1 := ⟨kw_354, kw_353, kp_7, kw_1, rfl, by decide, by decide, by decide +kernel⟩
set_option maxRecDepth 100000 in
set_option maxHeartbeats 4000000 in
theorem c_X4_lowestThatStops {l : Launch} {D : va_G} {cy : Nat → ClassId} {A : Nat → Prop} {ad : Nat → Int → Nat} {sg : Nat → Int → Int} {H : Heap} (hR : RC D cy A ad sg H) (hG : GC sg)  (w : Int) {x_w : Value} (hx_w : x_w = rv (ad 3) w) (h1 : w < sg 505 0) : Met l yX4_lowestThatStops (Cond.code yX4_lowestThatStops cX4_lowestThatStops 6 (some (.object "Takinghall$Interest")) :: wG) (rmF 3 63 0 0) (Pc D cy H [.ref (ad 4 (0)), x_w]) (Qp (rv (ad 0) (stopper sg w))) 0 0 Kn := by
  subst hx_w
  refine met_of (la := [(0, .ref (ad 4 (0))), (1, rv (ad 3) (w))]) (by decide) (by simp [lg_sl, rv_cat, cat_i, cat_l, cat_r, cat_n]) (by simp [lv_args, rv_cat, cat_i, cat_l, cat_r, cat_n]) ?_
  intro p e R s m args below meth c ls hRm hx hb hml hr hlk hin hown hts hsH hK hl
  subst hRm
  have hown : s.vm.findClass "Takinghall" = some m.cls := hown
  have hw0 : ∀ w ∈ u_ws RX0 TX0 15, w.before args s = true := fun w h => hts w (uw_X0 w h)
  have hw4 : ∀ w ∈ u_ws RX4 TX4 12, w.before args s = true := fun w h => hts w (uw_X4 w h)
  have g503 := gr_503 hG 0
  refine lv_aload_n hx hb dX4_lowestThatStops_0 rfl (lv_at hl 0 rfl) ?_
  refine xg_502 (v := sg 502 0) hx hb hw4 hown hK hR (gd_4 hG) (hts _ kw_93) rfl dX4_lowestThatStops_1 ?_
  have g1 := gh_502 hG (0)
  have q2 : sg 502 0 = 0 := gh_502 hG _
  rw [q2, rv_p (Int.le_refl 0)]
  refine lv_astore_n (i := 2) (lv' := [(2, .ref (ad 9 (0))), (0, .ref (ad 4 (0))), (1, rv (ad 3) (w))]) hx hb dX4_lowestThatStops_4 rfl hl (by decide) (by simp [rv_cat, cat_i, cat_l, cat_r, cat_n]) (fun ls hl => ?_)
  refine lv_aload_n hx hb dX4_lowestThatStops_5 rfl (lv_at hl 0 rfl) ?_
  refine xl_600 hx hb hK hR (gd_9 hG) dX4_lowestThatStops_6 ?_
  refine lv_istore_n (i := 3) (lv' := [(3, .int (iI (24))), (2, .ref (ad 9 (0))), (0, .ref (ad 4 (0))), (1, rv (ad 3) (w))]) hx hb dX4_lowestThatStops_7 rfl hl (by decide) rfl (fun ls hl => ?_)
  refine lv_iconst (v := iI (0)) hx hb dX4_lowestThatStops_8 rfl ?_
  refine lv_istore (i := 4) (lv' := [(4, .int (iI (0))), (3, .int (iI (24))), (2, .ref (ad 9 (0))), (0, .ref (ad 4 (0))), (1, rv (ad 3) (w))]) hx hb dX4_lowestThatStops_9 hl (by decide) rfl (fun ls hl => ?_)
  have loop11 : ∀ (n : Nat) (i : Int), 0 ≤ i → i ≤ 24 → low (fun q => q < sg 503 0 ∧ freeNeed sg (sg 102 q) w ∧ stopsO sg q) i.toNat = -1 → (24 - i).toNat ≤ n → ∀ ls : Array Slot, lv_has ls 6 [(0, .ref (ad 4 (0))), (1, rv (ad 3) (w)), (2, .ref (ad 9 (0))), (3, .int (iI (24))), (4, .int (iI (i)))] → W p l e (rmF 3 63 0 0) s m args below meth c H [] 0 0 (MQ below (Qp (rv (ad 0) (stopper sg w))) args s 0 0 Kn) (F0 m 11 ls []) := by
    intro n
    induction n with
    | zero =>
      intro i hi0 hi1 hlow hn ls hl
      refine lv_iload hx hb dX4_lowestThatStops_11 (lv_at hl 4 rfl) ?_
      refine lv_iload_n hx hb dX4_lowestThatStops_13 rfl (lv_at hl 3 rfl) ?_
      refine xr_icmp_ge (tgt := 58) hx hb dX4_lowestThatStops_14 (by decide) (by omega) (by omega) (fun h3 => ?_) (fun h3 => ?_)
      · skip
        refine lv_null hx hb dX4_lowestThatStops_58 ?_
        exact xe_a hx hb hr hlk hsH dX4_lowestThatStops_59 (by exact (rv_eq_n (b := stopper sg w) (by have e : i = 24 := (by omega); subst e; have h9 : stopper sg w = -1 := hlow; omega)))
      · skip
        refine lv_aload_n hx hb dX4_lowestThatStops_17 rfl (lv_at hl 2 rfl) ?_
        refine lv_iload hx hb dX4_lowestThatStops_18 (lv_at hl 4 rfl) ?_
        refine xa_600 (v := sg 600 i) hx hb hK hR (gd_9 hG) (by omega) rfl dX4_lowestThatStops_20 ?_
        have q4 := ga_600 hG (q := i) (by omega)
        rcases (show i < sg 503 0 ∨ sg 503 0 ≤ i by omega) with i5 | i5
        · skip
          rw [if_pos i5] at q4
          rw [q4, rv_p (f := ad 0) (v := i) (by omega)]
          refine lv_astore (i := 5) (lv' := [(5, .ref (ad 0 (i))), (0, .ref (ad 4 (0))), (1, rv (ad 3) (w)), (2, .ref (ad 9 (0))), (3, .int (iI (24))), (4, .int (iI (i)))]) hx hb dX4_lowestThatStops_21 hl (by decide) rfl (fun ls hl => ?_)
          refine lv_aload hx hb dX4_lowestThatStops_23 (lv_at hl 0 rfl) ?_
          refine lv_ifnull hx hb dX4_lowestThatStops_25 ?_
          refine lv_aload hx hb dX4_lowestThatStops_28 (lv_at hl 0 rfl) ?_
          refine xg_102 (v := sg 102 i) hx hb hw0 hown hK hR (gd_0 hG (by omega)) (hts _ kw_476) rfl dX4_lowestThatStops_30 ?_
          have g7 := gr_102 hG (i)
          rw [rv_p (f := ad 1) (v := sg 102 i) (by omega)]
          refine xr_aload_n hx hb dX4_lowestThatStops_33 rfl (lv_at hl 2 rfl) ?_
          refine xk_pF (xr_S (As := [.ref (ad 1 (sg 102 i)), rv (ad 3) (w)]) (rest := []) hx hb hml hown hts hK (c_X4_isFreeAndNeededBy hR hG (sg 102 i) ((rv_p (by omega)).symm) w (rfl) (by omega) (by omega)) ms_X4_isFreeAndNeededBy kw_355 ⟨by decide, by decide⟩ ⟨by decide, by decide⟩ rfl rfl hl.1 rfl (lv_room (by decide)) dX4_lowestThatStops_34) ?_
          refine xr_ifb_eq (tgt := 52) hx hb dX4_lowestThatStops_37 (by decide) (fun h8 => ?_) (fun h8 => ?_)
          · skip
            refine lv_iinc (v := iI (i + (1))) (lv' := [(4, .int (iI (i + (1)))), (5, .ref (ad 0 (i))), (0, .ref (ad 4 (0))), (1, rv (ad 3) (w)), (2, .ref (ad 9 (0))), (3, .int (iI (24)))]) hx hb dX4_lowestThatStops_52 hl (k := 5) rfl (iI_add _ _) (by decide) rfl (fun ls hl => ?_)
            refine lv_goto (tgt := 11) hx hb dX4_lowestThatStops_55 (by decide) ?_
            exact absurd hn (by omega)
          · skip
            refine lv_aload_n hx hb dX4_lowestThatStops_40 rfl (lv_at hl 1 rfl) ?_
            refine lv_aload hx hb dX4_lowestThatStops_41 (lv_at hl 0 rfl) ?_
            refine xk_pF (xr_V (As := [.ref (ad 0 (i))]) (rest := []) hx hb hml hown hts hK (c_X4_stops hR hG i ((rv_p (by omega)).symm) (by omega)) ms_X4_stops kw_361 (wr_recv hK hR (gd_4 hG) rfl rfl) ⟨by decide, by decide⟩ ⟨by decide, by decide⟩ rfl rfl hl.1 rfl (lv_room (by decide)) dX4_lowestThatStops_43) ?_
            refine xr_ifb_eq (tgt := 52) hx hb dX4_lowestThatStops_46 (by decide) (fun h9 => ?_) (fun h9 => ?_)
            · skip
              refine lv_iinc (v := iI (i + (1))) (lv' := [(4, .int (iI (i + (1)))), (5, .ref (ad 0 (i))), (0, .ref (ad 4 (0))), (1, rv (ad 3) (w)), (2, .ref (ad 9 (0))), (3, .int (iI (24)))]) hx hb dX4_lowestThatStops_52 hl (k := 5) rfl (iI_add _ _) (by decide) rfl (fun ls hl => ?_)
              refine lv_goto (tgt := 11) hx hb dX4_lowestThatStops_55 (by decide) ?_
              exact absurd hn (by omega)
            · skip
              refine lv_aload hx hb dX4_lowestThatStops_49 (lv_at hl 0 rfl) ?_
              exact xe_a hx hb hr hlk hsH dX4_lowestThatStops_51 (by exact (rv_eq_p (a := i) (b := stopper sg w) (by omega) (low_hit (N := 24) hi0 (by omega) hlow (by first | omega | grind)).symm))
        · skip
          rw [if_neg (by omega)] at q4
          rw [q4, rv_n (f := ad 0) (v := -1) (by decide)]
          refine lv_astoreN (i := 5) (lv' := [(5, .null), (0, .ref (ad 4 (0))), (1, rv (ad 3) (w)), (2, .ref (ad 9 (0))), (3, .int (iI (24))), (4, .int (iI (i)))]) hx hb dX4_lowestThatStops_21 hl (by decide) rfl (fun ls hl => ?_)
          refine lv_aloadN hx hb dX4_lowestThatStops_23 (lv_at hl 0 rfl) ?_
          refine lv_ifnullN (tgt := 52) hx hb dX4_lowestThatStops_25 (by decide) ?_
          refine lv_iinc (v := iI (i + (1))) (lv' := [(4, .int (iI (i + (1)))), (5, .null), (0, .ref (ad 4 (0))), (1, rv (ad 3) (w)), (2, .ref (ad 9 (0))), (3, .int (iI (24)))]) hx hb dX4_lowestThatStops_52 hl (k := 5) rfl (iI_add _ _) (by decide) rfl (fun ls hl => ?_)
          refine lv_goto (tgt := 11) hx hb dX4_lowestThatStops_55 (by decide) ?_
          exact absurd hn (by omega)
    | succ n ih =>
      intro i hi0 hi1 hlow hn ls hl
      refine lv_iload hx hb dX4_lowestThatStops_11 (lv_at hl 4 rfl) ?_
      refine lv_iload_n hx hb dX4_lowestThatStops_13 rfl (lv_at hl 3 rfl) ?_
      refine xr_icmp_ge (tgt := 58) hx hb dX4_lowestThatStops_14 (by decide) (by omega) (by omega) (fun h11 => ?_) (fun h11 => ?_)
      · skip
        refine lv_null hx hb dX4_lowestThatStops_58 ?_
        exact xe_a hx hb hr hlk hsH dX4_lowestThatStops_59 (by exact (rv_eq_n (b := stopper sg w) (by have e : i = 24 := (by omega); subst e; have h9 : stopper sg w = -1 := hlow; omega)))
      · skip
        refine lv_aload_n hx hb dX4_lowestThatStops_17 rfl (lv_at hl 2 rfl) ?_
        refine lv_iload hx hb dX4_lowestThatStops_18 (lv_at hl 4 rfl) ?_
        refine xa_600 (v := sg 600 i) hx hb hK hR (gd_9 hG) (by omega) rfl dX4_lowestThatStops_20 ?_
        have q12 := ga_600 hG (q := i) (by omega)
        rcases (show i < sg 503 0 ∨ sg 503 0 ≤ i by omega) with i13 | i13
        · skip
          rw [if_pos i13] at q12
          rw [q12, rv_p (f := ad 0) (v := i) (by omega)]
          refine lv_astore (i := 5) (lv' := [(5, .ref (ad 0 (i))), (0, .ref (ad 4 (0))), (1, rv (ad 3) (w)), (2, .ref (ad 9 (0))), (3, .int (iI (24))), (4, .int (iI (i)))]) hx hb dX4_lowestThatStops_21 hl (by decide) rfl (fun ls hl => ?_)
          refine lv_aload hx hb dX4_lowestThatStops_23 (lv_at hl 0 rfl) ?_
          refine lv_ifnull hx hb dX4_lowestThatStops_25 ?_
          refine lv_aload hx hb dX4_lowestThatStops_28 (lv_at hl 0 rfl) ?_
          refine xg_102 (v := sg 102 i) hx hb hw0 hown hK hR (gd_0 hG (by omega)) (hts _ kw_476) rfl dX4_lowestThatStops_30 ?_
          have g15 := gr_102 hG (i)
          rw [rv_p (f := ad 1) (v := sg 102 i) (by omega)]
          refine xr_aload_n hx hb dX4_lowestThatStops_33 rfl (lv_at hl 2 rfl) ?_
          refine xk_pF (xr_S (As := [.ref (ad 1 (sg 102 i)), rv (ad 3) (w)]) (rest := []) hx hb hml hown hts hK (c_X4_isFreeAndNeededBy hR hG (sg 102 i) ((rv_p (by omega)).symm) w (rfl) (by omega) (by omega)) ms_X4_isFreeAndNeededBy kw_355 ⟨by decide, by decide⟩ ⟨by decide, by decide⟩ rfl rfl hl.1 rfl (lv_room (by decide)) dX4_lowestThatStops_34) ?_
          refine xr_ifb_eq (tgt := 52) hx hb dX4_lowestThatStops_37 (by decide) (fun h16 => ?_) (fun h16 => ?_)
          · skip
            refine lv_iinc (v := iI (i + (1))) (lv' := [(4, .int (iI (i + (1)))), (5, .ref (ad 0 (i))), (0, .ref (ad 4 (0))), (1, rv (ad 3) (w)), (2, .ref (ad 9 (0))), (3, .int (iI (24)))]) hx hb dX4_lowestThatStops_52 hl (k := 5) rfl (iI_add _ _) (by decide) rfl (fun ls hl => ?_)
            refine lv_goto (tgt := 11) hx hb dX4_lowestThatStops_55 (by decide) ?_
            exact ih (i + 1) (by omega) (by omega) (low_no hi0 hlow (by first | omega | grind)) (by omega) ls (lv_sub hl [2, 3, 4, 5, 0] rfl)
          · skip
            refine lv_aload_n hx hb dX4_lowestThatStops_40 rfl (lv_at hl 1 rfl) ?_
            refine lv_aload hx hb dX4_lowestThatStops_41 (lv_at hl 0 rfl) ?_
            refine xk_pF (xr_V (As := [.ref (ad 0 (i))]) (rest := []) hx hb hml hown hts hK (c_X4_stops hR hG i ((rv_p (by omega)).symm) (by omega)) ms_X4_stops kw_361 (wr_recv hK hR (gd_4 hG) rfl rfl) ⟨by decide, by decide⟩ ⟨by decide, by decide⟩ rfl rfl hl.1 rfl (lv_room (by decide)) dX4_lowestThatStops_43) ?_
            refine xr_ifb_eq (tgt := 52) hx hb dX4_lowestThatStops_46 (by decide) (fun h17 => ?_) (fun h17 => ?_)
            · skip
              refine lv_iinc (v := iI (i + (1))) (lv' := [(4, .int (iI (i + (1)))), (5, .ref (ad 0 (i))), (0, .ref (ad 4 (0))), (1, rv (ad 3) (w)), (2, .ref (ad 9 (0))), (3, .int (iI (24)))]) hx hb dX4_lowestThatStops_52 hl (k := 5) rfl (iI_add _ _) (by decide) rfl (fun ls hl => ?_)
              refine lv_goto (tgt := 11) hx hb dX4_lowestThatStops_55 (by decide) ?_
              exact ih (i + 1) (by omega) (by omega) (low_no hi0 hlow (by first | omega | grind)) (by omega) ls (lv_sub hl [2, 3, 4, 5, 0] rfl)
            · skip
              refine lv_aload hx hb dX4_lowestThatStops_49 (lv_at hl 0 rfl) ?_
              exact xe_a hx hb hr hlk hsH dX4_lowestThatStops_51 (by exact (rv_eq_p (a := i) (b := stopper sg w) (by omega) (low_hit (N := 24) hi0 (by omega) hlow (by first | omega | grind)).symm))
        · skip
          rw [if_neg (by omega)] at q12
          rw [q12, rv_n (f := ad 0) (v := -1) (by decide)]
          refine lv_astoreN (i := 5) (lv' := [(5, .null), (0, .ref (ad 4 (0))), (1, rv (ad 3) (w)), (2, .ref (ad 9 (0))), (3, .int (iI (24))), (4, .int (iI (i)))]) hx hb dX4_lowestThatStops_21 hl (by decide) rfl (fun ls hl => ?_)
          refine lv_aloadN hx hb dX4_lowestThatStops_23 (lv_at hl 0 rfl) ?_
          refine lv_ifnullN (tgt := 52) hx hb dX4_lowestThatStops_25 (by decide) ?_
          refine lv_iinc (v := iI (i + (1))) (lv' := [(4, .int (iI (i + (1)))), (5, .null), (0, .ref (ad 4 (0))), (1, rv (ad 3) (w)), (2, .ref (ad 9 (0))), (3, .int (iI (24)))]) hx hb dX4_lowestThatStops_52 hl (k := 5) rfl (iI_add _ _) (by decide) rfl (fun ls hl => ?_)
          refine lv_goto (tgt := 11) hx hb dX4_lowestThatStops_55 (by decide) ?_
          exact ih (i + 1) (by omega) (by omega) (low_no hi0 hlow (by first | omega | grind)) (by omega) ls (lv_sub hl [2, 3, 4, 5, 0] rfl)
  exact loop11 _ 0 (by decide) (by decide) rfl (Nat.le_refl _) ls (lv_sub hl [3, 4, 2, 1, 0] rfl)
theorem ms_X4_sharesOf : MVi RX4 yX4_sharesOf cX4_sharesOf 7 (some .int) 1 := ⟨kw_455, kw_454, kp_14, kw_1, rfl, by decide, by decide, by decide +kernel⟩
set_option maxRecDepth 100000 in
set_option maxHeartbeats 4000000 in
theorem c_X4_sharesOf {l : Launch} {D : va_G} {cy : Nat → ClassId} {A : Nat → Prop} {ad : Nat → Int → Nat} {sg : Nat → Int → Int} {H : Heap} (hR : RC D cy A ad sg H) (hG : GC sg)  (j : Int) (h1 : 0 ≤ j ∧ j < 36) : Met l yX4_sharesOf (Cond.code yX4_sharesOf cX4_sharesOf 7 (some .int) :: wG) (rmF 0 0 0 0) (Pc D cy H [.ref (ad 4 (0)), .ref (ad 1 (j))]) (Qp (.int (iI (shares sg j)))) 0 0 Kn := by
  refine met_of (la := [(0, .ref (ad 4 (0))), (1, .ref (ad 1 (j)))]) (by decide) (Nat.le_of_ble_eq_true rfl) rfl ?_
  intro p e R s m args below meth c ls hRm hx hb hml hr hlk hin hown hts hsH hK hl
  subst hRm
  have hown : s.vm.findClass "Takinghall" = some m.cls := hown
  have hw0 : ∀ w ∈ u_ws RX0 TX0 15, w.before args s = true := fun w h => hts w (uw_X0 w h)
  have hw4 : ∀ w ∈ u_ws RX4 TX4 12, w.before args s = true := fun w h => hts w (uw_X4 w h)
  have g503 := gr_503 hG 0
  refine lv_iconst (v := iI (0)) hx hb dX4_sharesOf_0 rfl ?_
  refine lv_istore_n (i := 2) (lv' := [(2, .int (iI (0))), (0, .ref (ad 4 (0))), (1, .ref (ad 1 (j)))]) hx hb dX4_sharesOf_1 rfl hl (by decide) rfl (fun ls hl => ?_)
  refine lv_aload_n hx hb dX4_sharesOf_2 rfl (lv_at hl 1 rfl) ?_
  refine xg_502 (v := sg 502 0) hx hb hw4 hown hK hR (gd_4 hG) (hts _ kw_93) rfl dX4_sharesOf_3 ?_
  have g1 := gh_502 hG (0)
  have q2 : sg 502 0 = 0 := gh_502 hG _
  rw [q2, rv_p (Int.le_refl 0)]
  refine lv_astore_n (i := 3) (lv' := [(3, .ref (ad 9 (0))), (2, .int (iI (0))), (0, .ref (ad 4 (0))), (1, .ref (ad 1 (j)))]) hx hb dX4_sharesOf_6 rfl hl (by decide) rfl (fun ls hl => ?_)
  refine lv_aload_n hx hb dX4_sharesOf_7 rfl (lv_at hl 0 rfl) ?_
  refine xl_600 hx hb hK hR (gd_9 hG) dX4_sharesOf_8 ?_
  refine lv_istore (i := 4) (lv' := [(4, .int (iI (24))), (3, .ref (ad 9 (0))), (2, .int (iI (0))), (0, .ref (ad 4 (0))), (1, .ref (ad 1 (j)))]) hx hb dX4_sharesOf_9 hl (by decide) rfl (fun ls hl => ?_)
  refine lv_iconst (v := iI (0)) hx hb dX4_sharesOf_11 rfl ?_
  refine lv_istore (i := 5) (lv' := [(5, .int (iI (0))), (4, .int (iI (24))), (3, .ref (ad 9 (0))), (2, .int (iI (0))), (0, .ref (ad 4 (0))), (1, .ref (ad 1 (j)))]) hx hb dX4_sharesOf_12 hl (by decide) rfl (fun ls hl => ?_)
  have loop14 : ∀ (n : Nat) (i : Int) (acc : Int), 0 ≤ i → i ≤ 24 → acc = sumN (fun q => if q < sg 503 0 ∧ sg 101 q = 0 ∧ sg 102 q = j then sg 105 q else 0) i.toNat → (24 - i).toNat ≤ n → ∀ ls : Array Slot, lv_has ls 7 [(0, .ref (ad 4 (0))), (1, .ref (ad 1 (j))), (2, .int (iI (acc))), (3, .ref (ad 9 (0))), (4, .int (iI (24))), (5, .int (iI (i)))] → W p l e (rmF 0 0 0 0) s m args below meth c H [] 0 0 (MQ below (Qp (.int (iI (shares sg j)))) args s 0 0 Kn) (F0 m 14 ls []) := by
    intro n
    induction n with
    | zero =>
      intro i acc hi0 hi1 hacc hn ls hl
      refine lv_iload hx hb dX4_sharesOf_14 (lv_at hl 5 rfl) ?_
      refine lv_iload hx hb dX4_sharesOf_16 (lv_at hl 4 rfl) ?_
      refine xr_icmp_ge (tgt := 63) hx hb dX4_sharesOf_18 (by decide) (by omega) (by omega) (fun h3 => ?_) (fun h3 => ?_)
      · skip
        refine lv_iload_n hx hb dX4_sharesOf_63 rfl (lv_at hl 2 rfl) ?_
        exact xe_i hx hb hr hlk hsH dX4_sharesOf_64 (by have e : i = 24 := (by omega); subst e; exact hacc)
      · skip
        refine lv_aload_n hx hb dX4_sharesOf_21 rfl (lv_at hl 3 rfl) ?_
        refine lv_iload hx hb dX4_sharesOf_22 (lv_at hl 5 rfl) ?_
        refine xa_600 (v := sg 600 i) hx hb hK hR (gd_9 hG) (by omega) rfl dX4_sharesOf_24 ?_
        have q4 := ga_600 hG (q := i) (by omega)
        rcases (show i < sg 503 0 ∨ sg 503 0 ≤ i by omega) with i5 | i5
        · skip
          rw [if_pos i5] at q4
          rw [q4, rv_p (f := ad 0) (v := i) (by omega)]
          refine lv_astore (i := 6) (lv' := [(6, .ref (ad 0 (i))), (0, .ref (ad 4 (0))), (1, .ref (ad 1 (j))), (2, .int (iI (acc))), (3, .ref (ad 9 (0))), (4, .int (iI (24))), (5, .int (iI (i)))]) hx hb dX4_sharesOf_25 hl (by decide) rfl (fun ls hl => ?_)
          refine lv_aload hx hb dX4_sharesOf_27 (lv_at hl 0 rfl) ?_
          refine lv_ifnull hx hb dX4_sharesOf_29 ?_
          refine lv_aload hx hb dX4_sharesOf_32 (lv_at hl 0 rfl) ?_
          refine xg_101 (v := sg 101 i) hx hb hw0 hown hK hR (gd_0 hG (by omega)) (hts _ kw_474) rfl dX4_sharesOf_34 ?_
          have g7 := gr_101 hG (i)
          refine xr_if_ne (tgt := 57) hx hb dX4_sharesOf_37 (by decide) (by omega) (fun h8 => ?_) (fun h8 => ?_)
          · skip
            refine lv_iinc (v := iI (i + (1))) (lv' := [(5, .int (iI (i + (1)))), (6, .ref (ad 0 (i))), (0, .ref (ad 4 (0))), (1, .ref (ad 1 (j))), (2, .int (iI (acc))), (3, .ref (ad 9 (0))), (4, .int (iI (24)))]) hx hb dX4_sharesOf_57 hl (k := 6) rfl (iI_add _ _) (by decide) rfl (fun ls hl => ?_)
            refine lv_goto (tgt := 14) hx hb dX4_sharesOf_60 (by decide) ?_
            exact absurd hn (by omega)
          · skip
            refine lv_aload hx hb dX4_sharesOf_40 (lv_at hl 0 rfl) ?_
            refine xg_102 (v := sg 102 i) hx hb hw0 hown hK hR (gd_0 hG (by omega)) (hts _ kw_476) rfl dX4_sharesOf_42 ?_
            have g9 := gr_102 hG (i)
            rw [rv_p (f := ad 1) (v := sg 102 i) (by omega)]
            refine lv_aload_n hx hb dX4_sharesOf_45 rfl (lv_at hl 2 rfl) ?_
            refine lv_acmp_ne (rx := some (ad 1 (sg 102 i))) (ry := some (ad 1 (j))) (tgt := 57) hx hb dX4_sharesOf_46 (by decide) (fun h10 => ?_) (fun h10 => ?_)
            · skip
              rw [← ro_p (f := ad 1) (v := sg 102 i) (by omega), ← ro_p (f := ad 1) (v := j) (by omega)] at h10
              have h11 := (not_congr (wr_eq hR (k := 1) (a := sg 102 i) (b := j) (fun _ => (gd_1 hG (by omega))) (fun _ => (gd_1 hG (by omega))))).mp h10
              refine lv_iinc (v := iI (i + (1))) (lv' := [(5, .int (iI (i + (1)))), (6, .ref (ad 0 (i))), (0, .ref (ad 4 (0))), (1, .ref (ad 1 (j))), (2, .int (iI (acc))), (3, .ref (ad 9 (0))), (4, .int (iI (24)))]) hx hb dX4_sharesOf_57 hl (k := 6) rfl (iI_add _ _) (by decide) rfl (fun ls hl => ?_)
              refine lv_goto (tgt := 14) hx hb dX4_sharesOf_60 (by decide) ?_
              exact absurd hn (by omega)
            · skip
              rw [← ro_p (f := ad 1) (v := sg 102 i) (by omega), ← ro_p (f := ad 1) (v := j) (by omega)] at h10
              have h12 := (wr_eq hR (k := 1) (a := sg 102 i) (b := j) (fun _ => (gd_1 hG (by omega))) (fun _ => (gd_1 hG (by omega)))).mp h10
              refine lv_iload_n hx hb dX4_sharesOf_49 rfl (lv_at hl 3 rfl) ?_
              refine lv_aload hx hb dX4_sharesOf_50 (lv_at hl 0 rfl) ?_
              refine xg_105 (v := sg 105 i) hx hb hw0 hown hK hR (gd_0 hG (by omega)) (hts _ kw_482) rfl dX4_sharesOf_52 ?_
              have g13 := gr_105 hG (i)
              refine xr_iadd hx hb dX4_sharesOf_55 ?_
              refine lv_istore_n (i := 2) (lv' := [(2, .int (iI (acc + (sg 105 i)))), (6, .ref (ad 0 (i))), (0, .ref (ad 4 (0))), (1, .ref (ad 1 (j))), (3, .ref (ad 9 (0))), (4, .int (iI (24))), (5, .int (iI (i)))]) hx hb dX4_sharesOf_56 rfl hl (by decide) rfl (fun ls hl => ?_)
              refine lv_iinc (v := iI (i + (1))) (lv' := [(5, .int (iI (i + (1)))), (2, .int (iI (acc + (sg 105 i)))), (6, .ref (ad 0 (i))), (0, .ref (ad 4 (0))), (1, .ref (ad 1 (j))), (3, .ref (ad 9 (0))), (4, .int (iI (24)))]) hx hb dX4_sharesOf_57 hl (k := 6) rfl (iI_add _ _) (by decide) rfl (fun ls hl => ?_)
              refine lv_goto (tgt := 14) hx hb dX4_sharesOf_60 (by decide) ?_
              exact absurd hn (by omega)
        · skip
          rw [if_neg (by omega)] at q4
          rw [q4, rv_n (f := ad 0) (v := -1) (by decide)]
          refine lv_astoreN (i := 6) (lv' := [(6, .null), (0, .ref (ad 4 (0))), (1, .ref (ad 1 (j))), (2, .int (iI (acc))), (3, .ref (ad 9 (0))), (4, .int (iI (24))), (5, .int (iI (i)))]) hx hb dX4_sharesOf_25 hl (by decide) rfl (fun ls hl => ?_)
          refine lv_aloadN hx hb dX4_sharesOf_27 (lv_at hl 0 rfl) ?_
          refine lv_ifnullN (tgt := 57) hx hb dX4_sharesOf_29 (by decide) ?_
          refine lv_iinc (v := iI (i + (1))) (lv' := [(5, .int (iI (i + (1)))), (6, .null), (0, .ref (ad 4 (0))), (1, .ref (ad 1 (j))), (2, .int (iI (acc))), (3, .ref (ad 9 (0))), (4, .int (iI (24)))]) hx hb dX4_sharesOf_57 hl (k := 6) rfl (iI_add _ _) (by decide) rfl (fun ls hl => ?_)
          refine lv_goto (tgt := 14) hx hb dX4_sharesOf_60 (by decide) ?_
          exact absurd hn (by omega)
    | succ n ih =>
      intro i acc hi0 hi1 hacc hn ls hl
      refine lv_iload hx hb dX4_sharesOf_14 (lv_at hl 5 rfl) ?_
      refine lv_iload hx hb dX4_sharesOf_16 (lv_at hl 4 rfl) ?_
      refine xr_icmp_ge (tgt := 63) hx hb dX4_sharesOf_18 (by decide) (by omega) (by omega) (fun h15 => ?_) (fun h15 => ?_)
      · skip
        refine lv_iload_n hx hb dX4_sharesOf_63 rfl (lv_at hl 2 rfl) ?_
        exact xe_i hx hb hr hlk hsH dX4_sharesOf_64 (by have e : i = 24 := (by omega); subst e; exact hacc)
      · skip
        refine lv_aload_n hx hb dX4_sharesOf_21 rfl (lv_at hl 3 rfl) ?_
        refine lv_iload hx hb dX4_sharesOf_22 (lv_at hl 5 rfl) ?_
        refine xa_600 (v := sg 600 i) hx hb hK hR (gd_9 hG) (by omega) rfl dX4_sharesOf_24 ?_
        have q16 := ga_600 hG (q := i) (by omega)
        rcases (show i < sg 503 0 ∨ sg 503 0 ≤ i by omega) with i17 | i17
        · skip
          rw [if_pos i17] at q16
          rw [q16, rv_p (f := ad 0) (v := i) (by omega)]
          refine lv_astore (i := 6) (lv' := [(6, .ref (ad 0 (i))), (0, .ref (ad 4 (0))), (1, .ref (ad 1 (j))), (2, .int (iI (acc))), (3, .ref (ad 9 (0))), (4, .int (iI (24))), (5, .int (iI (i)))]) hx hb dX4_sharesOf_25 hl (by decide) rfl (fun ls hl => ?_)
          refine lv_aload hx hb dX4_sharesOf_27 (lv_at hl 0 rfl) ?_
          refine lv_ifnull hx hb dX4_sharesOf_29 ?_
          refine lv_aload hx hb dX4_sharesOf_32 (lv_at hl 0 rfl) ?_
          refine xg_101 (v := sg 101 i) hx hb hw0 hown hK hR (gd_0 hG (by omega)) (hts _ kw_474) rfl dX4_sharesOf_34 ?_
          have g19 := gr_101 hG (i)
          refine xr_if_ne (tgt := 57) hx hb dX4_sharesOf_37 (by decide) (by omega) (fun h20 => ?_) (fun h20 => ?_)
          · skip
            refine lv_iinc (v := iI (i + (1))) (lv' := [(5, .int (iI (i + (1)))), (6, .ref (ad 0 (i))), (0, .ref (ad 4 (0))), (1, .ref (ad 1 (j))), (2, .int (iI (acc))), (3, .ref (ad 9 (0))), (4, .int (iI (24)))]) hx hb dX4_sharesOf_57 hl (k := 6) rfl (iI_add _ _) (by decide) rfl (fun ls hl => ?_)
            refine lv_goto (tgt := 14) hx hb dX4_sharesOf_60 (by decide) ?_
            exact ih (i + 1) acc (by omega) (by omega) (sum_0 hi0 hacc (by exact if_neg (by omega))) (by omega) ls (lv_sub hl [2, 3, 4, 5, 6, 0] rfl)
          · skip
            refine lv_aload hx hb dX4_sharesOf_40 (lv_at hl 0 rfl) ?_
            refine xg_102 (v := sg 102 i) hx hb hw0 hown hK hR (gd_0 hG (by omega)) (hts _ kw_476) rfl dX4_sharesOf_42 ?_
            have g21 := gr_102 hG (i)
            rw [rv_p (f := ad 1) (v := sg 102 i) (by omega)]
            refine lv_aload_n hx hb dX4_sharesOf_45 rfl (lv_at hl 2 rfl) ?_
            refine lv_acmp_ne (rx := some (ad 1 (sg 102 i))) (ry := some (ad 1 (j))) (tgt := 57) hx hb dX4_sharesOf_46 (by decide) (fun h22 => ?_) (fun h22 => ?_)
            · skip
              rw [← ro_p (f := ad 1) (v := sg 102 i) (by omega), ← ro_p (f := ad 1) (v := j) (by omega)] at h22
              have h23 := (not_congr (wr_eq hR (k := 1) (a := sg 102 i) (b := j) (fun _ => (gd_1 hG (by omega))) (fun _ => (gd_1 hG (by omega))))).mp h22
              refine lv_iinc (v := iI (i + (1))) (lv' := [(5, .int (iI (i + (1)))), (6, .ref (ad 0 (i))), (0, .ref (ad 4 (0))), (1, .ref (ad 1 (j))), (2, .int (iI (acc))), (3, .ref (ad 9 (0))), (4, .int (iI (24)))]) hx hb dX4_sharesOf_57 hl (k := 6) rfl (iI_add _ _) (by decide) rfl (fun ls hl => ?_)
              refine lv_goto (tgt := 14) hx hb dX4_sharesOf_60 (by decide) ?_
              exact ih (i + 1) acc (by omega) (by omega) (sum_0 hi0 hacc (by exact if_neg (by omega))) (by omega) ls (lv_sub hl [2, 3, 4, 5, 6, 0] rfl)
            · skip
              rw [← ro_p (f := ad 1) (v := sg 102 i) (by omega), ← ro_p (f := ad 1) (v := j) (by omega)] at h22
              have h24 := (wr_eq hR (k := 1) (a := sg 102 i) (b := j) (fun _ => (gd_1 hG (by omega))) (fun _ => (gd_1 hG (by omega)))).mp h22
              refine lv_iload_n hx hb dX4_sharesOf_49 rfl (lv_at hl 3 rfl) ?_
              refine lv_aload hx hb dX4_sharesOf_50 (lv_at hl 0 rfl) ?_
              refine xg_105 (v := sg 105 i) hx hb hw0 hown hK hR (gd_0 hG (by omega)) (hts _ kw_482) rfl dX4_sharesOf_52 ?_
              have g25 := gr_105 hG (i)
              refine xr_iadd hx hb dX4_sharesOf_55 ?_
              refine lv_istore_n (i := 2) (lv' := [(2, .int (iI (acc + (sg 105 i)))), (6, .ref (ad 0 (i))), (0, .ref (ad 4 (0))), (1, .ref (ad 1 (j))), (3, .ref (ad 9 (0))), (4, .int (iI (24))), (5, .int (iI (i)))]) hx hb dX4_sharesOf_56 rfl hl (by decide) rfl (fun ls hl => ?_)
              refine lv_iinc (v := iI (i + (1))) (lv' := [(5, .int (iI (i + (1)))), (2, .int (iI (acc + (sg 105 i)))), (6, .ref (ad 0 (i))), (0, .ref (ad 4 (0))), (1, .ref (ad 1 (j))), (3, .ref (ad 9 (0))), (4, .int (iI (24)))]) hx hb dX4_sharesOf_57 hl (k := 6) rfl (iI_add _ _) (by decide) rfl (fun ls hl => ?_)
              refine lv_goto (tgt := 14) hx hb dX4_sharesOf_60 (by decide) ?_
              exact ih (i + 1) (acc + (sg 105 i)) (by omega) (by omega) (sum_t hi0 hacc (by exact (if_pos (by omega)).symm)) (by omega) ls (lv_sub hl [3, 4, 1, 5, 6, 0] rfl)
        · skip
          rw [if_neg (by omega)] at q16
          rw [q16, rv_n (f := ad 0) (v := -1) (by decide)]
          refine lv_astoreN (i := 6) (lv' := [(6, .null), (0, .ref (ad 4 (0))), (1, .ref (ad 1 (j))), (2, .int (iI (acc))), (3, .ref (ad 9 (0))), (4, .int (iI (24))), (5, .int (iI (i)))]) hx hb dX4_sharesOf_25 hl (by decide) rfl (fun ls hl => ?_)
          refine lv_aloadN hx hb dX4_sharesOf_27 (lv_at hl 0 rfl) ?_
          refine lv_ifnullN (tgt := 57) hx hb dX4_sharesOf_29 (by decide) ?_
          refine lv_iinc (v := iI (i + (1))) (lv' := [(5, .int (iI (i + (1)))), (6, .null), (0, .ref (ad 4 (0))), (1, .ref (ad 1 (j))), (2, .int (iI (acc))), (3, .ref (ad 9 (0))), (4, .int (iI (24)))]) hx hb dX4_sharesOf_57 hl (k := 6) rfl (iI_add _ _) (by decide) rfl (fun ls hl => ?_)
          refine lv_goto (tgt := 14) hx hb dX4_sharesOf_60 (by decide) ?_
          exact ih (i + 1) acc (by omega) (by omega) (sum_0 hi0 hacc (by exact if_neg (by omega))) (by omega) ls (lv_sub hl [2, 3, 4, 5, 6, 0] rfl)
  exact loop14 _ 0 0 (by decide) (by decide) rfl (Nat.le_refl _) ls (lv_sub hl [4, 5, 3, 2, 1, 0] rfl)
theorem ms_X4_canTellInterest : MVi RX4 yX4_canTellInterest cX4_canTellInterest 2 (some .boolean) 1 := ⟨kw_460, kw_459, kp_15, kw_1, rfl, by decide, by decide, by decide +kernel⟩
set_option maxRecDepth 100000 in
set_option maxHeartbeats 4000000 in
theorem c_X4_canTellInterest {l : Launch} {D : va_G} {cy : Nat → ClassId} {A : Nat → Prop} {ad : Nat → Int → Nat} {sg : Nat → Int → Int} {H : Heap} (hR : RC D cy A ad sg H) (hG : GC sg)  (v : Int) {x_v : Value} (hx_v : x_v = rv (ad 1) v) (h1 : v < 36) : Met l yX4_canTellInterest (Cond.code yX4_canTellInterest cX4_canTellInterest 2 (some .boolean) :: wG) (rmF 0 0 0 0) (Pc D cy H [.ref (ad 4 (0)), x_v]) (Qp (.int (iI (bI (canTell sg v))))) 0 0 Kn := by
  subst hx_v
  refine met_of (la := [(0, .ref (ad 4 (0))), (1, rv (ad 1) (v))]) (by decide) (by simp [lg_sl, rv_cat, cat_i, cat_l, cat_r, cat_n]) (by simp [lv_args, rv_cat, cat_i, cat_l, cat_r, cat_n]) ?_
  intro p e R s m args below meth c ls hRm hx hb hml hr hlk hin hown hts hsH hK hl
  subst hRm
  have hown : s.vm.findClass "Takinghall" = some m.cls := hown
  have hw1 : ∀ w ∈ u_ws RX1 TX1 11, w.before args s = true := fun w h => hts w (uw_X1 w h)
  have hw4 : ∀ w ∈ u_ws RX4 TX4 12, w.before args s = true := fun w h => hts w (uw_X4 w h)
  have g503 := gr_503 hG 0
  refine xr_aload_n hx hb dX4_canTellInterest_0 rfl (lv_at hl 1 rfl) ?_
  refine xr_ifnull (tgt := 34) hx hb dX4_canTellInterest_1 (by decide) (fun h1 => ?_) (fun h1 => ?_)
  · skip
    rw [rv_n h1] at hl
    refine lv_iconst (v := iI (0)) hx hb dX4_canTellInterest_34 rfl ?_
    exact xe_zb hx hb hr hlk hsH dX4_canTellInterest_35 (by unfold canTell; omega)
  · skip
    rw [rv_p h1] at hl
    refine lv_aload_n hx hb dX4_canTellInterest_4 rfl (lv_at hl 1 rfl) ?_
    refine xg_203 (v := sg 203 v) hx hb hw1 hown hK hR (gd_1 hG (by omega)) (hts _ kw_41) rfl dX4_canTellInterest_5 ?_
    have g2 := gr_203 hG (v)
    refine xr_if_ne (tgt := 34) hx hb dX4_canTellInterest_8 (by decide) (by omega) (fun h3 => ?_) (fun h3 => ?_)
    · skip
      refine lv_iconst (v := iI (0)) hx hb dX4_canTellInterest_34 rfl ?_
      exact xe_zb hx hb hr hlk hsH dX4_canTellInterest_35 (by unfold canTell; omega)
    · skip
      refine lv_aload_n hx hb dX4_canTellInterest_11 rfl (lv_at hl 0 rfl) ?_
      refine xg_503 (v := sg 503 0) hx hb hw4 hown hK hR (gd_4 hG) (hts _ kw_94) rfl dX4_canTellInterest_12 ?_
      have g4 := gr_503 hG (0)
      refine xr_if_lt (tgt := 34) hx hb dX4_canTellInterest_15 (by decide) (by omega) (fun h5 => ?_) (fun h5 => ?_)
      · skip
        refine lv_iconst (v := iI (0)) hx hb dX4_canTellInterest_34 rfl ?_
        exact xe_zb hx hb hr hlk hsH dX4_canTellInterest_35 (by unfold canTell; omega)
      · skip
        refine lv_aload_n hx hb dX4_canTellInterest_18 rfl (lv_at hl 0 rfl) ?_
        refine xg_503 (v := sg 503 0) hx hb hw4 hown hK hR (gd_4 hG) (hts _ kw_94) rfl dX4_canTellInterest_19 ?_
        refine lv_aload_n hx hb dX4_canTellInterest_22 rfl (lv_at hl 0 rfl) ?_
        refine xg_502 (v := sg 502 0) hx hb hw4 hown hK hR (gd_4 hG) (hts _ kw_93) rfl dX4_canTellInterest_23 ?_
        have g6 := gh_502 hG (0)
        have q7 : sg 502 0 = 0 := gh_502 hG _
        rw [q7, rv_p (Int.le_refl 0)]
        refine xl_600 hx hb hK hR (gd_9 hG) dX4_canTellInterest_26 ?_
        refine xr_icmp_ge (tgt := 34) hx hb dX4_canTellInterest_27 (by decide) (by omega) (by omega) (fun h8 => ?_) (fun h8 => ?_)
        · skip
          refine lv_iconst (v := iI (0)) hx hb dX4_canTellInterest_34 rfl ?_
          exact xe_zb hx hb hr hlk hsH dX4_canTellInterest_35 (by unfold canTell; omega)
        · skip
          refine lv_iconst (v := iI (1)) hx hb dX4_canTellInterest_30 rfl ?_
          refine lv_goto (tgt := 35) hx hb dX4_canTellInterest_31 (by decide) ?_
          exact xe_zb hx hb hr hlk hsH dX4_canTellInterest_35 (by unfold canTell; omega)
