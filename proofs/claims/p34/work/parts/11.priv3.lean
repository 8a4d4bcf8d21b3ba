theorem ms_X4_leftBehindCharges : MVi RX4 yX4_leftBehindCharges cX4_leftBehindCharges 9 (some .int) 3 := ⟨kw_392, kw_391, kp_11, kw_1, rfl, by decide, by decide, by decide +kernel⟩
set_option maxRecDepth 100000 in
set_option maxHeartbeats 4000000 in
theorem c_X4_leftBehindCharges {l : Launch} {D : va_G} {cy : Nat → ClassId} {A : Nat → Prop} {ad : Nat → Int → Nat} {sg : Nat → Int → Int} {H : Heap} (hR : RC D cy A ad sg H) (hG : GC sg)  (j : Int) (land : Int) (bound : Int) (h1 : 0 ≤ j ∧ j < 36) (h2 : 0 ≤ land ∧ land ≤ 100000) (h3 : 0 ≤ bound ∧ bound ≤ 24) : Met l yX4_leftBehindCharges (Cond.code yX4_leftBehindCharges cX4_leftBehindCharges 9 (some .int) :: wG) (rmF 1 40 0 0) (Pc D cy H [.ref (ad 4 (0)), .ref (ad 1 (j)), .int (iI (land)), .int (iI (bound))]) (Qp (.int (iI (leftB sg j land bound)))) 0 0 Kn := by
  refine met_of (la := [(0, .ref (ad 4 (0))), (1, .ref (ad 1 (j))), (2, .int (iI (land))), (3, .int (iI (bound)))]) (by decide) (Nat.le_of_ble_eq_true rfl) rfl ?_
  intro p e R s m args below meth c ls hRm hx hb hml hr hlk hin hown hts hsH hK hl
  subst hRm
  have hown : s.vm.findClass "Takinghall" = some m.cls := hown
  have hw0 : ∀ w ∈ u_ws RX0 TX0 15, w.before args s = true := fun w h => hts w (uw_X0 w h)
  have hw4 : ∀ w ∈ u_ws RX4 TX4 12, w.before args s = true := fun w h => hts w (uw_X4 w h)
  have g503 := gr_503 hG 0
  refine lv_iload_n hx hb dX4_leftBehindCharges_0 rfl (lv_at hl 2 rfl) ?_
  refine lv_istore (i := 4) (lv' := [(4, .int (iI (land))), (0, .ref (ad 4 (0))), (1, .ref (ad 1 (j))), (2, .int (iI (land))), (3, .int (iI (bound)))]) hx hb dX4_leftBehindCharges_1 hl (by decide) rfl (fun ls hl => ?_)
  refine lv_aload_n hx hb dX4_leftBehindCharges_3 rfl (lv_at hl 1 rfl) ?_
  refine xg_502 (v := sg 502 0) hx hb hw4 hown hK hR (gd_4 hG) (hts _ kw_93) rfl dX4_leftBehindCharges_4 ?_
  have g1 := gh_502 hG (0)
  have q2 : sg 502 0 = 0 := gh_502 hG _
  rw [q2, rv_p (Int.le_refl 0)]
  refine lv_astore (i := 5) (lv' := [(5, .ref (ad 9 (0))), (4, .int (iI (land))), (0, .ref (ad 4 (0))), (1, .ref (ad 1 (j))), (2, .int (iI (land))), (3, .int (iI (bound)))]) hx hb dX4_leftBehindCharges_7 hl (by decide) rfl (fun ls hl => ?_)
  refine lv_aload hx hb dX4_leftBehindCharges_9 (lv_at hl 0 rfl) ?_
  refine xl_600 hx hb hK hR (gd_9 hG) dX4_leftBehindCharges_11 ?_
  refine lv_istore (i := 6) (lv' := [(6, .int (iI (24))), (5, .ref (ad 9 (0))), (4, .int (iI (land))), (0, .ref (ad 4 (0))), (1, .ref (ad 1 (j))), (2, .int (iI (land))), (3, .int (iI (bound)))]) hx hb dX4_leftBehindCharges_12 hl (by decide) rfl (fun ls hl => ?_)
  refine lv_iconst (v := iI (0)) hx hb dX4_leftBehindCharges_14 rfl ?_
  refine lv_istore (i := 7) (lv' := [(7, .int (iI (0))), (6, .int (iI (24))), (5, .ref (ad 9 (0))), (4, .int (iI (land))), (0, .ref (ad 4 (0))), (1, .ref (ad 1 (j))), (2, .int (iI (land))), (3, .int (iI (bound)))]) hx hb dX4_leftBehindCharges_15 hl (by decide) rfl (fun ls hl => ?_)
  have loop17 : ∀ (n : Nat) (i : Int) (acc : Int), 0 ≤ i → i ≤ 24 → acc = lefts sg j land bound (i.toNat) → (24 - i).toNat ≤ n → ∀ ls : Array Slot, lv_has ls 9 [(0, .ref (ad 4 (0))), (1, .ref (ad 1 (j))), (2, .int (iI (land))), (3, .int (iI (bound))), (4, .int (iI (acc))), (5, .ref (ad 9 (0))), (6, .int (iI (24))), (7, .int (iI (i)))] → W p l e (rmF 1 40 0 0) s m args below meth c H [] 0 0 (MQ below (Qp (.int (iI (leftB sg j land bound)))) args s 0 0 Kn) (F0 m 17 ls []) := by
    intro n
    induction n with
    | zero =>
      intro i acc hi0 hi1 hacc hn ls hl
      have hrg := lefts_rng hG (v := j) (bound := bound) h2.1 i.toNat
      rw [← hacc] at hrg
      refine lv_iload hx hb dX4_leftBehindCharges_17 (lv_at hl 7 rfl) ?_
      refine lv_iload hx hb dX4_leftBehindCharges_19 (lv_at hl 6 rfl) ?_
      refine xr_icmp_ge (tgt := 84) hx hb dX4_leftBehindCharges_21 (by decide) (by omega) (by omega) (fun h3 => ?_) (fun h3 => ?_)
      · skip
        refine lv_iload hx hb dX4_leftBehindCharges_84 (lv_at hl 4 rfl) ?_
        exact xe_i hx hb hr hlk hsH dX4_leftBehindCharges_86 (by have e : i = 24 := (by omega); subst e; exact hacc)
      · skip
        refine lv_aload hx hb dX4_leftBehindCharges_24 (lv_at hl 5 rfl) ?_
        refine lv_iload hx hb dX4_leftBehindCharges_26 (lv_at hl 7 rfl) ?_
        refine xa_600 (v := sg 600 i) hx hb hK hR (gd_9 hG) (by omega) rfl dX4_leftBehindCharges_28 ?_
        have q4 := ga_600 hG (q := i) (by omega)
        rcases (show i < sg 503 0 ∨ sg 503 0 ≤ i by omega) with i5 | i5
        · skip
          rw [if_pos i5] at q4
          rw [q4, rv_p (f := ad 0) (v := i) (by omega)]
          refine lv_astore (i := 8) (lv' := [(8, .ref (ad 0 (i))), (0, .ref (ad 4 (0))), (1, .ref (ad 1 (j))), (2, .int (iI (land))), (3, .int (iI (bound))), (4, .int (iI (acc))), (5, .ref (ad 9 (0))), (6, .int (iI (24))), (7, .int (iI (i)))]) hx hb dX4_leftBehindCharges_29 hl (by decide) rfl (fun ls hl => ?_)
          refine lv_aload hx hb dX4_leftBehindCharges_31 (lv_at hl 0 rfl) ?_
          refine lv_ifnull hx hb dX4_leftBehindCharges_33 ?_
          refine lv_aload hx hb dX4_leftBehindCharges_36 (lv_at hl 0 rfl) ?_
          refine xg_101 (v := sg 101 i) hx hb hw0 hown hK hR (gd_0 hG (by omega)) (hts _ kw_474) rfl dX4_leftBehindCharges_38 ?_
          have g7 := gr_101 hG (i)
          refine lv_iconst (v := iI (2)) hx hb dX4_leftBehindCharges_41 rfl ?_
          refine xr_icmp_ne (tgt := 78) hx hb dX4_leftBehindCharges_42 (by decide) (by omega) (by omega) (fun h8 => ?_) (fun h8 => ?_)
          · skip
            refine lv_iinc (v := iI (i + (1))) (lv' := [(7, .int (iI (i + (1)))), (8, .ref (ad 0 (i))), (0, .ref (ad 4 (0))), (1, .ref (ad 1 (j))), (2, .int (iI (land))), (3, .int (iI (bound))), (4, .int (iI (acc))), (5, .ref (ad 9 (0))), (6, .int (iI (24)))]) hx hb dX4_leftBehindCharges_78 hl (k := 8) rfl (iI_add _ _) (by decide) rfl (fun ls hl => ?_)
            refine lv_goto (tgt := 17) hx hb dX4_leftBehindCharges_81 (by decide) ?_
            exact absurd hn (by omega)
          · skip
            refine lv_aload hx hb dX4_leftBehindCharges_45 (lv_at hl 0 rfl) ?_
            refine xg_102 (v := sg 102 i) hx hb hw0 hown hK hR (gd_0 hG (by omega)) (hts _ kw_476) rfl dX4_leftBehindCharges_47 ?_
            have g9 := gr_102 hG (i)
            rw [rv_p (f := ad 1) (v := sg 102 i) (by omega)]
            refine lv_aload_n hx hb dX4_leftBehindCharges_50 rfl (lv_at hl 2 rfl) ?_
            refine lv_acmp_ne (rx := some (ad 1 (sg 102 i))) (ry := some (ad 1 (j))) (tgt := 78) hx hb dX4_leftBehindCharges_51 (by decide) (fun h10 => ?_) (fun h10 => ?_)
            · skip
              rw [← ro_p (f := ad 1) (v := sg 102 i) (by omega), ← ro_p (f := ad 1) (v := j) (by omega)] at h10
              have h11 := (not_congr (wr_eq hR (k := 1) (a := sg 102 i) (b := j) (fun _ => (gd_1 hG (by omega))) (fun _ => (gd_1 hG (by omega))))).mp h10
              refine lv_iinc (v := iI (i + (1))) (lv' := [(7, .int (iI (i + (1)))), (8, .ref (ad 0 (i))), (0, .ref (ad 4 (0))), (1, .ref (ad 1 (j))), (2, .int (iI (land))), (3, .int (iI (bound))), (4, .int (iI (acc))), (5, .ref (ad 9 (0))), (6, .int (iI (24)))]) hx hb dX4_leftBehindCharges_78 hl (k := 8) rfl (iI_add _ _) (by decide) rfl (fun ls hl => ?_)
              refine lv_goto (tgt := 17) hx hb dX4_leftBehindCharges_81 (by decide) ?_
              exact absurd hn (by omega)
            · skip
              rw [← ro_p (f := ad 1) (v := sg 102 i) (by omega), ← ro_p (f := ad 1) (v := j) (by omega)] at h10
              have h12 := (wr_eq hR (k := 1) (a := sg 102 i) (b := j) (fun _ => (gd_1 hG (by omega))) (fun _ => (gd_1 hG (by omega)))).mp h10
              refine lv_aload hx hb dX4_leftBehindCharges_54 (lv_at hl 0 rfl) ?_
              refine xg_100 (v := sg 100 i) hx hb hw0 hown hK hR (gd_0 hG (by omega)) (hts _ kw_472) rfl dX4_leftBehindCharges_56 ?_
              have g13 := gn_100 hG (q := i) (by omega)
              have g14 := gr_503 hG 0
              refine lv_iload_n hx hb dX4_leftBehindCharges_59 rfl (lv_at hl 4 rfl) ?_
              refine xr_icmp_ge (tgt := 78) hx hb dX4_leftBehindCharges_60 (by decide) (by omega) (by omega) (fun h15 => ?_) (fun h15 => ?_)
              · skip
                refine lv_iinc (v := iI (i + (1))) (lv' := [(7, .int (iI (i + (1)))), (8, .ref (ad 0 (i))), (0, .ref (ad 4 (0))), (1, .ref (ad 1 (j))), (2, .int (iI (land))), (3, .int (iI (bound))), (4, .int (iI (acc))), (5, .ref (ad 9 (0))), (6, .int (iI (24)))]) hx hb dX4_leftBehindCharges_78 hl (k := 8) rfl (iI_add _ _) (by decide) rfl (fun ls hl => ?_)
                refine lv_goto (tgt := 17) hx hb dX4_leftBehindCharges_81 (by decide) ?_
                exact absurd hn (by omega)
              · skip
                refine lv_iload hx hb dX4_leftBehindCharges_63 (lv_at hl 5 rfl) ?_
                refine lv_iload hx hb dX4_leftBehindCharges_65 (lv_at hl 5 rfl) ?_
                refine lv_aload hx hb dX4_leftBehindCharges_67 (lv_at hl 0 rfl) ?_
                refine xg_105 (v := sg 105 i) hx hb hw0 hown hK hR (gd_0 hG (by omega)) (hts _ kw_482) rfl dX4_leftBehindCharges_69 ?_
                have g16 := gr_105 hG (i)
                refine xr_min (rest := [.int (iI (acc))]) hx hb (hml.trans hl.1.symm) hown (hts _ kw_393) (hts _ kw_394) (hts _ kw_12) (hts _ kw_395) (by decide) (by simp [rv_cat, cat_i, cat_l, cat_r, cat_n]) (Nat.le_of_ble_eq_true rfl) (Nat.le_of_ble_eq_true rfl) (by omega) (by omega) dX4_leftBehindCharges_72 ?_
                refine xr_isub hx hb dX4_leftBehindCharges_75 ?_
                refine lv_istore (i := 4) (lv' := [(4, .int (iI (acc - (mn acc (sg 105 i))))), (8, .ref (ad 0 (i))), (0, .ref (ad 4 (0))), (1, .ref (ad 1 (j))), (2, .int (iI (land))), (3, .int (iI (bound))), (5, .ref (ad 9 (0))), (6, .int (iI (24))), (7, .int (iI (i)))]) hx hb dX4_leftBehindCharges_76 hl (by decide) rfl (fun ls hl => ?_)
                refine lv_iinc (v := iI (i + (1))) (lv' := [(7, .int (iI (i + (1)))), (4, .int (iI (acc - (mn acc (sg 105 i))))), (8, .ref (ad 0 (i))), (0, .ref (ad 4 (0))), (1, .ref (ad 1 (j))), (2, .int (iI (land))), (3, .int (iI (bound))), (5, .ref (ad 9 (0))), (6, .int (iI (24)))]) hx hb dX4_leftBehindCharges_78 hl (k := 8) rfl (iI_add _ _) (by decide) rfl (fun ls hl => ?_)
                refine lv_goto (tgt := 17) hx hb dX4_leftBehindCharges_81 (by decide) ?_
                exact absurd hn (by omega)
        · skip
          rw [if_neg (by omega)] at q4
          rw [q4, rv_n (f := ad 0) (v := -1) (by decide)]
          refine lv_astoreN (i := 8) (lv' := [(8, .null), (0, .ref (ad 4 (0))), (1, .ref (ad 1 (j))), (2, .int (iI (land))), (3, .int (iI (bound))), (4, .int (iI (acc))), (5, .ref (ad 9 (0))), (6, .int (iI (24))), (7, .int (iI (i)))]) hx hb dX4_leftBehindCharges_29 hl (by decide) rfl (fun ls hl => ?_)
          refine lv_aloadN hx hb dX4_leftBehindCharges_31 (lv_at hl 0 rfl) ?_
          refine lv_ifnullN (tgt := 78) hx hb dX4_leftBehindCharges_33 (by decide) ?_
          refine lv_iinc (v := iI (i + (1))) (lv' := [(7, .int (iI (i + (1)))), (8, .null), (0, .ref (ad 4 (0))), (1, .ref (ad 1 (j))), (2, .int (iI (land))), (3, .int (iI (bound))), (4, .int (iI (acc))), (5, .ref (ad 9 (0))), (6, .int (iI (24)))]) hx hb dX4_leftBehindCharges_78 hl (k := 8) rfl (iI_add _ _) (by decide) rfl (fun ls hl => ?_)
          refine lv_goto (tgt := 17) hx hb dX4_leftBehindCharges_81 (by decide) ?_
          exact absurd hn (by omega)
    | succ n ih =>
      intro i acc hi0 hi1 hacc hn ls hl
      have hrg := lefts_rng hG (v := j) (bound := bound) h2.1 i.toNat
      rw [← hacc] at hrg
      refine lv_iload hx hb dX4_leftBehindCharges_17 (lv_at hl 7 rfl) ?_
      refine lv_iload hx hb dX4_leftBehindCharges_19 (lv_at hl 6 rfl) ?_
      refine xr_icmp_ge (tgt := 84) hx hb dX4_leftBehindCharges_21 (by decide) (by omega) (by omega) (fun h18 => ?_) (fun h18 => ?_)
      · skip
        refine lv_iload hx hb dX4_leftBehindCharges_84 (lv_at hl 4 rfl) ?_
        exact xe_i hx hb hr hlk hsH dX4_leftBehindCharges_86 (by have e : i = 24 := (by omega); subst e; exact hacc)
      · skip
        refine lv_aload hx hb dX4_leftBehindCharges_24 (lv_at hl 5 rfl) ?_
        refine lv_iload hx hb dX4_leftBehindCharges_26 (lv_at hl 7 rfl) ?_
        refine xa_600 (v := sg 600 i) hx hb hK hR (gd_9 hG) (by omega) rfl dX4_leftBehindCharges_28 ?_
        have q19 := ga_600 hG (q := i) (by omega)
        rcases (show i < sg 503 0 ∨ sg 503 0 ≤ i by omega) with i20 | i20
        · skip
          rw [if_pos i20] at q19
          rw [q19, rv_p (f := ad 0) (v := i) (by omega)]
          refine lv_astore (i := 8) (lv' := [(8, .ref (ad 0 (i))), (0, .ref (ad 4 (0))), (1, .ref (ad 1 (j))), (2, .int (iI (land))), (3, .int (iI (bound))), (4, .int (iI (acc))), (5, .ref (ad 9 (0))), (6, .int (iI (24))), (7, .int (iI (i)))]) hx hb dX4_leftBehindCharges_29 hl (by decide) rfl (fun ls hl => ?_)
          refine lv_aload hx hb dX4_leftBehindCharges_31 (lv_at hl 0 rfl) ?_
          refine lv_ifnull hx hb dX4_leftBehindCharges_33 ?_
          refine lv_aload hx hb dX4_leftBehindCharges_36 (lv_at hl 0 rfl) ?_
          refine xg_101 (v := sg 101 i) hx hb hw0 hown hK hR (gd_0 hG (by omega)) (hts _ kw_474) rfl dX4_leftBehindCharges_38 ?_
          have g22 := gr_101 hG (i)
          refine lv_iconst (v := iI (2)) hx hb dX4_leftBehindCharges_41 rfl ?_
          refine xr_icmp_ne (tgt := 78) hx hb dX4_leftBehindCharges_42 (by decide) (by omega) (by omega) (fun h23 => ?_) (fun h23 => ?_)
          · skip
            refine lv_iinc (v := iI (i + (1))) (lv' := [(7, .int (iI (i + (1)))), (8, .ref (ad 0 (i))), (0, .ref (ad 4 (0))), (1, .ref (ad 1 (j))), (2, .int (iI (land))), (3, .int (iI (bound))), (4, .int (iI (acc))), (5, .ref (ad 9 (0))), (6, .int (iI (24)))]) hx hb dX4_leftBehindCharges_78 hl (k := 8) rfl (iI_add _ _) (by decide) rfl (fun ls hl => ?_)
            refine lv_goto (tgt := 17) hx hb dX4_leftBehindCharges_81 (by decide) ?_
            exact ih (i + 1) acc (by omega) (by omega) (by rw [lefts_s hi0, ← hacc]; first | rw [if_pos (by omega)] | rw [if_neg (by omega)]) (by omega) ls (lv_sub hl [2, 3, 4, 5, 6, 7, 8, 0] rfl)
          · skip
            refine lv_aload hx hb dX4_leftBehindCharges_45 (lv_at hl 0 rfl) ?_
            refine xg_102 (v := sg 102 i) hx hb hw0 hown hK hR (gd_0 hG (by omega)) (hts _ kw_476) rfl dX4_leftBehindCharges_47 ?_
            have g24 := gr_102 hG (i)
            rw [rv_p (f := ad 1) (v := sg 102 i) (by omega)]
            refine lv_aload_n hx hb dX4_leftBehindCharges_50 rfl (lv_at hl 2 rfl) ?_
            refine lv_acmp_ne (rx := some (ad 1 (sg 102 i))) (ry := some (ad 1 (j))) (tgt := 78) hx hb dX4_leftBehindCharges_51 (by decide) (fun h25 => ?_) (fun h25 => ?_)
            · skip
              rw [← ro_p (f := ad 1) (v := sg 102 i) (by omega), ← ro_p (f := ad 1) (v := j) (by omega)] at h25
              have h26 := (not_congr (wr_eq hR (k := 1) (a := sg 102 i) (b := j) (fun _ => (gd_1 hG (by omega))) (fun _ => (gd_1 hG (by omega))))).mp h25
              refine lv_iinc (v := iI (i + (1))) (lv' := [(7, .int (iI (i + (1)))), (8, .ref (ad 0 (i))), (0, .ref (ad 4 (0))), (1, .ref (ad 1 (j))), (2, .int (iI (land))), (3, .int (iI (bound))), (4, .int (iI (acc))), (5, .ref (ad 9 (0))), (6, .int (iI (24)))]) hx hb dX4_leftBehindCharges_78 hl (k := 8) rfl (iI_add _ _) (by decide) rfl (fun ls hl => ?_)
              refine lv_goto (tgt := 17) hx hb dX4_leftBehindCharges_81 (by decide) ?_
              exact ih (i + 1) acc (by omega) (by omega) (by rw [lefts_s hi0, ← hacc]; first | rw [if_pos (by omega)] | rw [if_neg (by omega)]) (by omega) ls (lv_sub hl [2, 3, 4, 5, 6, 7, 8, 0] rfl)
            · skip
              rw [← ro_p (f := ad 1) (v := sg 102 i) (by omega), ← ro_p (f := ad 1) (v := j) (by omega)] at h25
              have h27 := (wr_eq hR (k := 1) (a := sg 102 i) (b := j) (fun _ => (gd_1 hG (by omega))) (fun _ => (gd_1 hG (by omega)))).mp h25
              refine lv_aload hx hb dX4_leftBehindCharges_54 (lv_at hl 0 rfl) ?_
              refine xg_100 (v := sg 100 i) hx hb hw0 hown hK hR (gd_0 hG (by omega)) (hts _ kw_472) rfl dX4_leftBehindCharges_56 ?_
              have g28 := gn_100 hG (q := i) (by omega)
              have g29 := gr_503 hG 0
              refine lv_iload_n hx hb dX4_leftBehindCharges_59 rfl (lv_at hl 4 rfl) ?_
              refine xr_icmp_ge (tgt := 78) hx hb dX4_leftBehindCharges_60 (by decide) (by omega) (by omega) (fun h30 => ?_) (fun h30 => ?_)
              · skip
                refine lv_iinc (v := iI (i + (1))) (lv' := [(7, .int (iI (i + (1)))), (8, .ref (ad 0 (i))), (0, .ref (ad 4 (0))), (1, .ref (ad 1 (j))), (2, .int (iI (land))), (3, .int (iI (bound))), (4, .int (iI (acc))), (5, .ref (ad 9 (0))), (6, .int (iI (24)))]) hx hb dX4_leftBehindCharges_78 hl (k := 8) rfl (iI_add _ _) (by decide) rfl (fun ls hl => ?_)
                refine lv_goto (tgt := 17) hx hb dX4_leftBehindCharges_81 (by decide) ?_
                exact ih (i + 1) acc (by omega) (by omega) (by rw [lefts_s hi0, ← hacc]; first | rw [if_pos (by omega)] | rw [if_neg (by omega)]) (by omega) ls (lv_sub hl [2, 3, 4, 5, 6, 7, 8, 0] rfl)
              · skip
                refine lv_iload hx hb dX4_leftBehindCharges_63 (lv_at hl 5 rfl) ?_
                refine lv_iload hx hb dX4_leftBehindCharges_65 (lv_at hl 5 rfl) ?_
                refine lv_aload hx hb dX4_leftBehindCharges_67 (lv_at hl 0 rfl) ?_
                refine xg_105 (v := sg 105 i) hx hb hw0 hown hK hR (gd_0 hG (by omega)) (hts _ kw_482) rfl dX4_leftBehindCharges_69 ?_
                have g31 := gr_105 hG (i)
                refine xr_min (rest := [.int (iI (acc))]) hx hb (hml.trans hl.1.symm) hown (hts _ kw_393) (hts _ kw_394) (hts _ kw_12) (hts _ kw_395) (by decide) (by simp [rv_cat, cat_i, cat_l, cat_r, cat_n]) (Nat.le_of_ble_eq_true rfl) (Nat.le_of_ble_eq_true rfl) (by omega) (by omega) dX4_leftBehindCharges_72 ?_
                refine xr_isub hx hb dX4_leftBehindCharges_75 ?_
                refine lv_istore (i := 4) (lv' := [(4, .int (iI (acc - (mn acc (sg 105 i))))), (8, .ref (ad 0 (i))), (0, .ref (ad 4 (0))), (1, .ref (ad 1 (j))), (2, .int (iI (land))), (3, .int (iI (bound))), (5, .ref (ad 9 (0))), (6, .int (iI (24))), (7, .int (iI (i)))]) hx hb dX4_leftBehindCharges_76 hl (by decide) rfl (fun ls hl => ?_)
                refine lv_iinc (v := iI (i + (1))) (lv' := [(7, .int (iI (i + (1)))), (4, .int (iI (acc - (mn acc (sg 105 i))))), (8, .ref (ad 0 (i))), (0, .ref (ad 4 (0))), (1, .ref (ad 1 (j))), (2, .int (iI (land))), (3, .int (iI (bound))), (5, .ref (ad 9 (0))), (6, .int (iI (24)))]) hx hb dX4_leftBehindCharges_78 hl (k := 8) rfl (iI_add _ _) (by decide) rfl (fun ls hl => ?_)
                refine lv_goto (tgt := 17) hx hb dX4_leftBehindCharges_81 (by decide) ?_
                exact ih (i + 1) (acc - (mn acc (sg 105 i))) (by omega) (by omega) (by rw [lefts_s hi0, ← hacc]; first | rw [if_pos (by omega)] | rw [if_neg (by omega)]) (by omega) ls (lv_sub hl [3, 4, 5, 6, 1, 7, 8, 0] rfl)
        · skip
          rw [if_neg (by omega)] at q19
          rw [q19, rv_n (f := ad 0) (v := -1) (by decide)]
          refine lv_astoreN (i := 8) (lv' := [(8, .null), (0, .ref (ad 4 (0))), (1, .ref (ad 1 (j))), (2, .int (iI (land))), (3, .int (iI (bound))), (4, .int (iI (acc))), (5, .ref (ad 9 (0))), (6, .int (iI (24))), (7, .int (iI (i)))]) hx hb dX4_leftBehindCharges_29 hl (by decide) rfl (fun ls hl => ?_)
          refine lv_aloadN hx hb dX4_leftBehindCharges_31 (lv_at hl 0 rfl) ?_
          refine lv_ifnullN (tgt := 78) hx hb dX4_leftBehindCharges_33 (by decide) ?_
          refine lv_iinc (v := iI (i + (1))) (lv' := [(7, .int (iI (i + (1)))), (8, .null), (0, .ref (ad 4 (0))), (1, .ref (ad 1 (j))), (2, .int (iI (land))), (3, .int (iI (bound))), (4, .int (iI (acc))), (5, .ref (ad 9 (0))), (6, .int (iI (24)))]) hx hb dX4_leftBehindCharges_78 hl (k := 8) rfl (iI_add _ _) (by decide) rfl (fun ls hl => ?_)
          refine lv_goto (tgt := 17) hx hb dX4_leftBehindCharges_81 (by decide) ?_
          exact ih (i + 1) acc (by omega) (by omega) (by rw [lefts_s hi0, ← hacc]; first | rw [if_pos (by omega)] | rw [if_neg (by omega)]) (by omega) ls (lv_sub hl [2, 3, 4, 5, 6, 7, 8, 0] rfl)
  exact loop17 _ 0 land (by decide) (by decide) rfl (Nat.le_refl _) ls (lv_sub hl [4, 5, 6, 7, 3, 2, 1, 0] rfl)
theorem ms_X4_landOf : MSt yX4_landOf cX4_landOf 6 (some .int) 1 := ⟨kw_377, kw_376, kw_1, by decide, by decide, by decide +kernel⟩
set_option maxRecDepth 100000 in
set_option maxHeartbeats 4000000 in
theorem c_X4_landOf {l : Launch} {D : va_G} {cy : Nat → ClassId} {A : Nat → Prop} {ad : Nat → Int → Nat} {sg : Nat → Int → Int} {H : Heap} (hR : RC D cy A ad sg H) (hG : GC sg)  (v : Int) {x_v : Value} (hx_v : x_v = rv (ad 1) v) (h1 : v < 36) : Met l yX4_landOf (Cond.code yX4_landOf cX4_landOf 6 (some .int) :: wG) (rmF 2 41 0 0) (Pc D cy H [x_v]) (Qp (.int (iI (landO sg v)))) 0 0 Kn := by
  subst hx_v
  refine met_of (la := [(0, rv (ad 1) (v))]) (by decide) (by simp [lg_sl, rv_cat, cat_i, cat_l, cat_r, cat_n]) (by simp [lv_args, rv_cat, cat_i, cat_l, cat_r, cat_n]) ?_
  intro p e R s m args below meth c ls hRm hx hb hml hr hlk hin hown hts hsH hK hl
  subst hRm
  have hown : s.vm.findClass "Takinghall" = some m.cls := hown
  have hw1 : ∀ w ∈ u_ws RX1 TX1 11, w.before args s = true := fun w h => hts w (uw_X1 w h)
  have hw3 : ∀ w ∈ u_ws RX3 TX3 6, w.before args s = true := fun w h => hts w (uw_X3 w h)
  refine xr_aload_n hx hb dX4_landOf_0 rfl (lv_at hl 0 rfl) ?_
  refine xr_ifnonnull (tgt := 8) hx hb dX4_landOf_1 (by decide) (fun h1 => ?_) (fun h1 => ?_)
  · skip
    rw [rv_p h1] at hl
    refine lv_aload_n hx hb dX4_landOf_8 rfl (lv_at hl 0 rfl) ?_
    refine xg_204 (v := sg 204 v) hx hb hw1 hown hK hR (gd_1 hG (by omega)) (hts _ kw_42) rfl dX4_landOf_9 ?_
    have g2 := gp_204 hG (v)
    have g3 := gr_505 hG 0
    refine xr_astore_n (i := 1) (lv' := [(1, rv (ad 3) (sg 204 v)), (0, .ref (ad 1 (v)))]) hx hb dX4_landOf_12 rfl hl (by decide) rfl (fun ls hl => ?_)
    refine lv_aload_n hx hb dX4_landOf_13 rfl (lv_at hl 1 rfl) ?_
    refine lv_ifnull hx hb dX4_landOf_14 ?_
    refine xr_aload_n hx hb dX4_landOf_17 rfl (lv_at hl 0 rfl) ?_
    refine xr_ifnonnull (tgt := 23) hx hb dX4_landOf_18 (by decide) (fun h5 => ?_) (fun h5 => ?_)
    · skip
      rw [rv_p h5] at hl
      refine lv_aload_n hx hb dX4_landOf_23 rfl (lv_at hl 1 rfl) ?_
      refine lv_aload_n hx hb dX4_landOf_24 rfl (lv_at hl 1 rfl) ?_
      refine xg_207 (v := sg 207 v) hx hb hw1 hown hK hR (gd_1 hG (by omega)) (hts _ kw_46) rfl dX4_landOf_25 ?_
      have g6 := gp_207 hG (v)
      refine xk_pF (xr_S (As := [.ref (ad 1 (v)), rv (ad 2) (sg 207 v)]) (rest := []) hx hb hml hown hts hK (c_X4_worthBy hR hG v ((rv_p (by omega)).symm) (sg 207 v) (rfl) (by omega) (by omega)) ms_X4_worthBy kw_265 ⟨by decide, by decide⟩ ⟨by decide, by decide⟩ rfl rfl hl.1 rfl (lv_room (by decide)) dX4_landOf_28) ?_
      have g7 := worthB_rng hG (v) ((sg 207 v))
      refine lv_istore_n (i := 2) (lv' := [(2, .int (iI (worthB sg v (sg 207 v)))), (1, .ref (ad 3 (sg 204 v))), (0, .ref (ad 1 (v)))]) hx hb dX4_landOf_31 rfl hl (by decide) rfl (fun ls hl => ?_)
      refine lv_iload_n hx hb dX4_landOf_32 rfl (lv_at hl 0 rfl) ?_
      refine lv_aload_n hx hb dX4_landOf_33 rfl (lv_at hl 2 rfl) ?_
      refine xg_205 (v := sg 205 v) hx hb hw1 hown hK hR (gd_1 hG (by omega)) (hts _ kw_43) rfl dX4_landOf_34 ?_
      have g8 := gr_205 hG (v)
      have m1 := mul_rng (a := worthB sg v (sg 207 v)) (m := 100000) (b := sg 205 v) (n := 100) (by omega) (by omega)
      have m2 : worthB sg v (sg 207 v) * sg 205 v ≤ worthB sg v (sg 207 v) * 100 := Int.mul_le_mul_of_nonneg_left (by omega) (by omega)
      refine xk_pF (xr_S (As := [.int (iI (worthB sg v (sg 207 v))), .int (iI (sg 205 v))]) (rest := []) hx hb hml hown hts hK (c_X4_hundredths hR hG (worthB sg v (sg 207 v)) (sg 205 v) (by omega)) ms_X4_hundredths kw_276 ⟨by decide, by decide⟩ ⟨by decide, by decide⟩ rfl rfl hl.1 rfl (lv_room (by decide)) dX4_landOf_37) ?_
      refine lv_istore_n (i := 3) (lv' := [(3, .int (iI ((worthB sg v (sg 207 v)) * (sg 205 v) / 100))), (2, .int (iI (worthB sg v (sg 207 v)))), (1, .ref (ad 3 (sg 204 v))), (0, .ref (ad 1 (v)))]) hx hb dX4_landOf_40 rfl hl (by decide) rfl (fun ls hl => ?_)
      refine lv_iload_n hx hb dX4_landOf_41 rfl (lv_at hl 1 rfl) ?_
      refine lv_iload_n hx hb dX4_landOf_42 rfl (lv_at hl 0 rfl) ?_
      refine xr_isub hx hb dX4_landOf_43 ?_
      refine lv_istore (i := 4) (lv' := [(4, .int (iI ((worthB sg v (sg 207 v)) - ((worthB sg v (sg 207 v)) * (sg 205 v) / 100)))), (3, .int (iI ((worthB sg v (sg 207 v)) * (sg 205 v) / 100))), (2, .int (iI (worthB sg v (sg 207 v)))), (1, .ref (ad 3 (sg 204 v))), (0, .ref (ad 1 (v)))]) hx hb dX4_landOf_44 hl (by decide) rfl (fun ls hl => ?_)
      refine lv_iload_n hx hb dX4_landOf_46 rfl (lv_at hl 1 rfl) ?_
      refine lv_iload hx hb dX4_landOf_47 (lv_at hl 0 rfl) ?_
      refine lv_aload_n hx hb dX4_landOf_49 rfl (lv_at hl 3 rfl) ?_
      refine xg_401 (v := sg 401 (sg 204 v)) hx hb hw3 hown hK hR (gd_3 hG (by omega)) (hts _ kw_320) rfl dX4_landOf_50 ?_
      have g9 := gr_401 hG (sg 204 v)
      have m3 := mul_rng (a := worthB sg v (sg 207 v) - worthB sg v (sg 207 v) * sg 205 v / 100) (m := 100000) (b := sg 401 (sg 204 v)) (n := 50) (by omega) (by omega)
      refine xk_pF (xr_S (As := [.int (iI ((worthB sg v (sg 207 v)) - ((worthB sg v (sg 207 v)) * (sg 205 v) / 100))), .int (iI (sg 401 (sg 204 v)))]) (rest := [.int (iI ((worthB sg v (sg 207 v)) * (sg 205 v) / 100))]) hx hb hml hown hts hK (c_X4_hundredths hR hG ((worthB sg v (sg 207 v)) - ((worthB sg v (sg 207 v)) * (sg 205 v) / 100)) (sg 401 (sg 204 v)) (by omega)) ms_X4_hundredths kw_276 ⟨by decide, by decide⟩ ⟨by decide, by decide⟩ rfl rfl hl.1 rfl (lv_room (Nat.le_of_ble_eq_true rfl)) dX4_landOf_53) ?_
      refine xr_iadd hx hb dX4_landOf_56 ?_
      refine lv_iload hx hb dX4_landOf_57 (lv_at hl 0 rfl) ?_
      refine lv_aload_n hx hb dX4_landOf_59 rfl (lv_at hl 3 rfl) ?_
      refine xg_402 (v := sg 402 (sg 204 v)) hx hb hw3 hown hK hR (gd_3 hG (by omega)) (hts _ kw_322) rfl dX4_landOf_60 ?_
      have g10 := gr_402 hG (sg 204 v)
      have m4 := mul_rng (a := worthB sg v (sg 207 v) - worthB sg v (sg 207 v) * sg 205 v / 100) (m := 100000) (b := sg 402 (sg 204 v)) (n := 50) (by omega) (by omega)
      refine xk_pF (xr_S (As := [.int (iI ((worthB sg v (sg 207 v)) - ((worthB sg v (sg 207 v)) * (sg 205 v) / 100))), .int (iI (sg 402 (sg 204 v)))]) (rest := [.int (iI (((worthB sg v (sg 207 v)) * (sg 205 v) / 100) + (((worthB sg v (sg 207 v)) - ((worthB sg v (sg 207 v)) * (sg 205 v) / 100)) * (sg 401 (sg 204 v)) / 100)))]) hx hb hml hown hts hK (c_X4_hundredths hR hG ((worthB sg v (sg 207 v)) - ((worthB sg v (sg 207 v)) * (sg 205 v) / 100)) (sg 402 (sg 204 v)) (by omega)) ms_X4_hundredths kw_276 ⟨by decide, by decide⟩ ⟨by decide, by decide⟩ rfl rfl hl.1 rfl (lv_room (Nat.le_of_ble_eq_true rfl)) dX4_landOf_63) ?_
      refine xr_isub hx hb dX4_landOf_66 ?_
      refine lv_istore (i := 5) (lv' := [(5, .int (iI ((((worthB sg v (sg 207 v)) * (sg 205 v) / 100) + (((worthB sg v (sg 207 v)) - ((worthB sg v (sg 207 v)) * (sg 205 v) / 100)) * (sg 401 (sg 204 v)) / 100)) - (((worthB sg v (sg 207 v)) - ((worthB sg v (sg 207 v)) * (sg 205 v) / 100)) * (sg 402 (sg 204 v)) / 100)))), (4, .int (iI ((worthB sg v (sg 207 v)) - ((worthB sg v (sg 207 v)) * (sg 205 v) / 100)))), (3, .int (iI ((worthB sg v (sg 207 v)) * (sg 205 v) / 100))), (2, .int (iI (worthB sg v (sg 207 v)))), (1, .ref (ad 3 (sg 204 v))), (0, .ref (ad 1 (v)))]) hx hb dX4_landOf_67 hl (by decide) rfl (fun ls hl => ?_)
      refine lv_iconst (v := iI (0)) hx hb dX4_landOf_69 rfl ?_
      refine lv_iload hx hb dX4_landOf_70 (lv_at hl 0 rfl) ?_
      refine xr_max (rest := []) hx hb (hml.trans hl.1.symm) hown (hts _ kw_378) (hts _ kw_379) (hts _ kw_12) (hts _ kw_380) (by decide) (by simp [rv_cat, cat_i, cat_l, cat_r, cat_n]) (Nat.le_of_ble_eq_true rfl) (Nat.le_of_ble_eq_true rfl) (by omega) (by omega) dX4_landOf_72 ?_
      exact xe_i hx hb hr hlk hsH dX4_landOf_75 (by unfold landO; first | rw [if_pos (by omega)] | rw [if_neg (by omega), if_pos (by omega)] | rw [if_neg (by omega), if_neg (by omega)])
    · skip
      rw [rv_n h5] at hl
      refine lv_iconst (v := iI (0)) hx hb dX4_landOf_21 rfl ?_
      exact xe_i hx hb hr hlk hsH dX4_landOf_22 (by unfold landO; first | rw [if_pos (by omega)] | rw [if_neg (by omega), if_pos (by omega)] | rw [if_neg (by omega), if_neg (by omega)])
  · skip
    rw [rv_n h1] at hl
    refine lv_null hx hb dX4_landOf_4 ?_
    refine lv_goto (tgt := 12) hx hb dX4_landOf_5 (by decide) ?_
    refine lv_astore_nN (i := 1) (lv' := [(1, .null), (0, .null)]) hx hb dX4_landOf_12 rfl hl (by decide) rfl (fun ls hl => ?_)
    refine lv_aload_nN hx hb dX4_landOf_13 rfl (lv_at hl 1 rfl) ?_
    refine lv_ifnullN (tgt := 21) hx hb dX4_landOf_14 (by decide) ?_
    refine lv_iconst (v := iI (0)) hx hb dX4_landOf_21 rfl ?_
    exact xe_i hx hb hr hlk hsH dX4_landOf_22 (by unfold landO; first | rw [if_pos (by omega)] | rw [if_neg (by omega), if_pos (by omega)] | rw [if_neg (by omega), if_neg (by omega)])
theorem ms_X4_ownerSum : MVi RX4 yX4_ownerSum cX4_ownerSum 6 (some .int) 3 := ⟨kw_388, kw_387, kp_10, kw_1, rfl, by decide, by decide, by decide +kernel⟩
set_option maxRecDepth 100000 in
set_option maxHeartbeats 4000000 in
theorem c_X4_ownerSum {l : Launch} {D : va_G} {cy : Nat → ClassId} {A : Nat → Prop} {ad : Nat → Int → Nat} {sg : Nat → Int → Int} {H : Heap} (hR : RC D cy A ad sg H) (hG : GC sg)  (x : Int) (j : Int) (land : Int) (h0 : 0 ≤ x ∧ x < sg 503 0) (h1 : 0 ≤ j ∧ j < 36) (h2 : 0 ≤ land ∧ land ≤ 100000) (h3 : sg 101 x = 0) : Met l yX4_ownerSum (Cond.code yX4_ownerSum cX4_ownerSum 6 (some .int) :: wG) (rmF 2 68 0 0) (Pc D cy H [.ref (ad 4 (0)), .ref (ad 0 (x)), .ref (ad 1 (j)), .int (iI (land))]) (Qp (.int (iI (ownS sg x j land)))) 0 0 Kn := by
  refine met_of (la := [(0, .ref (ad 4 (0))), (1, .ref (ad 0 (x))), (2, .ref (ad 1 (j))), (3, .int (iI (land)))]) (by decide) (Nat.le_of_ble_eq_true rfl) rfl ?_
  intro p e R s m args below meth c ls hRm hx hb hml hr hlk hin hown hts hsH hK hl
  subst hRm
  have hown : s.vm.findClass "Takinghall" = some m.cls := hown
  have hw0 : ∀ w ∈ u_ws RX0 TX0 15, w.before args s = true := fun w h => hts w (uw_X0 w h)
  have hw1 : ∀ w ∈ u_ws RX1 TX1 11, w.before args s = true := fun w h => hts w (uw_X1 w h)
  refine lv_aload_n hx hb dX4_ownerSum_0 rfl (lv_at hl 1 rfl) ?_
  refine lv_ifnull hx hb dX4_ownerSum_1 ?_
  refine lv_aload_n hx hb dX4_ownerSum_4 rfl (lv_at hl 2 rfl) ?_
  refine lv_ifnonnull (tgt := 10) hx hb dX4_ownerSum_5 (by decide) ?_
  refine lv_aload_n hx hb dX4_ownerSum_10 rfl (lv_at hl 0 rfl) ?_
  refine lv_aload_n hx hb dX4_ownerSum_11 rfl (lv_at hl 2 rfl) ?_
  refine lv_iload_n hx hb dX4_ownerSum_12 rfl (lv_at hl 3 rfl) ?_
  refine lv_bipush (v := iI (24)) hx hb dX4_ownerSum_13 (by decide) ?_
  refine xk_pF (xr_V (As := [.ref (ad 1 (j)), .int (iI (land)), .int (iI (24))]) (rest := []) hx hb hml hown hts hK (c_X4_leftBehindCharges hR hG j land 24 (by omega) (by omega) (by omega)) ms_X4_leftBehindCharges kw_389 (wr_recv hK hR (gd_4 hG) rfl rfl) ⟨by decide, by decide⟩ ⟨by decide, by decide⟩ rfl rfl hl.1 rfl (lv_room (by decide)) dX4_ownerSum_15) ?_
  have g3 := leftB_rng hG (j) (24) (land := (land)) (by omega)
  refine lv_aload_n hx hb dX4_ownerSum_18 rfl (lv_at hl 1 rfl) ?_
  refine xg_105 (v := sg 105 x) hx hb hw0 hown hK hR (gd_0 hG (by omega)) (hts _ kw_482) rfl dX4_ownerSum_19 ?_
  have g4 := gr_105 hG (x)
  have m1 := gm_105 hG x h3
  have m2 := mul_rng (a := leftB sg j land 24) (m := 100000) (b := sg 105 x) (n := 100) (by omega) (by omega)
  refine xk_pF (xr_S (As := [.int (iI (leftB sg j land 24)), .int (iI (sg 105 x))]) (rest := []) hx hb hml hown hts hK (c_X4_hundredths hR hG (leftB sg j land 24) (sg 105 x) (by omega)) ms_X4_hundredths kw_276 ⟨by decide, by decide⟩ ⟨by decide, by decide⟩ rfl rfl hl.1 rfl (lv_room (by decide)) dX4_ownerSum_22) ?_
  refine lv_istore (i := 4) (lv' := [(4, .int (iI ((leftB sg j land 24) * (sg 105 x) / 100))), (0, .ref (ad 4 (0))), (1, .ref (ad 0 (x))), (2, .ref (ad 1 (j))), (3, .int (iI (land)))]) hx hb dX4_ownerSum_25 hl (by decide) rfl (fun ls hl => ?_)
  refine lv_aload_n hx hb dX4_ownerSum_27 rfl (lv_at hl 3 rfl) ?_
  refine xg_202 (v := sg 202 j) hx hb hw1 hown hK hR (gd_1 hG (by omega)) (hts _ kw_39) rfl dX4_ownerSum_28 ?_
  have g5 := gr_202 hG (j)
  refine lv_iconst (v := iI (1)) hx hb dX4_ownerSum_31 rfl ?_
  refine xr_icmp_ne (tgt := 63) hx hb dX4_ownerSum_32 (by decide) (by omega) (by omega) (fun h6 => ?_) (fun h6 => ?_)
  · skip
    refine lv_iconst (v := iI (0)) hx hb dX4_ownerSum_63 rfl ?_
    refine lv_istore (i := 5) (lv' := [(5, .int (iI (0))), (4, .int (iI ((leftB sg j land 24) * (sg 105 x) / 100))), (0, .ref (ad 4 (0))), (1, .ref (ad 0 (x))), (2, .ref (ad 1 (j))), (3, .int (iI (land)))]) hx hb dX4_ownerSum_64 hl (by decide) rfl (fun ls hl => ?_)
    refine lv_iload hx hb dX4_ownerSum_66 (lv_at hl 0 rfl) ?_
    refine xr_if_eq (tgt := 82) hx hb dX4_ownerSum_68 (by decide) (by decide) (fun _ => ?_) (fun h7 => absurd h7 (by decide))
    refine lv_iload hx hb dX4_ownerSum_82 (lv_at hl 1 rfl) ?_
    exact xe_i hx hb hr hlk hsH dX4_ownerSum_84 (by first | (exfalso; omega) | (unfold ownS; first | rw [if_pos (by omega)] | (rw [if_neg (by omega)]; omega)))
  · skip
    refine lv_aload_n hx hb dX4_ownerSum_35 rfl (lv_at hl 3 rfl) ?_
    refine xg_205 (v := sg 205 j) hx hb hw1 hown hK hR (gd_1 hG (by omega)) (hts _ kw_43) rfl dX4_ownerSum_36 ?_
    have g8 := gr_205 hG (j)
    refine lv_bipush (v := iI (100)) hx hb dX4_ownerSum_39 (by decide) ?_
    refine xr_icmp_ne (tgt := 63) hx hb dX4_ownerSum_41 (by decide) (by omega) (by omega) (fun h9 => ?_) (fun h9 => ?_)
    · skip
      refine lv_iconst (v := iI (0)) hx hb dX4_ownerSum_63 rfl ?_
      refine lv_istore (i := 5) (lv' := [(5, .int (iI (0))), (4, .int (iI ((leftB sg j land 24) * (sg 105 x) / 100))), (0, .ref (ad 4 (0))), (1, .ref (ad 0 (x))), (2, .ref (ad 1 (j))), (3, .int (iI (land)))]) hx hb dX4_ownerSum_64 hl (by decide) rfl (fun ls hl => ?_)
      refine lv_iload hx hb dX4_ownerSum_66 (lv_at hl 0 rfl) ?_
      refine xr_if_eq (tgt := 82) hx hb dX4_ownerSum_68 (by decide) (by decide) (fun _ => ?_) (fun h10 => absurd h10 (by decide))
      refine lv_iload hx hb dX4_ownerSum_82 (lv_at hl 1 rfl) ?_
      exact xe_i hx hb hr hlk hsH dX4_ownerSum_84 (by first | (exfalso; omega) | (unfold ownS; first | rw [if_pos (by omega)] | (rw [if_neg (by omega)]; omega)))
    · skip
      refine lv_aload_n hx hb dX4_ownerSum_44 rfl (lv_at hl 3 rfl) ?_
      refine xg_206 (v := sg 206 j) hx hb hw1 hown hK hR (gd_1 hG (by omega)) (hts _ kw_45) rfl dX4_ownerSum_45 ?_
      have g11 := gr_206 hG (j)
      refine lv_aload_n hx hb dX4_ownerSum_48 rfl (lv_at hl 2 rfl) ?_
      refine xg_104 (v := sg 104 x) hx hb hw0 hown hK hR (gd_0 hG (by omega)) (hts _ kw_480) rfl dX4_ownerSum_49 ?_
      have g12 := gr_104 hG (x)
      refine xr_isub hx hb dX4_ownerSum_52 ?_
      refine lv_sipush (v := iI (365)) hx hb dX4_ownerSum_53 (by decide) ?_
      refine xr_icmp_lt (tgt := 63) hx hb dX4_ownerSum_56 (by decide) (by omega) (by omega) (fun h13 => ?_) (fun h13 => ?_)
      · skip
        refine lv_iconst (v := iI (0)) hx hb dX4_ownerSum_63 rfl ?_
        refine lv_istore (i := 5) (lv' := [(5, .int (iI (0))), (4, .int (iI ((leftB sg j land 24) * (sg 105 x) / 100))), (0, .ref (ad 4 (0))), (1, .ref (ad 0 (x))), (2, .ref (ad 1 (j))), (3, .int (iI (land)))]) hx hb dX4_ownerSum_64 hl (by decide) rfl (fun ls hl => ?_)
        refine lv_iload hx hb dX4_ownerSum_66 (lv_at hl 0 rfl) ?_
        refine xr_if_eq (tgt := 82) hx hb dX4_ownerSum_68 (by decide) (by decide) (fun _ => ?_) (fun h14 => absurd h14 (by decide))
        refine lv_iload hx hb dX4_ownerSum_82 (lv_at hl 1 rfl) ?_
        exact xe_i hx hb hr hlk hsH dX4_ownerSum_84 (by first | (exfalso; omega) | (unfold ownS; first | rw [if_pos (by omega)] | (rw [if_neg (by omega)]; omega)))
      · skip
        refine lv_iconst (v := iI (1)) hx hb dX4_ownerSum_59 rfl ?_
        refine lv_goto (tgt := 64) hx hb dX4_ownerSum_60 (by decide) ?_
        refine lv_istore (i := 5) (lv' := [(5, .int (iI (1))), (4, .int (iI ((leftB sg j land 24) * (sg 105 x) / 100))), (0, .ref (ad 4 (0))), (1, .ref (ad 0 (x))), (2, .ref (ad 1 (j))), (3, .int (iI (land)))]) hx hb dX4_ownerSum_64 hl (by decide) rfl (fun ls hl => ?_)
        refine lv_iload hx hb dX4_ownerSum_66 (lv_at hl 0 rfl) ?_
        refine xr_if_eq (tgt := 82) hx hb dX4_ownerSum_68 (by decide) (by decide) (fun h15 => absurd h15 (by decide)) (fun _ => ?_)
        refine lv_iload hx hb dX4_ownerSum_71 (lv_at hl 1 rfl) ?_
        refine lv_iload hx hb dX4_ownerSum_73 (lv_at hl 1 rfl) ?_
        refine lv_bipush (v := iI (10)) hx hb dX4_ownerSum_75 (by decide) ?_
        refine xr_idiv hx hb dX4_ownerSum_77 (by omega) (by omega) ?_
        refine xr_iadd hx hb dX4_ownerSum_78 ?_
        refine lv_goto (tgt := 84) hx hb dX4_ownerSum_79 (by decide) ?_
        exact xe_i hx hb hr hlk hsH dX4_ownerSum_84 (by first | (exfalso; omega) | (unfold ownS; first | rw [if_pos (by omega)] | (rw [if_neg (by omega)]; omega)))
theorem ms_X4_leaseSum : MSt yX4_leaseSum cX4_leaseSum 3 (some .int) 2 := ⟨kw_398, kw_397, kw_1, by decide, by decide, by decide +kernel⟩
set_option maxRecDepth 100000 in
set_option maxHeartbeats 4000000 in
theorem c_X4_leaseSum {l : Launch} {D : va_G} {cy : Nat → ClassId} {A : Nat → Prop} {ad : Nat → Int → Nat} {sg : Nat → Int → Int} {H : Heap} (hR : RC D cy A ad sg H) (hG : GC sg)  (x : Int) (j : Int) (h0 : 0 ≤ x ∧ x < sg 503 0) (h1 : 0 ≤ j ∧ j < 36) (h3 : sg 101 x = 1) : Met l yX4_leaseSum (Cond.code yX4_leaseSum cX4_leaseSum 3 (some .int) :: wG) (rmF 1 40 0 0) (Pc D cy H [.ref (ad 0 (x)), .ref (ad 1 (j))]) (Qp (.int (iI (leaS sg x j)))) 0 0 Kn := by
  refine met_of (la := [(0, .ref (ad 0 (x))), (1, .ref (ad 1 (j)))]) (by decide) (Nat.le_of_ble_eq_true rfl) rfl ?_
  intro p e R s m args below meth c ls hRm hx hb hml hr hlk hin hown hts hsH hK hl
  subst hRm
  have hown : s.vm.findClass "Takinghall" = some m.cls := hown
  have hw0 : ∀ w ∈ u_ws RX0 TX0 15, w.before args s = true := fun w h => hts w (uw_X0 w h)
  have hw1 : ∀ w ∈ u_ws RX1 TX1 11, w.before args s = true := fun w h => hts w (uw_X1 w h)
  refine lv_aload_n hx hb dX4_leaseSum_0 rfl (lv_at hl 0 rfl) ?_
  refine lv_ifnull hx hb dX4_leaseSum_1 ?_
  refine lv_aload_n hx hb dX4_leaseSum_4 rfl (lv_at hl 1 rfl) ?_
  refine lv_ifnull hx hb dX4_leaseSum_5 ?_
  refine lv_aload_n hx hb dX4_leaseSum_8 rfl (lv_at hl 0 rfl) ?_
  refine lv_aload_n hx hb dX4_leaseSum_9 rfl (lv_at hl 1 rfl) ?_
  refine xg_206 (v := sg 206 j) hx hb hw1 hown hK hR (gd_1 hG (by omega)) (hts _ kw_45) rfl dX4_leaseSum_10 ?_
  have g3 := gr_206 hG (j)
  refine xk_pF (xr_S (As := [.ref (ad 0 (x)), .int (iI (sg 206 j))]) (rest := []) hx hb hml hown hts hK (c_X4_isOver hR hG x ((rv_p (by omega)).symm) (sg 206 j) (by omega) (by omega)) ms_X4_isOver kw_365 ⟨by decide, by decide⟩ ⟨by decide, by decide⟩ rfl rfl hl.1 rfl (lv_room (by decide)) dX4_leaseSum_13) ?_
  refine xr_ifb_eq (tgt := 21) hx hb dX4_leaseSum_16 (by decide) (fun h4 => ?_) (fun h4 => ?_)
  · skip
    refine lv_sipush (v := iI (730)) hx hb dX4_leaseSum_21 (by decide) ?_
    refine lv_aload_n hx hb dX4_leaseSum_24 rfl (lv_at hl 0 rfl) ?_
    refine xg_105 (v := sg 105 x) hx hb hw0 hown hK hR (gd_0 hG (by omega)) (hts _ kw_482) rfl dX4_leaseSum_25 ?_
    have g5 := gr_105 hG (x)
    refine lv_aload_n hx hb dX4_leaseSum_28 rfl (lv_at hl 1 rfl) ?_
    refine xg_206 (v := sg 206 j) hx hb hw1 hown hK hR (gd_1 hG (by omega)) (hts _ kw_45) rfl dX4_leaseSum_29 ?_
    refine xr_isub hx hb dX4_leaseSum_32 ?_
    refine xr_min (rest := []) hx hb (hml.trans hl.1.symm) hown (hts _ kw_393) (hts _ kw_394) (hts _ kw_12) (hts _ kw_395) (by decide) (by simp [rv_cat, cat_i, cat_l, cat_r, cat_n]) (Nat.le_of_ble_eq_true rfl) (Nat.le_of_ble_eq_true rfl) (by omega) (by omega) dX4_leaseSum_33 ?_
    refine lv_istore_n (i := 2) (lv' := [(2, .int (iI (mn 730 ((sg 105 x) - (sg 206 j))))), (0, .ref (ad 0 (x))), (1, .ref (ad 1 (j)))]) hx hb dX4_leaseSum_36 rfl hl (by decide) rfl (fun ls hl => ?_)
    refine lv_aload_n hx hb dX4_leaseSum_37 rfl (lv_at hl 2 rfl) ?_
    refine xg_202 (v := sg 202 j) hx hb hw1 hown hK hR (gd_1 hG (by omega)) (hts _ kw_39) rfl dX4_leaseSum_38 ?_
    have g6 := gr_202 hG (j)
    refine lv_iconst (v := iI (2)) hx hb dX4_leaseSum_41 rfl ?_
    refine xr_icmp_ne (tgt := 52) hx hb dX4_leaseSum_42 (by decide) (by omega) (by omega) (fun h7 => ?_) (fun h7 => ?_)
    · skip
      refine lv_iload_n hx hb dX4_leaseSum_52 rfl (lv_at hl 0 rfl) ?_
      refine lv_aload_n hx hb dX4_leaseSum_53 rfl (lv_at hl 1 rfl) ?_
      refine xg_106 (v := sg 106 x) hx hb hw0 hown hK hR (gd_0 hG (by omega)) (hts _ kw_484) rfl dX4_leaseSum_54 ?_
      have g8 := gr_106 hG (x)
      refine xr_imul hx hb dX4_leaseSum_57 ?_
      exact xe_i hx hb hr hlk hsH dX4_leaseSum_58 (by unfold overO at *; unfold leaS; first | rw [if_pos (by omega)] | (rw [if_neg (by omega)]; first | rw [if_pos (by omega)] | rw [if_neg (by omega), Int.add_zero]))
    · skip
      refine lv_iload_n hx hb dX4_leaseSum_45 rfl (lv_at hl 0 rfl) ?_
      refine lv_bipush (v := iI (90)) hx hb dX4_leaseSum_46 (by decide) ?_
      refine xr_iadd hx hb dX4_leaseSum_48 ?_
      refine lv_goto (tgt := 53) hx hb dX4_leaseSum_49 (by decide) ?_
      refine lv_aload_n hx hb dX4_leaseSum_53 rfl (lv_at hl 1 rfl) ?_
      refine xg_106 (v := sg 106 x) hx hb hw0 hown hK hR (gd_0 hG (by omega)) (hts _ kw_484) rfl dX4_leaseSum_54 ?_
      have g9 := gr_106 hG (x)
      refine xr_imul hx hb dX4_leaseSum_57 ?_
      exact xe_i hx hb hr hlk hsH dX4_leaseSum_58 (by unfold overO at *; unfold leaS; first | rw [if_pos (by omega)] | (rw [if_neg (by omega)]; first | rw [if_pos (by omega)] | rw [if_neg (by omega), Int.add_zero]))
  · skip
    refine lv_iconst (v := iI (0)) hx hb dX4_leaseSum_19 rfl ?_
    exact xe_i hx hb hr hlk hsH dX4_leaseSum_20 (by unfold overO at *; unfold leaS; first | rw [if_pos (by omega)] | (rw [if_neg (by omega)]; first | rw [if_pos (by omega)] | rw [if_neg (by omega), Int.add_zero]))
theorem ms_X4_sumBy : MVi RX4 yX4_sumBy cX4_sumBy 3 (some .long) 2 := ⟨kw_384, kw_383, kp_9, kw_1, rfl, by decide, by decide, by decide +kernel⟩
set_option maxRecDepth 100000 in
set_option maxHeartbeats 4000000 in
theorem c_X4_sumBy {l : Launch} {D : va_G} {cy : Nat → ClassId} {A : Nat → Prop} {ad : Nat → Int → Nat} {sg : Nat → Int → Int} {H : Heap} (hR : RC D cy A ad sg H) (hG : GC sg)  (x : Int) (land : Int) (h0 : 0 ≤ x ∧ x < sg 503 0) (h2 : 0 ≤ land ∧ land ≤ 100000) : Met l yX4_sumBy (Cond.code yX4_sumBy cX4_sumBy 3 (some .long) :: wG) (rmF 3 93 0 0) (Pc D cy H [.ref (ad 4 (0)), .ref (ad 0 (x)), .int (iI (land))]) (Qp (.long (lI (sumB sg x land)))) 0 0 Kn := by
  refine met_of (la := [(0, .ref (ad 4 (0))), (1, .ref (ad 0 (x))), (2, .int (iI (land)))]) (by decide) (Nat.le_of_ble_eq_true rfl) rfl ?_
  intro p e R s m args below meth c ls hRm hx hb hml hr hlk hin hown hts hsH hK hl
  subst hRm
  have hown : s.vm.findClass "Takinghall" = some m.cls := hown
  have hw0 : ∀ w ∈ u_ws RX0 TX0 15, w.before args s = true := fun w h => hts w (uw_X0 w h)
  refine lv_aload_n hx hb dX4_sumBy_0 rfl (lv_at hl 1 rfl) ?_
  refine lv_ifnull hx hb dX4_sumBy_1 ?_
  refine lv_aload_n hx hb dX4_sumBy_4 rfl (lv_at hl 1 rfl) ?_
  refine xg_102 (v := sg 102 x) hx hb hw0 hown hK hR (gd_0 hG (by omega)) (hts _ kw_476) rfl dX4_sumBy_5 ?_
  have g2 := gr_102 hG (x)
  rw [rv_p (f := ad 1) (v := sg 102 x) (by omega)]
  refine lv_ifnonnull (tgt := 13) hx hb dX4_sumBy_8 (by decide) ?_
  refine lv_aload_n hx hb dX4_sumBy_13 rfl (lv_at hl 1 rfl) ?_
  refine xg_101 (v := sg 101 x) hx hb hw0 hown hK hR (gd_0 hG (by omega)) (hts _ kw_474) rfl dX4_sumBy_14 ?_
  have g4 := gr_101 hG (x)
  rcases (show sg 101 x = 0 ∨ sg 101 x = 1 ∨ sg 101 x = 2 by omega) with h5 | h5 | h5
  · skip
    rw [h5]
    refine lv_lookup (tgt := 44) (off := 27) hx hb dX4_sumBy_17 (by decide) (by decide) (by decide) ?_
    refine lv_aload_n hx hb dX4_sumBy_44 rfl (lv_at hl 0 rfl) ?_
    refine lv_aload_n hx hb dX4_sumBy_45 rfl (lv_at hl 1 rfl) ?_
    refine lv_aload_n hx hb dX4_sumBy_46 rfl (lv_at hl 1 rfl) ?_
    refine xg_102 (v := sg 102 x) hx hb hw0 hown hK hR (gd_0 hG (by omega)) (hts _ kw_476) rfl dX4_sumBy_47 ?_
    rw [rv_p (f := ad 1) (v := sg 102 x) (by omega)]
    refine lv_iload_n hx hb dX4_sumBy_50 rfl (lv_at hl 2 rfl) ?_
    refine xk_pF (xr_V (As := [.ref (ad 0 (x)), .ref (ad 1 (sg 102 x)), .int (iI (land))]) (rest := []) hx hb hml hown hts hK (c_X4_ownerSum hR hG x (sg 102 x) land (by omega) (by omega) (by omega) (by omega)) ms_X4_ownerSum kw_385 (wr_recv hK hR (gd_4 hG) rfl rfl) ⟨by decide, by decide⟩ ⟨by decide, by decide⟩ rfl rfl hl.1 rfl (lv_room (by decide)) dX4_sumBy_51) ?_
    have g6 := ownS_rng hG (x := (x)) (v := ((sg 102 x))) (land := (land)) (by omega) (by omega)
    refine xr_i2l hx hb dX4_sumBy_54 (by omega) ?_
    exact xe_l hx hb hr hlk hsH dX4_sumBy_55 (by unfold sumB; first | rw [if_pos (by omega)] | rw [if_neg (by omega), if_pos (by omega)] | rw [if_neg (by omega), if_neg (by omega), gn_100 hG h0])
  · skip
    rw [h5]
    refine lv_lookup (tgt := 56) (off := 39) hx hb dX4_sumBy_17 (by decide) (by decide) (by decide) ?_
    refine lv_aload_n hx hb dX4_sumBy_56 rfl (lv_at hl 1 rfl) ?_
    refine lv_aload_n hx hb dX4_sumBy_57 rfl (lv_at hl 1 rfl) ?_
    refine xg_102 (v := sg 102 x) hx hb hw0 hown hK hR (gd_0 hG (by omega)) (hts _ kw_476) rfl dX4_sumBy_58 ?_
    rw [rv_p (f := ad 1) (v := sg 102 x) (by omega)]
    refine xk_pF (xr_S (As := [.ref (ad 0 (x)), .ref (ad 1 (sg 102 x))]) (rest := []) hx hb hml hown hts hK (c_X4_leaseSum hR hG x (sg 102 x) (by omega) (by omega) (by omega)) ms_X4_leaseSum kw_396 ⟨by decide, by decide⟩ ⟨by decide, by decide⟩ rfl rfl hl.1 rfl (lv_room (by decide)) dX4_sumBy_61) ?_
    have g7 := leaS_rng hG (x := (x)) (v := ((sg 102 x))) (by omega)
    refine xr_i2l hx hb dX4_sumBy_64 (by omega) ?_
    exact xe_l hx hb hr hlk hsH dX4_sumBy_65 (by unfold sumB; first | rw [if_pos (by omega)] | rw [if_neg (by omega), if_pos (by omega)] | rw [if_neg (by omega), if_neg (by omega), gn_100 hG h0])
  · skip
    rw [h5]
    refine lv_lookup (tgt := 66) (off := 49) hx hb dX4_sumBy_17 (by decide) (by decide) (by decide) ?_
    refine lv_aload_n hx hb dX4_sumBy_66 rfl (lv_at hl 1 rfl) ?_
    refine xg_105 (v := sg 105 x) hx hb hw0 hown hK hR (gd_0 hG (by omega)) (hts _ kw_482) rfl dX4_sumBy_67 ?_
    have g8 := gr_105 hG (x)
    refine lv_aload_n hx hb dX4_sumBy_70 rfl (lv_at hl 0 rfl) ?_
    refine lv_aload_n hx hb dX4_sumBy_71 rfl (lv_at hl 1 rfl) ?_
    refine xg_102 (v := sg 102 x) hx hb hw0 hown hK hR (gd_0 hG (by omega)) (hts _ kw_476) rfl dX4_sumBy_72 ?_
    rw [rv_p (f := ad 1) (v := sg 102 x) (by omega)]
    refine lv_iload_n hx hb dX4_sumBy_75 rfl (lv_at hl 2 rfl) ?_
    refine lv_aload_n hx hb dX4_sumBy_76 rfl (lv_at hl 1 rfl) ?_
    have g503 := gr_503 hG 0
    refine xg_100 (v := sg 100 x) hx hb hw0 hown hK hR (gd_0 hG (by omega)) (hts _ kw_472) rfl dX4_sumBy_77 ?_
    have g9 := gn_100 hG (q := x) (by omega)
    have g10 := gr_503 hG 0
    refine xk_pF (xr_V (As := [.ref (ad 1 (sg 102 x)), .int (iI (land)), .int (iI (sg 100 x))]) (rest := [.int (iI (sg 105 x))]) hx hb hml hown hts hK (c_X4_leftBehindCharges hR hG (sg 102 x) land (sg 100 x) (by omega) (by omega) (by omega)) ms_X4_leftBehindCharges kw_389 (wr_recv hK hR (gd_4 hG) rfl rfl) ⟨by decide, by decide⟩ ⟨by decide, by decide⟩ rfl rfl hl.1 rfl (lv_room (Nat.le_of_ble_eq_true rfl)) dX4_sumBy_80) ?_
    have g11 := leftB_rng hG ((sg 102 x)) ((sg 100 x)) (land := (land)) (by omega)
    refine xr_min (rest := []) hx hb (hml.trans hl.1.symm) hown (hts _ kw_393) (hts _ kw_394) (hts _ kw_12) (hts _ kw_395) (by decide) (by simp [rv_cat, cat_i, cat_l, cat_r, cat_n]) (Nat.le_of_ble_eq_true rfl) (Nat.le_of_ble_eq_true rfl) (by omega) (by omega) dX4_sumBy_83 ?_
    refine xr_i2l hx hb dX4_sumBy_86 (by unfold mn; split <;> omega) ?_
    exact xe_l hx hb hr hlk hsH dX4_sumBy_87 (by unfold sumB; first | rw [if_pos (by omega)] | rw [if_neg (by omega), if_pos (by omega)] | rw [if_neg (by omega), if_neg (by omega), gn_100 hG h0])
theorem ms_X4_leftForCourt : MVi RX4 yX4_leftForCourt cX4_leftForCourt 9 (some .int) 2 := ⟨kw_596, kw_595, kp_22, kw_1, rfl, by decide, by decide, by decide +kernel⟩
set_option maxRecDepth 100000 in
set_option maxHeartbeats 4000000 in
theorem c_X4_leftForCourt {l : Launch} {D : va_G} {cy : Nat → ClassId} {A : Nat → Prop} {ad : Nat → Int → Nat} {sg : Nat → Int → Int} {H : Heap} (hR : RC D cy A ad sg H) (hG : GC sg)  (j : Int) (land : Int) (h1 : 0 ≤ j ∧ j < 36) (h2 : 0 ≤ land ∧ land ≤ 100000) : Met l yX4_leftForCourt (Cond.code yX4_leftForCourt cX4_leftForCourt 9 (some .int) :: wG) (rmF 2 68 0 0) (Pc D cy H [.ref (ad 4 (0)), .ref (ad 1 (j)), .int (iI (land))]) (Qp (.int (iI (courtL sg j land)))) 0 0 Kn := by
  refine met_of (la := [(0, .ref (ad 4 (0))), (1, .ref (ad 1 (j))), (2, .int (iI (land)))]) (by decide) (Nat.le_of_ble_eq_true rfl) rfl ?_
  intro p e R s m args below meth c ls hRm hx hb hml hr hlk hin hown hts hsH hK hl
  subst hRm
  have hown : s.vm.findClass "Takinghall" = some m.cls := hown
  have hw0 : ∀ w ∈ u_ws RX0 TX0 15, w.before args s = true := fun w h => hts w (uw_X0 w h)
  have hw4 : ∀ w ∈ u_ws RX4 TX4 12, w.before args s = true := fun w h => hts w (uw_X4 w h)
  have g503 := gr_503 hG 0
  refine lv_aload_n hx hb dX4_leftForCourt_0 rfl (lv_at hl 0 rfl) ?_
  refine lv_aload_n hx hb dX4_leftForCourt_1 rfl (lv_at hl 1 rfl) ?_
  refine lv_iload_n hx hb dX4_leftForCourt_2 rfl (lv_at hl 2 rfl) ?_
  refine lv_bipush (v := iI (24)) hx hb dX4_leftForCourt_3 (by decide) ?_
  refine xk_pF (xr_V (As := [.ref (ad 1 (j)), .int (iI (land)), .int (iI (24))]) (rest := []) hx hb hml hown hts hK (c_X4_leftBehindCharges hR hG j land 24 (by omega) (by omega) (by omega)) ms_X4_leftBehindCharges kw_389 (wr_recv hK hR (gd_4 hG) rfl rfl) ⟨by decide, by decide⟩ ⟨by decide, by decide⟩ rfl rfl hl.1 rfl (lv_room (by decide)) dX4_leftForCourt_5) ?_
  have g1 := leftB_rng hG (j) (24) (land := (land)) (by omega)
  refine lv_istore_n (i := 3) (lv' := [(3, .int (iI (leftB sg j land 24))), (0, .ref (ad 4 (0))), (1, .ref (ad 1 (j))), (2, .int (iI (land)))]) hx hb dX4_leftForCourt_8 rfl hl (by decide) rfl (fun ls hl => ?_)
  refine lv_iload_n hx hb dX4_leftForCourt_9 rfl (lv_at hl 0 rfl) ?_
  refine lv_istore (i := 4) (lv' := [(4, .int (iI (leftB sg j land 24))), (3, .int (iI (leftB sg j land 24))), (0, .ref (ad 4 (0))), (1, .ref (ad 1 (j))), (2, .int (iI (land)))]) hx hb dX4_leftForCourt_10 hl (by decide) rfl (fun ls hl => ?_)
  refine lv_aload_n hx hb dX4_leftForCourt_12 rfl (lv_at hl 2 rfl) ?_
  refine xg_502 (v := sg 502 0) hx hb hw4 hown hK hR (gd_4 hG) (hts _ kw_93) rfl dX4_leftForCourt_13 ?_
  have g2 := gh_502 hG (0)
  have q3 : sg 502 0 = 0 := gh_502 hG _
  rw [q3, rv_p (Int.le_refl 0)]
  refine lv_astore (i := 5) (lv' := [(5, .ref (ad 9 (0))), (4, .int (iI (leftB sg j land 24))), (3, .int (iI (leftB sg j land 24))), (0, .ref (ad 4 (0))), (1, .ref (ad 1 (j))), (2, .int (iI (land)))]) hx hb dX4_leftForCourt_16 hl (by decide) rfl (fun ls hl => ?_)
  refine lv_aload hx hb dX4_leftForCourt_18 (lv_at hl 0 rfl) ?_
  refine xl_600 hx hb hK hR (gd_9 hG) dX4_leftForCourt_20 ?_
  refine lv_istore (i := 6) (lv' := [(6, .int (iI (24))), (5, .ref (ad 9 (0))), (4, .int (iI (leftB sg j land 24))), (3, .int (iI (leftB sg j land 24))), (0, .ref (ad 4 (0))), (1, .ref (ad 1 (j))), (2, .int (iI (land)))]) hx hb dX4_leftForCourt_21 hl (by decide) rfl (fun ls hl => ?_)
  refine lv_iconst (v := iI (0)) hx hb dX4_leftForCourt_23 rfl ?_
  refine lv_istore (i := 7) (lv' := [(7, .int (iI (0))), (6, .int (iI (24))), (5, .ref (ad 9 (0))), (4, .int (iI (leftB sg j land 24))), (3, .int (iI (leftB sg j land 24))), (0, .ref (ad 4 (0))), (1, .ref (ad 1 (j))), (2, .int (iI (land)))]) hx hb dX4_leftForCourt_24 hl (by decide) rfl (fun ls hl => ?_)
  have loop26 : ∀ (n : Nat) (i : Int) (acc : Int), 0 ≤ i → i ≤ 24 → acc = courtN sg j land (i.toNat) → (24 - i).toNat ≤ n → ∀ ls : Array Slot, lv_has ls 9 [(0, .ref (ad 4 (0))), (1, .ref (ad 1 (j))), (2, .int (iI (land))), (3, .int (iI (leftB sg j land 24))), (4, .int (iI (acc))), (5, .ref (ad 9 (0))), (6, .int (iI (24))), (7, .int (iI (i)))] → W p l e (rmF 2 68 0 0) s m args below meth c H [] 0 0 (MQ below (Qp (.int (iI (courtL sg j land)))) args s 0 0 Kn) (F0 m 26 ls []) := by
    intro n
    induction n with
    | zero =>
      intro i acc hi0 hi1 hacc hn ls hl
      refine lv_iload hx hb dX4_leftForCourt_26 (lv_at hl 7 rfl) ?_
      refine lv_iload hx hb dX4_leftForCourt_28 (lv_at hl 6 rfl) ?_
      refine xr_icmp_ge (tgt := 82) hx hb dX4_leftForCourt_30 (by decide) (by omega) (by omega) (fun h4 => ?_) (fun h4 => ?_)
      · skip
        refine lv_iload hx hb dX4_leftForCourt_82 (lv_at hl 4 rfl) ?_
        exact xe_i hx hb hr hlk hsH dX4_leftForCourt_84 (by have e : i = 24 := (by omega); subst e; exact hacc)
      · skip
        refine lv_aload hx hb dX4_leftForCourt_33 (lv_at hl 5 rfl) ?_
        refine lv_iload hx hb dX4_leftForCourt_35 (lv_at hl 7 rfl) ?_
        refine xa_600 (v := sg 600 i) hx hb hK hR (gd_9 hG) (by omega) rfl dX4_leftForCourt_37 ?_
        have q5 := ga_600 hG (q := i) (by omega)
        rcases (show i < sg 503 0 ∨ sg 503 0 ≤ i by omega) with i6 | i6
        · skip
          rw [if_pos i6] at q5
          rw [q5, rv_p (f := ad 0) (v := i) (by omega)]
          refine lv_astore (i := 8) (lv' := [(8, .ref (ad 0 (i))), (0, .ref (ad 4 (0))), (1, .ref (ad 1 (j))), (2, .int (iI (land))), (3, .int (iI (leftB sg j land 24))), (4, .int (iI (acc))), (5, .ref (ad 9 (0))), (6, .int (iI (24))), (7, .int (iI (i)))]) hx hb dX4_leftForCourt_38 hl (by decide) rfl (fun ls hl => ?_)
          refine lv_aload hx hb dX4_leftForCourt_40 (lv_at hl 0 rfl) ?_
          refine lv_ifnull hx hb dX4_leftForCourt_42 ?_
          refine lv_aload hx hb dX4_leftForCourt_45 (lv_at hl 0 rfl) ?_
          refine xg_101 (v := sg 101 i) hx hb hw0 hown hK hR (gd_0 hG (by omega)) (hts _ kw_474) rfl dX4_leftForCourt_47 ?_
          have g8 := gr_101 hG (i)
          refine xr_if_ne (tgt := 76) hx hb dX4_leftForCourt_50 (by decide) (by omega) (fun h9 => ?_) (fun h9 => ?_)
          · skip
            refine lv_iinc (v := iI (i + (1))) (lv' := [(7, .int (iI (i + (1)))), (8, .ref (ad 0 (i))), (0, .ref (ad 4 (0))), (1, .ref (ad 1 (j))), (2, .int (iI (land))), (3, .int (iI (leftB sg j land 24))), (4, .int (iI (acc))), (5, .ref (ad 9 (0))), (6, .int (iI (24)))]) hx hb dX4_leftForCourt_76 hl (k := 8) rfl (iI_add _ _) (by decide) rfl (fun ls hl => ?_)
            refine lv_goto (tgt := 26) hx hb dX4_leftForCourt_79 (by decide) ?_
            exact absurd hn (by omega)
          · skip
            refine lv_aload hx hb dX4_leftForCourt_53 (lv_at hl 0 rfl) ?_
            refine xg_102 (v := sg 102 i) hx hb hw0 hown hK hR (gd_0 hG (by omega)) (hts _ kw_476) rfl dX4_leftForCourt_55 ?_
            have g10 := gr_102 hG (i)
            rw [rv_p (f := ad 1) (v := sg 102 i) (by omega)]
            refine lv_aload_n hx hb dX4_leftForCourt_58 rfl (lv_at hl 2 rfl) ?_
            refine lv_acmp_ne (rx := some (ad 1 (sg 102 i))) (ry := some (ad 1 (j))) (tgt := 76) hx hb dX4_leftForCourt_59 (by decide) (fun h11 => ?_) (fun h11 => ?_)
            · skip
              rw [← ro_p (f := ad 1) (v := sg 102 i) (by omega), ← ro_p (f := ad 1) (v := j) (by omega)] at h11
              have h12 := (not_congr (wr_eq hR (k := 1) (a := sg 102 i) (b := j) (fun _ => (gd_1 hG (by omega))) (fun _ => (gd_1 hG (by omega))))).mp h11
              refine lv_iinc (v := iI (i + (1))) (lv' := [(7, .int (iI (i + (1)))), (8, .ref (ad 0 (i))), (0, .ref (ad 4 (0))), (1, .ref (ad 1 (j))), (2, .int (iI (land))), (3, .int (iI (leftB sg j land 24))), (4, .int (iI (acc))), (5, .ref (ad 9 (0))), (6, .int (iI (24)))]) hx hb dX4_leftForCourt_76 hl (k := 8) rfl (iI_add _ _) (by decide) rfl (fun ls hl => ?_)
              refine lv_goto (tgt := 26) hx hb dX4_leftForCourt_79 (by decide) ?_
              exact absurd hn (by omega)
            · skip
              rw [← ro_p (f := ad 1) (v := sg 102 i) (by omega), ← ro_p (f := ad 1) (v := j) (by omega)] at h11
              have h13 := (wr_eq hR (k := 1) (a := sg 102 i) (b := j) (fun _ => (gd_1 hG (by omega))) (fun _ => (gd_1 hG (by omega)))).mp h11
              refine lv_iload hx hb dX4_leftForCourt_62 (lv_at hl 5 rfl) ?_
              refine lv_iload_n hx hb dX4_leftForCourt_64 rfl (lv_at hl 4 rfl) ?_
              refine lv_aload hx hb dX4_leftForCourt_65 (lv_at hl 0 rfl) ?_
              refine xg_105 (v := sg 105 i) hx hb hw0 hown hK hR (gd_0 hG (by omega)) (hts _ kw_482) rfl dX4_leftForCourt_67 ?_
              have g14 := gr_105 hG (i)
              have m1 := gm_105 hG i (by omega)
              have m2 := mul_rng (a := leftB sg j land 24) (m := 100000) (b := sg 105 i) (n := 100) (by omega) (by omega)
              refine xk_pF (xr_S (As := [.int (iI (leftB sg j land 24)), .int (iI (sg 105 i))]) (rest := [.int (iI (acc))]) hx hb hml hown hts hK (c_X4_hundredths hR hG (leftB sg j land 24) (sg 105 i) (by omega)) ms_X4_hundredths kw_276 ⟨by decide, by decide⟩ ⟨by decide, by decide⟩ rfl rfl hl.1 rfl (lv_room (Nat.le_of_ble_eq_true rfl)) dX4_leftForCourt_70) ?_
              refine xr_isub hx hb dX4_leftForCourt_73 ?_
              refine lv_istore (i := 4) (lv' := [(4, .int (iI (acc - ((leftB sg j land 24) * (sg 105 i) / 100)))), (8, .ref (ad 0 (i))), (0, .ref (ad 4 (0))), (1, .ref (ad 1 (j))), (2, .int (iI (land))), (3, .int (iI (leftB sg j land 24))), (5, .ref (ad 9 (0))), (6, .int (iI (24))), (7, .int (iI (i)))]) hx hb dX4_leftForCourt_74 hl (by decide) rfl (fun ls hl => ?_)
              refine lv_iinc (v := iI (i + (1))) (lv' := [(7, .int (iI (i + (1)))), (4, .int (iI (acc - ((leftB sg j land 24) * (sg 105 i) / 100)))), (8, .ref (ad 0 (i))), (0, .ref (ad 4 (0))), (1, .ref (ad 1 (j))), (2, .int (iI (land))), (3, .int (iI (leftB sg j land 24))), (5, .ref (ad 9 (0))), (6, .int (iI (24)))]) hx hb dX4_leftForCourt_76 hl (k := 8) rfl (iI_add _ _) (by decide) rfl (fun ls hl => ?_)
              refine lv_goto (tgt := 26) hx hb dX4_leftForCourt_79 (by decide) ?_
              exact absurd hn (by omega)
        · skip
          rw [if_neg (by omega)] at q5
          rw [q5, rv_n (f := ad 0) (v := -1) (by decide)]
          refine lv_astoreN (i := 8) (lv' := [(8, .null), (0, .ref (ad 4 (0))), (1, .ref (ad 1 (j))), (2, .int (iI (land))), (3, .int (iI (leftB sg j land 24))), (4, .int (iI (acc))), (5, .ref (ad 9 (0))), (6, .int (iI (24))), (7, .int (iI (i)))]) hx hb dX4_leftForCourt_38 hl (by decide) rfl (fun ls hl => ?_)
          refine lv_aloadN hx hb dX4_leftForCourt_40 (lv_at hl 0 rfl) ?_
          refine lv_ifnullN (tgt := 76) hx hb dX4_leftForCourt_42 (by decide) ?_
          refine lv_iinc (v := iI (i + (1))) (lv' := [(7, .int (iI (i + (1)))), (8, .null), (0, .ref (ad 4 (0))), (1, .ref (ad 1 (j))), (2, .int (iI (land))), (3, .int (iI (leftB sg j land 24))), (4, .int (iI (acc))), (5, .ref (ad 9 (0))), (6, .int (iI (24)))]) hx hb dX4_leftForCourt_76 hl (k := 8) rfl (iI_add _ _) (by decide) rfl (fun ls hl => ?_)
          refine lv_goto (tgt := 26) hx hb dX4_leftForCourt_79 (by decide) ?_
          exact absurd hn (by omega)
    | succ n ih =>
      intro i acc hi0 hi1 hacc hn ls hl
      refine lv_iload hx hb dX4_leftForCourt_26 (lv_at hl 7 rfl) ?_
      refine lv_iload hx hb dX4_leftForCourt_28 (lv_at hl 6 rfl) ?_
      refine xr_icmp_ge (tgt := 82) hx hb dX4_leftForCourt_30 (by decide) (by omega) (by omega) (fun h16 => ?_) (fun h16 => ?_)
      · skip
        refine lv_iload hx hb dX4_leftForCourt_82 (lv_at hl 4 rfl) ?_
        exact xe_i hx hb hr hlk hsH dX4_leftForCourt_84 (by have e : i = 24 := (by omega); subst e; exact hacc)
      · skip
        refine lv_aload hx hb dX4_leftForCourt_33 (lv_at hl 5 rfl) ?_
        refine lv_iload hx hb dX4_leftForCourt_35 (lv_at hl 7 rfl) ?_
        refine xa_600 (v := sg 600 i) hx hb hK hR (gd_9 hG) (by omega) rfl dX4_leftForCourt_37 ?_
        have q17 := ga_600 hG (q := i) (by omega)
        rcases (show i < sg 503 0 ∨ sg 503 0 ≤ i by omega) with i18 | i18
        · skip
          rw [if_pos i18] at q17
          rw [q17, rv_p (f := ad 0) (v := i) (by omega)]
          refine lv_astore (i := 8) (lv' := [(8, .ref (ad 0 (i))), (0, .ref (ad 4 (0))), (1, .ref (ad 1 (j))), (2, .int (iI (land))), (3, .int (iI (leftB sg j land 24))), (4, .int (iI (acc))), (5, .ref (ad 9 (0))), (6, .int (iI (24))), (7, .int (iI (i)))]) hx hb dX4_leftForCourt_38 hl (by decide) rfl (fun ls hl => ?_)
          refine lv_aload hx hb dX4_leftForCourt_40 (lv_at hl 0 rfl) ?_
          refine lv_ifnull hx hb dX4_leftForCourt_42 ?_
          refine lv_aload hx hb dX4_leftForCourt_45 (lv_at hl 0 rfl) ?_
          refine xg_101 (v := sg 101 i) hx hb hw0 hown hK hR (gd_0 hG (by omega)) (hts _ kw_474) rfl dX4_leftForCourt_47 ?_
          have g20 := gr_101 hG (i)
          refine xr_if_ne (tgt := 76) hx hb dX4_leftForCourt_50 (by decide) (by omega) (fun h21 => ?_) (fun h21 => ?_)
          · skip
            refine lv_iinc (v := iI (i + (1))) (lv' := [(7, .int (iI (i + (1)))), (8, .ref (ad 0 (i))), (0, .ref (ad 4 (0))), (1, .ref (ad 1 (j))), (2, .int (iI (land))), (3, .int (iI (leftB sg j land 24))), (4, .int (iI (acc))), (5, .ref (ad 9 (0))), (6, .int (iI (24)))]) hx hb dX4_leftForCourt_76 hl (k := 8) rfl (iI_add _ _) (by decide) rfl (fun ls hl => ?_)
            refine lv_goto (tgt := 26) hx hb dX4_leftForCourt_79 (by decide) ?_
            exact ih (i + 1) acc (by omega) (by omega) (by rw [court_s hi0, ← hacc]; first | rw [if_pos (by omega)] | rw [if_neg (by omega)]) (by omega) ls (lv_sub hl [2, 3, 4, 5, 6, 7, 8, 0] rfl)
          · skip
            refine lv_aload hx hb dX4_leftForCourt_53 (lv_at hl 0 rfl) ?_
            refine xg_102 (v := sg 102 i) hx hb hw0 hown hK hR (gd_0 hG (by omega)) (hts _ kw_476) rfl dX4_leftForCourt_55 ?_
            have g22 := gr_102 hG (i)
            rw [rv_p (f := ad 1) (v := sg 102 i) (by omega)]
            refine lv_aload_n hx hb dX4_leftForCourt_58 rfl (lv_at hl 2 rfl) ?_
            refine lv_acmp_ne (rx := some (ad 1 (sg 102 i))) (ry := some (ad 1 (j))) (tgt := 76) hx hb dX4_leftForCourt_59 (by decide) (fun h23 => ?_) (fun h23 => ?_)
            · skip
              rw [← ro_p (f := ad 1) (v := sg 102 i) (by omega), ← ro_p (f := ad 1) (v := j) (by omega)] at h23
              have h24 := (not_congr (wr_eq hR (k := 1) (a := sg 102 i) (b := j) (fun _ => (gd_1 hG (by omega))) (fun _ => (gd_1 hG (by omega))))).mp h23
              refine lv_iinc (v := iI (i + (1))) (lv' := [(7, .int (iI (i + (1)))), (8, .ref (ad 0 (i))), (0, .ref (ad 4 (0))), (1, .ref (ad 1 (j))), (2, .int (iI (land))), (3, .int (iI (leftB sg j land 24))), (4, .int (iI (acc))), (5, .ref (ad 9 (0))), (6, .int (iI (24)))]) hx hb dX4_leftForCourt_76 hl (k := 8) rfl (iI_add _ _) (by decide) rfl (fun ls hl => ?_)
              refine lv_goto (tgt := 26) hx hb dX4_leftForCourt_79 (by decide) ?_
              exact ih (i + 1) acc (by omega) (by omega) (by rw [court_s hi0, ← hacc]; first | rw [if_pos (by omega)] | rw [if_neg (by omega)]) (by omega) ls (lv_sub hl [2, 3, 4, 5, 6, 7, 8, 0] rfl)
            · skip
              rw [← ro_p (f := ad 1) (v := sg 102 i) (by omega), ← ro_p (f := ad 1) (v := j) (by omega)] at h23
              have h25 := (wr_eq hR (k := 1) (a := sg 102 i) (b := j) (fun _ => (gd_1 hG (by omega))) (fun _ => (gd_1 hG (by omega)))).mp h23
              refine lv_iload hx hb dX4_leftForCourt_62 (lv_at hl 5 rfl) ?_
              refine lv_iload_n hx hb dX4_leftForCourt_64 rfl (lv_at hl 4 rfl) ?_
              refine lv_aload hx hb dX4_leftForCourt_65 (lv_at hl 0 rfl) ?_
              refine xg_105 (v := sg 105 i) hx hb hw0 hown hK hR (gd_0 hG (by omega)) (hts _ kw_482) rfl dX4_leftForCourt_67 ?_
              have g26 := gr_105 hG (i)
              have m1 := gm_105 hG i (by omega)
              have m2 := mul_rng (a := leftB sg j land 24) (m := 100000) (b := sg 105 i) (n := 100) (by omega) (by omega)
              refine xk_pF (xr_S (As := [.int (iI (leftB sg j land 24)), .int (iI (sg 105 i))]) (rest := [.int (iI (acc))]) hx hb hml hown hts hK (c_X4_hundredths hR hG (leftB sg j land 24) (sg 105 i) (by omega)) ms_X4_hundredths kw_276 ⟨by decide, by decide⟩ ⟨by decide, by decide⟩ rfl rfl hl.1 rfl (lv_room (Nat.le_of_ble_eq_true rfl)) dX4_leftForCourt_70) ?_
              refine xr_isub hx hb dX4_leftForCourt_73 ?_
              refine lv_istore (i := 4) (lv' := [(4, .int (iI (acc - ((leftB sg j land 24) * (sg 105 i) / 100)))), (8, .ref (ad 0 (i))), (0, .ref (ad 4 (0))), (1, .ref (ad 1 (j))), (2, .int (iI (land))), (3, .int (iI (leftB sg j land 24))), (5, .ref (ad 9 (0))), (6, .int (iI (24))), (7, .int (iI (i)))]) hx hb dX4_leftForCourt_74 hl (by decide) rfl (fun ls hl => ?_)
              refine lv_iinc (v := iI (i + (1))) (lv' := [(7, .int (iI (i + (1)))), (4, .int (iI (acc - ((leftB sg j land 24) * (sg 105 i) / 100)))), (8, .ref (ad 0 (i))), (0, .ref (ad 4 (0))), (1, .ref (ad 1 (j))), (2, .int (iI (land))), (3, .int (iI (leftB sg j land 24))), (5, .ref (ad 9 (0))), (6, .int (iI (24)))]) hx hb dX4_leftForCourt_76 hl (k := 8) rfl (iI_add _ _) (by decide) rfl (fun ls hl => ?_)
              refine lv_goto (tgt := 26) hx hb dX4_leftForCourt_79 (by decide) ?_
              exact ih (i + 1) (acc - ((leftB sg j land 24) * (sg 105 i) / 100)) (by omega) (by omega) (by rw [court_s hi0, ← hacc]; first | rw [if_pos (by omega)] | rw [if_neg (by omega)]) (by omega) ls (lv_sub hl [3, 4, 5, 6, 1, 7, 8, 0] rfl)
        · skip
          rw [if_neg (by omega)] at q17
          rw [q17, rv_n (f := ad 0) (v := -1) (by decide)]
          refine lv_astoreN (i := 8) (lv' := [(8, .null), (0, .ref (ad 4 (0))), (1, .ref (ad 1 (j))), (2, .int (iI (land))), (3, .int (iI (leftB sg j land 24))), (4, .int (iI (acc))), (5, .ref (ad 9 (0))), (6, .int (iI (24))), (7, .int (iI (i)))]) hx hb dX4_leftForCourt_38 hl (by decide) rfl (fun ls hl => ?_)
          refine lv_aloadN hx hb dX4_leftForCourt_40 (lv_at hl 0 rfl) ?_
          refine lv_ifnullN (tgt := 76) hx hb dX4_leftForCourt_42 (by decide) ?_
          refine lv_iinc (v := iI (i + (1))) (lv' := [(7, .int (iI (i + (1)))), (8, .null), (0, .ref (ad 4 (0))), (1, .ref (ad 1 (j))), (2, .int (iI (land))), (3, .int (iI (leftB sg j land 24))), (4, .int (iI (acc))), (5, .ref (ad 9 (0))), (6, .int (iI (24)))]) hx hb dX4_leftForCourt_76 hl (k := 8) rfl (iI_add _ _) (by decide) rfl (fun ls hl => ?_)
          refine lv_goto (tgt := 26) hx hb dX4_leftForCourt_79 (by decide) ?_
          exact ih (i + 1) acc (by omega) (by omega) (by rw [court_s hi0, ← hacc]; first | rw [if_pos (by omega)] | rw [if_neg (by omega)]) (by omega) ls (lv_sub hl [2, 3, 4, 5, 6, 7, 8, 0] rfl)
  exact loop26 _ 0 (leftB sg j land 24) (by decide) (by decide) rfl (Nat.le_refl _) ls (lv_sub hl [5, 6, 7, 4, 3, 2, 1, 0] rfl)
theorem ms_X4_gainOfRow : MSt yX4_gainOfRow cX4_gainOfRow 4 (some .long) 2 := ⟨kw_413, kw_412, kw_1, by decide, by decide, by decide +kernel⟩
set_option maxRecDepth 100000 in
set_option maxHeartbeats 4000000 in
theorem c_X4_gainOfRow {l : Launch} {D : va_G} {cy : Nat → ClassId} {A : Nat → Prop} {ad : Nat → Int → Nat} {sg : Nat → Int → Int} {H : Heap} (hR : RC D cy A ad sg H) (hG : GC sg)  (u : Int) (d : Int) (h1 : in64 (u * d * 3)) : Met l yX4_gainOfRow (Cond.code yX4_gainOfRow cX4_gainOfRow 4 (some .long) :: wG) (rmF 0 0 0 0) (Pc D cy H [.long (lI (u)), .long (lI (d))]) (Qp (.long (lI (gainR u d)))) 0 0 Kn := by
  refine met_of (la := [(0, .long (lI (u))), (2, .long (lI (d)))]) (by decide) (Nat.le_of_ble_eq_true rfl) rfl ?_
  intro p e R s m args below meth c ls hRm hx hb hml hr hlk hin hown hts hsH hK hl
  subst hRm
  have hown : s.vm.findClass "Takinghall" = some m.cls := hown
  refine lv_lload_n hx hb dX4_gainOfRow_0 rfl (lv_at hl 0 rfl) ?_
  refine lv_lload_n hx hb dX4_gainOfRow_1 rfl (lv_at hl 1 rfl) ?_
  refine xr_lmul hx hb dX4_gainOfRow_2 ?_
  refine lv_ldc2 (v := lI (3)) hx hb hown (hts _ kw_414) dX4_gainOfRow_3 ?_
  refine xr_lmul hx hb dX4_gainOfRow_6 ?_
  refine lv_ldc2 (v := lI (36500)) hx hb hown (hts _ kw_415) dX4_gainOfRow_7 ?_
  refine xr_ldivT hx hb dX4_gainOfRow_10 (by omega) ⟨by decide, by decide⟩ ?_
  exact xe_l hx hb hr hlk hsH dX4_gainOfRow_11 (by rfl)
theorem ms_X4_gainOf : MVi RX4 yX4_gainOf cX4_gainOf 3 (some .long) 1 := ⟨kw_410, kw_409, kp_13, kw_1, rfl, by decide, by decide, by decide +kernel⟩
set_option maxRecDepth 100000 in
set_option maxHeartbeats 4000000 in
theorem c_X4_gainOf {l : Launch} {D : va_G} {cy : Nat → ClassId} {A : Nat → Prop} {ad : Nat → Int → Nat} {sg : Nat → Int → Int} {H : Heap} (hR : RC D cy A ad sg H) (hG : GC sg)  (x : Int) (h0 : 0 ≤ x ∧ x < sg 503 0) : Met l yX4_gainOf (Cond.code yX4_gainOf cX4_gainOf 3 (some .long) :: wG) (rmF 1 23 0 0) (Pc D cy H [.ref (ad 4 (0)), .ref (ad 0 (x))]) (Qp (.long (lI (gainO sg x)))) 0 0 Kn := by
  refine met_of (la := [(0, .ref (ad 4 (0))), (1, .ref (ad 0 (x)))]) (by decide) (Nat.le_of_ble_eq_true rfl) rfl ?_
  intro p e R s m args below meth c ls hRm hx hb hml hr hlk hin hown hts hsH hK hl
  subst hRm
  have hown : s.vm.findClass "Takinghall" = some m.cls := hown
  have hw0 : ∀ w ∈ u_ws RX0 TX0 15, w.before args s = true := fun w h => hts w (uw_X0 w h)
  have hw1 : ∀ w ∈ u_ws RX1 TX1 11, w.before args s = true := fun w h => hts w (uw_X1 w h)
  have hw4 : ∀ w ∈ u_ws RX4 TX4 12, w.before args s = true := fun w h => hts w (uw_X4 w h)
  refine lv_aload_n hx hb dX4_gainOf_0 rfl (lv_at hl 1 rfl) ?_
  refine lv_ifnull hx hb dX4_gainOf_1 ?_
  refine lv_aload_n hx hb dX4_gainOf_4 rfl (lv_at hl 1 rfl) ?_
  refine xg_102 (v := sg 102 x) hx hb hw0 hown hK hR (gd_0 hG (by omega)) (hts _ kw_476) rfl dX4_gainOf_5 ?_
  have g2 := gr_102 hG (x)
  rw [rv_p (f := ad 1) (v := sg 102 x) (by omega)]
  refine lv_ifnonnull (tgt := 13) hx hb dX4_gainOf_8 (by decide) ?_
  refine lv_aload_n hx hb dX4_gainOf_13 rfl (lv_at hl 1 rfl) ?_
  refine xg_102 (v := sg 102 x) hx hb hw0 hown hK hR (gd_0 hG (by omega)) (hts _ kw_476) rfl dX4_gainOf_14 ?_
  rw [rv_p (f := ad 1) (v := sg 102 x) (by omega)]
  refine xg_206 (v := sg 206 (sg 102 x)) hx hb hw1 hown hK hR (gd_1 hG (by omega)) (hts _ kw_45) rfl dX4_gainOf_17 ?_
  have g4 := gr_206 hG (sg 102 x)
  refine lv_istore_n (i := 2) (lv' := [(2, .int (iI (sg 206 (sg 102 x)))), (0, .ref (ad 4 (0))), (1, .ref (ad 0 (x)))]) hx hb dX4_gainOf_20 rfl hl (by decide) rfl (fun ls hl => ?_)
  refine lv_aload_n hx hb dX4_gainOf_21 rfl (lv_at hl 2 rfl) ?_
  refine xg_112 (v := sg 112 x) hx hb hw0 hown hK hR (gd_0 hG (by omega)) (hts _ kw_492) rfl dX4_gainOf_22 ?_
  have g5 := gr_112 hG (x)
  refine lv_iconst (v := iI (-1)) hx hb dX4_gainOf_25 rfl ?_
  refine xr_icmp_ne (tgt := 44) hx hb dX4_gainOf_26 (by decide) (by omega) (by omega) (fun h6 => ?_) (fun h6 => ?_)
  · skip
    refine lv_aload_n hx hb dX4_gainOf_44 rfl (lv_at hl 2 rfl) ?_
    refine xg_110 (v := sg 110 x) hx hb hw0 hown hK hR (gd_0 hG (by omega)) (hts _ kw_489) rfl dX4_gainOf_45 ?_
    have g7 := gr_110 hG (x)
    refine lv_aload_n hx hb dX4_gainOf_48 rfl (lv_at hl 2 rfl) ?_
    refine xg_112 (v := sg 112 x) hx hb hw0 hown hK hR (gd_0 hG (by omega)) (hts _ kw_492) rfl dX4_gainOf_49 ?_
    refine lv_iload_n hx hb dX4_gainOf_52 rfl (lv_at hl 0 rfl) ?_
    refine xr_isub hx hb dX4_gainOf_53 ?_
    refine xr_i2l hx hb dX4_gainOf_54 (by omega) ?_
    refine xk_pF (xr_S (As := [.long (lI (sg 110 x)), .long (lI ((sg 112 x) - (sg 206 (sg 102 x))))]) (rest := []) hx hb hml hown hts hK (c_X4_gainOfRow hR hG (sg 110 x) ((sg 112 x) - (sg 206 (sg 102 x))) (gain_in (by omega) (by omega))) ms_X4_gainOfRow kw_411 ⟨by decide, by decide⟩ ⟨by decide, by decide⟩ rfl rfl hl.1 rfl (lv_room (by decide)) dX4_gainOf_55) ?_
    refine lv_aload_n hx hb dX4_gainOf_58 rfl (lv_at hl 2 rfl) ?_
    refine xg_110 (v := sg 110 x) hx hb hw0 hown hK hR (gd_0 hG (by omega)) (hts _ kw_489) rfl dX4_gainOf_59 ?_
    refine lv_aload_n hx hb dX4_gainOf_62 rfl (lv_at hl 2 rfl) ?_
    refine xg_111 (v := sg 111 x) hx hb hw0 hown hK hR (gd_0 hG (by omega)) (hts _ kw_490) rfl dX4_gainOf_63 ?_
    have g8 := gr_111 hG (x)
    refine xr_lsub hx hb dX4_gainOf_66 ?_
    refine lv_aload_n hx hb dX4_gainOf_67 rfl (lv_at hl 1 rfl) ?_
    refine xg_506 (v := sg 506 0) hx hb hw4 hown hK hR (gd_4 hG) (hts _ kw_97) rfl dX4_gainOf_68 ?_
    have g9 := gr_506 hG (0)
    refine lv_aload_n hx hb dX4_gainOf_71 rfl (lv_at hl 2 rfl) ?_
    refine xg_112 (v := sg 112 x) hx hb hw0 hown hK hR (gd_0 hG (by omega)) (hts _ kw_492) rfl dX4_gainOf_72 ?_
    refine xr_isub hx hb dX4_gainOf_75 ?_
    refine xr_i2l hx hb dX4_gainOf_76 (by omega) ?_
    refine xk_pF (xr_S (As := [.long (lI ((sg 110 x) - (sg 111 x))), .long (lI ((sg 506 0) - (sg 112 x)))]) (rest := [.long (lI (gainR (sg 110 x) ((sg 112 x) - (sg 206 (sg 102 x)))))]) hx hb hml hown hts hK (c_X4_gainOfRow hR hG ((sg 110 x) - (sg 111 x)) ((sg 506 0) - (sg 112 x)) (gain_in (by omega) (by omega))) ms_X4_gainOfRow kw_411 ⟨by decide, by decide⟩ ⟨by decide, by decide⟩ rfl rfl hl.1 rfl (lv_room (Nat.le_of_ble_eq_true rfl)) dX4_gainOf_77) ?_
    refine xr_ladd hx hb dX4_gainOf_80 ?_
    exact xe_l hx hb hr hlk hsH dX4_gainOf_81 (by unfold gainO; first | rw [if_pos (by omega)] | rw [if_neg (by omega)])
  · skip
    refine lv_aload_n hx hb dX4_gainOf_29 rfl (lv_at hl 2 rfl) ?_
    refine xg_110 (v := sg 110 x) hx hb hw0 hown hK hR (gd_0 hG (by omega)) (hts _ kw_489) rfl dX4_gainOf_30 ?_
    have g10 := gr_110 hG (x)
    refine lv_aload_n hx hb dX4_gainOf_33 rfl (lv_at hl 1 rfl) ?_
    refine xg_506 (v := sg 506 0) hx hb hw4 hown hK hR (gd_4 hG) (hts _ kw_97) rfl dX4_gainOf_34 ?_
    have g11 := gr_506 hG (0)
    refine lv_iload_n hx hb dX4_gainOf_37 rfl (lv_at hl 0 rfl) ?_
    refine xr_isub hx hb dX4_gainOf_38 ?_
    refine xr_i2l hx hb dX4_gainOf_39 (by omega) ?_
    refine xk_pF (xr_S (As := [.long (lI (sg 110 x)), .long (lI ((sg 506 0) - (sg 206 (sg 102 x))))]) (rest := []) hx hb hml hown hts hK (c_X4_gainOfRow hR hG (sg 110 x) ((sg 506 0) - (sg 206 (sg 102 x))) (gain_in (by omega) (by omega))) ms_X4_gainOfRow kw_411 ⟨by decide, by decide⟩ ⟨by decide, by decide⟩ rfl rfl hl.1 rfl (lv_room (by decide)) dX4_gainOf_40) ?_
    exact xe_l hx hb hr hlk hsH dX4_gainOf_43 (by unfold gainO; first | rw [if_pos (by omega)] | rw [if_neg (by omega)])
theorem ms_X4_owedTo : MVi RX4 yX4_owedTo cX4_owedTo 2 (some .long) 1 := ⟨kw_406, kw_405, kp_12, kw_1, rfl, by decide, by decide, by decide +kernel⟩
set_option maxRecDepth 100000 in
set_option maxHeartbeats 4000000 in
theorem c_X4_owedTo {l : Launch} {D : va_G} {cy : Nat → ClassId} {A : Nat → Prop} {ad : Nat → Int → Nat} {sg : Nat → Int → Int} {H : Heap} (hR : RC D cy A ad sg H) (hG : GC sg)  (x : Int) {x_x : Value} (hx_x : x_x = rv (ad 0) x) (h0 : x < sg 503 0) : Met l yX4_owedTo (Cond.code yX4_owedTo cX4_owedTo 2 (some .long) :: wG) (rmF 2 45 0 0) (Pc D cy H [.ref (ad 4 (0)), x_x]) (Qp (.long (lI (owedO sg x)))) 0 0 Kn := by
  subst hx_x
  refine met_of (la := [(0, .ref (ad 4 (0))), (1, rv (ad 0) (x))]) (by decide) (by simp [lg_sl, rv_cat, cat_i, cat_l, cat_r, cat_n]) (by simp [lv_args, rv_cat, cat_i, cat_l, cat_r, cat_n]) ?_
  intro p e R s m args below meth c ls hRm hx hb hml hr hlk hin hown hts hsH hK hl
  subst hRm
  have hown : s.vm.findClass "Takinghall" = some m.cls := hown
  have hw0 : ∀ w ∈ u_ws RX0 TX0 15, w.before args s = true := fun w h => hts w (uw_X0 w h)
  refine xr_aload_n hx hb dX4_owedTo_0 rfl (lv_at hl 1 rfl) ?_
  refine xr_ifnull (tgt := 21) hx hb dX4_owedTo_1 (by decide) (fun h1 => ?_) (fun h1 => ?_)
  · skip
    rw [rv_n h1] at hl
    refine lv_lconst (v := lI (0)) hx hb dX4_owedTo_21 (by decide) ?_
    exact xe_l hx hb hr hlk hsH dX4_owedTo_22 (by (try unfold takenO at *); unfold owedO; first | rw [if_pos (by omega)] | rw [if_neg (by omega)])
  · skip
    rw [rv_p h1] at hl
    refine lv_aload_n hx hb dX4_owedTo_4 rfl (lv_at hl 1 rfl) ?_
    refine xg_102 (v := sg 102 x) hx hb hw0 hown hK hR (gd_0 hG (by omega)) (hts _ kw_476) rfl dX4_owedTo_5 ?_
    have g2 := gr_102 hG (x)
    rw [rv_p (f := ad 1) (v := sg 102 x) (by omega)]
    refine xk_pF (xr_S (As := [.ref (ad 1 (sg 102 x))]) (rest := []) hx hb hml hown hts hK (c_X4_wasTaken hR hG (sg 102 x) ((rv_p (by omega)).symm) (by omega)) ms_X4_wasTaken kw_372 ⟨by decide, by decide⟩ ⟨by decide, by decide⟩ rfl rfl hl.1 rfl (lv_room (by decide)) dX4_owedTo_8) ?_
    refine xr_ifb_eq (tgt := 21) hx hb dX4_owedTo_11 (by decide) (fun h3 => ?_) (fun h3 => ?_)
    · skip
      refine lv_lconst (v := lI (0)) hx hb dX4_owedTo_21 (by decide) ?_
      exact xe_l hx hb hr hlk hsH dX4_owedTo_22 (by (try unfold takenO at *); unfold owedO; first | rw [if_pos (by omega)] | rw [if_neg (by omega)])
    · skip
      refine lv_aload_n hx hb dX4_owedTo_14 rfl (lv_at hl 1 rfl) ?_
      refine xg_114 (v := sg 114 x) hx hb hw0 hown hK hR (gd_0 hG (by omega)) (hts _ kw_494) rfl dX4_owedTo_15 ?_
      have g4 := gr_114 hG (x)
      refine xr_if_eq (tgt := 23) hx hb dX4_owedTo_18 (by decide) (by omega) (fun h5 => ?_) (fun h5 => ?_)
      · skip
        refine lv_aload_n hx hb dX4_owedTo_23 rfl (lv_at hl 1 rfl) ?_
        refine xg_110 (v := sg 110 x) hx hb hw0 hown hK hR (gd_0 hG (by omega)) (hts _ kw_489) rfl dX4_owedTo_24 ?_
        have g6 := gr_110 hG (x)
        refine lv_aload_n hx hb dX4_owedTo_27 rfl (lv_at hl 1 rfl) ?_
        refine xg_111 (v := sg 111 x) hx hb hw0 hown hK hR (gd_0 hG (by omega)) (hts _ kw_490) rfl dX4_owedTo_28 ?_
        have g7 := gr_111 hG (x)
        refine xr_lsub hx hb dX4_owedTo_31 ?_
        refine lv_aload_n hx hb dX4_owedTo_32 rfl (lv_at hl 0 rfl) ?_
        refine lv_aload_n hx hb dX4_owedTo_33 rfl (lv_at hl 1 rfl) ?_
        refine xk_pF (xr_V (As := [.ref (ad 0 (x))]) (rest := [.long (lI ((sg 110 x) - (sg 111 x)))]) hx hb hml hown hts hK (c_X4_gainOf hR hG x (by omega)) ms_X4_gainOf kw_407 (wr_recv hK hR (gd_4 hG) rfl rfl) ⟨by decide, by decide⟩ ⟨by decide, by decide⟩ rfl rfl hl.1 rfl (lv_room (Nat.le_of_ble_eq_true rfl)) dX4_owedTo_34) ?_
        refine xr_ladd hx hb dX4_owedTo_37 ?_
        exact xe_l hx hb hr hlk hsH dX4_owedTo_38 (by (try unfold takenO at *); unfold owedO; first | rw [if_pos (by omega)] | rw [if_neg (by omega)])
      · skip
        refine lv_lconst (v := lI (0)) hx hb dX4_owedTo_21 (by decide) ?_
        exact xe_l hx hb hr hlk hsH dX4_owedTo_22 (by (try unfold takenO at *); unfold owedO; first | rw [if_pos (by omega)] | rw [if_neg (by omega)])
theorem ms_X4_ownerBehind : MVi RX4 yX4_ownerBehind cX4_ownerBehind 8 (some (.object "Takinghall$Interest")) 2 := ⟨kw_624, kw_623, kp_25, kw_1, rfl, by decide, by decide, by decide +kernel⟩
set_option maxRecDepth 100000 in
set_option maxHeartbeats 4000000 in
theorem c_X4_ownerBehind {l : Launch} {D : va_G} {cy : Nat → ClassId} {A : Nat → Prop} {ad : Nat → Int → Nat} {sg : Nat → Int → Int} {H : Heap} (hR : RC D cy A ad sg H) (hG : GC sg)  (j : Int) (w : Int) {x_w : Value} (hx_w : x_w = rv (ad 0) w) (h1 : 0 ≤ j ∧ j < 36) (h2 : w < sg 503 0) : Met l yX4_ownerBehind (Cond.code yX4_ownerBehind cX4_ownerBehind 8 (some (.object "Takinghall$Interest")) :: wG) (rmF 1 21 0 0) (Pc D cy H [.ref (ad 4 (0)), .ref (ad 1 (j)), x_w]) (Qp (rv (ad 0) (ownBeh sg j w))) 0 0 Kn := by
  subst hx_w
  refine met_of (la := [(0, .ref (ad 4 (0))), (1, .ref (ad 1 (j))), (2, rv (ad 0) (w))]) (by decide) (by simp [lg_sl, rv_cat, cat_i, cat_l, cat_r, cat_n]) (by simp [lv_args, rv_cat, cat_i, cat_l, cat_r, cat_n]) ?_
  intro p e R s m args below meth c ls hRm hx hb hml hr hlk hin hown hts hsH hK hl
  subst hRm
  have hown : s.vm.findClass "Takinghall" = some m.cls := hown
  have hw0 : ∀ w ∈ u_ws RX0 TX0 15, w.before args s = true := fun w h => hts w (uw_X0 w h)
  have hw4 : ∀ w ∈ u_ws RX4 TX4 12, w.before args s = true := fun w h => hts w (uw_X4 w h)
  have g503 := gr_503 hG 0
  refine lv_null hx hb dX4_ownerBehind_0 ?_
  refine lv_astore_nN (i := 3) (lv' := [(3, .null), (0, .ref (ad 4 (0))), (1, .ref (ad 1 (j))), (2, rv (ad 0) (w))]) hx hb dX4_ownerBehind_1 rfl hl (by decide) (by simp [rv_cat, cat_i, cat_l, cat_r, cat_n]) (fun ls hl => ?_)
  refine lv_aload_n hx hb dX4_ownerBehind_2 rfl (lv_at hl 1 rfl) ?_
  refine xg_502 (v := sg 502 0) hx hb hw4 hown hK hR (gd_4 hG) (hts _ kw_93) rfl dX4_ownerBehind_3 ?_
  have g1 := gh_502 hG (0)
  have q2 : sg 502 0 = 0 := gh_502 hG _
  rw [q2, rv_p (Int.le_refl 0)]
  refine lv_astore (i := 4) (lv' := [(4, .ref (ad 9 (0))), (3, .null), (0, .ref (ad 4 (0))), (1, .ref (ad 1 (j))), (2, rv (ad 0) (w))]) hx hb dX4_ownerBehind_6 hl (by decide) rfl (fun ls hl => ?_)
  refine lv_aload hx hb dX4_ownerBehind_8 (lv_at hl 0 rfl) ?_
  refine xl_600 hx hb hK hR (gd_9 hG) dX4_ownerBehind_10 ?_
  refine lv_istore (i := 5) (lv' := [(5, .int (iI (24))), (4, .ref (ad 9 (0))), (3, .null), (0, .ref (ad 4 (0))), (1, .ref (ad 1 (j))), (2, rv (ad 0) (w))]) hx hb dX4_ownerBehind_11 hl (by decide) rfl (fun ls hl => ?_)
  refine lv_iconst (v := iI (0)) hx hb dX4_ownerBehind_13 rfl ?_
  refine lv_istore (i := 6) (lv' := [(6, .int (iI (0))), (5, .int (iI (24))), (4, .ref (ad 9 (0))), (3, .null), (0, .ref (ad 4 (0))), (1, .ref (ad 1 (j))), (2, rv (ad 0) (w))]) hx hb dX4_ownerBehind_14 hl (by decide) rfl (fun ls hl => ?_)
  have loop16 : ∀ (n : Nat) (i : Int) (acc : Int), 0 ≤ i → i ≤ 24 → acc = ownerB sg j w (i.toNat) → (24 - i).toNat ≤ n → ∀ ls : Array Slot, lv_has ls 8 [(0, .ref (ad 4 (0))), (1, .ref (ad 1 (j))), (2, rv (ad 0) (w)), (3, rv (ad 0) (acc)), (4, .ref (ad 9 (0))), (5, .int (iI (24))), (6, .int (iI (i)))] → W p l e (rmF 1 21 0 0) s m args below meth c H [] 0 0 (MQ below (Qp (rv (ad 0) (ownBeh sg j w))) args s 0 0 Kn) (F0 m 16 ls []) := by
    intro n
    induction n with
    | zero =>
      intro i acc hi0 hi1 hacc hn ls hl
      have hrg := ownerB_rng (v := j) (w := w) hG i.toNat
      rw [← hacc] at hrg
      refine lv_iload hx hb dX4_ownerBehind_16 (lv_at hl 6 rfl) ?_
      refine lv_iload hx hb dX4_ownerBehind_18 (lv_at hl 5 rfl) ?_
      refine xr_icmp_ge (tgt := 89) hx hb dX4_ownerBehind_20 (by decide) (by omega) (by omega) (fun h3 => ?_) (fun h3 => ?_)
      · skip
        refine xr_aload_n hx hb dX4_ownerBehind_89 rfl (lv_at hl 3 rfl) ?_
        exact xe_a hx hb hr hlk hsH dX4_ownerBehind_90 (by exact congrArg (rv (ad 0)) (show (acc : Int) = ownBeh sg j w by have e : i = 24 := (by omega); subst e; exact hacc))
      · skip
        refine lv_aload hx hb dX4_ownerBehind_23 (lv_at hl 4 rfl) ?_
        refine lv_iload hx hb dX4_ownerBehind_25 (lv_at hl 6 rfl) ?_
        refine xa_600 (v := sg 600 i) hx hb hK hR (gd_9 hG) (by omega) rfl dX4_ownerBehind_27 ?_
        have q4 := ga_600 hG (q := i) (by omega)
        rcases (show i < sg 503 0 ∨ sg 503 0 ≤ i by omega) with i5 | i5
        · skip
          rw [if_pos i5] at q4
          rw [q4, rv_p (f := ad 0) (v := i) (by omega)]
          refine lv_astore (i := 7) (lv' := [(7, .ref (ad 0 (i))), (0, .ref (ad 4 (0))), (1, .ref (ad 1 (j))), (2, rv (ad 0) (w)), (3, rv (ad 0) (acc)), (4, .ref (ad 9 (0))), (5, .int (iI (24))), (6, .int (iI (i)))]) hx hb dX4_ownerBehind_28 hl (by decide) rfl (fun ls hl => ?_)
          refine lv_aload hx hb dX4_ownerBehind_30 (lv_at hl 0 rfl) ?_
          refine lv_ifnull hx hb dX4_ownerBehind_32 ?_
          refine lv_aload hx hb dX4_ownerBehind_35 (lv_at hl 0 rfl) ?_
          refine xg_101 (v := sg 101 i) hx hb hw0 hown hK hR (gd_0 hG (by omega)) (hts _ kw_474) rfl dX4_ownerBehind_37 ?_
          have g7 := gr_101 hG (i)
          refine xr_if_ne (tgt := 83) hx hb dX4_ownerBehind_40 (by decide) (by omega) (fun h8 => ?_) (fun h8 => ?_)
          · skip
            refine lv_iinc (v := iI (i + (1))) (lv' := [(6, .int (iI (i + (1)))), (7, .ref (ad 0 (i))), (0, .ref (ad 4 (0))), (1, .ref (ad 1 (j))), (2, rv (ad 0) (w)), (3, rv (ad 0) (acc)), (4, .ref (ad 9 (0))), (5, .int (iI (24)))]) hx hb dX4_ownerBehind_83 hl (k := 7) rfl (iI_add _ _) (by decide) rfl (fun ls hl => ?_)
            refine lv_goto (tgt := 16) hx hb dX4_ownerBehind_86 (by decide) ?_
            exact absurd hn (by omega)
          · skip
            refine lv_aload hx hb dX4_ownerBehind_43 (lv_at hl 0 rfl) ?_
            refine xg_102 (v := sg 102 i) hx hb hw0 hown hK hR (gd_0 hG (by omega)) (hts _ kw_476) rfl dX4_ownerBehind_45 ?_
            have g9 := gr_102 hG (i)
            rw [rv_p (f := ad 1) (v := sg 102 i) (by omega)]
            refine lv_aload_n hx hb dX4_ownerBehind_48 rfl (lv_at hl 2 rfl) ?_
            refine lv_acmp_ne (rx := some (ad 1 (sg 102 i))) (ry := some (ad 1 (j))) (tgt := 83) hx hb dX4_ownerBehind_49 (by decide) (fun h10 => ?_) (fun h10 => ?_)
            · skip
              rw [← ro_p (f := ad 1) (v := sg 102 i) (by omega), ← ro_p (f := ad 1) (v := j) (by omega)] at h10
              have h11 := (not_congr (wr_eq hR (k := 1) (a := sg 102 i) (b := j) (fun _ => (gd_1 hG (by omega))) (fun _ => (gd_1 hG (by omega))))).mp h10
              refine lv_iinc (v := iI (i + (1))) (lv' := [(6, .int (iI (i + (1)))), (7, .ref (ad 0 (i))), (0, .ref (ad 4 (0))), (1, .ref (ad 1 (j))), (2, rv (ad 0) (w)), (3, rv (ad 0) (acc)), (4, .ref (ad 9 (0))), (5, .int (iI (24)))]) hx hb dX4_ownerBehind_83 hl (k := 7) rfl (iI_add _ _) (by decide) rfl (fun ls hl => ?_)
              refine lv_goto (tgt := 16) hx hb dX4_ownerBehind_86 (by decide) ?_
              exact absurd hn (by omega)
            · skip
              rw [← ro_p (f := ad 1) (v := sg 102 i) (by omega), ← ro_p (f := ad 1) (v := j) (by omega)] at h10
              have h12 := (wr_eq hR (k := 1) (a := sg 102 i) (b := j) (fun _ => (gd_1 hG (by omega))) (fun _ => (gd_1 hG (by omega)))).mp h10
              refine lv_aload hx hb dX4_ownerBehind_52 (lv_at hl 0 rfl) ?_
              refine xr_aload_n hx hb dX4_ownerBehind_54 rfl (lv_at hl 3 rfl) ?_
              refine xk_pF (xr_S (As := [.ref (ad 0 (i)), rv (ad 0) (w)]) (rest := []) hx hb hml hown hts hK (c_X4_comesBehind hR hG i ((rv_p (by omega)).symm) w (rfl) (by omega) (by omega)) ms_X4_comesBehind kw_625 ⟨by decide, by decide⟩ ⟨by decide, by decide⟩ rfl rfl hl.1 rfl (lv_room (by decide)) dX4_ownerBehind_55) ?_
              refine xr_ifb_ne (tgt := 64) hx hb dX4_ownerBehind_58 (by decide) (fun h13 => ?_) (fun h13 => ?_)
              · skip
                refine xr_aload_n hx hb dX4_ownerBehind_64 rfl (lv_at hl 4 rfl) ?_
                refine xr_ifnull (tgt := 80) hx hb dX4_ownerBehind_65 (by decide) (fun h14 => ?_) (fun h14 => ?_)
                · skip
                  rw [rv_n h14] at hl
                  refine lv_aload hx hb dX4_ownerBehind_80 (lv_at hl 0 rfl) ?_
                  refine lv_astore_n (i := 3) (lv' := [(3, .ref (ad 0 (i))), (7, .ref (ad 0 (i))), (0, .ref (ad 4 (0))), (1, .ref (ad 1 (j))), (2, rv (ad 0) (w)), (4, .ref (ad 9 (0))), (5, .int (iI (24))), (6, .int (iI (i)))]) hx hb dX4_ownerBehind_82 rfl hl (by decide) (by simp [rv_cat, cat_i, cat_l, cat_r, cat_n]) (fun ls hl => ?_)
                  refine lv_iinc (v := iI (i + (1))) (lv' := [(6, .int (iI (i + (1)))), (3, .ref (ad 0 (i))), (7, .ref (ad 0 (i))), (0, .ref (ad 4 (0))), (1, .ref (ad 1 (j))), (2, rv (ad 0) (w)), (4, .ref (ad 9 (0))), (5, .int (iI (24)))]) hx hb dX4_ownerBehind_83 hl (k := 7) rfl (iI_add _ _) (by decide) rfl (fun ls hl => ?_)
                  refine lv_goto (tgt := 16) hx hb dX4_ownerBehind_86 (by decide) ?_
                  rw [← rv_p (f := ad 0) (v := i) (by omega)] at hl
                  exact absurd hn (by omega)
                · skip
                  rw [rv_p h14] at hl
                  refine lv_aload hx hb dX4_ownerBehind_68 (lv_at hl 0 rfl) ?_
                  refine xg_105 (v := sg 105 i) hx hb hw0 hown hK hR (gd_0 hG (by omega)) (hts _ kw_482) rfl dX4_ownerBehind_70 ?_
                  have g15 := gr_105 hG (i)
                  refine lv_aload_n hx hb dX4_ownerBehind_73 rfl (lv_at hl 4 rfl) ?_
                  refine xg_105 (v := sg 105 acc) hx hb hw0 hown hK hR (gd_0 hG (by omega)) (hts _ kw_482) rfl dX4_ownerBehind_74 ?_
                  have g16 := gr_105 hG (acc)
                  refine xr_icmp_le (tgt := 83) hx hb dX4_ownerBehind_77 (by decide) (by omega) (by omega) (fun h17 => ?_) (fun h17 => ?_)
                  · skip
                    refine lv_iinc (v := iI (i + (1))) (lv' := [(6, .int (iI (i + (1)))), (7, .ref (ad 0 (i))), (0, .ref (ad 4 (0))), (1, .ref (ad 1 (j))), (2, rv (ad 0) (w)), (3, .ref (ad 0 (acc))), (4, .ref (ad 9 (0))), (5, .int (iI (24)))]) hx hb dX4_ownerBehind_83 hl (k := 7) rfl (iI_add _ _) (by decide) rfl (fun ls hl => ?_)
                    refine lv_goto (tgt := 16) hx hb dX4_ownerBehind_86 (by decide) ?_
                    rw [← rv_p (f := ad 0) (v := acc) (by omega)] at hl
                    exact absurd hn (by omega)
                  · skip
                    refine lv_aload hx hb dX4_ownerBehind_80 (lv_at hl 0 rfl) ?_
                    refine lv_astore_n (i := 3) (lv' := [(3, .ref (ad 0 (i))), (7, .ref (ad 0 (i))), (0, .ref (ad 4 (0))), (1, .ref (ad 1 (j))), (2, rv (ad 0) (w)), (4, .ref (ad 9 (0))), (5, .int (iI (24))), (6, .int (iI (i)))]) hx hb dX4_ownerBehind_82 rfl hl (by decide) (by simp [rv_cat, cat_i, cat_l, cat_r, cat_n]) (fun ls hl => ?_)
                    refine lv_iinc (v := iI (i + (1))) (lv' := [(6, .int (iI (i + (1)))), (3, .ref (ad 0 (i))), (7, .ref (ad 0 (i))), (0, .ref (ad 4 (0))), (1, .ref (ad 1 (j))), (2, rv (ad 0) (w)), (4, .ref (ad 9 (0))), (5, .int (iI (24)))]) hx hb dX4_ownerBehind_83 hl (k := 7) rfl (iI_add _ _) (by decide) rfl (fun ls hl => ?_)
                    refine lv_goto (tgt := 16) hx hb dX4_ownerBehind_86 (by decide) ?_
                    rw [← rv_p (f := ad 0) (v := i) (by omega)] at hl
                    exact absurd hn (by omega)
              · skip
                refine lv_goto (tgt := 83) hx hb dX4_ownerBehind_61 (by decide) ?_
                refine lv_iinc (v := iI (i + (1))) (lv' := [(6, .int (iI (i + (1)))), (7, .ref (ad 0 (i))), (0, .ref (ad 4 (0))), (1, .ref (ad 1 (j))), (2, rv (ad 0) (w)), (3, rv (ad 0) (acc)), (4, .ref (ad 9 (0))), (5, .int (iI (24)))]) hx hb dX4_ownerBehind_83 hl (k := 7) rfl (iI_add _ _) (by decide) rfl (fun ls hl => ?_)
                refine lv_goto (tgt := 16) hx hb dX4_ownerBehind_86 (by decide) ?_
                exact absurd hn (by omega)
        · skip
          rw [if_neg (by omega)] at q4
          rw [q4, rv_n (f := ad 0) (v := -1) (by decide)]
          refine lv_astoreN (i := 7) (lv' := [(7, .null), (0, .ref (ad 4 (0))), (1, .ref (ad 1 (j))), (2, rv (ad 0) (w)), (3, rv (ad 0) (acc)), (4, .ref (ad 9 (0))), (5, .int (iI (24))), (6, .int (iI (i)))]) hx hb dX4_ownerBehind_28 hl (by decide) rfl (fun ls hl => ?_)
          refine lv_aloadN hx hb dX4_ownerBehind_30 (lv_at hl 0 rfl) ?_
          refine lv_ifnullN (tgt := 83) hx hb dX4_ownerBehind_32 (by decide) ?_
          refine lv_iinc (v := iI (i + (1))) (lv' := [(6, .int (iI (i + (1)))), (7, .null), (0, .ref (ad 4 (0))), (1, .ref (ad 1 (j))), (2, rv (ad 0) (w)), (3, rv (ad 0) (acc)), (4, .ref (ad 9 (0))), (5, .int (iI (24)))]) hx hb dX4_ownerBehind_83 hl (k := 7) rfl (iI_add _ _) (by decide) rfl (fun ls hl => ?_)
          refine lv_goto (tgt := 16) hx hb dX4_ownerBehind_86 (by decide) ?_
          exact absurd hn (by omega)
    | succ n ih =>
      intro i acc hi0 hi1 hacc hn ls hl
      have hrg := ownerB_rng (v := j) (w := w) hG i.toNat
      rw [← hacc] at hrg
      refine lv_iload hx hb dX4_ownerBehind_16 (lv_at hl 6 rfl) ?_
      refine lv_iload hx hb dX4_ownerBehind_18 (lv_at hl 5 rfl) ?_
      refine xr_icmp_ge (tgt := 89) hx hb dX4_ownerBehind_20 (by decide) (by omega) (by omega) (fun h19 => ?_) (fun h19 => ?_)
      · skip
        refine xr_aload_n hx hb dX4_ownerBehind_89 rfl (lv_at hl 3 rfl) ?_
        exact xe_a hx hb hr hlk hsH dX4_ownerBehind_90 (by exact congrArg (rv (ad 0)) (show (acc : Int) = ownBeh sg j w by have e : i = 24 := (by omega); subst e; exact hacc))
      · skip
        refine lv_aload hx hb dX4_ownerBehind_23 (lv_at hl 4 rfl) ?_
        refine lv_iload hx hb dX4_ownerBehind_25 (lv_at hl 6 rfl) ?_
        refine xa_600 (v := sg 600 i) hx hb hK hR (gd_9 hG) (by omega) rfl dX4_ownerBehind_27 ?_
        have q20 := ga_600 hG (q := i) (by omega)
        rcases (show i < sg 503 0 ∨ sg 503 0 ≤ i by omega) with i21 | i21
        · skip
          rw [if_pos i21] at q20
          rw [q20, rv_p (f := ad 0) (v := i) (by omega)]
          refine lv_astore (i := 7) (lv' := [(7, .ref (ad 0 (i))), (0, .ref (ad 4 (0))), (1, .ref (ad 1 (j))), (2, rv (ad 0) (w)), (3, rv (ad 0) (acc)), (4, .ref (ad 9 (0))), (5, .int (iI (24))), (6, .int (iI (i)))]) hx hb dX4_ownerBehind_28 hl (by decide) rfl (fun ls hl => ?_)
          refine lv_aload hx hb dX4_ownerBehind_30 (lv_at hl 0 rfl) ?_
          refine lv_ifnull hx hb dX4_ownerBehind_32 ?_
          refine lv_aload hx hb dX4_ownerBehind_35 (lv_at hl 0 rfl) ?_
          refine xg_101 (v := sg 101 i) hx hb hw0 hown hK hR (gd_0 hG (by omega)) (hts _ kw_474) rfl dX4_ownerBehind_37 ?_
          have g23 := gr_101 hG (i)
          refine xr_if_ne (tgt := 83) hx hb dX4_ownerBehind_40 (by decide) (by omega) (fun h24 => ?_) (fun h24 => ?_)
          · skip
            refine lv_iinc (v := iI (i + (1))) (lv' := [(6, .int (iI (i + (1)))), (7, .ref (ad 0 (i))), (0, .ref (ad 4 (0))), (1, .ref (ad 1 (j))), (2, rv (ad 0) (w)), (3, rv (ad 0) (acc)), (4, .ref (ad 9 (0))), (5, .int (iI (24)))]) hx hb dX4_ownerBehind_83 hl (k := 7) rfl (iI_add _ _) (by decide) rfl (fun ls hl => ?_)
            refine lv_goto (tgt := 16) hx hb dX4_ownerBehind_86 (by decide) ?_
            exact ih (i + 1) acc (by omega) (by omega) (by rw [ownerB_s hi0, ← hacc]; first | exact (if_pos (by grind)).symm | exact (if_neg (by grind)).symm) (by omega) ls (lv_sub hl [2, 3, 4, 5, 6, 7, 0] rfl)
          · skip
            refine lv_aload hx hb dX4_ownerBehind_43 (lv_at hl 0 rfl) ?_
            refine xg_102 (v := sg 102 i) hx hb hw0 hown hK hR (gd_0 hG (by omega)) (hts _ kw_476) rfl dX4_ownerBehind_45 ?_
            have g25 := gr_102 hG (i)
            rw [rv_p (f := ad 1) (v := sg 102 i) (by omega)]
            refine lv_aload_n hx hb dX4_ownerBehind_48 rfl (lv_at hl 2 rfl) ?_
            refine lv_acmp_ne (rx := some (ad 1 (sg 102 i))) (ry := some (ad 1 (j))) (tgt := 83) hx hb dX4_ownerBehind_49 (by decide) (fun h26 => ?_) (fun h26 => ?_)
            · skip
              rw [← ro_p (f := ad 1) (v := sg 102 i) (by omega), ← ro_p (f := ad 1) (v := j) (by omega)] at h26
              have h27 := (not_congr (wr_eq hR (k := 1) (a := sg 102 i) (b := j) (fun _ => (gd_1 hG (by omega))) (fun _ => (gd_1 hG (by omega))))).mp h26
              refine lv_iinc (v := iI (i + (1))) (lv' := [(6, .int (iI (i + (1)))), (7, .ref (ad 0 (i))), (0, .ref (ad 4 (0))), (1, .ref (ad 1 (j))), (2, rv (ad 0) (w)), (3, rv (ad 0) (acc)), (4, .ref (ad 9 (0))), (5, .int (iI (24)))]) hx hb dX4_ownerBehind_83 hl (k := 7) rfl (iI_add _ _) (by decide) rfl (fun ls hl => ?_)
              refine lv_goto (tgt := 16) hx hb dX4_ownerBehind_86 (by decide) ?_
              exact ih (i + 1) acc (by omega) (by omega) (by rw [ownerB_s hi0, ← hacc]; first | exact (if_pos (by grind)).symm | exact (if_neg (by grind)).symm) (by omega) ls (lv_sub hl [2, 3, 4, 5, 6, 7, 0] rfl)
            · skip
              rw [← ro_p (f := ad 1) (v := sg 102 i) (by omega), ← ro_p (f := ad 1) (v := j) (by omega)] at h26
              have h28 := (wr_eq hR (k := 1) (a := sg 102 i) (b := j) (fun _ => (gd_1 hG (by omega))) (fun _ => (gd_1 hG (by omega)))).mp h26
              refine lv_aload hx hb dX4_ownerBehind_52 (lv_at hl 0 rfl) ?_
              refine xr_aload_n hx hb dX4_ownerBehind_54 rfl (lv_at hl 3 rfl) ?_
              refine xk_pF (xr_S (As := [.ref (ad 0 (i)), rv (ad 0) (w)]) (rest := []) hx hb hml hown hts hK (c_X4_comesBehind hR hG i ((rv_p (by omega)).symm) w (rfl) (by omega) (by omega)) ms_X4_comesBehind kw_625 ⟨by decide, by decide⟩ ⟨by decide, by decide⟩ rfl rfl hl.1 rfl (lv_room (by decide)) dX4_ownerBehind_55) ?_
              refine xr_ifb_ne (tgt := 64) hx hb dX4_ownerBehind_58 (by decide) (fun h29 => ?_) (fun h29 => ?_)
              · skip
                refine xr_aload_n hx hb dX4_ownerBehind_64 rfl (lv_at hl 4 rfl) ?_
                refine xr_ifnull (tgt := 80) hx hb dX4_ownerBehind_65 (by decide) (fun h30 => ?_) (fun h30 => ?_)
                · skip
                  rw [rv_n h30] at hl
                  refine lv_aload hx hb dX4_ownerBehind_80 (lv_at hl 0 rfl) ?_
                  refine lv_astore_n (i := 3) (lv' := [(3, .ref (ad 0 (i))), (7, .ref (ad 0 (i))), (0, .ref (ad 4 (0))), (1, .ref (ad 1 (j))), (2, rv (ad 0) (w)), (4, .ref (ad 9 (0))), (5, .int (iI (24))), (6, .int (iI (i)))]) hx hb dX4_ownerBehind_82 rfl hl (by decide) (by simp [rv_cat, cat_i, cat_l, cat_r, cat_n]) (fun ls hl => ?_)
                  refine lv_iinc (v := iI (i + (1))) (lv' := [(6, .int (iI (i + (1)))), (3, .ref (ad 0 (i))), (7, .ref (ad 0 (i))), (0, .ref (ad 4 (0))), (1, .ref (ad 1 (j))), (2, rv (ad 0) (w)), (4, .ref (ad 9 (0))), (5, .int (iI (24)))]) hx hb dX4_ownerBehind_83 hl (k := 7) rfl (iI_add _ _) (by decide) rfl (fun ls hl => ?_)
                  refine lv_goto (tgt := 16) hx hb dX4_ownerBehind_86 (by decide) ?_
                  rw [← rv_p (f := ad 0) (v := i) (by omega)] at hl
                  exact ih (i + 1) i (by omega) (by omega) (by rw [ownerB_s hi0, ← hacc]; first | exact (if_pos (by grind)).symm | exact (if_neg (by grind)).symm) (by omega) ls (lv_sub hl [3, 4, 5, 1, 6, 7, 0] rfl)
                · skip
                  rw [rv_p h30] at hl
                  refine lv_aload hx hb dX4_ownerBehind_68 (lv_at hl 0 rfl) ?_
                  refine xg_105 (v := sg 105 i) hx hb hw0 hown hK hR (gd_0 hG (by omega)) (hts _ kw_482) rfl dX4_ownerBehind_70 ?_
                  have g31 := gr_105 hG (i)
                  refine lv_aload_n hx hb dX4_ownerBehind_73 rfl (lv_at hl 4 rfl) ?_
                  refine xg_105 (v := sg 105 acc) hx hb hw0 hown hK hR (gd_0 hG (by omega)) (hts _ kw_482) rfl dX4_ownerBehind_74 ?_
                  have g32 := gr_105 hG (acc)
                  refine xr_icmp_le (tgt := 83) hx hb dX4_ownerBehind_77 (by decide) (by omega) (by omega) (fun h33 => ?_) (fun h33 => ?_)
                  · skip
                    refine lv_iinc (v := iI (i + (1))) (lv' := [(6, .int (iI (i + (1)))), (7, .ref (ad 0 (i))), (0, .ref (ad 4 (0))), (1, .ref (ad 1 (j))), (2, rv (ad 0) (w)), (3, .ref (ad 0 (acc))), (4, .ref (ad 9 (0))), (5, .int (iI (24)))]) hx hb dX4_ownerBehind_83 hl (k := 7) rfl (iI_add _ _) (by decide) rfl (fun ls hl => ?_)
                    refine lv_goto (tgt := 16) hx hb dX4_ownerBehind_86 (by decide) ?_
                    rw [← rv_p (f := ad 0) (v := acc) (by omega)] at hl
                    exact ih (i + 1) acc (by omega) (by omega) (by rw [ownerB_s hi0, ← hacc]; first | exact (if_pos (by grind)).symm | exact (if_neg (by grind)).symm) (by omega) ls (lv_sub hl [2, 3, 4, 5, 6, 7, 0] rfl)
                  · skip
                    refine lv_aload hx hb dX4_ownerBehind_80 (lv_at hl 0 rfl) ?_
                    refine lv_astore_n (i := 3) (lv' := [(3, .ref (ad 0 (i))), (7, .ref (ad 0 (i))), (0, .ref (ad 4 (0))), (1, .ref (ad 1 (j))), (2, rv (ad 0) (w)), (4, .ref (ad 9 (0))), (5, .int (iI (24))), (6, .int (iI (i)))]) hx hb dX4_ownerBehind_82 rfl hl (by decide) (by simp [rv_cat, cat_i, cat_l, cat_r, cat_n]) (fun ls hl => ?_)
                    refine lv_iinc (v := iI (i + (1))) (lv' := [(6, .int (iI (i + (1)))), (3, .ref (ad 0 (i))), (7, .ref (ad 0 (i))), (0, .ref (ad 4 (0))), (1, .ref (ad 1 (j))), (2, rv (ad 0) (w)), (4, .ref (ad 9 (0))), (5, .int (iI (24)))]) hx hb dX4_ownerBehind_83 hl (k := 7) rfl (iI_add _ _) (by decide) rfl (fun ls hl => ?_)
                    refine lv_goto (tgt := 16) hx hb dX4_ownerBehind_86 (by decide) ?_
                    rw [← rv_p (f := ad 0) (v := i) (by omega)] at hl
                    exact ih (i + 1) i (by omega) (by omega) (by rw [ownerB_s hi0, ← hacc]; first | exact (if_pos (by grind)).symm | exact (if_neg (by grind)).symm) (by omega) ls (lv_sub hl [3, 4, 5, 1, 6, 7, 0] rfl)
              · skip
                refine lv_goto (tgt := 83) hx hb dX4_ownerBehind_61 (by decide) ?_
                refine lv_iinc (v := iI (i + (1))) (lv' := [(6, .int (iI (i + (1)))), (7, .ref (ad 0 (i))), (0, .ref (ad 4 (0))), (1, .ref (ad 1 (j))), (2, rv (ad 0) (w)), (3, rv (ad 0) (acc)), (4, .ref (ad 9 (0))), (5, .int (iI (24)))]) hx hb dX4_ownerBehind_83 hl (k := 7) rfl (iI_add _ _) (by decide) rfl (fun ls hl => ?_)
                refine lv_goto (tgt := 16) hx hb dX4_ownerBehind_86 (by decide) ?_
                exact ih (i + 1) acc (by omega) (by omega) (by rw [ownerB_s hi0, ← hacc]; first | exact (if_pos (by grind)).symm | exact (if_neg (by grind)).symm) (by omega) ls (lv_sub hl [2, 3, 4, 5, 6, 7, 0] rfl)
        · skip
          rw [if_neg (by omega)] at q20
          rw [q20, rv_n (f := ad 0) (v := -1) (by decide)]
          refine lv_astoreN (i := 7) (lv' := [(7, .null), (0, .ref (ad 4 (0))), (1, .ref (ad 1 (j))), (2, rv (ad 0) (w)), (3, rv (ad 0) (acc)), (4, .ref (ad 9 (0))), (5, .int (iI (24))), (6, .int (iI (i)))]) hx hb dX4_ownerBehind_28 hl (by decide) rfl (fun ls hl => ?_)
          refine lv_aloadN hx hb dX4_ownerBehind_30 (lv_at hl 0 rfl) ?_
          refine lv_ifnullN (tgt := 83) hx hb dX4_ownerBehind_32 (by decide) ?_
          refine lv_iinc (v := iI (i + (1))) (lv' := [(6, .int (iI (i + (1)))), (7, .null), (0, .ref (ad 4 (0))), (1, .ref (ad 1 (j))), (2, rv (ad 0) (w)), (3, rv (ad 0) (acc)), (4, .ref (ad 9 (0))), (5, .int (iI (24)))]) hx hb dX4_ownerBehind_83 hl (k := 7) rfl (iI_add _ _) (by decide) rfl (fun ls hl => ?_)
          refine lv_goto (tgt := 16) hx hb dX4_ownerBehind_86 (by decide) ?_
          exact ih (i + 1) acc (by omega) (by omega) (by rw [ownerB_s hi0, ← hacc]; first | exact (if_pos (by grind)).symm | exact (if_neg (by grind)).symm) (by omega) ls (lv_sub hl [2, 3, 4, 5, 6, 7, 0] rfl)
  rw [← rv_n (f := ad 0) (v := -1) (by decide)] at hl
  exact loop16 _ 0 (-1) (by decide) (by decide) rfl (Nat.le_refl _) ls (lv_sub hl [4, 5, 6, 3, 2, 1, 0] rfl)
