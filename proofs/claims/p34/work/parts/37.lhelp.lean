theorem ms_L_needs : MSt yL_needs cL_needs 5 (some .int) 3 := ⟨kw_660, kw_659, kw_0, by decide, by decide, by decide +kernel⟩
set_option maxRecDepth 100000 in
set_option maxHeartbeats 4000000 in
theorem c_L_needs {l : Launch} {D : va_G} {cy : Nat → ClassId} {A : Nat → Prop} {ad : Nat → Int → Nat} {mu : Nat → Int → Int} {H : Heap} (hR : RM D cy A ad mu H) (hG : GL mu)  (w : Int) (b : Int) (h_w : in32 w) (hb01 : 0 ≤ b ∧ b ≤ 1) : Met l yL_needs (Cond.code yL_needs cL_needs 5 (some .int) :: wG) (rmF 0 0 0 0) (Pc D cy H [.ref (ad 20 (0)), .int (iI (w)), .int (iI (b))]) (Qp (.int (iI (lNeeds mu w b)))) 0 0 Kn := by
  refine met_of (la := [(0, .ref (ad 20 (0))), (1, .int (iI (w))), (2, .int (iI (b)))]) (by decide) (Nat.le_of_ble_eq_true rfl) rfl ?_
  intro p e R s m args below meth c ls hRm hx hb hml hr hlk hin hown hts hsH hK hl
  subst hRm
  have hown : s.vm.findClass "TakinghallLaw" = some m.cls := hown
  refine lv_iconst (v := iI (0)) hx hb dL_needs_0 rfl ?_
  refine lv_istore_n (i := 3) (lv' := [(3, .int (iI (0))), (0, .ref (ad 20 (0))), (1, .int (iI (w))), (2, .int (iI (b)))]) hx hb dL_needs_1 rfl hl (by decide) rfl (fun ls hl => ?_)
  refine lv_iconst (v := iI (0)) hx hb dL_needs_2 rfl ?_
  refine lv_istore (i := 4) (lv' := [(4, .int (iI (0))), (3, .int (iI (0))), (0, .ref (ad 20 (0))), (1, .int (iI (w))), (2, .int (iI (b)))]) hx hb dL_needs_3 hl (by decide) rfl (fun ls hl => ?_)
  have loop5 : ∀ (n : Nat) (i : Int) (acc : Int), 0 ≤ i → i ≤ 4 → acc = sumN (fun q => bI (mu 1000 (8 * q + 3) = w ∧ (b = 0 ∨ mu 1000 (8 * q + 2) = 0))) i.toNat → (4 - i).toNat < n → ∀ ls : Array Slot, lv_has ls 5 [(0, .ref (ad 20 (0))), (1, .int (iI (w))), (2, .int (iI (b))), (3, .int (iI (acc))), (4, .int (iI (i)))] → W p l e (rmF 0 0 0 0) s m args below meth c H [] 0 0 (MQ below (Qp (.int (iI (lNeeds mu w b)))) args s 0 0 Kn) (F0 m 5 ls []) := by
    intro n5
    induction n5 with
    | zero =>
      intro i acc hi0 hi1 hacc hn5 ls hl
      exact absurd hn5 (Nat.not_lt_zero _)
    | succ n5 ih5 =>
      intro i acc hi0 hi1 hacc hn5 ls hl
      refine lv_iload hx hb dL_needs_5 (lv_at hl 4 rfl) ?_
      refine lv_iconst (v := iI (4)) hx hb dL_needs_7 rfl ?_
      refine xr_icmp_ge (tgt := 54) hx hb dL_needs_8 (by decide) (by omega) (by omega) (fun h1 => ?_) (fun h1 => ?_)
      · skip
        refine lv_iload_n hx hb dL_needs_54 rfl (lv_at hl 3 rfl) ?_
        exact xe_i hx hb hr hlk hsH dL_needs_55 (by have e : i = 4 := (by omega); subst e; exact hacc)
      · skip
        refine lv_iload_n hx hb dL_needs_11 rfl (lv_at hl 3 rfl) ?_
        refine lv_aload_n hx hb dL_needs_12 rfl (lv_at hl 0 rfl) ?_
        refine lv_bipush (v := iI (8)) hx hb dL_needs_13 (by decide) ?_
        refine lv_iload hx hb dL_needs_15 (lv_at hl 4 rfl) ?_
        refine xr_imul hx hb dL_needs_17 ?_
        refine lv_iconst (v := iI (3)) hx hb dL_needs_18 rfl ?_
        refine xr_iadd hx hb dL_needs_19 ?_
        refine xa_1000 (v := mu 1000 ((8 * i) + 3)) hx hb hK hR (by omega) rfl dL_needs_20 ?_
        have g2 := ml_1000 hG ((8 * i) + 3)
        refine lv_iload_n hx hb dL_needs_21 rfl (lv_at hl 1 rfl) ?_
        refine xr_icmp_ne (tgt := 45) hx hb dL_needs_22 (by decide) (by omega) (by omega) (fun h3 => ?_) (fun h3 => ?_)
        · skip
          refine lv_iconst (v := iI (0)) hx hb dL_needs_45 rfl ?_
          refine xr_iadd hx hb dL_needs_46 ?_
          refine lv_istore_n (i := 3) (lv' := [(3, .int (iI (acc + 0))), (0, .ref (ad 20 (0))), (1, .int (iI (w))), (2, .int (iI (b))), (4, .int (iI (i)))]) hx hb dL_needs_47 rfl hl (by decide) rfl (fun ls hl => ?_)
          refine lv_iinc (v := iI (i + (1))) (lv' := [(4, .int (iI (i + (1)))), (3, .int (iI (acc + 0))), (0, .ref (ad 20 (0))), (1, .int (iI (w))), (2, .int (iI (b)))]) hx hb dL_needs_48 hl (k := 4) rfl (iI_add _ _) (by decide) rfl (fun ls hl => ?_)
          refine lv_goto (tgt := 5) hx hb dL_needs_51 (by decide) ?_
          exact ih5 (i + 1) (acc + 0) (by omega) (by omega) (sum_t hi0 hacc (by first | exact (bI_t (by first | omega | grind)).symm | exact (bI_f (by first | omega | grind)).symm)) (by omega) ls (lv_sub hl [2, 3, 4, 1, 0] rfl)
        · skip
          refine lv_iload_n hx hb dL_needs_25 rfl (lv_at hl 2 rfl) ?_
          refine xr_if_eq (tgt := 41) hx hb dL_needs_26 (by decide) (by omega) (fun h4 => ?_) (fun h4 => ?_)
          · skip
            refine lv_iconst (v := iI (1)) hx hb dL_needs_41 rfl ?_
            refine lv_goto (tgt := 46) hx hb dL_needs_42 (by decide) ?_
            refine xr_iadd hx hb dL_needs_46 ?_
            refine lv_istore_n (i := 3) (lv' := [(3, .int (iI (acc + 1))), (0, .ref (ad 20 (0))), (1, .int (iI (w))), (2, .int (iI (b))), (4, .int (iI (i)))]) hx hb dL_needs_47 rfl hl (by decide) rfl (fun ls hl => ?_)
            refine lv_iinc (v := iI (i + (1))) (lv' := [(4, .int (iI (i + (1)))), (3, .int (iI (acc + 1))), (0, .ref (ad 20 (0))), (1, .int (iI (w))), (2, .int (iI (b)))]) hx hb dL_needs_48 hl (k := 4) rfl (iI_add _ _) (by decide) rfl (fun ls hl => ?_)
            refine lv_goto (tgt := 5) hx hb dL_needs_51 (by decide) ?_
            exact ih5 (i + 1) (acc + 1) (by omega) (by omega) (sum_t hi0 hacc (by first | exact (bI_t (by first | omega | grind)).symm | exact (bI_f (by first | omega | grind)).symm)) (by omega) ls (lv_sub hl [2, 3, 4, 1, 0] rfl)
          · skip
            refine lv_aload_n hx hb dL_needs_29 rfl (lv_at hl 0 rfl) ?_
            refine lv_bipush (v := iI (8)) hx hb dL_needs_30 (by decide) ?_
            refine lv_iload hx hb dL_needs_32 (lv_at hl 4 rfl) ?_
            refine xr_imul hx hb dL_needs_34 ?_
            refine lv_iconst (v := iI (2)) hx hb dL_needs_35 rfl ?_
            refine xr_iadd hx hb dL_needs_36 ?_
            refine xa_1000 (v := mu 1000 ((8 * i) + 2)) hx hb hK hR (by omega) rfl dL_needs_37 ?_
            have g5 := ml_1000 hG ((8 * i) + 2)
            refine xr_if_ne (tgt := 45) hx hb dL_needs_38 (by decide) (by omega) (fun h6 => ?_) (fun h6 => ?_)
            · skip
              refine lv_iconst (v := iI (0)) hx hb dL_needs_45 rfl ?_
              refine xr_iadd hx hb dL_needs_46 ?_
              refine lv_istore_n (i := 3) (lv' := [(3, .int (iI (acc + 0))), (0, .ref (ad 20 (0))), (1, .int (iI (w))), (2, .int (iI (b))), (4, .int (iI (i)))]) hx hb dL_needs_47 rfl hl (by decide) rfl (fun ls hl => ?_)
              refine lv_iinc (v := iI (i + (1))) (lv' := [(4, .int (iI (i + (1)))), (3, .int (iI (acc + 0))), (0, .ref (ad 20 (0))), (1, .int (iI (w))), (2, .int (iI (b)))]) hx hb dL_needs_48 hl (k := 4) rfl (iI_add _ _) (by decide) rfl (fun ls hl => ?_)
              refine lv_goto (tgt := 5) hx hb dL_needs_51 (by decide) ?_
              exact ih5 (i + 1) (acc + 0) (by omega) (by omega) (sum_t hi0 hacc (by first | exact (bI_t (by first | omega | grind)).symm | exact (bI_f (by first | omega | grind)).symm)) (by omega) ls (lv_sub hl [2, 3, 4, 1, 0] rfl)
            · skip
              refine lv_iconst (v := iI (1)) hx hb dL_needs_41 rfl ?_
              refine lv_goto (tgt := 46) hx hb dL_needs_42 (by decide) ?_
              refine xr_iadd hx hb dL_needs_46 ?_
              refine lv_istore_n (i := 3) (lv' := [(3, .int (iI (acc + 1))), (0, .ref (ad 20 (0))), (1, .int (iI (w))), (2, .int (iI (b))), (4, .int (iI (i)))]) hx hb dL_needs_47 rfl hl (by decide) rfl (fun ls hl => ?_)
              refine lv_iinc (v := iI (i + (1))) (lv' := [(4, .int (iI (i + (1)))), (3, .int (iI (acc + 1))), (0, .ref (ad 20 (0))), (1, .int (iI (w))), (2, .int (iI (b)))]) hx hb dL_needs_48 hl (k := 4) rfl (iI_add _ _) (by decide) rfl (fun ls hl => ?_)
              refine lv_goto (tgt := 5) hx hb dL_needs_51 (by decide) ?_
              exact ih5 (i + 1) (acc + 1) (by omega) (by omega) (sum_t hi0 hacc (by first | exact (bI_t (by first | omega | grind)).symm | exact (bI_f (by first | omega | grind)).symm)) (by omega) ls (lv_sub hl [2, 3, 4, 1, 0] rfl)
  exact loop5 _ 0 0 (by decide) (by omega) rfl (Nat.lt_succ_self _) ls (lv_sub hl [2, 3, 4, 1, 0] rfl)
theorem ms_L_opens : MSt yL_opens cL_opens 8 (some .int) 5 := ⟨kw_663, kw_662, kw_0, by decide, by decide, by decide +kernel⟩
set_option maxRecDepth 100000 in
set_option maxHeartbeats 4000000 in
theorem c_L_opens {l : Launch} {D : va_G} {cy : Nat → ClassId} {A : Nat → Prop} {ad : Nat → Int → Nat} {mu : Nat → Int → Int} {H : Heap} (hR : RM D cy A ad mu H) (hG : GL mu)  (many : Int) (w : Int) (hm : 0 ≤ many ∧ many ≤ 24) (h_w : in32 w) : Met l yL_opens (Cond.code yL_opens cL_opens 8 (some .int) :: wG) (rmF 0 0 0 0) (Pc D cy H [.ref (ad 20 (0)), .ref (ad 21 (0)), .ref (ad 25 (0)), .int (iI (many)), .int (iI (w))]) (Qp (.int (iI (lOpens mu many w)))) 0 0 Kn := by
  refine met_of (la := [(0, .ref (ad 20 (0))), (1, .ref (ad 21 (0))), (2, .ref (ad 25 (0))), (3, .int (iI (many))), (4, .int (iI (w)))]) (by decide) (Nat.le_of_ble_eq_true rfl) rfl ?_
  intro p e R s m args below meth c ls hRm hx hb hml hr hlk hin hown hts hsH hK hl
  subst hRm
  have hown : s.vm.findClass "TakinghallLaw" = some m.cls := hown
  refine lv_iconst (v := iI (0)) hx hb dL_opens_0 rfl ?_
  refine lv_istore (i := 5) (lv' := [(5, .int (iI (0))), (0, .ref (ad 20 (0))), (1, .ref (ad 21 (0))), (2, .ref (ad 25 (0))), (3, .int (iI (many))), (4, .int (iI (w)))]) hx hb dL_opens_1 hl (by decide) rfl (fun ls hl => ?_)
  refine lv_iconst (v := iI (0)) hx hb dL_opens_3 rfl ?_
  refine lv_istore (i := 6) (lv' := [(6, .int (iI (0))), (5, .int (iI (0))), (0, .ref (ad 20 (0))), (1, .ref (ad 21 (0))), (2, .ref (ad 25 (0))), (3, .int (iI (many))), (4, .int (iI (w)))]) hx hb dL_opens_4 hl (by decide) rfl (fun ls hl => ?_)
  have loop6 : ∀ (n : Nat) (i : Int) (acc : Int), 0 ≤ i → i ≤ many → acc = sumN (fun q => bI (mu 1005 q = 1 ∧ mu 1000 (8 * mu 1001 (24 + q) + 2) = 0 ∧ mu 1000 (8 * mu 1001 (24 + q) + 3) = w)) i.toNat → (many - i).toNat < n → ∀ ls : Array Slot, lv_has ls 8 [(0, .ref (ad 20 (0))), (1, .ref (ad 21 (0))), (2, .ref (ad 25 (0))), (3, .int (iI (many))), (4, .int (iI (w))), (5, .int (iI (acc))), (6, .int (iI (i)))] → W p l e (rmF 0 0 0 0) s m args below meth c H [] 0 0 (MQ below (Qp (.int (iI (lOpens mu many w)))) args s 0 0 Kn) (F0 m 6 ls []) := by
    intro n6
    induction n6 with
    | zero =>
      intro i acc hi0 hi1 hacc hn6 ls hl
      exact absurd hn6 (Nat.not_lt_zero _)
    | succ n6 ih6 =>
      intro i acc hi0 hi1 hacc hn6 ls hl
      refine lv_iload hx hb dL_opens_6 (lv_at hl 6 rfl) ?_
      refine lv_iload_n hx hb dL_opens_8 rfl (lv_at hl 3 rfl) ?_
      refine xr_icmp_ge (tgt := 68) hx hb dL_opens_9 (by decide) (by omega) (by omega) (fun h1 => ?_) (fun h1 => ?_)
      · skip
        refine lv_iload hx hb dL_opens_68 (lv_at hl 5 rfl) ?_
        exact xe_i hx hb hr hlk hsH dL_opens_70 (by have e : i = many := (by omega); rw [e] at hacc; exact hacc)
      · skip
        refine lv_bipush (v := iI (8)) hx hb dL_opens_12 (by decide) ?_
        refine lv_aload_n hx hb dL_opens_14 rfl (lv_at hl 1 rfl) ?_
        refine lv_bipush (v := iI (24)) hx hb dL_opens_15 (by decide) ?_
        refine lv_iload hx hb dL_opens_17 (lv_at hl 6 rfl) ?_
        refine xr_iadd hx hb dL_opens_19 ?_
        refine xa_1001 (v := mu 1001 (24 + i)) hx hb hK hR (by omega) rfl dL_opens_20 ?_
        have g2 := ml_1001 hG (24 + i)
        refine xr_imul hx hb dL_opens_21 ?_
        refine lv_istore (i := 7) (lv' := [(7, .int (iI (8 * (mu 1001 (24 + i))))), (0, .ref (ad 20 (0))), (1, .ref (ad 21 (0))), (2, .ref (ad 25 (0))), (3, .int (iI (many))), (4, .int (iI (w))), (5, .int (iI (acc))), (6, .int (iI (i)))]) hx hb dL_opens_22 hl (by decide) rfl (fun ls hl => ?_)
        refine lv_iload hx hb dL_opens_24 (lv_at hl 6 rfl) ?_
        refine lv_aload_n hx hb dL_opens_26 rfl (lv_at hl 3 rfl) ?_
        refine lv_iload hx hb dL_opens_27 (lv_at hl 7 rfl) ?_
        refine xa_1005 (v := mu 1005 i) hx hb hK hR (by omega) rfl dL_opens_29 ?_
        have g3 := ml_1005 hG (i)
        refine lv_iconst (v := iI (1)) hx hb dL_opens_30 rfl ?_
        refine xr_icmp_ne (tgt := 58) hx hb dL_opens_31 (by decide) (by omega) (by omega) (fun h4 => ?_) (fun h4 => ?_)
        · skip
          refine lv_iconst (v := iI (0)) hx hb dL_opens_58 rfl ?_
          refine xr_iadd hx hb dL_opens_59 ?_
          refine lv_istore (i := 5) (lv' := [(5, .int (iI (acc + 0))), (7, .int (iI (8 * (mu 1001 (24 + i))))), (0, .ref (ad 20 (0))), (1, .ref (ad 21 (0))), (2, .ref (ad 25 (0))), (3, .int (iI (many))), (4, .int (iI (w))), (6, .int (iI (i)))]) hx hb dL_opens_60 hl (by decide) rfl (fun ls hl => ?_)
          refine lv_iinc (v := iI (i + (1))) (lv' := [(6, .int (iI (i + (1)))), (5, .int (iI (acc + 0))), (7, .int (iI (8 * (mu 1001 (24 + i))))), (0, .ref (ad 20 (0))), (1, .ref (ad 21 (0))), (2, .ref (ad 25 (0))), (3, .int (iI (many))), (4, .int (iI (w)))]) hx hb dL_opens_62 hl (k := 7) rfl (iI_add _ _) (by decide) rfl (fun ls hl => ?_)
          refine lv_goto (tgt := 6) hx hb dL_opens_65 (by decide) ?_
          exact ih6 (i + 1) (acc + 0) (by omega) (by omega) (sum_t hi0 hacc (by first | exact (bI_t (by first | omega | grind)).symm | exact (bI_f (by first | omega | grind)).symm)) (by omega) ls (lv_sub hl [3, 4, 5, 6, 7, 1, 0] rfl)
        · skip
          refine lv_aload_n hx hb dL_opens_34 rfl (lv_at hl 1 rfl) ?_
          refine lv_iload hx hb dL_opens_35 (lv_at hl 0 rfl) ?_
          refine lv_iconst (v := iI (2)) hx hb dL_opens_37 rfl ?_
          refine xr_iadd hx hb dL_opens_38 ?_
          refine xa_1000 (v := mu 1000 ((8 * (mu 1001 (24 + i))) + 2)) hx hb hK hR (by omega) rfl dL_opens_39 ?_
          have g5 := ml_1000 hG ((8 * (mu 1001 (24 + i))) + 2)
          refine xr_if_ne (tgt := 58) hx hb dL_opens_40 (by decide) (by omega) (fun h6 => ?_) (fun h6 => ?_)
          · skip
            refine lv_iconst (v := iI (0)) hx hb dL_opens_58 rfl ?_
            refine xr_iadd hx hb dL_opens_59 ?_
            refine lv_istore (i := 5) (lv' := [(5, .int (iI (acc + 0))), (7, .int (iI (8 * (mu 1001 (24 + i))))), (0, .ref (ad 20 (0))), (1, .ref (ad 21 (0))), (2, .ref (ad 25 (0))), (3, .int (iI (many))), (4, .int (iI (w))), (6, .int (iI (i)))]) hx hb dL_opens_60 hl (by decide) rfl (fun ls hl => ?_)
            refine lv_iinc (v := iI (i + (1))) (lv' := [(6, .int (iI (i + (1)))), (5, .int (iI (acc + 0))), (7, .int (iI (8 * (mu 1001 (24 + i))))), (0, .ref (ad 20 (0))), (1, .ref (ad 21 (0))), (2, .ref (ad 25 (0))), (3, .int (iI (many))), (4, .int (iI (w)))]) hx hb dL_opens_62 hl (k := 7) rfl (iI_add _ _) (by decide) rfl (fun ls hl => ?_)
            refine lv_goto (tgt := 6) hx hb dL_opens_65 (by decide) ?_
            exact ih6 (i + 1) (acc + 0) (by omega) (by omega) (sum_t hi0 hacc (by first | exact (bI_t (by first | omega | grind)).symm | exact (bI_f (by first | omega | grind)).symm)) (by omega) ls (lv_sub hl [3, 4, 5, 6, 7, 1, 0] rfl)
          · skip
            refine lv_aload_n hx hb dL_opens_43 rfl (lv_at hl 1 rfl) ?_
            refine lv_iload hx hb dL_opens_44 (lv_at hl 0 rfl) ?_
            refine lv_iconst (v := iI (3)) hx hb dL_opens_46 rfl ?_
            refine xr_iadd hx hb dL_opens_47 ?_
            refine xa_1000 (v := mu 1000 ((8 * (mu 1001 (24 + i))) + 3)) hx hb hK hR (by omega) rfl dL_opens_48 ?_
            have g7 := ml_1000 hG ((8 * (mu 1001 (24 + i))) + 3)
            refine lv_iload hx hb dL_opens_49 (lv_at hl 5 rfl) ?_
            refine xr_icmp_ne (tgt := 58) hx hb dL_opens_51 (by decide) (by omega) (by omega) (fun h8 => ?_) (fun h8 => ?_)
            · skip
              refine lv_iconst (v := iI (0)) hx hb dL_opens_58 rfl ?_
              refine xr_iadd hx hb dL_opens_59 ?_
              refine lv_istore (i := 5) (lv' := [(5, .int (iI (acc + 0))), (7, .int (iI (8 * (mu 1001 (24 + i))))), (0, .ref (ad 20 (0))), (1, .ref (ad 21 (0))), (2, .ref (ad 25 (0))), (3, .int (iI (many))), (4, .int (iI (w))), (6, .int (iI (i)))]) hx hb dL_opens_60 hl (by decide) rfl (fun ls hl => ?_)
              refine lv_iinc (v := iI (i + (1))) (lv' := [(6, .int (iI (i + (1)))), (5, .int (iI (acc + 0))), (7, .int (iI (8 * (mu 1001 (24 + i))))), (0, .ref (ad 20 (0))), (1, .ref (ad 21 (0))), (2, .ref (ad 25 (0))), (3, .int (iI (many))), (4, .int (iI (w)))]) hx hb dL_opens_62 hl (k := 7) rfl (iI_add _ _) (by decide) rfl (fun ls hl => ?_)
              refine lv_goto (tgt := 6) hx hb dL_opens_65 (by decide) ?_
              exact ih6 (i + 1) (acc + 0) (by omega) (by omega) (sum_t hi0 hacc (by first | exact (bI_t (by first | omega | grind)).symm | exact (bI_f (by first | omega | grind)).symm)) (by omega) ls (lv_sub hl [3, 4, 5, 6, 7, 1, 0] rfl)
            · skip
              refine lv_iconst (v := iI (1)) hx hb dL_opens_54 rfl ?_
              refine lv_goto (tgt := 59) hx hb dL_opens_55 (by decide) ?_
              refine xr_iadd hx hb dL_opens_59 ?_
              refine lv_istore (i := 5) (lv' := [(5, .int (iI (acc + 1))), (7, .int (iI (8 * (mu 1001 (24 + i))))), (0, .ref (ad 20 (0))), (1, .ref (ad 21 (0))), (2, .ref (ad 25 (0))), (3, .int (iI (many))), (4, .int (iI (w))), (6, .int (iI (i)))]) hx hb dL_opens_60 hl (by decide) rfl (fun ls hl => ?_)
              refine lv_iinc (v := iI (i + (1))) (lv' := [(6, .int (iI (i + (1)))), (5, .int (iI (acc + 1))), (7, .int (iI (8 * (mu 1001 (24 + i))))), (0, .ref (ad 20 (0))), (1, .ref (ad 21 (0))), (2, .ref (ad 25 (0))), (3, .int (iI (many))), (4, .int (iI (w)))]) hx hb dL_opens_62 hl (k := 7) rfl (iI_add _ _) (by decide) rfl (fun ls hl => ?_)
              refine lv_goto (tgt := 6) hx hb dL_opens_65 (by decide) ?_
              exact ih6 (i + 1) (acc + 1) (by omega) (by omega) (sum_t hi0 hacc (by first | exact (bI_t (by first | omega | grind)).symm | exact (bI_f (by first | omega | grind)).symm)) (by omega) ls (lv_sub hl [3, 4, 5, 6, 7, 1, 0] rfl)
  exact loop6 _ 0 0 (by decide) (by omega) rfl (Nat.lt_succ_self _) ls (lv_sub hl [2, 3, 4, 5, 6, 1, 0] rfl)
theorem ms_L_stops : MSt yL_stops cL_stops 11 (some .int) 8 := ⟨kw_657, kw_656, kw_0, by decide, by decide, by decide +kernel⟩
set_option maxRecDepth 100000 in
set_option maxHeartbeats 4000000 in
theorem c_L_stops {l : Launch} {D : va_G} {cy : Nat → ClassId} {A : Nat → Prop} {ad : Nat → Int → Nat} {mu : Nat → Int → Int} {H : Heap} (hR : RM D cy A ad mu H) (hG : GL mu)  (many : Int) (w : Int) (d : Int) (hm : 0 ≤ many ∧ many ≤ 24) (h_w : in32 w) (hd : 0 ≤ d ∧ d ≤ 20000) : Met l yL_stops (Cond.code yL_stops cL_stops 11 (some .int) :: wG) (rmF 0 0 0 0) (Pc D cy H [.ref (ad 20 (0)), .ref (ad 21 (0)), .ref (ad 22 (0)), .ref (ad 24 (0)), .ref (ad 25 (0)), .int (iI (many)), .int (iI (w)), .int (iI (d))]) (Qp (.int (iI (lStops mu many w d)))) 0 0 Kn := by
  refine met_of (la := [(0, .ref (ad 20 (0))), (1, .ref (ad 21 (0))), (2, .ref (ad 22 (0))), (3, .ref (ad 24 (0))), (4, .ref (ad 25 (0))), (5, .int (iI (many))), (6, .int (iI (w))), (7, .int (iI (d)))]) (by decide) (Nat.le_of_ble_eq_true rfl) rfl ?_
  intro p e R s m args below meth c ls hRm hx hb hml hr hlk hin hown hts hsH hK hl
  subst hRm
  have hown : s.vm.findClass "TakinghallLaw" = some m.cls := hown
  refine lv_iconst (v := iI (0)) hx hb dL_stops_0 rfl ?_
  refine lv_istore (i := 8) (lv' := [(8, .int (iI (0))), (0, .ref (ad 20 (0))), (1, .ref (ad 21 (0))), (2, .ref (ad 22 (0))), (3, .ref (ad 24 (0))), (4, .ref (ad 25 (0))), (5, .int (iI (many))), (6, .int (iI (w))), (7, .int (iI (d)))]) hx hb dL_stops_1 hl (by decide) rfl (fun ls hl => ?_)
  have loop3 : ∀ (n : Nat) (i : Int), 0 ≤ i → i ≤ many → low (lStop mu w d) i.toNat = -1 → (many - i).toNat < n → ∀ ls : Array Slot, lv_has ls 11 [(0, .ref (ad 20 (0))), (1, .ref (ad 21 (0))), (2, .ref (ad 22 (0))), (3, .ref (ad 24 (0))), (4, .ref (ad 25 (0))), (5, .int (iI (many))), (6, .int (iI (w))), (7, .int (iI (d))), (8, .int (iI (i)))] → W p l e (rmF 0 0 0 0) s m args below meth c H [] 0 0 (MQ below (Qp (.int (iI (lStops mu many w d)))) args s 0 0 Kn) (F0 m 3 ls []) := by
    intro n3
    induction n3 with
    | zero =>
      intro i hi0 hi1 hlow hn3 ls hl
      exact absurd hn3 (Nat.not_lt_zero _)
    | succ n3 ih3 =>
      intro i hi0 hi1 hlow hn3 ls hl
      refine lv_iload hx hb dL_stops_3 (lv_at hl 8 rfl) ?_
      refine lv_iload hx hb dL_stops_5 (lv_at hl 5 rfl) ?_
      refine xr_icmp_ge (tgt := 108) hx hb dL_stops_7 (by decide) (by omega) (by omega) (fun h1 => ?_) (fun h1 => ?_)
      · skip
        refine lv_iconst (v := iI (-1)) hx hb dL_stops_108 rfl ?_
        exact xe_i hx hb hr hlk hsH dL_stops_109 (by first | exact (low_hit (N := many.toNat) hi0 (by omega) hlow (by unfold lStop; first | omega | grind)).symm | (have e : i = many := (by omega); rw [e] at hlow; exact hlow.symm))
      · skip
        refine lv_bipush (v := iI (8)) hx hb dL_stops_10 (by decide) ?_
        refine lv_aload_n hx hb dL_stops_12 rfl (lv_at hl 1 rfl) ?_
        refine lv_bipush (v := iI (24)) hx hb dL_stops_13 (by decide) ?_
        refine lv_iload hx hb dL_stops_15 (lv_at hl 8 rfl) ?_
        refine xr_iadd hx hb dL_stops_17 ?_
        refine xa_1001 (v := mu 1001 (24 + i)) hx hb hK hR (by omega) rfl dL_stops_18 ?_
        have g2 := ml_1001 hG (24 + i)
        refine xr_imul hx hb dL_stops_19 ?_
        refine lv_istore (i := 9) (lv' := [(9, .int (iI (8 * (mu 1001 (24 + i))))), (0, .ref (ad 20 (0))), (1, .ref (ad 21 (0))), (2, .ref (ad 22 (0))), (3, .ref (ad 24 (0))), (4, .ref (ad 25 (0))), (5, .int (iI (many))), (6, .int (iI (w))), (7, .int (iI (d))), (8, .int (iI (i)))]) hx hb dL_stops_20 hl (by decide) rfl (fun ls hl => ?_)
        refine lv_aload_n hx hb dL_stops_22 rfl (lv_at hl 1 rfl) ?_
        refine lv_iload hx hb dL_stops_23 (lv_at hl 0 rfl) ?_
        refine lv_iconst (v := iI (2)) hx hb dL_stops_25 rfl ?_
        refine xr_iadd hx hb dL_stops_26 ?_
        refine xa_1000 (v := mu 1000 ((8 * (mu 1001 (24 + i))) + 2)) hx hb hK hR (by omega) rfl dL_stops_27 ?_
        have g3 := ml_1000 hG ((8 * (mu 1001 (24 + i))) + 2)
        refine xr_if_ne (tgt := 63) hx hb dL_stops_28 (by decide) (by omega) (fun h4 => ?_) (fun h4 => ?_)
        · skip
          refine lv_iconst (v := iI (0)) hx hb dL_stops_63 rfl ?_
          refine lv_istore (i := 10) (lv' := [(10, .int (iI (0))), (9, .int (iI (8 * (mu 1001 (24 + i))))), (0, .ref (ad 20 (0))), (1, .ref (ad 21 (0))), (2, .ref (ad 22 (0))), (3, .ref (ad 24 (0))), (4, .ref (ad 25 (0))), (5, .int (iI (many))), (6, .int (iI (w))), (7, .int (iI (d))), (8, .int (iI (i)))]) hx hb dL_stops_64 hl (by decide) rfl (fun ls hl => ?_)
          refine lv_iload hx hb dL_stops_66 (lv_at hl 0 rfl) ?_
          refine xr_if_eq (tgt := 102) hx hb dL_stops_68 (by decide) (by decide) (fun _ => ?_) (fun h5 => absurd h5 (by decide))
          refine lv_iinc (v := iI (i + (1))) (lv' := [(8, .int (iI (i + (1)))), (10, .int (iI (0))), (9, .int (iI (8 * (mu 1001 (24 + i))))), (0, .ref (ad 20 (0))), (1, .ref (ad 21 (0))), (2, .ref (ad 22 (0))), (3, .ref (ad 24 (0))), (4, .ref (ad 25 (0))), (5, .int (iI (many))), (6, .int (iI (w))), (7, .int (iI (d)))]) hx hb dL_stops_102 hl (k := 10) rfl (iI_add _ _) (by decide) rfl (fun ls hl => ?_)
          refine lv_goto (tgt := 3) hx hb dL_stops_105 (by decide) ?_
          exact ih3 (i + 1) (by omega) (by omega) (low_no hi0 hlow (by unfold lStop; first | omega | grind)) (by omega) ls (lv_sub hl [3, 4, 5, 6, 7, 8, 9, 10, 0] rfl)
        · skip
          refine lv_aload_n hx hb dL_stops_31 rfl (lv_at hl 1 rfl) ?_
          refine lv_iload hx hb dL_stops_32 (lv_at hl 0 rfl) ?_
          refine lv_iconst (v := iI (3)) hx hb dL_stops_34 rfl ?_
          refine xr_iadd hx hb dL_stops_35 ?_
          refine xa_1000 (v := mu 1000 ((8 * (mu 1001 (24 + i))) + 3)) hx hb hK hR (by omega) rfl dL_stops_36 ?_
          have g6 := ml_1000 hG ((8 * (mu 1001 (24 + i))) + 3)
          refine lv_iload hx hb dL_stops_37 (lv_at hl 7 rfl) ?_
          refine xr_icmp_ne (tgt := 63) hx hb dL_stops_39 (by decide) (by omega) (by omega) (fun h7 => ?_) (fun h7 => ?_)
          · skip
            refine lv_iconst (v := iI (0)) hx hb dL_stops_63 rfl ?_
            refine lv_istore (i := 10) (lv' := [(10, .int (iI (0))), (9, .int (iI (8 * (mu 1001 (24 + i))))), (0, .ref (ad 20 (0))), (1, .ref (ad 21 (0))), (2, .ref (ad 22 (0))), (3, .ref (ad 24 (0))), (4, .ref (ad 25 (0))), (5, .int (iI (many))), (6, .int (iI (w))), (7, .int (iI (d))), (8, .int (iI (i)))]) hx hb dL_stops_64 hl (by decide) rfl (fun ls hl => ?_)
            refine lv_iload hx hb dL_stops_66 (lv_at hl 0 rfl) ?_
            refine xr_if_eq (tgt := 102) hx hb dL_stops_68 (by decide) (by decide) (fun _ => ?_) (fun h8 => absurd h8 (by decide))
            refine lv_iinc (v := iI (i + (1))) (lv' := [(8, .int (iI (i + (1)))), (10, .int (iI (0))), (9, .int (iI (8 * (mu 1001 (24 + i))))), (0, .ref (ad 20 (0))), (1, .ref (ad 21 (0))), (2, .ref (ad 22 (0))), (3, .ref (ad 24 (0))), (4, .ref (ad 25 (0))), (5, .int (iI (many))), (6, .int (iI (w))), (7, .int (iI (d)))]) hx hb dL_stops_102 hl (k := 10) rfl (iI_add _ _) (by decide) rfl (fun ls hl => ?_)
            refine lv_goto (tgt := 3) hx hb dL_stops_105 (by decide) ?_
            exact ih3 (i + 1) (by omega) (by omega) (low_no hi0 hlow (by unfold lStop; first | omega | grind)) (by omega) ls (lv_sub hl [3, 4, 5, 6, 7, 8, 9, 10, 0] rfl)
          · skip
            refine lv_aload_n hx hb dL_stops_42 rfl (lv_at hl 2 rfl) ?_
            refine lv_iload hx hb dL_stops_43 (lv_at hl 9 rfl) ?_
            refine xa_1001 (v := mu 1001 i) hx hb hK hR (by omega) rfl dL_stops_45 ?_
            have g9 := ml_1001 hG (i)
            refine lv_iconst (v := iI (1)) hx hb dL_stops_46 rfl ?_
            refine xr_icmp_ne (tgt := 59) hx hb dL_stops_47 (by decide) (by omega) (by omega) (fun h10 => ?_) (fun h10 => ?_)
            · skip
              refine lv_iconst (v := iI (1)) hx hb dL_stops_59 rfl ?_
              refine lv_goto (tgt := 64) hx hb dL_stops_60 (by decide) ?_
              refine lv_istore (i := 10) (lv' := [(10, .int (iI (1))), (9, .int (iI (8 * (mu 1001 (24 + i))))), (0, .ref (ad 20 (0))), (1, .ref (ad 21 (0))), (2, .ref (ad 22 (0))), (3, .ref (ad 24 (0))), (4, .ref (ad 25 (0))), (5, .int (iI (many))), (6, .int (iI (w))), (7, .int (iI (d))), (8, .int (iI (i)))]) hx hb dL_stops_64 hl (by decide) rfl (fun ls hl => ?_)
              refine lv_iload hx hb dL_stops_66 (lv_at hl 0 rfl) ?_
              refine xr_if_eq (tgt := 102) hx hb dL_stops_68 (by decide) (by decide) (fun h11 => absurd h11 (by decide)) (fun _ => ?_)
              refine lv_aload_n hx hb dL_stops_71 rfl (lv_at hl 5 rfl) ?_
              refine lv_iload hx hb dL_stops_72 (lv_at hl 10 rfl) ?_
              refine xa_1004 (v := mu 1004 i) hx hb hK hR (by omega) rfl dL_stops_74 ?_
              have g12 := ml_1004 hG (i)
              refine xr_if_lt (tgt := 99) hx hb dL_stops_75 (by decide) (by omega) (fun h13 => ?_) (fun h13 => ?_)
              · skip
                refine lv_iload hx hb dL_stops_99 (lv_at hl 10 rfl) ?_
                exact xe_i hx hb hr hlk hsH dL_stops_101 (by first | exact (low_hit (N := many.toNat) hi0 (by omega) hlow (by unfold lStop; first | omega | grind)).symm | (have e : i = many := (by omega); rw [e] at hlow; exact hlow.symm))
              · skip
                refine lv_iload hx hb dL_stops_78 (lv_at hl 9 rfl) ?_
                refine lv_aload_n hx hb dL_stops_80 rfl (lv_at hl 5 rfl) ?_
                refine lv_iload hx hb dL_stops_81 (lv_at hl 10 rfl) ?_
                refine xa_1004 (v := mu 1004 i) hx hb hK hR (by omega) rfl dL_stops_83 ?_
                refine xr_isub hx hb dL_stops_84 ?_
                refine lv_bipush (v := iI (21)) hx hb dL_stops_85 (by decide) ?_
                refine xr_icmp_lt (tgt := 99) hx hb dL_stops_87 (by decide) (by omega) (by omega) (fun h14 => ?_) (fun h14 => ?_)
                · skip
                  refine lv_iload hx hb dL_stops_99 (lv_at hl 10 rfl) ?_
                  exact xe_i hx hb hr hlk hsH dL_stops_101 (by first | exact (low_hit (N := many.toNat) hi0 (by omega) hlow (by unfold lStop; first | omega | grind)).symm | (have e : i = many := (by omega); rw [e] at hlow; exact hlow.symm))
                · skip
                  refine lv_aload hx hb dL_stops_90 (lv_at hl 6 rfl) ?_
                  refine lv_iload hx hb dL_stops_92 (lv_at hl 10 rfl) ?_
                  refine xa_1005 (v := mu 1005 i) hx hb hK hR (by omega) rfl dL_stops_94 ?_
                  have g15 := ml_1005 hG (i)
                  refine lv_iconst (v := iI (1)) hx hb dL_stops_95 rfl ?_
                  refine xr_icmp_ne (tgt := 102) hx hb dL_stops_96 (by decide) (by omega) (by omega) (fun h16 => ?_) (fun h16 => ?_)
                  · skip
                    refine lv_iinc (v := iI (i + (1))) (lv' := [(8, .int (iI (i + (1)))), (10, .int (iI (1))), (9, .int (iI (8 * (mu 1001 (24 + i))))), (0, .ref (ad 20 (0))), (1, .ref (ad 21 (0))), (2, .ref (ad 22 (0))), (3, .ref (ad 24 (0))), (4, .ref (ad 25 (0))), (5, .int (iI (many))), (6, .int (iI (w))), (7, .int (iI (d)))]) hx hb dL_stops_102 hl (k := 10) rfl (iI_add _ _) (by decide) rfl (fun ls hl => ?_)
                    refine lv_goto (tgt := 3) hx hb dL_stops_105 (by decide) ?_
                    exact ih3 (i + 1) (by omega) (by omega) (low_no hi0 hlow (by unfold lStop; first | omega | grind)) (by omega) ls (lv_sub hl [3, 4, 5, 6, 7, 8, 9, 10, 0] rfl)
                  · skip
                    refine lv_iload hx hb dL_stops_99 (lv_at hl 10 rfl) ?_
                    exact xe_i hx hb hr hlk hsH dL_stops_101 (by first | exact (low_hit (N := many.toNat) hi0 (by omega) hlow (by unfold lStop; first | omega | grind)).symm | (have e : i = many := (by omega); rw [e] at hlow; exact hlow.symm))
            · skip
              refine lv_aload_n hx hb dL_stops_50 rfl (lv_at hl 3 rfl) ?_
              refine lv_iload hx hb dL_stops_51 (lv_at hl 9 rfl) ?_
              refine xa_1002 (v := mu 1002 i) hx hb hK hR (by omega) rfl dL_stops_53 ?_
              have g17 := ml_1002 hG (i)
              refine lv_iload hx hb dL_stops_54 (lv_at hl 8 rfl) ?_
              refine xr_icmp_le (tgt := 63) hx hb dL_stops_56 (by decide) (by omega) (by omega) (fun h18 => ?_) (fun h18 => ?_)
              · skip
                refine lv_iconst (v := iI (0)) hx hb dL_stops_63 rfl ?_
                refine lv_istore (i := 10) (lv' := [(10, .int (iI (0))), (9, .int (iI (8 * (mu 1001 (24 + i))))), (0, .ref (ad 20 (0))), (1, .ref (ad 21 (0))), (2, .ref (ad 22 (0))), (3, .ref (ad 24 (0))), (4, .ref (ad 25 (0))), (5, .int (iI (many))), (6, .int (iI (w))), (7, .int (iI (d))), (8, .int (iI (i)))]) hx hb dL_stops_64 hl (by decide) rfl (fun ls hl => ?_)
                refine lv_iload hx hb dL_stops_66 (lv_at hl 0 rfl) ?_
                refine xr_if_eq (tgt := 102) hx hb dL_stops_68 (by decide) (by decide) (fun _ => ?_) (fun h19 => absurd h19 (by decide))
                refine lv_iinc (v := iI (i + (1))) (lv' := [(8, .int (iI (i + (1)))), (10, .int (iI (0))), (9, .int (iI (8 * (mu 1001 (24 + i))))), (0, .ref (ad 20 (0))), (1, .ref (ad 21 (0))), (2, .ref (ad 22 (0))), (3, .ref (ad 24 (0))), (4, .ref (ad 25 (0))), (5, .int (iI (many))), (6, .int (iI (w))), (7, .int (iI (d)))]) hx hb dL_stops_102 hl (k := 10) rfl (iI_add _ _) (by decide) rfl (fun ls hl => ?_)
                refine lv_goto (tgt := 3) hx hb dL_stops_105 (by decide) ?_
                exact ih3 (i + 1) (by omega) (by omega) (low_no hi0 hlow (by unfold lStop; first | omega | grind)) (by omega) ls (lv_sub hl [3, 4, 5, 6, 7, 8, 9, 10, 0] rfl)
              · skip
                refine lv_iconst (v := iI (1)) hx hb dL_stops_59 rfl ?_
                refine lv_goto (tgt := 64) hx hb dL_stops_60 (by decide) ?_
                refine lv_istore (i := 10) (lv' := [(10, .int (iI (1))), (9, .int (iI (8 * (mu 1001 (24 + i))))), (0, .ref (ad 20 (0))), (1, .ref (ad 21 (0))), (2, .ref (ad 22 (0))), (3, .ref (ad 24 (0))), (4, .ref (ad 25 (0))), (5, .int (iI (many))), (6, .int (iI (w))), (7, .int (iI (d))), (8, .int (iI (i)))]) hx hb dL_stops_64 hl (by decide) rfl (fun ls hl => ?_)
                refine lv_iload hx hb dL_stops_66 (lv_at hl 0 rfl) ?_
                refine xr_if_eq (tgt := 102) hx hb dL_stops_68 (by decide) (by decide) (fun h20 => absurd h20 (by decide)) (fun _ => ?_)
                refine lv_aload_n hx hb dL_stops_71 rfl (lv_at hl 5 rfl) ?_
                refine lv_iload hx hb dL_stops_72 (lv_at hl 10 rfl) ?_
                refine xa_1004 (v := mu 1004 i) hx hb hK hR (by omega) rfl dL_stops_74 ?_
                have g21 := ml_1004 hG (i)
                refine xr_if_lt (tgt := 99) hx hb dL_stops_75 (by decide) (by omega) (fun h22 => ?_) (fun h22 => ?_)
                · skip
                  refine lv_iload hx hb dL_stops_99 (lv_at hl 10 rfl) ?_
                  exact xe_i hx hb hr hlk hsH dL_stops_101 (by first | exact (low_hit (N := many.toNat) hi0 (by omega) hlow (by unfold lStop; first | omega | grind)).symm | (have e : i = many := (by omega); rw [e] at hlow; exact hlow.symm))
                · skip
                  refine lv_iload hx hb dL_stops_78 (lv_at hl 9 rfl) ?_
                  refine lv_aload_n hx hb dL_stops_80 rfl (lv_at hl 5 rfl) ?_
                  refine lv_iload hx hb dL_stops_81 (lv_at hl 10 rfl) ?_
                  refine xa_1004 (v := mu 1004 i) hx hb hK hR (by omega) rfl dL_stops_83 ?_
                  refine xr_isub hx hb dL_stops_84 ?_
                  refine lv_bipush (v := iI (21)) hx hb dL_stops_85 (by decide) ?_
                  refine xr_icmp_lt (tgt := 99) hx hb dL_stops_87 (by decide) (by omega) (by omega) (fun h23 => ?_) (fun h23 => ?_)
                  · skip
                    refine lv_iload hx hb dL_stops_99 (lv_at hl 10 rfl) ?_
                    exact xe_i hx hb hr hlk hsH dL_stops_101 (by first | exact (low_hit (N := many.toNat) hi0 (by omega) hlow (by unfold lStop; first | omega | grind)).symm | (have e : i = many := (by omega); rw [e] at hlow; exact hlow.symm))
                  · skip
                    refine lv_aload hx hb dL_stops_90 (lv_at hl 6 rfl) ?_
                    refine lv_iload hx hb dL_stops_92 (lv_at hl 10 rfl) ?_
                    refine xa_1005 (v := mu 1005 i) hx hb hK hR (by omega) rfl dL_stops_94 ?_
                    have g24 := ml_1005 hG (i)
                    refine lv_iconst (v := iI (1)) hx hb dL_stops_95 rfl ?_
                    refine xr_icmp_ne (tgt := 102) hx hb dL_stops_96 (by decide) (by omega) (by omega) (fun h25 => ?_) (fun h25 => ?_)
                    · skip
                      refine lv_iinc (v := iI (i + (1))) (lv' := [(8, .int (iI (i + (1)))), (10, .int (iI (1))), (9, .int (iI (8 * (mu 1001 (24 + i))))), (0, .ref (ad 20 (0))), (1, .ref (ad 21 (0))), (2, .ref (ad 22 (0))), (3, .ref (ad 24 (0))), (4, .ref (ad 25 (0))), (5, .int (iI (many))), (6, .int (iI (w))), (7, .int (iI (d)))]) hx hb dL_stops_102 hl (k := 10) rfl (iI_add _ _) (by decide) rfl (fun ls hl => ?_)
                      refine lv_goto (tgt := 3) hx hb dL_stops_105 (by decide) ?_
                      exact ih3 (i + 1) (by omega) (by omega) (low_no hi0 hlow (by unfold lStop; first | omega | grind)) (by omega) ls (lv_sub hl [3, 4, 5, 6, 7, 8, 9, 10, 0] rfl)
                    · skip
                      refine lv_iload hx hb dL_stops_99 (lv_at hl 10 rfl) ?_
                      exact xe_i hx hb hr hlk hsH dL_stops_101 (by first | exact (low_hit (N := many.toNat) hi0 (by omega) hlow (by unfold lStop; first | omega | grind)).symm | (have e : i = many := (by omega); rw [e] at hlow; exact hlow.symm))
  exact loop3 _ 0 (by decide) (by omega) rfl (Nat.lt_succ_self _) ls (lv_sub hl [1, 2, 3, 4, 5, 6, 7, 8, 0] rfl)
theorem ms_L_forget : MSt yL_forget cL_forget 7 none 6 := ⟨kw_666, kw_665, kw_0, by decide, by decide, by decide +kernel⟩
set_option maxRecDepth 100000 in
set_option maxHeartbeats 4000000 in
theorem c_L_forget {l : Launch} {D : va_G} {cy : Nat → ClassId} {A : Nat → Prop} {ad : Nat → Int → Nat} {mu : Nat → Int → Int} {H : Heap} (hR : RM D cy A ad mu H) (hG : GL mu)  (many : Int) (k : Int) (hm : 0 ≤ many ∧ many ≤ 24) (hk : 0 ≤ k ∧ k ≤ 3) : Met l yL_forget (Cond.code yL_forget cL_forget 7 none :: wG) (rmF 0 0 0 0) (Pc D cy H [.ref (ad 20 (0)), .ref (ad 21 (0)), .ref (ad 24 (0)), .ref (ad 25 (0)), .int (iI (many)), .int (iI (k))]) (Qm none (fun H' => RM D cy A ad (lfN mu k many) H') A) 0 0 A := by
  refine met_of (la := [(0, .ref (ad 20 (0))), (1, .ref (ad 21 (0))), (2, .ref (ad 24 (0))), (3, .ref (ad 25 (0))), (4, .int (iI (many))), (5, .int (iI (k)))]) (by decide) (Nat.le_of_ble_eq_true rfl) rfl ?_
  intro p e R s m args below meth c ls hRm hx hb hml hr hlk hin hown hts hsH hK hl
  subst hRm
  have hown : s.vm.findClass "TakinghallLaw" = some m.cls := hown
  have hS : va_S A s.heap H [] := by rw [hsH]; exact va_S.rf
  refine lv_aload_n hx hb dL_forget_0 rfl (lv_at hl 0 rfl) ?_
  refine lv_bipush (v := iI (8)) hx hb dL_forget_1 (by decide) ?_
  refine lv_iload hx hb dL_forget_3 (lv_at hl 5 rfl) ?_
  refine xr_imul hx hb dL_forget_5 ?_
  refine lv_iconst (v := iI (3)) hx hb dL_forget_6 rfl ?_
  refine xr_iadd hx hb dL_forget_7 ?_
  refine lv_iconst (v := iI (-1)) hx hb dL_forget_8 rfl ?_
  refine xs_1000 (v := -1) hx hb hK hR hS (by omega) dL_forget_9 (fun H locs hR hS => ?_)
  refine lv_aload_n hx hb dL_forget_10 rfl (lv_at hl 0 rfl) ?_
  refine lv_bipush (v := iI (8)) hx hb dL_forget_11 (by decide) ?_
  refine lv_iload hx hb dL_forget_13 (lv_at hl 5 rfl) ?_
  refine xr_imul hx hb dL_forget_15 ?_
  refine lv_iconst (v := iI (4)) hx hb dL_forget_16 rfl ?_
  refine xr_iadd hx hb dL_forget_17 ?_
  refine lv_iconst (v := iI (0)) hx hb dL_forget_18 rfl ?_
  refine xs_1000 (v := 0) hx hb hK hR hS (by omega) dL_forget_19 (fun H locs hR hS => ?_)
  refine lv_iconst (v := iI (0)) hx hb dL_forget_20 rfl ?_
  refine lv_istore (i := 6) (lv' := [(6, .int (iI (0))), (0, .ref (ad 20 (0))), (1, .ref (ad 21 (0))), (2, .ref (ad 24 (0))), (3, .ref (ad 25 (0))), (4, .int (iI (many))), (5, .int (iI (k)))]) hx hb dL_forget_21 hl (by decide) rfl (fun ls hl => ?_)
  have loop23 : ∀ (n : Nat) (i : Int), 0 ≤ i → i ≤ many → (many - i).toNat < n → ∀ (H : Heap) (locs : List Loc), RM D cy A ad (lfN mu k i) H → va_S A s.heap H locs → ∀ ls : Array Slot, lv_has ls 7 [(0, .ref (ad 20 (0))), (1, .ref (ad 21 (0))), (2, .ref (ad 24 (0))), (3, .ref (ad 25 (0))), (4, .int (iI (many))), (5, .int (iI (k))), (6, .int (iI (i)))] → W p l e (rmF 0 0 0 0) s m args below meth c H locs 0 0 (MQ below (Qm none (fun H' => RM D cy A ad (lfN mu k many) H') A) args s 0 0 A) (F0 m 23 ls []) := by
    intro n23
    induction n23 with
    | zero =>
      intro i hi0 hi1 hn23 H locs hR hS ls hl
      exact absurd hn23 (Nat.not_lt_zero _)
    | succ n23 ih23 =>
      intro i hi0 hi1 hn23 H locs hR hS ls hl
      refine lv_iload hx hb dL_forget_23 (lv_at hl 6 rfl) ?_
      refine lv_iload hx hb dL_forget_25 (lv_at hl 4 rfl) ?_
      refine xr_icmp_ge (tgt := 58) hx hb dL_forget_27 (by decide) (by omega) (by omega) (fun h1 => ?_) (fun h1 => ?_)
      · skip
        exact xm_v hx hb hr hlk hS dL_forget_58 (by have e : i = many := (by omega); rw [← e]; exact hR)
      · skip
        refine lv_aload_n hx hb dL_forget_30 rfl (lv_at hl 1 rfl) ?_
        refine lv_bipush (v := iI (24)) hx hb dL_forget_31 (by decide) ?_
        refine lv_iload hx hb dL_forget_33 (lv_at hl 6 rfl) ?_
        refine xr_iadd hx hb dL_forget_35 ?_
        refine xa_1001 (v := mu 1001 (24 + i)) hx hb hK hR (by omega) (lf_f (by decide) (by decide) (by decide)) dL_forget_36 ?_
        have g2 := ml_1001 hG (24 + i)
        refine lv_iload hx hb dL_forget_37 (lv_at hl 5 rfl) ?_
        refine xr_icmp_ne (tgt := 52) hx hb dL_forget_39 (by decide) (by omega) (by omega) (fun h3 => ?_) (fun h3 => ?_)
        · skip
          refine lv_iinc (v := iI (i + (1))) (lv' := [(6, .int (iI (i + (1)))), (0, .ref (ad 20 (0))), (1, .ref (ad 21 (0))), (2, .ref (ad 24 (0))), (3, .ref (ad 25 (0))), (4, .int (iI (many))), (5, .int (iI (k)))]) hx hb dL_forget_52 hl (k := 6) rfl (iI_add _ _) (by decide) rfl (fun ls hl => ?_)
          refine lv_goto (tgt := 23) hx hb dL_forget_55 (by decide) ?_
          exact ih23 (i + 1) (by omega) (by omega) (by omega) _ _ (by first | (rw [← lf_y hi0 (by omega)]; exact hR) | (rw [← lf_n (by omega)]; exact hR)) hS ls (lv_sub hl [1, 2, 3, 4, 5, 6, 0] rfl)
        · skip
          refine lv_aload_n hx hb dL_forget_42 rfl (lv_at hl 2 rfl) ?_
          refine lv_iload hx hb dL_forget_43 (lv_at hl 6 rfl) ?_
          refine lv_iconst (v := iI (-1)) hx hb dL_forget_45 rfl ?_
          refine xs_1004 (v := -1) hx hb hK hR hS (by omega) dL_forget_46 (fun H locs hR hS => ?_)
          refine lv_aload_n hx hb dL_forget_47 rfl (lv_at hl 3 rfl) ?_
          refine lv_iload hx hb dL_forget_48 (lv_at hl 6 rfl) ?_
          refine lv_iconst (v := iI (0)) hx hb dL_forget_50 rfl ?_
          refine xs_1005 (v := 0) hx hb hK hR hS (by omega) dL_forget_51 (fun H locs hR hS => ?_)
          refine lv_iinc (v := iI (i + (1))) (lv' := [(6, .int (iI (i + (1)))), (0, .ref (ad 20 (0))), (1, .ref (ad 21 (0))), (2, .ref (ad 24 (0))), (3, .ref (ad 25 (0))), (4, .int (iI (many))), (5, .int (iI (k)))]) hx hb dL_forget_52 hl (k := 6) rfl (iI_add _ _) (by decide) rfl (fun ls hl => ?_)
          refine lv_goto (tgt := 23) hx hb dL_forget_55 (by decide) ?_
          exact ih23 (i + 1) (by omega) (by omega) (by omega) _ _ (by first | (rw [← lf_y hi0 (by omega)]; exact hR) | (rw [← lf_n (by omega)]; exact hR)) hS ls (lv_sub hl [1, 2, 3, 4, 5, 6, 0] rfl)
  exact loop23 _ 0 (by decide) (by omega) (Nat.lt_succ_self _) _ _ (by rw [← lf_0]; exact hR) hS ls (lv_sub hl [1, 2, 3, 4, 5, 6, 0] rfl)
theorem ms_L_next : MSt yL_next cL_next 9 (some .int) 5 := ⟨kw_669, kw_668, kw_0, by decide, by decide, by decide +kernel⟩
set_option maxRecDepth 100000 in
set_option maxHeartbeats 4000000 in
theorem c_L_next {l : Launch} {D : va_G} {cy : Nat → ClassId} {A : Nat → Prop} {ad : Nat → Int → Nat} {mu : Nat → Int → Int} {H : Heap} (hR : RM D cy A ad mu H) (hG : GL mu)  (many : Int) (k : Int) (b : Int) (hm : 0 ≤ many ∧ many ≤ 24) (hk : 0 ≤ k ∧ k ≤ 3) (hbb : -1 ≤ b ∧ b ≤ 23) : Met l yL_next (Cond.code yL_next cL_next 9 (some .int) :: wG) (rmF 0 0 0 0) (Pc D cy H [.ref (ad 21 (0)), .ref (ad 22 (0)), .int (iI (many)), .int (iI (k)), .int (iI (b))]) (Qp (.int (iI (lNx mu many k b 100)))) 0 0 Kn := by
  refine met_of (la := [(0, .ref (ad 21 (0))), (1, .ref (ad 22 (0))), (2, .int (iI (many))), (3, .int (iI (k))), (4, .int (iI (b)))]) (by decide) (Nat.le_of_ble_eq_true rfl) rfl ?_
  intro p e R s m args below meth c ls hRm hx hb hml hr hlk hin hown hts hsH hK hl
  subst hRm
  have hown : s.vm.findClass "TakinghallLaw" = some m.cls := hown
  refine lv_iconst (v := iI (-1)) hx hb dL_next_0 rfl ?_
  refine lv_istore (i := 5) (lv' := [(5, .int (iI (-1))), (0, .ref (ad 21 (0))), (1, .ref (ad 22 (0))), (2, .int (iI (many))), (3, .int (iI (k))), (4, .int (iI (b)))]) hx hb dL_next_1 hl (by decide) rfl (fun ls hl => ?_)
  refine lv_bipush (v := iI (100)) hx hb dL_next_3 (by decide) ?_
  refine lv_istore (i := 6) (lv' := [(6, .int (iI (100))), (5, .int (iI (-1))), (0, .ref (ad 21 (0))), (1, .ref (ad 22 (0))), (2, .int (iI (many))), (3, .int (iI (k))), (4, .int (iI (b)))]) hx hb dL_next_5 hl (by decide) rfl (fun ls hl => ?_)
  have loop7 : ∀ (n : Nat) (sh : Int) (best : Int), 0 ≤ sh ∧ sh ≤ 100 → -1 ≤ best ∧ best ≤ 23 → (best < 0 → lNx mu many k b sh.toNat = lNx mu many k b 100) ∧ (0 ≤ best → best = lNx mu many k b 100) → (sh).toNat < n → ∀ ls : Array Slot, lv_has ls 9 [(0, .ref (ad 21 (0))), (1, .ref (ad 22 (0))), (2, .int (iI (many))), (3, .int (iI (k))), (4, .int (iI (b))), (5, .int (iI (best))), (6, .int (iI (sh)))] → W p l e (rmF 0 0 0 0) s m args below meth c H [] 0 0 (MQ below (Qp (.int (iI (lNx mu many k b 100)))) args s 0 0 Kn) (F0 m 7 ls []) := by
    intro n7
    induction n7 with
    | zero =>
      intro sh best hs hbest hrr hn7 ls hl
      exact absurd hn7 (Nat.not_lt_zero _)
    | succ n7 ih7 =>
      intro sh best hs hbest hrr hn7 ls hl
      refine lv_iload hx hb dL_next_7 (lv_at hl 6 rfl) ?_
      refine xr_if_le (tgt := 120) hx hb dL_next_9 (by decide) (by omega) (fun h1 => ?_) (fun h1 => ?_)
      · skip
        refine lv_iload hx hb dL_next_120 (lv_at hl 5 rfl) ?_
        exact xe_i hx hb hr hlk hsH dL_next_122 (by first | exact hrr.2 (by omega) | exact (Int.lt_or_le best 0).elim (fun z => by have e : sh = 0 := (by omega); have e2 := hrr.1 z; rw [e] at e2; exact (show best = lNx mu many k b (0 : Int).toNat from (show best = -1 by omega)).trans e2) (fun z => hrr.2 z))
      · skip
        refine lv_iload hx hb dL_next_12 (lv_at hl 5 rfl) ?_
        refine xr_if_ge (tgt := 120) hx hb dL_next_14 (by decide) (by omega) (fun h2 => ?_) (fun h2 => ?_)
        · skip
          refine lv_iload hx hb dL_next_120 (lv_at hl 5 rfl) ?_
          exact xe_i hx hb hr hlk hsH dL_next_122 (by first | exact hrr.2 (by omega) | exact (Int.lt_or_le best 0).elim (fun z => by have e : sh = 0 := (by omega); have e2 := hrr.1 z; rw [e] at e2; exact (show best = lNx mu many k b (0 : Int).toNat from (show best = -1 by omega)).trans e2) (fun z => hrr.2 z))
        · skip
          refine lv_iconst (v := iI (0)) hx hb dL_next_17 rfl ?_
          refine lv_istore (i := 7) (lv' := [(7, .int (iI (0))), (0, .ref (ad 21 (0))), (1, .ref (ad 22 (0))), (2, .int (iI (many))), (3, .int (iI (k))), (4, .int (iI (b))), (5, .int (iI (best))), (6, .int (iI (sh)))]) hx hb dL_next_18 hl (by decide) rfl (fun ls hl => ?_)
          have loop20 : ∀ (n : Nat) (j : Int) (b2 : Int), 0 ≤ j ∧ j ≤ many → -1 ≤ b2 ∧ b2 ≤ 23 → b2 = low (lCand mu k b sh) j.toNat → (many - j).toNat < n → ∀ ls : Array Slot, lv_has ls 9 [(0, .ref (ad 21 (0))), (1, .ref (ad 22 (0))), (2, .int (iI (many))), (3, .int (iI (k))), (4, .int (iI (b))), (5, .int (iI (b2))), (6, .int (iI (sh))), (7, .int (iI (j)))] → W p l e (rmF 0 0 0 0) s m args below meth c H [] 0 0 (MQ below (Qp (.int (iI (lNx mu many k b 100)))) args s 0 0 Kn) (F0 m 20 ls []) := by
            intro n20
            induction n20 with
            | zero =>
              intro j b2 hj hb3 hb2 hn20 ls hl
              exact absurd hn20 (Nat.not_lt_zero _)
            | succ n20 ih20 =>
              intro j b2 hj hb3 hb2 hn20 ls hl
              refine lv_iload hx hb dL_next_20 (lv_at hl 7 rfl) ?_
              refine lv_iload_n hx hb dL_next_22 rfl (lv_at hl 2 rfl) ?_
              refine xr_icmp_ge (tgt := 114) hx hb dL_next_23 (by decide) (by omega) (by omega) (fun h3 => ?_) (fun h3 => ?_)
              · skip
                refine lv_iinc (v := iI (sh + (-1))) (lv' := [(6, .int (iI (sh + (-1)))), (0, .ref (ad 21 (0))), (1, .ref (ad 22 (0))), (2, .int (iI (many))), (3, .int (iI (k))), (4, .int (iI (b))), (5, .int (iI (b2))), (7, .int (iI (j)))]) hx hb dL_next_114 hl (k := 6) rfl (iI_add _ _) (by decide) rfl (fun ls hl => ?_)
                refine lv_goto (tgt := 7) hx hb dL_next_117 (by decide) ?_
                exact ih7 (sh + (-1)) b2 (by omega) (by omega) (lNx_go (by omega) (hrr.1 (by omega)) (low_end hj.1 hj.2 hb2 (by omega))) (by omega) ls (lv_sub hl [1, 2, 3, 4, 5, 6, 0] rfl)
              · skip
                refine lv_iload hx hb dL_next_26 (lv_at hl 5 rfl) ?_
                refine xr_if_ge (tgt := 114) hx hb dL_next_28 (by decide) (by omega) (fun h4 => ?_) (fun h4 => ?_)
                · skip
                  refine lv_iinc (v := iI (sh + (-1))) (lv' := [(6, .int (iI (sh + (-1)))), (0, .ref (ad 21 (0))), (1, .ref (ad 22 (0))), (2, .int (iI (many))), (3, .int (iI (k))), (4, .int (iI (b))), (5, .int (iI (b2))), (7, .int (iI (j)))]) hx hb dL_next_114 hl (k := 6) rfl (iI_add _ _) (by decide) rfl (fun ls hl => ?_)
                  refine lv_goto (tgt := 7) hx hb dL_next_117 (by decide) ?_
                  exact ih7 (sh + (-1)) b2 (by omega) (by omega) (lNx_go (by omega) (hrr.1 (by omega)) (low_end hj.1 hj.2 hb2 (by omega))) (by omega) ls (lv_sub hl [1, 2, 3, 4, 5, 6, 0] rfl)
                · skip
                  refine lv_iload hx hb dL_next_31 (lv_at hl 4 rfl) ?_
                  refine xr_if_lt (tgt := 61) hx hb dL_next_33 (by decide) (by omega) (fun h5 => ?_) (fun h5 => ?_)
                  · skip
                    refine lv_iconst (v := iI (1)) hx hb dL_next_61 rfl ?_
                    refine lv_goto (tgt := 66) hx hb dL_next_62 (by decide) ?_
                    refine lv_istore (i := 8) (lv' := [(8, .int (iI (1))), (0, .ref (ad 21 (0))), (1, .ref (ad 22 (0))), (2, .int (iI (many))), (3, .int (iI (k))), (4, .int (iI (b))), (5, .int (iI (b2))), (6, .int (iI (sh))), (7, .int (iI (j)))]) hx hb dL_next_66 hl (by decide) rfl (fun ls hl => ?_)
                    refine lv_aload_n hx hb dL_next_68 rfl (lv_at hl 1 rfl) ?_
                    refine lv_iload hx hb dL_next_69 (lv_at hl 8 rfl) ?_
                    refine xa_1001 (v := mu 1001 j) hx hb hK hR (by omega) rfl dL_next_71 ?_
                    have g6 := ml_1001 hG (j)
                    refine xr_if_ne (tgt := 105) hx hb dL_next_72 (by decide) (by omega) (fun h7 => ?_) (fun h7 => ?_)
                    · skip
                      refine lv_iconst (v := iI (-1)) hx hb dL_next_105 rfl ?_
                      refine lv_istore (i := 5) (lv' := [(5, .int (iI (-1))), (8, .int (iI (1))), (0, .ref (ad 21 (0))), (1, .ref (ad 22 (0))), (2, .int (iI (many))), (3, .int (iI (k))), (4, .int (iI (b))), (6, .int (iI (sh))), (7, .int (iI (j)))]) hx hb dL_next_106 hl (by decide) rfl (fun ls hl => ?_)
                      refine lv_iinc (v := iI (j + (1))) (lv' := [(7, .int (iI (j + (1)))), (5, .int (iI (-1))), (8, .int (iI (1))), (0, .ref (ad 21 (0))), (1, .ref (ad 22 (0))), (2, .int (iI (many))), (3, .int (iI (k))), (4, .int (iI (b))), (6, .int (iI (sh)))]) hx hb dL_next_108 hl (k := 8) rfl (iI_add _ _) (by decide) rfl (fun ls hl => ?_)
                      refine lv_goto (tgt := 20) hx hb dL_next_111 (by decide) ?_
                      exact ih20 (j + 1) (-1) (by omega) (by omega) (low_no hj.1 (by omega) (by unfold lCand; first | omega | grind)).symm (by omega) ls (lv_sub hl [3, 4, 5, 6, 7, 1, 8, 0] rfl)
                    · skip
                      refine lv_aload_n hx hb dL_next_75 rfl (lv_at hl 1 rfl) ?_
                      refine lv_bipush (v := iI (24)) hx hb dL_next_76 (by decide) ?_
                      refine lv_iload hx hb dL_next_78 (lv_at hl 8 rfl) ?_
                      refine xr_iadd hx hb dL_next_80 ?_
                      refine xa_1001 (v := mu 1001 (24 + j)) hx hb hK hR (by omega) rfl dL_next_81 ?_
                      have g8 := ml_1001 hG (24 + j)
                      refine lv_iload_n hx hb dL_next_82 rfl (lv_at hl 4 rfl) ?_
                      refine xr_icmp_ne (tgt := 105) hx hb dL_next_83 (by decide) (by omega) (by omega) (fun h9 => ?_) (fun h9 => ?_)
                      · skip
                        refine lv_iconst (v := iI (-1)) hx hb dL_next_105 rfl ?_
                        refine lv_istore (i := 5) (lv' := [(5, .int (iI (-1))), (8, .int (iI (1))), (0, .ref (ad 21 (0))), (1, .ref (ad 22 (0))), (2, .int (iI (many))), (3, .int (iI (k))), (4, .int (iI (b))), (6, .int (iI (sh))), (7, .int (iI (j)))]) hx hb dL_next_106 hl (by decide) rfl (fun ls hl => ?_)
                        refine lv_iinc (v := iI (j + (1))) (lv' := [(7, .int (iI (j + (1)))), (5, .int (iI (-1))), (8, .int (iI (1))), (0, .ref (ad 21 (0))), (1, .ref (ad 22 (0))), (2, .int (iI (many))), (3, .int (iI (k))), (4, .int (iI (b))), (6, .int (iI (sh)))]) hx hb dL_next_108 hl (k := 8) rfl (iI_add _ _) (by decide) rfl (fun ls hl => ?_)
                        refine lv_goto (tgt := 20) hx hb dL_next_111 (by decide) ?_
                        exact ih20 (j + 1) (-1) (by omega) (by omega) (low_no hj.1 (by omega) (by unfold lCand; first | omega | grind)).symm (by omega) ls (lv_sub hl [3, 4, 5, 6, 7, 1, 8, 0] rfl)
                      · skip
                        refine lv_aload_n hx hb dL_next_86 rfl (lv_at hl 2 rfl) ?_
                        refine lv_iload hx hb dL_next_87 (lv_at hl 8 rfl) ?_
                        refine xa_1002 (v := mu 1002 j) hx hb hK hR (by omega) rfl dL_next_89 ?_
                        have g10 := ml_1002 hG (j)
                        refine lv_iload hx hb dL_next_90 (lv_at hl 7 rfl) ?_
                        refine xr_icmp_ne (tgt := 105) hx hb dL_next_92 (by decide) (by omega) (by omega) (fun h11 => ?_) (fun h11 => ?_)
                        · skip
                          refine lv_iconst (v := iI (-1)) hx hb dL_next_105 rfl ?_
                          refine lv_istore (i := 5) (lv' := [(5, .int (iI (-1))), (8, .int (iI (1))), (0, .ref (ad 21 (0))), (1, .ref (ad 22 (0))), (2, .int (iI (many))), (3, .int (iI (k))), (4, .int (iI (b))), (6, .int (iI (sh))), (7, .int (iI (j)))]) hx hb dL_next_106 hl (by decide) rfl (fun ls hl => ?_)
                          refine lv_iinc (v := iI (j + (1))) (lv' := [(7, .int (iI (j + (1)))), (5, .int (iI (-1))), (8, .int (iI (1))), (0, .ref (ad 21 (0))), (1, .ref (ad 22 (0))), (2, .int (iI (many))), (3, .int (iI (k))), (4, .int (iI (b))), (6, .int (iI (sh)))]) hx hb dL_next_108 hl (k := 8) rfl (iI_add _ _) (by decide) rfl (fun ls hl => ?_)
                          refine lv_goto (tgt := 20) hx hb dL_next_111 (by decide) ?_
                          exact ih20 (j + 1) (-1) (by omega) (by omega) (low_no hj.1 (by omega) (by unfold lCand; first | omega | grind)).symm (by omega) ls (lv_sub hl [3, 4, 5, 6, 7, 1, 8, 0] rfl)
                        · skip
                          refine lv_iload hx hb dL_next_95 (lv_at hl 0 rfl) ?_
                          refine xr_if_eq (tgt := 105) hx hb dL_next_97 (by decide) (by decide) (fun h12 => absurd h12 (by decide)) (fun _ => ?_)
                          refine lv_iload hx hb dL_next_100 (lv_at hl 8 rfl) ?_
                          refine lv_goto (tgt := 106) hx hb dL_next_102 (by decide) ?_
                          refine lv_istore (i := 5) (lv' := [(5, .int (iI (j))), (8, .int (iI (1))), (0, .ref (ad 21 (0))), (1, .ref (ad 22 (0))), (2, .int (iI (many))), (3, .int (iI (k))), (4, .int (iI (b))), (6, .int (iI (sh))), (7, .int (iI (j)))]) hx hb dL_next_106 hl (by decide) rfl (fun ls hl => ?_)
                          refine lv_iinc (v := iI (j + (1))) (lv' := [(7, .int (iI (j + (1)))), (5, .int (iI (j))), (8, .int (iI (1))), (0, .ref (ad 21 (0))), (1, .ref (ad 22 (0))), (2, .int (iI (many))), (3, .int (iI (k))), (4, .int (iI (b))), (6, .int (iI (sh)))]) hx hb dL_next_108 hl (k := 8) rfl (iI_add _ _) (by decide) rfl (fun ls hl => ?_)
                          refine lv_goto (tgt := 20) hx hb dL_next_111 (by decide) ?_
                          exact ih20 (j + 1) j (by omega) (by omega) (low_yes hj.1 (by omega) (by unfold lCand; first | omega | grind)).symm (by omega) ls (lv_sub hl [3, 4, 5, 6, 7, 1, 8, 0] rfl)
                  · skip
                    refine lv_iload hx hb dL_next_36 (lv_at hl 6 rfl) ?_
                    refine lv_aload_n hx hb dL_next_38 rfl (lv_at hl 1 rfl) ?_
                    refine lv_iload hx hb dL_next_39 (lv_at hl 4 rfl) ?_
                    refine xa_1002 (v := mu 1002 b) hx hb hK hR (by omega) rfl dL_next_41 ?_
                    have g13 := ml_1002 hG (b)
                    refine xr_icmp_lt (tgt := 61) hx hb dL_next_42 (by decide) (by omega) (by omega) (fun h14 => ?_) (fun h14 => ?_)
                    · skip
                      refine lv_iconst (v := iI (1)) hx hb dL_next_61 rfl ?_
                      refine lv_goto (tgt := 66) hx hb dL_next_62 (by decide) ?_
                      refine lv_istore (i := 8) (lv' := [(8, .int (iI (1))), (0, .ref (ad 21 (0))), (1, .ref (ad 22 (0))), (2, .int (iI (many))), (3, .int (iI (k))), (4, .int (iI (b))), (5, .int (iI (b2))), (6, .int (iI (sh))), (7, .int (iI (j)))]) hx hb dL_next_66 hl (by decide) rfl (fun ls hl => ?_)
                      refine lv_aload_n hx hb dL_next_68 rfl (lv_at hl 1 rfl) ?_
                      refine lv_iload hx hb dL_next_69 (lv_at hl 8 rfl) ?_
                      refine xa_1001 (v := mu 1001 j) hx hb hK hR (by omega) rfl dL_next_71 ?_
                      have g15 := ml_1001 hG (j)
                      refine xr_if_ne (tgt := 105) hx hb dL_next_72 (by decide) (by omega) (fun h16 => ?_) (fun h16 => ?_)
                      · skip
                        refine lv_iconst (v := iI (-1)) hx hb dL_next_105 rfl ?_
                        refine lv_istore (i := 5) (lv' := [(5, .int (iI (-1))), (8, .int (iI (1))), (0, .ref (ad 21 (0))), (1, .ref (ad 22 (0))), (2, .int (iI (many))), (3, .int (iI (k))), (4, .int (iI (b))), (6, .int (iI (sh))), (7, .int (iI (j)))]) hx hb dL_next_106 hl (by decide) rfl (fun ls hl => ?_)
                        refine lv_iinc (v := iI (j + (1))) (lv' := [(7, .int (iI (j + (1)))), (5, .int (iI (-1))), (8, .int (iI (1))), (0, .ref (ad 21 (0))), (1, .ref (ad 22 (0))), (2, .int (iI (many))), (3, .int (iI (k))), (4, .int (iI (b))), (6, .int (iI (sh)))]) hx hb dL_next_108 hl (k := 8) rfl (iI_add _ _) (by decide) rfl (fun ls hl => ?_)
                        refine lv_goto (tgt := 20) hx hb dL_next_111 (by decide) ?_
                        exact ih20 (j + 1) (-1) (by omega) (by omega) (low_no hj.1 (by omega) (by unfold lCand; first | omega | grind)).symm (by omega) ls (lv_sub hl [3, 4, 5, 6, 7, 1, 8, 0] rfl)
                      · skip
                        refine lv_aload_n hx hb dL_next_75 rfl (lv_at hl 1 rfl) ?_
                        refine lv_bipush (v := iI (24)) hx hb dL_next_76 (by decide) ?_
                        refine lv_iload hx hb dL_next_78 (lv_at hl 8 rfl) ?_
                        refine xr_iadd hx hb dL_next_80 ?_
                        refine xa_1001 (v := mu 1001 (24 + j)) hx hb hK hR (by omega) rfl dL_next_81 ?_
                        have g17 := ml_1001 hG (24 + j)
                        refine lv_iload_n hx hb dL_next_82 rfl (lv_at hl 4 rfl) ?_
                        refine xr_icmp_ne (tgt := 105) hx hb dL_next_83 (by decide) (by omega) (by omega) (fun h18 => ?_) (fun h18 => ?_)
                        · skip
                          refine lv_iconst (v := iI (-1)) hx hb dL_next_105 rfl ?_
                          refine lv_istore (i := 5) (lv' := [(5, .int (iI (-1))), (8, .int (iI (1))), (0, .ref (ad 21 (0))), (1, .ref (ad 22 (0))), (2, .int (iI (many))), (3, .int (iI (k))), (4, .int (iI (b))), (6, .int (iI (sh))), (7, .int (iI (j)))]) hx hb dL_next_106 hl (by decide) rfl (fun ls hl => ?_)
                          refine lv_iinc (v := iI (j + (1))) (lv' := [(7, .int (iI (j + (1)))), (5, .int (iI (-1))), (8, .int (iI (1))), (0, .ref (ad 21 (0))), (1, .ref (ad 22 (0))), (2, .int (iI (many))), (3, .int (iI (k))), (4, .int (iI (b))), (6, .int (iI (sh)))]) hx hb dL_next_108 hl (k := 8) rfl (iI_add _ _) (by decide) rfl (fun ls hl => ?_)
                          refine lv_goto (tgt := 20) hx hb dL_next_111 (by decide) ?_
                          exact ih20 (j + 1) (-1) (by omega) (by omega) (low_no hj.1 (by omega) (by unfold lCand; first | omega | grind)).symm (by omega) ls (lv_sub hl [3, 4, 5, 6, 7, 1, 8, 0] rfl)
                        · skip
                          refine lv_aload_n hx hb dL_next_86 rfl (lv_at hl 2 rfl) ?_
                          refine lv_iload hx hb dL_next_87 (lv_at hl 8 rfl) ?_
                          refine xa_1002 (v := mu 1002 j) hx hb hK hR (by omega) rfl dL_next_89 ?_
                          have g19 := ml_1002 hG (j)
                          refine lv_iload hx hb dL_next_90 (lv_at hl 7 rfl) ?_
                          refine xr_icmp_ne (tgt := 105) hx hb dL_next_92 (by decide) (by omega) (by omega) (fun h20 => ?_) (fun h20 => ?_)
                          · skip
                            refine lv_iconst (v := iI (-1)) hx hb dL_next_105 rfl ?_
                            refine lv_istore (i := 5) (lv' := [(5, .int (iI (-1))), (8, .int (iI (1))), (0, .ref (ad 21 (0))), (1, .ref (ad 22 (0))), (2, .int (iI (many))), (3, .int (iI (k))), (4, .int (iI (b))), (6, .int (iI (sh))), (7, .int (iI (j)))]) hx hb dL_next_106 hl (by decide) rfl (fun ls hl => ?_)
                            refine lv_iinc (v := iI (j + (1))) (lv' := [(7, .int (iI (j + (1)))), (5, .int (iI (-1))), (8, .int (iI (1))), (0, .ref (ad 21 (0))), (1, .ref (ad 22 (0))), (2, .int (iI (many))), (3, .int (iI (k))), (4, .int (iI (b))), (6, .int (iI (sh)))]) hx hb dL_next_108 hl (k := 8) rfl (iI_add _ _) (by decide) rfl (fun ls hl => ?_)
                            refine lv_goto (tgt := 20) hx hb dL_next_111 (by decide) ?_
                            exact ih20 (j + 1) (-1) (by omega) (by omega) (low_no hj.1 (by omega) (by unfold lCand; first | omega | grind)).symm (by omega) ls (lv_sub hl [3, 4, 5, 6, 7, 1, 8, 0] rfl)
                          · skip
                            refine lv_iload hx hb dL_next_95 (lv_at hl 0 rfl) ?_
                            refine xr_if_eq (tgt := 105) hx hb dL_next_97 (by decide) (by decide) (fun h21 => absurd h21 (by decide)) (fun _ => ?_)
                            refine lv_iload hx hb dL_next_100 (lv_at hl 8 rfl) ?_
                            refine lv_goto (tgt := 106) hx hb dL_next_102 (by decide) ?_
                            refine lv_istore (i := 5) (lv' := [(5, .int (iI (j))), (8, .int (iI (1))), (0, .ref (ad 21 (0))), (1, .ref (ad 22 (0))), (2, .int (iI (many))), (3, .int (iI (k))), (4, .int (iI (b))), (6, .int (iI (sh))), (7, .int (iI (j)))]) hx hb dL_next_106 hl (by decide) rfl (fun ls hl => ?_)
                            refine lv_iinc (v := iI (j + (1))) (lv' := [(7, .int (iI (j + (1)))), (5, .int (iI (j))), (8, .int (iI (1))), (0, .ref (ad 21 (0))), (1, .ref (ad 22 (0))), (2, .int (iI (many))), (3, .int (iI (k))), (4, .int (iI (b))), (6, .int (iI (sh)))]) hx hb dL_next_108 hl (k := 8) rfl (iI_add _ _) (by decide) rfl (fun ls hl => ?_)
                            refine lv_goto (tgt := 20) hx hb dL_next_111 (by decide) ?_
                            exact ih20 (j + 1) j (by omega) (by omega) (low_yes hj.1 (by omega) (by unfold lCand; first | omega | grind)).symm (by omega) ls (lv_sub hl [3, 4, 5, 6, 7, 1, 8, 0] rfl)
                    · skip
                      refine lv_iload hx hb dL_next_45 (lv_at hl 6 rfl) ?_
                      refine lv_aload_n hx hb dL_next_47 rfl (lv_at hl 1 rfl) ?_
                      refine lv_iload hx hb dL_next_48 (lv_at hl 4 rfl) ?_
                      refine xa_1002 (v := mu 1002 b) hx hb hK hR (by omega) rfl dL_next_50 ?_
                      refine xr_icmp_ne (tgt := 65) hx hb dL_next_51 (by decide) (by omega) (by omega) (fun h22 => ?_) (fun h22 => ?_)
                      · skip
                        refine lv_iconst (v := iI (0)) hx hb dL_next_65 rfl ?_
                        refine lv_istore (i := 8) (lv' := [(8, .int (iI (0))), (0, .ref (ad 21 (0))), (1, .ref (ad 22 (0))), (2, .int (iI (many))), (3, .int (iI (k))), (4, .int (iI (b))), (5, .int (iI (b2))), (6, .int (iI (sh))), (7, .int (iI (j)))]) hx hb dL_next_66 hl (by decide) rfl (fun ls hl => ?_)
                        refine lv_aload_n hx hb dL_next_68 rfl (lv_at hl 1 rfl) ?_
                        refine lv_iload hx hb dL_next_69 (lv_at hl 8 rfl) ?_
                        refine xa_1001 (v := mu 1001 j) hx hb hK hR (by omega) rfl dL_next_71 ?_
                        have g23 := ml_1001 hG (j)
                        refine xr_if_ne (tgt := 105) hx hb dL_next_72 (by decide) (by omega) (fun h24 => ?_) (fun h24 => ?_)
                        · skip
                          refine lv_iconst (v := iI (-1)) hx hb dL_next_105 rfl ?_
                          refine lv_istore (i := 5) (lv' := [(5, .int (iI (-1))), (8, .int (iI (0))), (0, .ref (ad 21 (0))), (1, .ref (ad 22 (0))), (2, .int (iI (many))), (3, .int (iI (k))), (4, .int (iI (b))), (6, .int (iI (sh))), (7, .int (iI (j)))]) hx hb dL_next_106 hl (by decide) rfl (fun ls hl => ?_)
                          refine lv_iinc (v := iI (j + (1))) (lv' := [(7, .int (iI (j + (1)))), (5, .int (iI (-1))), (8, .int (iI (0))), (0, .ref (ad 21 (0))), (1, .ref (ad 22 (0))), (2, .int (iI (many))), (3, .int (iI (k))), (4, .int (iI (b))), (6, .int (iI (sh)))]) hx hb dL_next_108 hl (k := 8) rfl (iI_add _ _) (by decide) rfl (fun ls hl => ?_)
                          refine lv_goto (tgt := 20) hx hb dL_next_111 (by decide) ?_
                          exact ih20 (j + 1) (-1) (by omega) (by omega) (low_no hj.1 (by omega) (by unfold lCand; first | omega | grind)).symm (by omega) ls (lv_sub hl [3, 4, 5, 6, 7, 1, 8, 0] rfl)
                        · skip
                          refine lv_aload_n hx hb dL_next_75 rfl (lv_at hl 1 rfl) ?_
                          refine lv_bipush (v := iI (24)) hx hb dL_next_76 (by decide) ?_
                          refine lv_iload hx hb dL_next_78 (lv_at hl 8 rfl) ?_
                          refine xr_iadd hx hb dL_next_80 ?_
                          refine xa_1001 (v := mu 1001 (24 + j)) hx hb hK hR (by omega) rfl dL_next_81 ?_
                          have g25 := ml_1001 hG (24 + j)
                          refine lv_iload_n hx hb dL_next_82 rfl (lv_at hl 4 rfl) ?_
                          refine xr_icmp_ne (tgt := 105) hx hb dL_next_83 (by decide) (by omega) (by omega) (fun h26 => ?_) (fun h26 => ?_)
                          · skip
                            refine lv_iconst (v := iI (-1)) hx hb dL_next_105 rfl ?_
                            refine lv_istore (i := 5) (lv' := [(5, .int (iI (-1))), (8, .int (iI (0))), (0, .ref (ad 21 (0))), (1, .ref (ad 22 (0))), (2, .int (iI (many))), (3, .int (iI (k))), (4, .int (iI (b))), (6, .int (iI (sh))), (7, .int (iI (j)))]) hx hb dL_next_106 hl (by decide) rfl (fun ls hl => ?_)
                            refine lv_iinc (v := iI (j + (1))) (lv' := [(7, .int (iI (j + (1)))), (5, .int (iI (-1))), (8, .int (iI (0))), (0, .ref (ad 21 (0))), (1, .ref (ad 22 (0))), (2, .int (iI (many))), (3, .int (iI (k))), (4, .int (iI (b))), (6, .int (iI (sh)))]) hx hb dL_next_108 hl (k := 8) rfl (iI_add _ _) (by decide) rfl (fun ls hl => ?_)
                            refine lv_goto (tgt := 20) hx hb dL_next_111 (by decide) ?_
                            exact ih20 (j + 1) (-1) (by omega) (by omega) (low_no hj.1 (by omega) (by unfold lCand; first | omega | grind)).symm (by omega) ls (lv_sub hl [3, 4, 5, 6, 7, 1, 8, 0] rfl)
                          · skip
                            refine lv_aload_n hx hb dL_next_86 rfl (lv_at hl 2 rfl) ?_
                            refine lv_iload hx hb dL_next_87 (lv_at hl 8 rfl) ?_
                            refine xa_1002 (v := mu 1002 j) hx hb hK hR (by omega) rfl dL_next_89 ?_
                            have g27 := ml_1002 hG (j)
                            refine lv_iload hx hb dL_next_90 (lv_at hl 7 rfl) ?_
                            refine xr_icmp_ne (tgt := 105) hx hb dL_next_92 (by decide) (by omega) (by omega) (fun h28 => ?_) (fun h28 => ?_)
                            · skip
                              refine lv_iconst (v := iI (-1)) hx hb dL_next_105 rfl ?_
                              refine lv_istore (i := 5) (lv' := [(5, .int (iI (-1))), (8, .int (iI (0))), (0, .ref (ad 21 (0))), (1, .ref (ad 22 (0))), (2, .int (iI (many))), (3, .int (iI (k))), (4, .int (iI (b))), (6, .int (iI (sh))), (7, .int (iI (j)))]) hx hb dL_next_106 hl (by decide) rfl (fun ls hl => ?_)
                              refine lv_iinc (v := iI (j + (1))) (lv' := [(7, .int (iI (j + (1)))), (5, .int (iI (-1))), (8, .int (iI (0))), (0, .ref (ad 21 (0))), (1, .ref (ad 22 (0))), (2, .int (iI (many))), (3, .int (iI (k))), (4, .int (iI (b))), (6, .int (iI (sh)))]) hx hb dL_next_108 hl (k := 8) rfl (iI_add _ _) (by decide) rfl (fun ls hl => ?_)
                              refine lv_goto (tgt := 20) hx hb dL_next_111 (by decide) ?_
                              exact ih20 (j + 1) (-1) (by omega) (by omega) (low_no hj.1 (by omega) (by unfold lCand; first | omega | grind)).symm (by omega) ls (lv_sub hl [3, 4, 5, 6, 7, 1, 8, 0] rfl)
                            · skip
                              refine lv_iload hx hb dL_next_95 (lv_at hl 0 rfl) ?_
                              refine xr_if_eq (tgt := 105) hx hb dL_next_97 (by decide) (by decide) (fun _ => ?_) (fun h29 => absurd h29 (by decide))
                              refine lv_iconst (v := iI (-1)) hx hb dL_next_105 rfl ?_
                              refine lv_istore (i := 5) (lv' := [(5, .int (iI (-1))), (8, .int (iI (0))), (0, .ref (ad 21 (0))), (1, .ref (ad 22 (0))), (2, .int (iI (many))), (3, .int (iI (k))), (4, .int (iI (b))), (6, .int (iI (sh))), (7, .int (iI (j)))]) hx hb dL_next_106 hl (by decide) rfl (fun ls hl => ?_)
                              refine lv_iinc (v := iI (j + (1))) (lv' := [(7, .int (iI (j + (1)))), (5, .int (iI (-1))), (8, .int (iI (0))), (0, .ref (ad 21 (0))), (1, .ref (ad 22 (0))), (2, .int (iI (many))), (3, .int (iI (k))), (4, .int (iI (b))), (6, .int (iI (sh)))]) hx hb dL_next_108 hl (k := 8) rfl (iI_add _ _) (by decide) rfl (fun ls hl => ?_)
                              refine lv_goto (tgt := 20) hx hb dL_next_111 (by decide) ?_
                              exact ih20 (j + 1) (-1) (by omega) (by omega) (low_no hj.1 (by omega) (by unfold lCand; first | omega | grind)).symm (by omega) ls (lv_sub hl [3, 4, 5, 6, 7, 1, 8, 0] rfl)
                      · skip
                        refine lv_iload hx hb dL_next_54 (lv_at hl 7 rfl) ?_
                        refine lv_iload hx hb dL_next_56 (lv_at hl 4 rfl) ?_
                        refine xr_icmp_le (tgt := 65) hx hb dL_next_58 (by decide) (by omega) (by omega) (fun h30 => ?_) (fun h30 => ?_)
                        · skip
                          refine lv_iconst (v := iI (0)) hx hb dL_next_65 rfl ?_
                          refine lv_istore (i := 8) (lv' := [(8, .int (iI (0))), (0, .ref (ad 21 (0))), (1, .ref (ad 22 (0))), (2, .int (iI (many))), (3, .int (iI (k))), (4, .int (iI (b))), (5, .int (iI (b2))), (6, .int (iI (sh))), (7, .int (iI (j)))]) hx hb dL_next_66 hl (by decide) rfl (fun ls hl => ?_)
                          refine lv_aload_n hx hb dL_next_68 rfl (lv_at hl 1 rfl) ?_
                          refine lv_iload hx hb dL_next_69 (lv_at hl 8 rfl) ?_
                          refine xa_1001 (v := mu 1001 j) hx hb hK hR (by omega) rfl dL_next_71 ?_
                          have g31 := ml_1001 hG (j)
                          refine xr_if_ne (tgt := 105) hx hb dL_next_72 (by decide) (by omega) (fun h32 => ?_) (fun h32 => ?_)
                          · skip
                            refine lv_iconst (v := iI (-1)) hx hb dL_next_105 rfl ?_
                            refine lv_istore (i := 5) (lv' := [(5, .int (iI (-1))), (8, .int (iI (0))), (0, .ref (ad 21 (0))), (1, .ref (ad 22 (0))), (2, .int (iI (many))), (3, .int (iI (k))), (4, .int (iI (b))), (6, .int (iI (sh))), (7, .int (iI (j)))]) hx hb dL_next_106 hl (by decide) rfl (fun ls hl => ?_)
                            refine lv_iinc (v := iI (j + (1))) (lv' := [(7, .int (iI (j + (1)))), (5, .int (iI (-1))), (8, .int (iI (0))), (0, .ref (ad 21 (0))), (1, .ref (ad 22 (0))), (2, .int (iI (many))), (3, .int (iI (k))), (4, .int (iI (b))), (6, .int (iI (sh)))]) hx hb dL_next_108 hl (k := 8) rfl (iI_add _ _) (by decide) rfl (fun ls hl => ?_)
                            refine lv_goto (tgt := 20) hx hb dL_next_111 (by decide) ?_
                            exact ih20 (j + 1) (-1) (by omega) (by omega) (low_no hj.1 (by omega) (by unfold lCand; first | omega | grind)).symm (by omega) ls (lv_sub hl [3, 4, 5, 6, 7, 1, 8, 0] rfl)
                          · skip
                            refine lv_aload_n hx hb dL_next_75 rfl (lv_at hl 1 rfl) ?_
                            refine lv_bipush (v := iI (24)) hx hb dL_next_76 (by decide) ?_
                            refine lv_iload hx hb dL_next_78 (lv_at hl 8 rfl) ?_
                            refine xr_iadd hx hb dL_next_80 ?_
                            refine xa_1001 (v := mu 1001 (24 + j)) hx hb hK hR (by omega) rfl dL_next_81 ?_
                            have g33 := ml_1001 hG (24 + j)
                            refine lv_iload_n hx hb dL_next_82 rfl (lv_at hl 4 rfl) ?_
                            refine xr_icmp_ne (tgt := 105) hx hb dL_next_83 (by decide) (by omega) (by omega) (fun h34 => ?_) (fun h34 => ?_)
                            · skip
                              refine lv_iconst (v := iI (-1)) hx hb dL_next_105 rfl ?_
                              refine lv_istore (i := 5) (lv' := [(5, .int (iI (-1))), (8, .int (iI (0))), (0, .ref (ad 21 (0))), (1, .ref (ad 22 (0))), (2, .int (iI (many))), (3, .int (iI (k))), (4, .int (iI (b))), (6, .int (iI (sh))), (7, .int (iI (j)))]) hx hb dL_next_106 hl (by decide) rfl (fun ls hl => ?_)
                              refine lv_iinc (v := iI (j + (1))) (lv' := [(7, .int (iI (j + (1)))), (5, .int (iI (-1))), (8, .int (iI (0))), (0, .ref (ad 21 (0))), (1, .ref (ad 22 (0))), (2, .int (iI (many))), (3, .int (iI (k))), (4, .int (iI (b))), (6, .int (iI (sh)))]) hx hb dL_next_108 hl (k := 8) rfl (iI_add _ _) (by decide) rfl (fun ls hl => ?_)
                              refine lv_goto (tgt := 20) hx hb dL_next_111 (by decide) ?_
                              exact ih20 (j + 1) (-1) (by omega) (by omega) (low_no hj.1 (by omega) (by unfold lCand; first | omega | grind)).symm (by omega) ls (lv_sub hl [3, 4, 5, 6, 7, 1, 8, 0] rfl)
                            · skip
                              refine lv_aload_n hx hb dL_next_86 rfl (lv_at hl 2 rfl) ?_
                              refine lv_iload hx hb dL_next_87 (lv_at hl 8 rfl) ?_
                              refine xa_1002 (v := mu 1002 j) hx hb hK hR (by omega) rfl dL_next_89 ?_
                              have g35 := ml_1002 hG (j)
                              refine lv_iload hx hb dL_next_90 (lv_at hl 7 rfl) ?_
                              refine xr_icmp_ne (tgt := 105) hx hb dL_next_92 (by decide) (by omega) (by omega) (fun h36 => ?_) (fun h36 => ?_)
                              · skip
                                refine lv_iconst (v := iI (-1)) hx hb dL_next_105 rfl ?_
                                refine lv_istore (i := 5) (lv' := [(5, .int (iI (-1))), (8, .int (iI (0))), (0, .ref (ad 21 (0))), (1, .ref (ad 22 (0))), (2, .int (iI (many))), (3, .int (iI (k))), (4, .int (iI (b))), (6, .int (iI (sh))), (7, .int (iI (j)))]) hx hb dL_next_106 hl (by decide) rfl (fun ls hl => ?_)
                                refine lv_iinc (v := iI (j + (1))) (lv' := [(7, .int (iI (j + (1)))), (5, .int (iI (-1))), (8, .int (iI (0))), (0, .ref (ad 21 (0))), (1, .ref (ad 22 (0))), (2, .int (iI (many))), (3, .int (iI (k))), (4, .int (iI (b))), (6, .int (iI (sh)))]) hx hb dL_next_108 hl (k := 8) rfl (iI_add _ _) (by decide) rfl (fun ls hl => ?_)
                                refine lv_goto (tgt := 20) hx hb dL_next_111 (by decide) ?_
                                exact ih20 (j + 1) (-1) (by omega) (by omega) (low_no hj.1 (by omega) (by unfold lCand; first | omega | grind)).symm (by omega) ls (lv_sub hl [3, 4, 5, 6, 7, 1, 8, 0] rfl)
                              · skip
                                refine lv_iload hx hb dL_next_95 (lv_at hl 0 rfl) ?_
                                refine xr_if_eq (tgt := 105) hx hb dL_next_97 (by decide) (by decide) (fun _ => ?_) (fun h37 => absurd h37 (by decide))
                                refine lv_iconst (v := iI (-1)) hx hb dL_next_105 rfl ?_
                                refine lv_istore (i := 5) (lv' := [(5, .int (iI (-1))), (8, .int (iI (0))), (0, .ref (ad 21 (0))), (1, .ref (ad 22 (0))), (2, .int (iI (many))), (3, .int (iI (k))), (4, .int (iI (b))), (6, .int (iI (sh))), (7, .int (iI (j)))]) hx hb dL_next_106 hl (by decide) rfl (fun ls hl => ?_)
                                refine lv_iinc (v := iI (j + (1))) (lv' := [(7, .int (iI (j + (1)))), (5, .int (iI (-1))), (8, .int (iI (0))), (0, .ref (ad 21 (0))), (1, .ref (ad 22 (0))), (2, .int (iI (many))), (3, .int (iI (k))), (4, .int (iI (b))), (6, .int (iI (sh)))]) hx hb dL_next_108 hl (k := 8) rfl (iI_add _ _) (by decide) rfl (fun ls hl => ?_)
                                refine lv_goto (tgt := 20) hx hb dL_next_111 (by decide) ?_
                                exact ih20 (j + 1) (-1) (by omega) (by omega) (low_no hj.1 (by omega) (by unfold lCand; first | omega | grind)).symm (by omega) ls (lv_sub hl [3, 4, 5, 6, 7, 1, 8, 0] rfl)
                        · skip
                          refine lv_iconst (v := iI (1)) hx hb dL_next_61 rfl ?_
                          refine lv_goto (tgt := 66) hx hb dL_next_62 (by decide) ?_
                          refine lv_istore (i := 8) (lv' := [(8, .int (iI (1))), (0, .ref (ad 21 (0))), (1, .ref (ad 22 (0))), (2, .int (iI (many))), (3, .int (iI (k))), (4, .int (iI (b))), (5, .int (iI (b2))), (6, .int (iI (sh))), (7, .int (iI (j)))]) hx hb dL_next_66 hl (by decide) rfl (fun ls hl => ?_)
                          refine lv_aload_n hx hb dL_next_68 rfl (lv_at hl 1 rfl) ?_
                          refine lv_iload hx hb dL_next_69 (lv_at hl 8 rfl) ?_
                          refine xa_1001 (v := mu 1001 j) hx hb hK hR (by omega) rfl dL_next_71 ?_
                          have g38 := ml_1001 hG (j)
                          refine xr_if_ne (tgt := 105) hx hb dL_next_72 (by decide) (by omega) (fun h39 => ?_) (fun h39 => ?_)
                          · skip
                            refine lv_iconst (v := iI (-1)) hx hb dL_next_105 rfl ?_
                            refine lv_istore (i := 5) (lv' := [(5, .int (iI (-1))), (8, .int (iI (1))), (0, .ref (ad 21 (0))), (1, .ref (ad 22 (0))), (2, .int (iI (many))), (3, .int (iI (k))), (4, .int (iI (b))), (6, .int (iI (sh))), (7, .int (iI (j)))]) hx hb dL_next_106 hl (by decide) rfl (fun ls hl => ?_)
                            refine lv_iinc (v := iI (j + (1))) (lv' := [(7, .int (iI (j + (1)))), (5, .int (iI (-1))), (8, .int (iI (1))), (0, .ref (ad 21 (0))), (1, .ref (ad 22 (0))), (2, .int (iI (many))), (3, .int (iI (k))), (4, .int (iI (b))), (6, .int (iI (sh)))]) hx hb dL_next_108 hl (k := 8) rfl (iI_add _ _) (by decide) rfl (fun ls hl => ?_)
                            refine lv_goto (tgt := 20) hx hb dL_next_111 (by decide) ?_
                            exact ih20 (j + 1) (-1) (by omega) (by omega) (low_no hj.1 (by omega) (by unfold lCand; first | omega | grind)).symm (by omega) ls (lv_sub hl [3, 4, 5, 6, 7, 1, 8, 0] rfl)
                          · skip
                            refine lv_aload_n hx hb dL_next_75 rfl (lv_at hl 1 rfl) ?_
                            refine lv_bipush (v := iI (24)) hx hb dL_next_76 (by decide) ?_
                            refine lv_iload hx hb dL_next_78 (lv_at hl 8 rfl) ?_
                            refine xr_iadd hx hb dL_next_80 ?_
                            refine xa_1001 (v := mu 1001 (24 + j)) hx hb hK hR (by omega) rfl dL_next_81 ?_
                            have g40 := ml_1001 hG (24 + j)
                            refine lv_iload_n hx hb dL_next_82 rfl (lv_at hl 4 rfl) ?_
                            refine xr_icmp_ne (tgt := 105) hx hb dL_next_83 (by decide) (by omega) (by omega) (fun h41 => ?_) (fun h41 => ?_)
                            · skip
                              refine lv_iconst (v := iI (-1)) hx hb dL_next_105 rfl ?_
                              refine lv_istore (i := 5) (lv' := [(5, .int (iI (-1))), (8, .int (iI (1))), (0, .ref (ad 21 (0))), (1, .ref (ad 22 (0))), (2, .int (iI (many))), (3, .int (iI (k))), (4, .int (iI (b))), (6, .int (iI (sh))), (7, .int (iI (j)))]) hx hb dL_next_106 hl (by decide) rfl (fun ls hl => ?_)
                              refine lv_iinc (v := iI (j + (1))) (lv' := [(7, .int (iI (j + (1)))), (5, .int (iI (-1))), (8, .int (iI (1))), (0, .ref (ad 21 (0))), (1, .ref (ad 22 (0))), (2, .int (iI (many))), (3, .int (iI (k))), (4, .int (iI (b))), (6, .int (iI (sh)))]) hx hb dL_next_108 hl (k := 8) rfl (iI_add _ _) (by decide) rfl (fun ls hl => ?_)
                              refine lv_goto (tgt := 20) hx hb dL_next_111 (by decide) ?_
                              exact ih20 (j + 1) (-1) (by omega) (by omega) (low_no hj.1 (by omega) (by unfold lCand; first | omega | grind)).symm (by omega) ls (lv_sub hl [3, 4, 5, 6, 7, 1, 8, 0] rfl)
                            · skip
                              refine lv_aload_n hx hb dL_next_86 rfl (lv_at hl 2 rfl) ?_
                              refine lv_iload hx hb dL_next_87 (lv_at hl 8 rfl) ?_
                              refine xa_1002 (v := mu 1002 j) hx hb hK hR (by omega) rfl dL_next_89 ?_
                              have g42 := ml_1002 hG (j)
                              refine lv_iload hx hb dL_next_90 (lv_at hl 7 rfl) ?_
                              refine xr_icmp_ne (tgt := 105) hx hb dL_next_92 (by decide) (by omega) (by omega) (fun h43 => ?_) (fun h43 => ?_)
                              · skip
                                refine lv_iconst (v := iI (-1)) hx hb dL_next_105 rfl ?_
                                refine lv_istore (i := 5) (lv' := [(5, .int (iI (-1))), (8, .int (iI (1))), (0, .ref (ad 21 (0))), (1, .ref (ad 22 (0))), (2, .int (iI (many))), (3, .int (iI (k))), (4, .int (iI (b))), (6, .int (iI (sh))), (7, .int (iI (j)))]) hx hb dL_next_106 hl (by decide) rfl (fun ls hl => ?_)
                                refine lv_iinc (v := iI (j + (1))) (lv' := [(7, .int (iI (j + (1)))), (5, .int (iI (-1))), (8, .int (iI (1))), (0, .ref (ad 21 (0))), (1, .ref (ad 22 (0))), (2, .int (iI (many))), (3, .int (iI (k))), (4, .int (iI (b))), (6, .int (iI (sh)))]) hx hb dL_next_108 hl (k := 8) rfl (iI_add _ _) (by decide) rfl (fun ls hl => ?_)
                                refine lv_goto (tgt := 20) hx hb dL_next_111 (by decide) ?_
                                exact ih20 (j + 1) (-1) (by omega) (by omega) (low_no hj.1 (by omega) (by unfold lCand; first | omega | grind)).symm (by omega) ls (lv_sub hl [3, 4, 5, 6, 7, 1, 8, 0] rfl)
                              · skip
                                refine lv_iload hx hb dL_next_95 (lv_at hl 0 rfl) ?_
                                refine xr_if_eq (tgt := 105) hx hb dL_next_97 (by decide) (by decide) (fun h44 => absurd h44 (by decide)) (fun _ => ?_)
                                refine lv_iload hx hb dL_next_100 (lv_at hl 8 rfl) ?_
                                refine lv_goto (tgt := 106) hx hb dL_next_102 (by decide) ?_
                                refine lv_istore (i := 5) (lv' := [(5, .int (iI (j))), (8, .int (iI (1))), (0, .ref (ad 21 (0))), (1, .ref (ad 22 (0))), (2, .int (iI (many))), (3, .int (iI (k))), (4, .int (iI (b))), (6, .int (iI (sh))), (7, .int (iI (j)))]) hx hb dL_next_106 hl (by decide) rfl (fun ls hl => ?_)
                                refine lv_iinc (v := iI (j + (1))) (lv' := [(7, .int (iI (j + (1)))), (5, .int (iI (j))), (8, .int (iI (1))), (0, .ref (ad 21 (0))), (1, .ref (ad 22 (0))), (2, .int (iI (many))), (3, .int (iI (k))), (4, .int (iI (b))), (6, .int (iI (sh)))]) hx hb dL_next_108 hl (k := 8) rfl (iI_add _ _) (by decide) rfl (fun ls hl => ?_)
                                refine lv_goto (tgt := 20) hx hb dL_next_111 (by decide) ?_
                                exact ih20 (j + 1) j (by omega) (by omega) (low_yes hj.1 (by omega) (by unfold lCand; first | omega | grind)).symm (by omega) ls (lv_sub hl [3, 4, 5, 6, 7, 1, 8, 0] rfl)
          exact loop20 _ 0 best (by omega) (by omega) (show best = -1 by omega) (Nat.lt_succ_self _) ls (lv_sub hl [1, 2, 3, 4, 5, 6, 7, 0] rfl)
  exact loop7 _ 100 (-1) (by decide) (by decide) ⟨fun _ => rfl, fun z => absurd z (by decide)⟩ (Nat.lt_succ_self _) ls (lv_sub hl [2, 3, 4, 5, 6, 1, 0] rfl)
theorem ms_L_beside : MSt yL_beside cL_beside 2 (some .boolean) 2 := ⟨kw_678, kw_677, kw_0, by decide, by decide, by decide +kernel⟩
set_option maxRecDepth 100000 in
set_option maxHeartbeats 4000000 in
theorem c_L_beside {l : Launch} {D : va_G} {cy : Nat → ClassId} {A : Nat → Prop} {ad : Nat → Int → Nat} {mu : Nat → Int → Int} {H : Heap} (hR : RM D cy A ad mu H) (hG : GL mu)  (k : Int) (hk : 0 ≤ k ∧ k ≤ 3) : Met l yL_beside (Cond.code yL_beside cL_beside 2 (some .boolean) :: wG) (rmF 0 0 0 0) (Pc D cy H [.ref (ad 20 (0)), .int (iI (k))]) (Qp (.int (iI (bI (lBes mu k))))) 0 0 Kn := by
  refine met_of (la := [(0, .ref (ad 20 (0))), (1, .int (iI (k)))]) (by decide) (Nat.le_of_ble_eq_true rfl) rfl ?_
  intro p e R s m args below meth c ls hRm hx hb hml hr hlk hin hown hts hsH hK hl
  subst hRm
  have hown : s.vm.findClass "TakinghallLaw" = some m.cls := hown
  refine lv_iload_n hx hb dL_beside_0 rfl (lv_at hl 1 rfl) ?_
  refine xr_if_ne (tgt := 26) hx hb dL_beside_1 (by decide) (by omega) (fun h1 => ?_) (fun h1 => ?_)
  · skip
    refine lv_iload_n hx hb dL_beside_26 rfl (lv_at hl 1 rfl) ?_
    refine lv_iconst (v := iI (3)) hx hb dL_beside_27 rfl ?_
    refine xr_icmp_ge (tgt := 41) hx hb dL_beside_28 (by decide) (by omega) (by omega) (fun h2 => ?_) (fun h2 => ?_)
    · skip
      refine lv_iconst (v := iI (0)) hx hb dL_beside_41 rfl ?_
      exact xe_zb hx hb hr hlk hsH dL_beside_42 (by unfold lBes; omega)
    · skip
      refine lv_aload_n hx hb dL_beside_31 rfl (lv_at hl 0 rfl) ?_
      refine lv_iconst (v := iI (3)) hx hb dL_beside_32 rfl ?_
      refine xa_1000 (v := mu 1000 3) hx hb hK hR (by omega) rfl dL_beside_33 ?_
      have g3 := ml_1000 hG (3)
      refine xr_if_lt (tgt := 41) hx hb dL_beside_34 (by decide) (by omega) (fun h4 => ?_) (fun h4 => ?_)
      · skip
        refine lv_iconst (v := iI (0)) hx hb dL_beside_41 rfl ?_
        exact xe_zb hx hb hr hlk hsH dL_beside_42 (by unfold lBes; omega)
      · skip
        refine lv_iconst (v := iI (1)) hx hb dL_beside_37 rfl ?_
        refine lv_goto (tgt := 42) hx hb dL_beside_38 (by decide) ?_
        exact xe_zb hx hb hr hlk hsH dL_beside_42 (by unfold lBes; omega)
  · skip
    refine lv_aload_n hx hb dL_beside_4 rfl (lv_at hl 0 rfl) ?_
    refine lv_bipush (v := iI (11)) hx hb dL_beside_5 (by decide) ?_
    refine xa_1000 (v := mu 1000 11) hx hb hK hR (by omega) rfl dL_beside_7 ?_
    have g5 := ml_1000 hG (11)
    refine xr_if_ge (tgt := 18) hx hb dL_beside_8 (by decide) (by omega) (fun h6 => ?_) (fun h6 => ?_)
    · skip
      refine lv_iconst (v := iI (1)) hx hb dL_beside_18 rfl ?_
      refine lv_goto (tgt := 42) hx hb dL_beside_19 (by decide) ?_
      exact xe_zb hx hb hr hlk hsH dL_beside_42 (by unfold lBes; omega)
    · skip
      refine lv_aload_n hx hb dL_beside_11 rfl (lv_at hl 0 rfl) ?_
      refine lv_bipush (v := iI (19)) hx hb dL_beside_12 (by decide) ?_
      refine xa_1000 (v := mu 1000 19) hx hb hK hR (by omega) rfl dL_beside_14 ?_
      have g7 := ml_1000 hG (19)
      refine xr_if_lt (tgt := 22) hx hb dL_beside_15 (by decide) (by omega) (fun h8 => ?_) (fun h8 => ?_)
      · skip
        refine lv_iconst (v := iI (0)) hx hb dL_beside_22 rfl ?_
        refine lv_goto (tgt := 42) hx hb dL_beside_23 (by decide) ?_
        exact xe_zb hx hb hr hlk hsH dL_beside_42 (by unfold lBes; omega)
      · skip
        refine lv_iconst (v := iI (1)) hx hb dL_beside_18 rfl ?_
        refine lv_goto (tgt := 42) hx hb dL_beside_19 (by decide) ?_
        exact xe_zb hx hb hr hlk hsH dL_beside_42 (by unfold lBes; omega)
