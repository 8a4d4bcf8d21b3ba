theorem ms_L_take : MSt yL_take cL_take 24 (some .long) 11 := ⟨kw_672, kw_671, kw_0, by decide, by decide, by decide +kernel⟩
set_option maxRecDepth 100000 in
set_option maxHeartbeats 4000000 in
theorem c_L_take {l : Launch} {D : va_G} {cy : Nat → ClassId} {A : Nat → Prop} {ad : Nat → Int → Nat} {mu : Nat → Int → Int} {H : Heap} (hR : RM D cy A ad mu H) (hG : GL mu)  (many : Int) (k : Int) (pr : Int) (d : Int) (hm : 0 ≤ many ∧ many ≤ 24) (hk : 0 ≤ k ∧ k ≤ 3) (hpr : 0 ≤ pr ∧ pr ≤ 1000) (hd : 0 ≤ d ∧ d ≤ 20000) (ha : 0 ≤ mu 1000 (8 * k) ∧ mu 1000 (8 * k) ≤ 100) (hp4 : 0 ≤ mu 1000 (8 * k + 4) ∧ mu 1000 (8 * k + 4) ≤ 100) (hp3 : 0 ≤ mu 1000 (8 * k + 3) ∧ mu 1000 (8 * k + 3) ≤ 1) : Met l yL_take (Cond.code yL_take cL_take 24 (some .long) :: wG) (rmF 0 0 0 0) (Pc D cy H [.ref (ad 20 (0)), .ref (ad 21 (0)), .ref (ad 22 (0)), .ref (ad 23 (0)), .ref (ad 26 (0)), .ref (ad 27 (0)), .ref (ad 33 (0)), .int (iI (many)), .int (iI (k)), .int (iI (pr)), .int (iI (d))]) (Qm (some (.long (lI (lLand mu k pr)))) (fun H' => RM D cy A ad (lTkT mu many k pr d) H') A) 0 0 A := by
  refine met_of (la := [(0, .ref (ad 20 (0))), (1, .ref (ad 21 (0))), (2, .ref (ad 22 (0))), (3, .ref (ad 23 (0))), (4, .ref (ad 26 (0))), (5, .ref (ad 27 (0))), (6, .ref (ad 33 (0))), (7, .int (iI (many))), (8, .int (iI (k))), (9, .int (iI (pr))), (10, .int (iI (d)))]) (by decide) (Nat.le_of_ble_eq_true rfl) rfl ?_
  intro p e R s m args below meth c ls hRm hx hb hml hr hlk hin hown hts hsH hK hl
  subst hRm
  have hown : s.vm.findClass "TakinghallLaw" = some m.cls := hown
  have hS : va_S A s.heap H [] := by rw [hsH]; exact va_S.rf
  have hWr := lWo_rng ha hpr
  have hPr := lPa_rng ha hpr hp4
  have hLr := lLand_rng hG ha hpr hp4
  have hRe : 0 ≤ lRe mu k pr ∧ lRe mu k pr ≤ 100000 := by unfold lRe; omega
  refine lv_bipush (v := iI (8)) hx hb dL_take_0 (by decide) ?_
  refine lv_iload hx hb dL_take_2 (lv_at hl 8 rfl) ?_
  refine xr_imul hx hb dL_take_4 ?_
  refine lv_istore (i := 11) (lv' := [(11, .int (iI (8 * k))), (0, .ref (ad 20 (0))), (1, .ref (ad 21 (0))), (2, .ref (ad 22 (0))), (3, .ref (ad 23 (0))), (4, .ref (ad 26 (0))), (5, .ref (ad 27 (0))), (6, .ref (ad 33 (0))), (7, .int (iI (many))), (8, .int (iI (k))), (9, .int (iI (pr))), (10, .int (iI (d)))]) hx hb dL_take_5 hl (by decide) rfl (fun ls hl => ?_)
  refine lv_aload_n hx hb dL_take_7 rfl (lv_at hl 1 rfl) ?_
  refine lv_iload hx hb dL_take_8 (lv_at hl 0 rfl) ?_
  refine xa_1000 (v := mu 1000 (8 * k)) hx hb hK hR (by omega) rfl dL_take_10 ?_
  have g1 := ml_1000 hG (8 * k)
  refine lv_iload hx hb dL_take_11 (lv_at hl 10 rfl) ?_
  refine xr_imul hx hb dL_take_13 ?_
  show W p l e (rmF 0 0 0 0) s m args below meth c H [] _ _ _ (F0 m 14 ls ([.int (iI (lWo mu k pr))]))
  refine lv_istore (i := 12) (lv' := [(12, .int (iI (lWo mu k pr))), (11, .int (iI (8 * k))), (0, .ref (ad 20 (0))), (1, .ref (ad 21 (0))), (2, .ref (ad 22 (0))), (3, .ref (ad 23 (0))), (4, .ref (ad 26 (0))), (5, .ref (ad 27 (0))), (6, .ref (ad 33 (0))), (7, .int (iI (many))), (8, .int (iI (k))), (9, .int (iI (pr))), (10, .int (iI (d)))]) hx hb dL_take_14 hl (by decide) rfl (fun ls hl => ?_)
  refine lv_iload hx hb dL_take_16 (lv_at hl 0 rfl) ?_
  refine lv_aload_n hx hb dL_take_18 rfl (lv_at hl 2 rfl) ?_
  refine lv_iload hx hb dL_take_19 (lv_at hl 1 rfl) ?_
  refine lv_iconst (v := iI (4)) hx hb dL_take_21 rfl ?_
  refine xr_iadd hx hb dL_take_22 ?_
  refine xa_1000 (v := mu 1000 ((8 * k) + 4)) hx hb hK hR (by omega) rfl dL_take_23 ?_
  have g2 := ml_1000 hG ((8 * k) + 4)
  refine xr_imul hx hb dL_take_24 ?_
  refine lv_bipush (v := iI (100)) hx hb dL_take_25 (by decide) ?_
  have m1 := mul_rng hWr hp4
  refine xr_idiv hx hb dL_take_27 (by omega) (by omega) ?_
  show W p l e (rmF 0 0 0 0) s m args below meth c H [] _ _ _ (F0 m 28 ls ([.int (iI (lPa mu k pr))]))
  refine lv_istore (i := 13) (lv' := [(13, .int (iI (lPa mu k pr))), (12, .int (iI (lWo mu k pr))), (11, .int (iI (8 * k))), (0, .ref (ad 20 (0))), (1, .ref (ad 21 (0))), (2, .ref (ad 22 (0))), (3, .ref (ad 23 (0))), (4, .ref (ad 26 (0))), (5, .ref (ad 27 (0))), (6, .ref (ad 33 (0))), (7, .int (iI (many))), (8, .int (iI (k))), (9, .int (iI (pr))), (10, .int (iI (d)))]) hx hb dL_take_28 hl (by decide) rfl (fun ls hl => ?_)
  refine lv_iload hx hb dL_take_30 (lv_at hl 1 rfl) ?_
  refine lv_iload hx hb dL_take_32 (lv_at hl 0 rfl) ?_
  refine xr_isub hx hb dL_take_34 ?_
  show W p l e (rmF 0 0 0 0) s m args below meth c H [] _ _ _ (F0 m 35 ls ([.int (iI (lRe mu k pr))]))
  refine lv_istore (i := 14) (lv' := [(14, .int (iI (lRe mu k pr))), (13, .int (iI (lPa mu k pr))), (12, .int (iI (lWo mu k pr))), (11, .int (iI (8 * k))), (0, .ref (ad 20 (0))), (1, .ref (ad 21 (0))), (2, .ref (ad 22 (0))), (3, .ref (ad 23 (0))), (4, .ref (ad 26 (0))), (5, .ref (ad 27 (0))), (6, .ref (ad 33 (0))), (7, .int (iI (many))), (8, .int (iI (k))), (9, .int (iI (pr))), (10, .int (iI (d)))]) hx hb dL_take_35 hl (by decide) rfl (fun ls hl => ?_)
  refine lv_iload hx hb dL_take_37 (lv_at hl 1 rfl) ?_
  refine lv_iload hx hb dL_take_39 (lv_at hl 0 rfl) ?_
  refine lv_aload hx hb dL_take_41 (lv_at hl 9 rfl) ?_
  refine lv_iconst (v := iI (3)) hx hb dL_take_43 rfl ?_
  refine lv_aload_n hx hb dL_take_44 rfl (lv_at hl 4 rfl) ?_
  refine lv_iload hx hb dL_take_45 (lv_at hl 3 rfl) ?_
  refine lv_iconst (v := iI (3)) hx hb dL_take_47 rfl ?_
  refine xr_iadd hx hb dL_take_48 ?_
  refine xa_1000 (v := mu 1000 ((8 * k) + 3)) hx hb hK hR (by omega) rfl dL_take_49 ?_
  have g3 := ml_1000 hG ((8 * k) + 3)
  refine xr_imul hx hb dL_take_50 ?_
  refine xa_1007 (v := mu 1007 (3 * (mu 1000 ((8 * k) + 3)))) hx hb hK hR (by omega) rfl dL_take_51 ?_
  have g4 := ml_1007 hG (3 * (mu 1000 ((8 * k) + 3)))
  refine xr_imul hx hb dL_take_52 ?_
  refine lv_bipush (v := iI (100)) hx hb dL_take_53 (by decide) ?_
  have m3 := mul_rng hRe (ml_1007 hG (3 * mu 1000 ((8 * k) + 3)))
  refine xr_idiv hx hb dL_take_55 (by omega) (by omega) ?_
  refine xr_iadd hx hb dL_take_56 ?_
  refine lv_iload hx hb dL_take_57 (lv_at hl 0 rfl) ?_
  refine lv_aload hx hb dL_take_59 (lv_at hl 9 rfl) ?_
  refine lv_iconst (v := iI (3)) hx hb dL_take_61 rfl ?_
  refine lv_aload_n hx hb dL_take_62 rfl (lv_at hl 4 rfl) ?_
  refine lv_iload hx hb dL_take_63 (lv_at hl 3 rfl) ?_
  refine lv_iconst (v := iI (3)) hx hb dL_take_65 rfl ?_
  refine xr_iadd hx hb dL_take_66 ?_
  refine xa_1000 (v := mu 1000 ((8 * k) + 3)) hx hb hK hR (by omega) rfl dL_take_67 ?_
  refine xr_imul hx hb dL_take_68 ?_
  refine lv_iconst (v := iI (1)) hx hb dL_take_69 rfl ?_
  refine xr_iadd hx hb dL_take_70 ?_
  refine xa_1007 (v := mu 1007 ((3 * (mu 1000 ((8 * k) + 3))) + 1)) hx hb hK hR (by omega) rfl dL_take_71 ?_
  have g5 := ml_1007 hG ((3 * (mu 1000 ((8 * k) + 3))) + 1)
  refine xr_imul hx hb dL_take_72 ?_
  refine lv_bipush (v := iI (100)) hx hb dL_take_73 (by decide) ?_
  have m4 := mul_rng hRe (ml_1007 hG (3 * mu 1000 ((8 * k) + 3) + 1))
  refine xr_idiv hx hb dL_take_75 (by omega) (by omega) ?_
  refine xr_isub hx hb dL_take_76 ?_
  show W p l e (rmF 0 0 0 0) s m args below meth c H [] _ _ _ (F0 m 77 ls ([.int (iI (lRaw mu k pr))]))
  refine xr_i2l hx hb dL_take_77 (by omega) ?_
  refine lv_lstore (i := 15) (lv' := [(15, .long (lI (lRaw mu k pr))), (14, .int (iI (lRe mu k pr))), (13, .int (iI (lPa mu k pr))), (12, .int (iI (lWo mu k pr))), (11, .int (iI (8 * k))), (0, .ref (ad 20 (0))), (1, .ref (ad 21 (0))), (2, .ref (ad 22 (0))), (3, .ref (ad 23 (0))), (4, .ref (ad 26 (0))), (5, .ref (ad 27 (0))), (6, .ref (ad 33 (0))), (7, .int (iI (many))), (8, .int (iI (k))), (9, .int (iI (pr))), (10, .int (iI (d)))]) hx hb dL_take_78 hl (by decide) rfl (fun ls hl => ?_)
  have J93 : W p l e (rmF 0 0 0 0) s m args below meth c H [] 0 0 (MQ below (Qm (some (.long (lI (lLand mu k pr)))) (fun H' => RM D cy A ad (lTkT mu many k pr d) H') A) args s 0 0 A) (F0 m 93 ls ([.long (lI (lLand mu k pr))])) := by
    refine lv_lstore (i := 15) (lv' := [(15, .long (lI (lLand mu k pr))), (14, .int (iI (lRe mu k pr))), (13, .int (iI (lPa mu k pr))), (12, .int (iI (lWo mu k pr))), (11, .int (iI (8 * k))), (0, .ref (ad 20 (0))), (1, .ref (ad 21 (0))), (2, .ref (ad 22 (0))), (3, .ref (ad 23 (0))), (4, .ref (ad 26 (0))), (5, .ref (ad 27 (0))), (6, .ref (ad 33 (0))), (7, .int (iI (many))), (8, .int (iI (k))), (9, .int (iI (pr))), (10, .int (iI (d)))]) hx hb dL_take_93 hl (by decide) rfl (fun ls hl => ?_)
    refine lv_lload hx hb dL_take_95 (lv_at hl 0 rfl) ?_
    refine lv_lstore (i := 17) (lv' := [(17, .long (lI (lLand mu k pr))), (15, .long (lI (lLand mu k pr))), (14, .int (iI (lRe mu k pr))), (13, .int (iI (lPa mu k pr))), (12, .int (iI (lWo mu k pr))), (11, .int (iI (8 * k))), (0, .ref (ad 20 (0))), (1, .ref (ad 21 (0))), (2, .ref (ad 22 (0))), (3, .ref (ad 23 (0))), (4, .ref (ad 26 (0))), (5, .ref (ad 27 (0))), (6, .ref (ad 33 (0))), (7, .int (iI (many))), (8, .int (iI (k))), (9, .int (iI (pr))), (10, .int (iI (d)))]) hx hb dL_take_97 hl (by decide) rfl (fun ls hl => ?_)
    refine lv_aload_n hx hb dL_take_99 rfl (lv_at hl 6 rfl) ?_
    refine lv_iload hx hb dL_take_100 (lv_at hl 5 rfl) ?_
    refine lv_iconst (v := iI (2)) hx hb dL_take_102 rfl ?_
    refine xr_iadd hx hb dL_take_103 ?_
    refine lv_iconst (v := iI (1)) hx hb dL_take_104 rfl ?_
    refine xs_1000 (v := 1) hx hb hK hR hS (by omega) dL_take_105 (fun H locs hR hS => ?_)
    refine lv_aload_n hx hb dL_take_106 rfl (lv_at hl 6 rfl) ?_
    refine lv_iload hx hb dL_take_107 (lv_at hl 5 rfl) ?_
    refine lv_iconst (v := iI (5)) hx hb dL_take_109 rfl ?_
    refine xr_iadd hx hb dL_take_110 ?_
    refine lv_iload hx hb dL_take_111 (lv_at hl 16 rfl) ?_
    refine xs_1000 (v := d) hx hb hK hR hS (by omega) dL_take_113 (fun H locs hR hS => ?_)
    refine lv_iconst (v := iI (0)) hx hb dL_take_114 rfl ?_
    refine lv_istore (i := 19) (lv' := [(19, .int (iI (0))), (17, .long (lI (lLand mu k pr))), (15, .long (lI (lLand mu k pr))), (14, .int (iI (lRe mu k pr))), (13, .int (iI (lPa mu k pr))), (12, .int (iI (lWo mu k pr))), (11, .int (iI (8 * k))), (0, .ref (ad 20 (0))), (1, .ref (ad 21 (0))), (2, .ref (ad 22 (0))), (3, .ref (ad 23 (0))), (4, .ref (ad 26 (0))), (5, .ref (ad 27 (0))), (6, .ref (ad 33 (0))), (7, .int (iI (many))), (8, .int (iI (k))), (9, .int (iI (pr))), (10, .int (iI (d)))]) hx hb dL_take_115 hl (by decide) rfl (fun ls hl => ?_)
    have loop117 : ∀ (n : Nat) (i : Int) (lf : Int), 0 ≤ i → i ≤ many → lf = lLf mu k pr i.toNat → (many - i).toNat < n → ∀ (H : Heap) (locs : List Loc), RM D cy A ad (lT1 mu k pr d i) H → va_S A s.heap H locs → ∀ ls : Array Slot, lv_has ls 24 [(0, .ref (ad 20 (0))), (1, .ref (ad 21 (0))), (2, .ref (ad 22 (0))), (3, .ref (ad 23 (0))), (4, .ref (ad 26 (0))), (5, .ref (ad 27 (0))), (6, .ref (ad 33 (0))), (7, .int (iI (many))), (8, .int (iI (k))), (9, .int (iI (pr))), (10, .int (iI (d))), (11, .int (iI (8 * k))), (15, .long (lI (lLand mu k pr))), (17, .long (lI (lf))), (19, .int (iI (i)))] → W p l e (rmF 0 0 0 0) s m args below meth c H locs 0 0 (MQ below (Qm (some (.long (lI (lLand mu k pr)))) (fun H' => RM D cy A ad (lTkT mu many k pr d) H') A) args s 0 0 A) (F0 m 117 ls []) := by
      intro n117
      induction n117 with
      | zero =>
        intro i lf hi0 hi1 hlf hn117 H locs hR hS ls hl
        exact absurd hn117 (Nat.not_lt_zero _)
      | succ n117 ih117 =>
        intro i lf hi0 hi1 hlf hn117 H locs hR hS ls hl
        have hlr := lLf_rng hG (k := k) (pr := pr) hLr.1 i.toNat
        rw [← hlf] at hlr
        have hday : -20000 ≤ lDay mu d i ∧ lDay mu d i ≤ 730 := by have z1 := ml_1002 hG i; unfold lDay; split <;> omega
        refine lv_iload hx hb dL_take_117 (lv_at hl 14 rfl) ?_
        refine lv_iload hx hb dL_take_119 (lv_at hl 7 rfl) ?_
        refine xr_icmp_ge (tgt := 278) hx hb dL_take_121 (by decide) (by omega) (by omega) (fun h6 => ?_) (fun h6 => ?_)
        · skip
          have ei : i = many := (by omega)
          rw [ei] at hR hlf
          have hlf2 : lf = lLeft mu many k pr := hlf
          subst hlf2
          refine lv_lload hx hb dL_take_278 (lv_at hl 13 rfl) ?_
          refine lv_lstore (i := 19) (lv' := [(19, .long (lI (lLeft mu many k pr))), (0, .ref (ad 20 (0))), (1, .ref (ad 21 (0))), (2, .ref (ad 22 (0))), (3, .ref (ad 23 (0))), (4, .ref (ad 26 (0))), (5, .ref (ad 27 (0))), (6, .ref (ad 33 (0))), (7, .int (iI (many))), (8, .int (iI (k))), (9, .int (iI (pr))), (10, .int (iI (d))), (11, .int (iI (8 * k))), (15, .long (lI (lLand mu k pr))), (17, .long (lI (lLeft mu many k pr)))]) hx hb dL_take_280 hl (by decide) rfl (fun ls hl => ?_)
          refine lv_iconst (v := iI (0)) hx hb dL_take_282 rfl ?_
          refine lv_istore (i := 21) (lv' := [(21, .int (iI (0))), (19, .long (lI (lLeft mu many k pr))), (0, .ref (ad 20 (0))), (1, .ref (ad 21 (0))), (2, .ref (ad 22 (0))), (3, .ref (ad 23 (0))), (4, .ref (ad 26 (0))), (5, .ref (ad 27 (0))), (6, .ref (ad 33 (0))), (7, .int (iI (many))), (8, .int (iI (k))), (9, .int (iI (pr))), (10, .int (iI (d))), (11, .int (iI (8 * k))), (15, .long (lI (lLand mu k pr))), (17, .long (lI (lLeft mu many k pr)))]) hx hb dL_take_283 hl (by decide) rfl (fun ls hl => ?_)
          have loop285 : ∀ (n : Nat) (i2 : Int) (ct : Int), 0 ≤ i2 → i2 ≤ many → ct = lCt mu k (lLeft mu many k pr) i2.toNat → (many - i2).toNat < n → ∀ (H : Heap) (locs : List Loc), RM D cy A ad (lT2 mu many k pr d (lLeft mu many k pr) i2) H → va_S A s.heap H locs → ∀ ls : Array Slot, lv_has ls 24 [(0, .ref (ad 20 (0))), (1, .ref (ad 21 (0))), (2, .ref (ad 22 (0))), (3, .ref (ad 23 (0))), (4, .ref (ad 26 (0))), (5, .ref (ad 27 (0))), (6, .ref (ad 33 (0))), (7, .int (iI (many))), (8, .int (iI (k))), (9, .int (iI (pr))), (10, .int (iI (d))), (11, .int (iI (8 * k))), (15, .long (lI (lLand mu k pr))), (17, .long (lI (lLeft mu many k pr))), (19, .long (lI (ct))), (21, .int (iI (i2)))] → W p l e (rmF 0 0 0 0) s m args below meth c H locs 0 0 (MQ below (Qm (some (.long (lI (lLand mu k pr)))) (fun H' => RM D cy A ad (lTkT mu many k pr d) H') A) args s 0 0 A) (F0 m 285 ls []) := by
            intro n285
            induction n285 with
            | zero =>
              intro i2 ct h20 h21 hct hn285 H locs hR hS ls hl
              exact absurd hn285 (Nat.not_lt_zero _)
            | succ n285 ih285 =>
              intro i2 ct h20 h21 hct hn285 H locs hR hS ls hl
              refine lv_iload hx hb dL_take_285 (lv_at hl 15 rfl) ?_
              refine lv_iload hx hb dL_take_287 (lv_at hl 7 rfl) ?_
              refine xr_icmp_ge (tgt := 390) hx hb dL_take_289 (by decide) (by omega) (by omega) (fun h7 => ?_) (fun h7 => ?_)
              · skip
                have ei2 : i2 = many := (by omega)
                rw [ei2] at hR hct
                have hR : RM D cy A ad (lT3 mu many k pr d) H := hR
                refine lv_aload hx hb dL_take_390 (lv_at hl 6 rfl) ?_
                refine lv_bipush (v := iI (24)) hx hb dL_take_392 (by decide) ?_
                refine lv_dup2_11 hx hb dL_take_394 rfl rfl ?_
                refine xa_1013 (v := (lT3 mu many k pr d) 1013 24) hx hb hK hR (by omega) rfl dL_take_395 ?_
                refine lv_lload hx hb dL_take_396 (lv_at hl 14 rfl) ?_
                refine xr_ladd hx hb dL_take_398 ?_
                refine xs_1013 (v := ((lT3 mu many k pr d) 1013 24) + ct) hx hb hK hR hS (by omega) dL_take_399 (fun H locs hR hS => ?_)
                refine lv_aload hx hb dL_take_400 (lv_at hl 6 rfl) ?_
                refine lv_bipush (v := iI (25)) hx hb dL_take_402 (by decide) ?_
                refine lv_dup2_11 hx hb dL_take_404 rfl rfl ?_
                refine xa_1013 (v := (lT3 mu many k pr d) 1013 25) hx hb hK hR (by omega) ((st_j (by omega)).trans rfl) dL_take_405 ?_
                refine lv_lload hx hb dL_take_406 (lv_at hl 12 rfl) ?_
                refine xr_ladd hx hb dL_take_408 ?_
                refine xs_1013 (v := ((lT3 mu many k pr d) 1013 25) + (lLand mu k pr)) hx hb hK hR hS (by omega) dL_take_409 (fun H locs hR hS => ?_)
                refine lv_lload hx hb dL_take_410 (lv_at hl 12 rfl) ?_
                exact xm_l hx hb hr hlk hS dL_take_412 (by rfl) (by unfold lTkT; rw [← hct]; exact hR)
              · skip
                refine lv_aload_n hx hb dL_take_292 rfl (lv_at hl 1 rfl) ?_
                refine lv_iload hx hb dL_take_293 (lv_at hl 15 rfl) ?_
                refine xa_1001 (v := mu 1001 i2) hx hb hK hR (by omega) (lT2_f (by decide) (by decide)) dL_take_295 ?_
                have g8 := ml_1001 hG (i2)
                refine xr_if_ne (tgt := 384) hx hb dL_take_296 (by decide) (by omega) (fun h9 => ?_) (fun h9 => ?_)
                · skip
                  refine lv_iinc (v := iI (i2 + (1))) (lv' := [(21, .int (iI (i2 + (1)))), (0, .ref (ad 20 (0))), (1, .ref (ad 21 (0))), (2, .ref (ad 22 (0))), (3, .ref (ad 23 (0))), (4, .ref (ad 26 (0))), (5, .ref (ad 27 (0))), (6, .ref (ad 33 (0))), (7, .int (iI (many))), (8, .int (iI (k))), (9, .int (iI (pr))), (10, .int (iI (d))), (11, .int (iI (8 * k))), (15, .long (lI (lLand mu k pr))), (17, .long (lI (lLeft mu many k pr))), (19, .long (lI (ct)))]) hx hb dL_take_384 hl (k := 15) rfl (iI_add _ _) (by decide) rfl (fun ls hl => ?_)
                  refine lv_goto (tgt := 285) hx hb dL_take_387 (by decide) ?_
                  exact ih285 (i2 + 1) ct (by omega) (by omega) (by rw [lCt_s h20, ← hct]; first | (rw [if_pos (by omega)]; done) | (rw [if_neg (by omega)]; done)) (by omega) _ _ (by rw [← lT2_n (by omega)]; exact hR) hS ls (lv_sub hl [1, 2, 3, 4, 5, 6, 7, 8, 9, 10, 11, 12, 13, 14, 15, 0] rfl)
                · skip
                  refine lv_aload_n hx hb dL_take_299 rfl (lv_at hl 1 rfl) ?_
                  refine lv_bipush (v := iI (24)) hx hb dL_take_300 (by decide) ?_
                  refine lv_iload hx hb dL_take_302 (lv_at hl 15 rfl) ?_
                  refine xr_iadd hx hb dL_take_304 ?_
                  refine xa_1001 (v := mu 1001 (24 + i2)) hx hb hK hR (by omega) (lT2_f (by decide) (by decide)) dL_take_305 ?_
                  have g10 := ml_1001 hG (24 + i2)
                  refine lv_iload hx hb dL_take_306 (lv_at hl 8 rfl) ?_
                  refine xr_icmp_ne (tgt := 384) hx hb dL_take_308 (by decide) (by omega) (by omega) (fun h11 => ?_) (fun h11 => ?_)
                  · skip
                    refine lv_iinc (v := iI (i2 + (1))) (lv' := [(21, .int (iI (i2 + (1)))), (0, .ref (ad 20 (0))), (1, .ref (ad 21 (0))), (2, .ref (ad 22 (0))), (3, .ref (ad 23 (0))), (4, .ref (ad 26 (0))), (5, .ref (ad 27 (0))), (6, .ref (ad 33 (0))), (7, .int (iI (many))), (8, .int (iI (k))), (9, .int (iI (pr))), (10, .int (iI (d))), (11, .int (iI (8 * k))), (15, .long (lI (lLand mu k pr))), (17, .long (lI (lLeft mu many k pr))), (19, .long (lI (ct)))]) hx hb dL_take_384 hl (k := 15) rfl (iI_add _ _) (by decide) rfl (fun ls hl => ?_)
                    refine lv_goto (tgt := 285) hx hb dL_take_387 (by decide) ?_
                    exact ih285 (i2 + 1) ct (by omega) (by omega) (by rw [lCt_s h20, ← hct]; first | (rw [if_pos (by omega)]; done) | (rw [if_neg (by omega)]; done)) (by omega) _ _ (by rw [← lT2_n (by omega)]; exact hR) hS ls (lv_sub hl [1, 2, 3, 4, 5, 6, 7, 8, 9, 10, 11, 12, 13, 14, 15, 0] rfl)
                  · skip
                    refine lv_lload hx hb dL_take_311 (lv_at hl 13 rfl) ?_
                    refine lv_aload_n hx hb dL_take_313 rfl (lv_at hl 2 rfl) ?_
                    refine lv_iload hx hb dL_take_314 (lv_at hl 15 rfl) ?_
                    refine xa_1002 (v := mu 1002 i2) hx hb hK hR (by omega) (lT2_f (by decide) (by decide)) dL_take_316 ?_
                    have g12 := ml_1002 hG (i2)
                    refine xr_i2l hx hb dL_take_317 (by omega) ?_
                    refine xr_lmul hx hb dL_take_318 ?_
                    refine lv_ldc2 (v := lI (100)) hx hb hown (hts _ kw_674) dL_take_319 ?_
                    have m5 := mul_rng (a := lLeft mu many k pr) (m := 100000) (b := mu 1002 i2) (n := 21200) (by omega) (by omega)
                    refine xr_ldiv hx hb dL_take_322 (by omega) (by omega) ?_
                    show W p l e (rmF 0 0 0 0) s m args below meth c H locs _ _ _ (F0 m 323 ls ([.long (lI (lBy mu (lLeft mu many k pr) i2))]))
                    have m6 : 0 ≤ lBy mu (lLeft mu many k pr) i2 ∧ lBy mu (lLeft mu many k pr) i2 ≤ 21200000 := by unfold lBy; omega
                    refine lv_lstore (i := 22) (lv' := [(22, .long (lI (lBy mu (lLeft mu many k pr) i2))), (0, .ref (ad 20 (0))), (1, .ref (ad 21 (0))), (2, .ref (ad 22 (0))), (3, .ref (ad 23 (0))), (4, .ref (ad 26 (0))), (5, .ref (ad 27 (0))), (6, .ref (ad 33 (0))), (7, .int (iI (many))), (8, .int (iI (k))), (9, .int (iI (pr))), (10, .int (iI (d))), (11, .int (iI (8 * k))), (15, .long (lI (lLand mu k pr))), (17, .long (lI (lLeft mu many k pr))), (19, .long (lI (ct))), (21, .int (iI (i2)))]) hx hb dL_take_323 hl (by decide) rfl (fun ls hl => ?_)
                    refine lv_lload hx hb dL_take_325 (lv_at hl 15 rfl) ?_
                    refine lv_lload hx hb dL_take_327 (lv_at hl 0 rfl) ?_
                    refine xr_lsub hx hb dL_take_329 ?_
                    refine lv_lstore (i := 19) (lv' := [(19, .long (lI (ct - (lBy mu (lLeft mu many k pr) i2)))), (22, .long (lI (lBy mu (lLeft mu many k pr) i2))), (0, .ref (ad 20 (0))), (1, .ref (ad 21 (0))), (2, .ref (ad 22 (0))), (3, .ref (ad 23 (0))), (4, .ref (ad 26 (0))), (5, .ref (ad 27 (0))), (6, .ref (ad 33 (0))), (7, .int (iI (many))), (8, .int (iI (k))), (9, .int (iI (pr))), (10, .int (iI (d))), (11, .int (iI (8 * k))), (15, .long (lI (lLand mu k pr))), (17, .long (lI (lLeft mu many k pr))), (21, .int (iI (i2)))]) hx hb dL_take_330 hl (by decide) rfl (fun ls hl => ?_)
                    refine lv_aload hx hb dL_take_332 (lv_at hl 8 rfl) ?_
                    refine lv_iload hx hb dL_take_334 (lv_at hl 16 rfl) ?_
                    refine lv_lload hx hb dL_take_336 (lv_at hl 1 rfl) ?_
                    have J382 : W p l e (rmF 0 0 0 0) s m args below meth c H locs 0 0 (MQ below (Qm (some (.long (lI (lLand mu k pr)))) (fun H' => RM D cy A ad (lTkT mu many k pr d) H') A) args s 0 0 A) (F0 m 382 ls ([.long (lI ((if mu 1000 ((8 * k) + 1) = 1 ∧ mu 1000 ((8 * k) + 4) = 100 ∧ 365 ≤ d - mu 1003 i2 then lBy mu (lLeft mu many k pr) i2 / 10 else 0))), .long (lI (lBy mu (lLeft mu many k pr) i2)), .int (iI (i2)), .ref (ad 33 (0))])) := by
                      refine xr_ladd hx hb dL_take_382 ?_
                      refine xs_1013 (v := (lBy mu (lLeft mu many k pr) i2) + ((if mu 1000 ((8 * k) + 1) = 1 ∧ mu 1000 ((8 * k) + 4) = 100 ∧ 365 ≤ d - mu 1003 i2 then lBy mu (lLeft mu many k pr) i2 / 10 else 0))) hx hb hK hR hS (by omega) dL_take_383 (fun H locs hR hS => ?_)
                      refine lv_iinc (v := iI (i2 + (1))) (lv' := [(21, .int (iI (i2 + (1)))), (19, .long (lI (ct - (lBy mu (lLeft mu many k pr) i2)))), (22, .long (lI (lBy mu (lLeft mu many k pr) i2))), (0, .ref (ad 20 (0))), (1, .ref (ad 21 (0))), (2, .ref (ad 22 (0))), (3, .ref (ad 23 (0))), (4, .ref (ad 26 (0))), (5, .ref (ad 27 (0))), (6, .ref (ad 33 (0))), (7, .int (iI (many))), (8, .int (iI (k))), (9, .int (iI (pr))), (10, .int (iI (d))), (11, .int (iI (8 * k))), (15, .long (lI (lLand mu k pr))), (17, .long (lI (lLeft mu many k pr)))]) hx hb dL_take_384 hl (k := 16) rfl (iI_add _ _) (by decide) rfl (fun ls hl => ?_)
                      refine lv_goto (tgt := 285) hx hb dL_take_387 (by decide) ?_
                      exact ih285 (i2 + 1) (ct - (lBy mu (lLeft mu many k pr) i2)) (by omega) (by omega) (by rw [lCt_s h20, ← hct]; first | (rw [if_pos (by omega)]; done) | (rw [if_neg (by omega)]; done)) (by omega) _ _ (by have z := lT2_w (mu := mu) (many := many) (k := k) (pr := pr) (d := d) (left := lLeft mu many k pr) (v := (lBy mu (lLeft mu many k pr) i2) + ((if mu 1000 ((8 * k) + 1) = 1 ∧ mu 1000 ((8 * k) + 4) = 100 ∧ 365 ≤ d - mu 1003 i2 then lBy mu (lLeft mu many k pr) i2 / 10 else 0))) h20 (by omega) (by omega) rfl; rw [z] at hR; exact hR) hS ls (lv_sub hl [3, 4, 5, 6, 7, 8, 9, 10, 11, 12, 13, 14, 15, 16, 1, 0] rfl)
                    refine lv_aload_n hx hb dL_take_338 rfl (lv_at hl 2 rfl) ?_
                    refine lv_iload hx hb dL_take_339 (lv_at hl 13 rfl) ?_
                    refine lv_iconst (v := iI (1)) hx hb dL_take_341 rfl ?_
                    refine xr_iadd hx hb dL_take_342 ?_
                    refine xa_1000 (v := mu 1000 ((8 * k) + 1)) hx hb hK hR (by omega) (lT2_p (by omega) (by omega)) dL_take_343 ?_
                    have g13 := ml_1000 hG ((8 * k) + 1)
                    refine lv_iconst (v := iI (1)) hx hb dL_take_344 rfl ?_
                    refine xr_icmp_ne (tgt := 381) hx hb dL_take_345 (by decide) (by omega) (by omega) (fun h14 => ?_) (fun h14 => ?_)
                    · skip
                      refine lv_lconst (v := lI (0)) hx hb dL_take_381 (by decide) ?_
                      exact w_topJ (by first | exact (if_pos (by omega)).symm | exact (if_neg (by omega)).symm) J382
                    · skip
                      refine lv_aload_n hx hb dL_take_348 rfl (lv_at hl 2 rfl) ?_
                      refine lv_iload hx hb dL_take_349 (lv_at hl 13 rfl) ?_
                      refine lv_iconst (v := iI (4)) hx hb dL_take_351 rfl ?_
                      refine xr_iadd hx hb dL_take_352 ?_
                      refine xa_1000 (v := mu 1000 ((8 * k) + 4)) hx hb hK hR (by omega) (lT2_p (by omega) (by omega)) dL_take_353 ?_
                      have g15 := ml_1000 hG ((8 * k) + 4)
                      refine lv_bipush (v := iI (100)) hx hb dL_take_354 (by decide) ?_
                      refine xr_icmp_ne (tgt := 381) hx hb dL_take_356 (by decide) (by omega) (by omega) (fun h16 => ?_) (fun h16 => ?_)
                      · skip
                        refine lv_lconst (v := lI (0)) hx hb dL_take_381 (by decide) ?_
                        exact w_topJ (by first | exact (if_pos (by omega)).symm | exact (if_neg (by omega)).symm) J382
                      · skip
                        refine lv_iload hx hb dL_take_359 (lv_at hl 12 rfl) ?_
                        refine lv_aload_n hx hb dL_take_361 rfl (lv_at hl 5 rfl) ?_
                        refine lv_iload hx hb dL_take_362 (lv_at hl 16 rfl) ?_
                        refine xa_1003 (v := mu 1003 i2) hx hb hK hR (by omega) (lT2_f (by decide) (by decide)) dL_take_364 ?_
                        have g17 := ml_1003 hG (i2)
                        refine xr_isub hx hb dL_take_365 ?_
                        refine lv_sipush (v := iI (365)) hx hb dL_take_366 (by decide) ?_
                        refine xr_icmp_lt (tgt := 381) hx hb dL_take_369 (by decide) (by omega) (by omega) (fun h18 => ?_) (fun h18 => ?_)
                        · skip
                          refine lv_lconst (v := lI (0)) hx hb dL_take_381 (by decide) ?_
                          exact w_topJ (by first | exact (if_pos (by omega)).symm | exact (if_neg (by omega)).symm) J382
                        · skip
                          refine lv_lload hx hb dL_take_372 (lv_at hl 1 rfl) ?_
                          refine lv_ldc2 (v := lI (10)) hx hb hown (hts _ kw_675) dL_take_374 ?_
                          refine xr_ldiv hx hb dL_take_377 (by omega) (by omega) ?_
                          refine lv_goto (tgt := 382) hx hb dL_take_378 (by decide) ?_
                          exact w_topJ (by first | exact (if_pos (by omega)).symm | exact (if_neg (by omega)).symm) J382
          exact loop285 _ 0 (lLeft mu many k pr) (by decide) (by omega) rfl (Nat.lt_succ_self _) _ _ (by rw [← lT2_0]; exact hR) hS ls (lv_sub hl [2, 3, 4, 5, 6, 7, 8, 9, 10, 11, 12, 13, 14, 15, 1, 0] rfl)
        · skip
          refine lv_aload_n hx hb dL_take_124 rfl (lv_at hl 1 rfl) ?_
          refine lv_iload hx hb dL_take_125 (lv_at hl 14 rfl) ?_
          refine xa_1001 (v := mu 1001 i) hx hb hK hR (by omega) (lT1_f (by decide) (by decide)) dL_take_127 ?_
          have g19 := ml_1001 hG (i)
          refine lv_iconst (v := iI (2)) hx hb dL_take_128 rfl ?_
          refine xr_icmp_ne (tgt := 180) hx hb dL_take_129 (by decide) (by omega) (by omega) (fun h20 => ?_) (fun h20 => ?_)
          · skip
            refine lv_aload_n hx hb dL_take_180 rfl (lv_at hl 1 rfl) ?_
            refine lv_iload hx hb dL_take_181 (lv_at hl 14 rfl) ?_
            refine xa_1001 (v := mu 1001 i) hx hb hK hR (by omega) (lT1_f (by decide) (by decide)) dL_take_183 ?_
            refine lv_iconst (v := iI (1)) hx hb dL_take_184 rfl ?_
            refine xr_icmp_ne (tgt := 272) hx hb dL_take_185 (by decide) (by omega) (by omega) (fun h21 => ?_) (fun h21 => ?_)
            · skip
              refine lv_iinc (v := iI (i + (1))) (lv' := [(19, .int (iI (i + (1)))), (0, .ref (ad 20 (0))), (1, .ref (ad 21 (0))), (2, .ref (ad 22 (0))), (3, .ref (ad 23 (0))), (4, .ref (ad 26 (0))), (5, .ref (ad 27 (0))), (6, .ref (ad 33 (0))), (7, .int (iI (many))), (8, .int (iI (k))), (9, .int (iI (pr))), (10, .int (iI (d))), (11, .int (iI (8 * k))), (15, .long (lI (lLand mu k pr))), (17, .long (lI (lf)))]) hx hb dL_take_272 hl (k := 14) rfl (iI_add _ _) (by decide) rfl (fun ls hl => ?_)
              refine lv_goto (tgt := 117) hx hb dL_take_275 (by decide) ?_
              exact ih117 (i + 1) lf (by omega) (by omega) (by rw [lLf_s hi0, ← hlf]; first | exact (if_pos (show mu 1001 i = 2 ∧ mu 1001 (24 + i) = k from ⟨by omega, by omega⟩)).symm | (rw [if_neg (by omega)]; done) | (exfalso; omega)) (by omega) _ _ (by first | (rw [← lT1_n (by omega)]; exact hR) | (exfalso; omega)) hS ls (lv_sub hl [1, 2, 3, 4, 5, 6, 7, 8, 9, 10, 11, 12, 13, 14, 0] rfl)
            · skip
              refine lv_aload_n hx hb dL_take_188 rfl (lv_at hl 1 rfl) ?_
              refine lv_bipush (v := iI (24)) hx hb dL_take_189 (by decide) ?_
              refine lv_iload hx hb dL_take_191 (lv_at hl 14 rfl) ?_
              refine xr_iadd hx hb dL_take_193 ?_
              refine xa_1001 (v := mu 1001 (24 + i)) hx hb hK hR (by omega) (lT1_f (by decide) (by decide)) dL_take_194 ?_
              have g22 := ml_1001 hG (24 + i)
              refine lv_iload hx hb dL_take_195 (lv_at hl 8 rfl) ?_
              refine xr_icmp_ne (tgt := 272) hx hb dL_take_197 (by decide) (by omega) (by omega) (fun h23 => ?_) (fun h23 => ?_)
              · skip
                refine lv_iinc (v := iI (i + (1))) (lv' := [(19, .int (iI (i + (1)))), (0, .ref (ad 20 (0))), (1, .ref (ad 21 (0))), (2, .ref (ad 22 (0))), (3, .ref (ad 23 (0))), (4, .ref (ad 26 (0))), (5, .ref (ad 27 (0))), (6, .ref (ad 33 (0))), (7, .int (iI (many))), (8, .int (iI (k))), (9, .int (iI (pr))), (10, .int (iI (d))), (11, .int (iI (8 * k))), (15, .long (lI (lLand mu k pr))), (17, .long (lI (lf)))]) hx hb dL_take_272 hl (k := 14) rfl (iI_add _ _) (by decide) rfl (fun ls hl => ?_)
                refine lv_goto (tgt := 117) hx hb dL_take_275 (by decide) ?_
                exact ih117 (i + 1) lf (by omega) (by omega) (by rw [lLf_s hi0, ← hlf]; first | exact (if_pos (show mu 1001 i = 2 ∧ mu 1001 (24 + i) = k from ⟨by omega, by omega⟩)).symm | (rw [if_neg (by omega)]; done) | (exfalso; omega)) (by omega) _ _ (by first | (rw [← lT1_n (by omega)]; exact hR) | (exfalso; omega)) hS ls (lv_sub hl [1, 2, 3, 4, 5, 6, 7, 8, 9, 10, 11, 12, 13, 14, 0] rfl)
              · skip
                have J227 : W p l e (rmF 0 0 0 0) s m args below meth c H locs 0 0 (MQ below (Qm (some (.long (lI (lLand mu k pr)))) (fun H' => RM D cy A ad (lTkT mu many k pr d) H') A) args s 0 0 A) (F0 m 227 ls ([.long (lI (lDay mu d i))])) := by
                  refine lv_lstore (i := 20) (lv' := [(20, .long (lI (lDay mu d i))), (0, .ref (ad 20 (0))), (1, .ref (ad 21 (0))), (2, .ref (ad 22 (0))), (3, .ref (ad 23 (0))), (4, .ref (ad 26 (0))), (5, .ref (ad 27 (0))), (6, .ref (ad 33 (0))), (7, .int (iI (many))), (8, .int (iI (k))), (9, .int (iI (pr))), (10, .int (iI (d))), (11, .int (iI (8 * k))), (15, .long (lI (lLand mu k pr))), (17, .long (lI (lf))), (19, .int (iI (i)))]) hx hb dL_take_227 hl (by decide) rfl (fun ls hl => ?_)
                  refine lv_aload hx hb dL_take_229 (lv_at hl 7 rfl) ?_
                  refine lv_iload hx hb dL_take_231 (lv_at hl 15 rfl) ?_
                  have J271 : W p l e (rmF 0 0 0 0) s m args below meth c H locs 0 0 (MQ below (Qm (some (.long (lI (lLand mu k pr)))) (fun H' => RM D cy A ad (lTkT mu many k pr d) H') A) args s 0 0 A) (F0 m 271 ls ([.long (lI (lLea mu k d i)), .int (iI (i)), .ref (ad 33 (0))])) := by
                    refine xs_1013 (v := lLea mu k d i) hx hb hK hR hS (by omega) dL_take_271 (fun H locs hR hS => ?_)
                    refine lv_iinc (v := iI (i + (1))) (lv' := [(19, .int (iI (i + (1)))), (20, .long (lI (lDay mu d i))), (0, .ref (ad 20 (0))), (1, .ref (ad 21 (0))), (2, .ref (ad 22 (0))), (3, .ref (ad 23 (0))), (4, .ref (ad 26 (0))), (5, .ref (ad 27 (0))), (6, .ref (ad 33 (0))), (7, .int (iI (many))), (8, .int (iI (k))), (9, .int (iI (pr))), (10, .int (iI (d))), (11, .int (iI (8 * k))), (15, .long (lI (lLand mu k pr))), (17, .long (lI (lf)))]) hx hb dL_take_272 hl (k := 15) rfl (iI_add _ _) (by decide) rfl (fun ls hl => ?_)
                    refine lv_goto (tgt := 117) hx hb dL_take_275 (by decide) ?_
                    exact ih117 (i + 1) lf (by omega) (by omega) (by rw [lLf_s hi0, ← hlf]; first | exact (if_pos (show mu 1001 i = 2 ∧ mu 1001 (24 + i) = k from ⟨by omega, by omega⟩)).symm | (rw [if_neg (by omega)]; done) | (exfalso; omega)) (by omega) _ _ (by first | (have z := lT1_w (mu := mu) (k := k) (pr := pr) (d := d) (v := lLea mu k d i) hi0 (by omega) (by omega) (by unfold lV1; rw [← hlf]; first | exact (if_pos (show mu 1001 i = 2 by omega)).symm | exact (if_neg (show ¬ mu 1001 i = 2 by omega)).symm); rw [z] at hR; exact hR) | (exfalso; omega)) hS ls (lv_sub hl [2, 3, 4, 5, 6, 7, 8, 9, 10, 11, 12, 13, 14, 15, 0] rfl)
                  refine lv_lload hx hb dL_take_233 (lv_at hl 0 rfl) ?_
                  refine lv_lconst (v := lI (0)) hx hb dL_take_235 (by decide) ?_
                  refine xr_lcmp hx hb dL_take_236 (by omega) (by omega) (fun y24 h25 => ?_)
                  refine xr_if_gt (tgt := 244) hx hb dL_take_237 (by decide) (by omega) (fun h26 => ?_) (fun h26 => ?_)
                  · skip
                    refine lv_lload hx hb dL_take_244 (lv_at hl 0 rfl) ?_
                    have J262 : W p l e (rmF 0 0 0 0) s m args below meth c H locs 0 0 (MQ below (Qm (some (.long (lI (lLand mu k pr)))) (fun H' => RM D cy A ad (lTkT mu many k pr d) H') A) args s 0 0 A) (F0 m 262 ls ([.int (iI ((if mu 1000 ((8 * k) + 1) = 2 then 90 else 0))), .long (lI (lDay mu d i)), .int (iI (i)), .ref (ad 33 (0))])) := by
                      refine xr_i2l hx hb dL_take_262 (by split <;> omega) ?_
                      refine xr_ladd hx hb dL_take_263 ?_
                      refine lv_aload hx hb dL_take_264 (lv_at hl 5 rfl) ?_
                      refine lv_iload hx hb dL_take_266 (lv_at hl 15 rfl) ?_
                      refine xa_1006 (v := mu 1006 i) hx hb hK hR (by omega) (lT1_f (by decide) (by decide)) dL_take_268 ?_
                      have g27 := ml_1006 hG (i)
                      refine xr_i2l hx hb dL_take_269 (by omega) ?_
                      refine xr_lmul hx hb dL_take_270 ?_
                      exact w_topJ (by unfold lLea; first | exact (if_pos (by omega)).symm | exact (if_neg (by omega)).symm) J271
                    refine lv_aload_n hx hb dL_take_246 rfl (lv_at hl 1 rfl) ?_
                    refine lv_iload hx hb dL_take_247 (lv_at hl 12 rfl) ?_
                    refine lv_iconst (v := iI (1)) hx hb dL_take_249 rfl ?_
                    refine xr_iadd hx hb dL_take_250 ?_
                    refine xa_1000 (v := mu 1000 ((8 * k) + 1)) hx hb hK hR (by omega) (lT1_p (by omega) (by omega)) dL_take_251 ?_
                    have g28 := ml_1000 hG ((8 * k) + 1)
                    refine lv_iconst (v := iI (2)) hx hb dL_take_252 rfl ?_
                    refine xr_icmp_ne (tgt := 261) hx hb dL_take_253 (by decide) (by omega) (by omega) (fun h29 => ?_) (fun h29 => ?_)
                    · skip
                      refine lv_iconst (v := iI (0)) hx hb dL_take_261 rfl ?_
                      exact w_topI (by first | exact (if_pos (by omega)).symm | exact (if_neg (by omega)).symm) J262
                    · skip
                      refine lv_bipush (v := iI (90)) hx hb dL_take_256 (by decide) ?_
                      refine lv_goto (tgt := 262) hx hb dL_take_258 (by decide) ?_
                      exact w_topI (by first | exact (if_pos (by omega)).symm | exact (if_neg (by omega)).symm) J262
                  · skip
                    refine lv_lconst (v := lI (0)) hx hb dL_take_240 (by decide) ?_
                    refine lv_goto (tgt := 271) hx hb dL_take_241 (by decide) ?_
                    exact w_topJ (by unfold lLea; first | exact (if_pos (by omega)).symm | exact (if_neg (by omega)).symm) J271
                refine lv_aload_n hx hb dL_take_200 rfl (lv_at hl 2 rfl) ?_
                refine lv_iload hx hb dL_take_201 (lv_at hl 14 rfl) ?_
                refine xa_1002 (v := mu 1002 i) hx hb hK hR (by omega) (lT1_f (by decide) (by decide)) dL_take_203 ?_
                have g30 := ml_1002 hG (i)
                refine lv_iload hx hb dL_take_204 (lv_at hl 10 rfl) ?_
                refine xr_isub hx hb dL_take_206 ?_
                refine lv_sipush (v := iI (730)) hx hb dL_take_207 (by decide) ?_
                refine xr_icmp_le (tgt := 219) hx hb dL_take_210 (by decide) (by omega) (by omega) (fun h31 => ?_) (fun h31 => ?_)
                · skip
                  refine lv_aload_n hx hb dL_take_219 rfl (lv_at hl 2 rfl) ?_
                  refine lv_iload hx hb dL_take_220 (lv_at hl 14 rfl) ?_
                  refine xa_1002 (v := mu 1002 i) hx hb hK hR (by omega) (lT1_f (by decide) (by decide)) dL_take_222 ?_
                  refine lv_iload hx hb dL_take_223 (lv_at hl 10 rfl) ?_
                  refine xr_isub hx hb dL_take_225 ?_
                  refine xr_i2l hx hb dL_take_226 (by omega) ?_
                  exact w_topJ (by unfold lDay; first | exact (if_pos (by omega)).symm | exact (if_neg (by omega)).symm) J227
                · skip
                  refine lv_ldc2 (v := lI (730)) hx hb hown (hts _ kw_673) dL_take_213 ?_
                  refine lv_goto (tgt := 227) hx hb dL_take_216 (by decide) ?_
                  exact w_topJ (by unfold lDay; first | exact (if_pos (by omega)).symm | exact (if_neg (by omega)).symm) J227
          · skip
            refine lv_aload_n hx hb dL_take_132 rfl (lv_at hl 1 rfl) ?_
            refine lv_bipush (v := iI (24)) hx hb dL_take_133 (by decide) ?_
            refine lv_iload hx hb dL_take_135 (lv_at hl 14 rfl) ?_
            refine xr_iadd hx hb dL_take_137 ?_
            refine xa_1001 (v := mu 1001 (24 + i)) hx hb hK hR (by omega) (lT1_f (by decide) (by decide)) dL_take_138 ?_
            have g32 := ml_1001 hG (24 + i)
            refine lv_iload hx hb dL_take_139 (lv_at hl 8 rfl) ?_
            refine xr_icmp_ne (tgt := 180) hx hb dL_take_141 (by decide) (by omega) (by omega) (fun h33 => ?_) (fun h33 => ?_)
            · skip
              refine lv_aload_n hx hb dL_take_180 rfl (lv_at hl 1 rfl) ?_
              refine lv_iload hx hb dL_take_181 (lv_at hl 14 rfl) ?_
              refine xa_1001 (v := mu 1001 i) hx hb hK hR (by omega) (lT1_f (by decide) (by decide)) dL_take_183 ?_
              refine lv_iconst (v := iI (1)) hx hb dL_take_184 rfl ?_
              refine xr_icmp_ne (tgt := 272) hx hb dL_take_185 (by decide) (by omega) (by omega) (fun h34 => ?_) (fun h34 => ?_)
              · skip
                refine lv_iinc (v := iI (i + (1))) (lv' := [(19, .int (iI (i + (1)))), (0, .ref (ad 20 (0))), (1, .ref (ad 21 (0))), (2, .ref (ad 22 (0))), (3, .ref (ad 23 (0))), (4, .ref (ad 26 (0))), (5, .ref (ad 27 (0))), (6, .ref (ad 33 (0))), (7, .int (iI (many))), (8, .int (iI (k))), (9, .int (iI (pr))), (10, .int (iI (d))), (11, .int (iI (8 * k))), (15, .long (lI (lLand mu k pr))), (17, .long (lI (lf)))]) hx hb dL_take_272 hl (k := 14) rfl (iI_add _ _) (by decide) rfl (fun ls hl => ?_)
                refine lv_goto (tgt := 117) hx hb dL_take_275 (by decide) ?_
                exact ih117 (i + 1) lf (by omega) (by omega) (by rw [lLf_s hi0, ← hlf]; first | exact (if_pos (show mu 1001 i = 2 ∧ mu 1001 (24 + i) = k from ⟨by omega, by omega⟩)).symm | (rw [if_neg (by omega)]; done) | (exfalso; omega)) (by omega) _ _ (by first | (rw [← lT1_n (by omega)]; exact hR) | (exfalso; omega)) hS ls (lv_sub hl [1, 2, 3, 4, 5, 6, 7, 8, 9, 10, 11, 12, 13, 14, 0] rfl)
              · skip
                refine lv_aload_n hx hb dL_take_188 rfl (lv_at hl 1 rfl) ?_
                refine lv_bipush (v := iI (24)) hx hb dL_take_189 (by decide) ?_
                refine lv_iload hx hb dL_take_191 (lv_at hl 14 rfl) ?_
                refine xr_iadd hx hb dL_take_193 ?_
                refine xa_1001 (v := mu 1001 (24 + i)) hx hb hK hR (by omega) (lT1_f (by decide) (by decide)) dL_take_194 ?_
                refine lv_iload hx hb dL_take_195 (lv_at hl 8 rfl) ?_
                refine xr_icmp_ne (tgt := 272) hx hb dL_take_197 (by decide) (by omega) (by omega) (fun h35 => ?_) (fun h35 => ?_)
                · skip
                  refine lv_iinc (v := iI (i + (1))) (lv' := [(19, .int (iI (i + (1)))), (0, .ref (ad 20 (0))), (1, .ref (ad 21 (0))), (2, .ref (ad 22 (0))), (3, .ref (ad 23 (0))), (4, .ref (ad 26 (0))), (5, .ref (ad 27 (0))), (6, .ref (ad 33 (0))), (7, .int (iI (many))), (8, .int (iI (k))), (9, .int (iI (pr))), (10, .int (iI (d))), (11, .int (iI (8 * k))), (15, .long (lI (lLand mu k pr))), (17, .long (lI (lf)))]) hx hb dL_take_272 hl (k := 14) rfl (iI_add _ _) (by decide) rfl (fun ls hl => ?_)
                  refine lv_goto (tgt := 117) hx hb dL_take_275 (by decide) ?_
                  exact ih117 (i + 1) lf (by omega) (by omega) (by rw [lLf_s hi0, ← hlf]; first | exact (if_pos (show mu 1001 i = 2 ∧ mu 1001 (24 + i) = k from ⟨by omega, by omega⟩)).symm | (rw [if_neg (by omega)]; done) | (exfalso; omega)) (by omega) _ _ (by first | (rw [← lT1_n (by omega)]; exact hR) | (exfalso; omega)) hS ls (lv_sub hl [1, 2, 3, 4, 5, 6, 7, 8, 9, 10, 11, 12, 13, 14, 0] rfl)
                · skip
                  have J227 : W p l e (rmF 0 0 0 0) s m args below meth c H locs 0 0 (MQ below (Qm (some (.long (lI (lLand mu k pr)))) (fun H' => RM D cy A ad (lTkT mu many k pr d) H') A) args s 0 0 A) (F0 m 227 ls ([.long (lI (lDay mu d i))])) := by
                    refine lv_lstore (i := 20) (lv' := [(20, .long (lI (lDay mu d i))), (0, .ref (ad 20 (0))), (1, .ref (ad 21 (0))), (2, .ref (ad 22 (0))), (3, .ref (ad 23 (0))), (4, .ref (ad 26 (0))), (5, .ref (ad 27 (0))), (6, .ref (ad 33 (0))), (7, .int (iI (many))), (8, .int (iI (k))), (9, .int (iI (pr))), (10, .int (iI (d))), (11, .int (iI (8 * k))), (15, .long (lI (lLand mu k pr))), (17, .long (lI (lf))), (19, .int (iI (i)))]) hx hb dL_take_227 hl (by decide) rfl (fun ls hl => ?_)
                    refine lv_aload hx hb dL_take_229 (lv_at hl 7 rfl) ?_
                    refine lv_iload hx hb dL_take_231 (lv_at hl 15 rfl) ?_
                    have J271 : W p l e (rmF 0 0 0 0) s m args below meth c H locs 0 0 (MQ below (Qm (some (.long (lI (lLand mu k pr)))) (fun H' => RM D cy A ad (lTkT mu many k pr d) H') A) args s 0 0 A) (F0 m 271 ls ([.long (lI (lLea mu k d i)), .int (iI (i)), .ref (ad 33 (0))])) := by
                      refine xs_1013 (v := lLea mu k d i) hx hb hK hR hS (by omega) dL_take_271 (fun H locs hR hS => ?_)
                      refine lv_iinc (v := iI (i + (1))) (lv' := [(19, .int (iI (i + (1)))), (20, .long (lI (lDay mu d i))), (0, .ref (ad 20 (0))), (1, .ref (ad 21 (0))), (2, .ref (ad 22 (0))), (3, .ref (ad 23 (0))), (4, .ref (ad 26 (0))), (5, .ref (ad 27 (0))), (6, .ref (ad 33 (0))), (7, .int (iI (many))), (8, .int (iI (k))), (9, .int (iI (pr))), (10, .int (iI (d))), (11, .int (iI (8 * k))), (15, .long (lI (lLand mu k pr))), (17, .long (lI (lf)))]) hx hb dL_take_272 hl (k := 15) rfl (iI_add _ _) (by decide) rfl (fun ls hl => ?_)
                      refine lv_goto (tgt := 117) hx hb dL_take_275 (by decide) ?_
                      exact ih117 (i + 1) lf (by omega) (by omega) (by rw [lLf_s hi0, ← hlf]; first | exact (if_pos (show mu 1001 i = 2 ∧ mu 1001 (24 + i) = k from ⟨by omega, by omega⟩)).symm | (rw [if_neg (by omega)]; done) | (exfalso; omega)) (by omega) _ _ (by first | (have z := lT1_w (mu := mu) (k := k) (pr := pr) (d := d) (v := lLea mu k d i) hi0 (by omega) (by omega) (by unfold lV1; rw [← hlf]; first | exact (if_pos (show mu 1001 i = 2 by omega)).symm | exact (if_neg (show ¬ mu 1001 i = 2 by omega)).symm); rw [z] at hR; exact hR) | (exfalso; omega)) hS ls (lv_sub hl [2, 3, 4, 5, 6, 7, 8, 9, 10, 11, 12, 13, 14, 15, 0] rfl)
                    refine lv_lload hx hb dL_take_233 (lv_at hl 0 rfl) ?_
                    refine lv_lconst (v := lI (0)) hx hb dL_take_235 (by decide) ?_
                    refine xr_lcmp hx hb dL_take_236 (by omega) (by omega) (fun y36 h37 => ?_)
                    refine xr_if_gt (tgt := 244) hx hb dL_take_237 (by decide) (by omega) (fun h38 => ?_) (fun h38 => ?_)
                    · skip
                      refine lv_lload hx hb dL_take_244 (lv_at hl 0 rfl) ?_
                      have J262 : W p l e (rmF 0 0 0 0) s m args below meth c H locs 0 0 (MQ below (Qm (some (.long (lI (lLand mu k pr)))) (fun H' => RM D cy A ad (lTkT mu many k pr d) H') A) args s 0 0 A) (F0 m 262 ls ([.int (iI ((if mu 1000 ((8 * k) + 1) = 2 then 90 else 0))), .long (lI (lDay mu d i)), .int (iI (i)), .ref (ad 33 (0))])) := by
                        refine xr_i2l hx hb dL_take_262 (by split <;> omega) ?_
                        refine xr_ladd hx hb dL_take_263 ?_
                        refine lv_aload hx hb dL_take_264 (lv_at hl 5 rfl) ?_
                        refine lv_iload hx hb dL_take_266 (lv_at hl 15 rfl) ?_
                        refine xa_1006 (v := mu 1006 i) hx hb hK hR (by omega) (lT1_f (by decide) (by decide)) dL_take_268 ?_
                        have g39 := ml_1006 hG (i)
                        refine xr_i2l hx hb dL_take_269 (by omega) ?_
                        refine xr_lmul hx hb dL_take_270 ?_
                        exact w_topJ (by unfold lLea; first | exact (if_pos (by omega)).symm | exact (if_neg (by omega)).symm) J271
                      refine lv_aload_n hx hb dL_take_246 rfl (lv_at hl 1 rfl) ?_
                      refine lv_iload hx hb dL_take_247 (lv_at hl 12 rfl) ?_
                      refine lv_iconst (v := iI (1)) hx hb dL_take_249 rfl ?_
                      refine xr_iadd hx hb dL_take_250 ?_
                      refine xa_1000 (v := mu 1000 ((8 * k) + 1)) hx hb hK hR (by omega) (lT1_p (by omega) (by omega)) dL_take_251 ?_
                      have g40 := ml_1000 hG ((8 * k) + 1)
                      refine lv_iconst (v := iI (2)) hx hb dL_take_252 rfl ?_
                      refine xr_icmp_ne (tgt := 261) hx hb dL_take_253 (by decide) (by omega) (by omega) (fun h41 => ?_) (fun h41 => ?_)
                      · skip
                        refine lv_iconst (v := iI (0)) hx hb dL_take_261 rfl ?_
                        exact w_topI (by first | exact (if_pos (by omega)).symm | exact (if_neg (by omega)).symm) J262
                      · skip
                        refine lv_bipush (v := iI (90)) hx hb dL_take_256 (by decide) ?_
                        refine lv_goto (tgt := 262) hx hb dL_take_258 (by decide) ?_
                        exact w_topI (by first | exact (if_pos (by omega)).symm | exact (if_neg (by omega)).symm) J262
                    · skip
                      refine lv_lconst (v := lI (0)) hx hb dL_take_240 (by decide) ?_
                      refine lv_goto (tgt := 271) hx hb dL_take_241 (by decide) ?_
                      exact w_topJ (by unfold lLea; first | exact (if_pos (by omega)).symm | exact (if_neg (by omega)).symm) J271
                  refine lv_aload_n hx hb dL_take_200 rfl (lv_at hl 2 rfl) ?_
                  refine lv_iload hx hb dL_take_201 (lv_at hl 14 rfl) ?_
                  refine xa_1002 (v := mu 1002 i) hx hb hK hR (by omega) (lT1_f (by decide) (by decide)) dL_take_203 ?_
                  have g42 := ml_1002 hG (i)
                  refine lv_iload hx hb dL_take_204 (lv_at hl 10 rfl) ?_
                  refine xr_isub hx hb dL_take_206 ?_
                  refine lv_sipush (v := iI (730)) hx hb dL_take_207 (by decide) ?_
                  refine xr_icmp_le (tgt := 219) hx hb dL_take_210 (by decide) (by omega) (by omega) (fun h43 => ?_) (fun h43 => ?_)
                  · skip
                    refine lv_aload_n hx hb dL_take_219 rfl (lv_at hl 2 rfl) ?_
                    refine lv_iload hx hb dL_take_220 (lv_at hl 14 rfl) ?_
                    refine xa_1002 (v := mu 1002 i) hx hb hK hR (by omega) (lT1_f (by decide) (by decide)) dL_take_222 ?_
                    refine lv_iload hx hb dL_take_223 (lv_at hl 10 rfl) ?_
                    refine xr_isub hx hb dL_take_225 ?_
                    refine xr_i2l hx hb dL_take_226 (by omega) ?_
                    exact w_topJ (by unfold lDay; first | exact (if_pos (by omega)).symm | exact (if_neg (by omega)).symm) J227
                  · skip
                    refine lv_ldc2 (v := lI (730)) hx hb hown (hts _ kw_673) dL_take_213 ?_
                    refine lv_goto (tgt := 227) hx hb dL_take_216 (by decide) ?_
                    exact w_topJ (by unfold lDay; first | exact (if_pos (by omega)).symm | exact (if_neg (by omega)).symm) J227
            · skip
              refine lv_aload hx hb dL_take_144 (lv_at hl 6 rfl) ?_
              refine lv_iload hx hb dL_take_146 (lv_at hl 14 rfl) ?_
              have J169 : W p l e (rmF 0 0 0 0) s m args below meth c H locs 0 0 (MQ below (Qm (some (.long (lI (lLand mu k pr)))) (fun H' => RM D cy A ad (lTkT mu many k pr d) H') A) args s 0 0 A) (F0 m 169 ls ([.long (lI ((if lf < mu 1002 i then lf else mu 1002 i))), .int (iI (i)), .ref (ad 33 (0))])) := by
                refine xs_1013 (v := (if lf < mu 1002 i then lf else mu 1002 i)) hx hb hK hR hS (by omega) dL_take_169 (fun H locs hR hS => ?_)
                refine lv_lload hx hb dL_take_170 (lv_at hl 13 rfl) ?_
                refine lv_aload hx hb dL_take_172 (lv_at hl 6 rfl) ?_
                refine lv_iload hx hb dL_take_174 (lv_at hl 14 rfl) ?_
                refine xa_1013 (v := (if lf < mu 1002 i then lf else mu 1002 i)) hx hb hK hR (by omega) (st_s) dL_take_176 ?_
                refine xr_lsub hx hb dL_take_177 ?_
                refine lv_lstore (i := 17) (lv' := [(17, .long (lI (lf - (if lf < mu 1002 i then lf else mu 1002 i)))), (0, .ref (ad 20 (0))), (1, .ref (ad 21 (0))), (2, .ref (ad 22 (0))), (3, .ref (ad 23 (0))), (4, .ref (ad 26 (0))), (5, .ref (ad 27 (0))), (6, .ref (ad 33 (0))), (7, .int (iI (many))), (8, .int (iI (k))), (9, .int (iI (pr))), (10, .int (iI (d))), (11, .int (iI (8 * k))), (15, .long (lI (lLand mu k pr))), (19, .int (iI (i)))]) hx hb dL_take_178 hl (by decide) rfl (fun ls hl => ?_)
                refine lv_aload_n hx hb dL_take_180 rfl (lv_at hl 2 rfl) ?_
                refine lv_iload hx hb dL_take_181 (lv_at hl 14 rfl) ?_
                refine xa_1001 (v := mu 1001 i) hx hb hK hR (by omega) ((st_f (by decide)).trans ((lT1_f (by decide) (by decide)))) dL_take_183 ?_
                refine lv_iconst (v := iI (1)) hx hb dL_take_184 rfl ?_
                refine xr_icmp_ne (tgt := 272) hx hb dL_take_185 (by decide) (by omega) (by omega) (fun h44 => ?_) (fun h44 => ?_)
                · skip
                  refine lv_iinc (v := iI (i + (1))) (lv' := [(19, .int (iI (i + (1)))), (17, .long (lI (lf - (if lf < mu 1002 i then lf else mu 1002 i)))), (0, .ref (ad 20 (0))), (1, .ref (ad 21 (0))), (2, .ref (ad 22 (0))), (3, .ref (ad 23 (0))), (4, .ref (ad 26 (0))), (5, .ref (ad 27 (0))), (6, .ref (ad 33 (0))), (7, .int (iI (many))), (8, .int (iI (k))), (9, .int (iI (pr))), (10, .int (iI (d))), (11, .int (iI (8 * k))), (15, .long (lI (lLand mu k pr)))]) hx hb dL_take_272 hl (k := 14) rfl (iI_add _ _) (by decide) rfl (fun ls hl => ?_)
                  refine lv_goto (tgt := 117) hx hb dL_take_275 (by decide) ?_
                  exact ih117 (i + 1) (lf - (if lf < mu 1002 i then lf else mu 1002 i)) (by omega) (by omega) (by rw [lLf_s hi0, ← hlf]; first | exact (if_pos (show mu 1001 i = 2 ∧ mu 1001 (24 + i) = k from ⟨by omega, by omega⟩)).symm | (rw [if_neg (by omega)]; done) | (exfalso; omega)) (by omega) _ _ (by first | (have z := lT1_w (mu := mu) (k := k) (pr := pr) (d := d) (v := (if lf < mu 1002 i then lf else mu 1002 i)) hi0 (by omega) (by omega) (by unfold lV1; rw [← hlf]; first | exact (if_pos (show mu 1001 i = 2 by omega)).symm | exact (if_neg (show ¬ mu 1001 i = 2 by omega)).symm); rw [z] at hR; exact hR) | (exfalso; omega)) hS ls (lv_sub hl [2, 3, 4, 5, 6, 7, 8, 9, 10, 11, 12, 13, 14, 1, 0] rfl)
                · skip
                  refine lv_aload_n hx hb dL_take_188 rfl (lv_at hl 2 rfl) ?_
                  refine lv_bipush (v := iI (24)) hx hb dL_take_189 (by decide) ?_
                  refine lv_iload hx hb dL_take_191 (lv_at hl 14 rfl) ?_
                  refine xr_iadd hx hb dL_take_193 ?_
                  refine xa_1001 (v := mu 1001 (24 + i)) hx hb hK hR (by omega) ((st_f (by decide)).trans ((lT1_f (by decide) (by decide)))) dL_take_194 ?_
                  refine lv_iload hx hb dL_take_195 (lv_at hl 9 rfl) ?_
                  refine xr_icmp_ne (tgt := 272) hx hb dL_take_197 (by decide) (by omega) (by omega) (fun h45 => ?_) (fun h45 => ?_)
                  · skip
                    refine lv_iinc (v := iI (i + (1))) (lv' := [(19, .int (iI (i + (1)))), (17, .long (lI (lf - (if lf < mu 1002 i then lf else mu 1002 i)))), (0, .ref (ad 20 (0))), (1, .ref (ad 21 (0))), (2, .ref (ad 22 (0))), (3, .ref (ad 23 (0))), (4, .ref (ad 26 (0))), (5, .ref (ad 27 (0))), (6, .ref (ad 33 (0))), (7, .int (iI (many))), (8, .int (iI (k))), (9, .int (iI (pr))), (10, .int (iI (d))), (11, .int (iI (8 * k))), (15, .long (lI (lLand mu k pr)))]) hx hb dL_take_272 hl (k := 14) rfl (iI_add _ _) (by decide) rfl (fun ls hl => ?_)
                    refine lv_goto (tgt := 117) hx hb dL_take_275 (by decide) ?_
                    exact ih117 (i + 1) (lf - (if lf < mu 1002 i then lf else mu 1002 i)) (by omega) (by omega) (by rw [lLf_s hi0, ← hlf]; first | exact (if_pos (show mu 1001 i = 2 ∧ mu 1001 (24 + i) = k from ⟨by omega, by omega⟩)).symm | (rw [if_neg (by omega)]; done) | (exfalso; omega)) (by omega) _ _ (by first | (have z := lT1_w (mu := mu) (k := k) (pr := pr) (d := d) (v := (if lf < mu 1002 i then lf else mu 1002 i)) hi0 (by omega) (by omega) (by unfold lV1; rw [← hlf]; first | exact (if_pos (show mu 1001 i = 2 by omega)).symm | exact (if_neg (show ¬ mu 1001 i = 2 by omega)).symm); rw [z] at hR; exact hR) | (exfalso; omega)) hS ls (lv_sub hl [2, 3, 4, 5, 6, 7, 8, 9, 10, 11, 12, 13, 14, 1, 0] rfl)
                  · skip
                    have J227 : W p l e (rmF 0 0 0 0) s m args below meth c H locs 0 0 (MQ below (Qm (some (.long (lI (lLand mu k pr)))) (fun H' => RM D cy A ad (lTkT mu many k pr d) H') A) args s 0 0 A) (F0 m 227 ls ([.long (lI (lDay mu d i))])) := by
                      refine lv_lstore (i := 20) (lv' := [(20, .long (lI (lDay mu d i))), (17, .long (lI (lf - (if lf < mu 1002 i then lf else mu 1002 i)))), (0, .ref (ad 20 (0))), (1, .ref (ad 21 (0))), (2, .ref (ad 22 (0))), (3, .ref (ad 23 (0))), (4, .ref (ad 26 (0))), (5, .ref (ad 27 (0))), (6, .ref (ad 33 (0))), (7, .int (iI (many))), (8, .int (iI (k))), (9, .int (iI (pr))), (10, .int (iI (d))), (11, .int (iI (8 * k))), (15, .long (lI (lLand mu k pr))), (19, .int (iI (i)))]) hx hb dL_take_227 hl (by decide) rfl (fun ls hl => ?_)
                      refine lv_aload hx hb dL_take_229 (lv_at hl 8 rfl) ?_
                      refine lv_iload hx hb dL_take_231 (lv_at hl 15 rfl) ?_
                      have J271 : W p l e (rmF 0 0 0 0) s m args below meth c H locs 0 0 (MQ below (Qm (some (.long (lI (lLand mu k pr)))) (fun H' => RM D cy A ad (lTkT mu many k pr d) H') A) args s 0 0 A) (F0 m 271 ls ([.long (lI (lLea mu k d i)), .int (iI (i)), .ref (ad 33 (0))])) := by
                        refine xs_1013 (v := lLea mu k d i) hx hb hK hR hS (by omega) dL_take_271 (fun H locs hR hS => ?_)
                        refine lv_iinc (v := iI (i + (1))) (lv' := [(19, .int (iI (i + (1)))), (20, .long (lI (lDay mu d i))), (17, .long (lI (lf - (if lf < mu 1002 i then lf else mu 1002 i)))), (0, .ref (ad 20 (0))), (1, .ref (ad 21 (0))), (2, .ref (ad 22 (0))), (3, .ref (ad 23 (0))), (4, .ref (ad 26 (0))), (5, .ref (ad 27 (0))), (6, .ref (ad 33 (0))), (7, .int (iI (many))), (8, .int (iI (k))), (9, .int (iI (pr))), (10, .int (iI (d))), (11, .int (iI (8 * k))), (15, .long (lI (lLand mu k pr)))]) hx hb dL_take_272 hl (k := 15) rfl (iI_add _ _) (by decide) rfl (fun ls hl => ?_)
                        refine lv_goto (tgt := 117) hx hb dL_take_275 (by decide) ?_
                        exact ih117 (i + 1) (lf - (if lf < mu 1002 i then lf else mu 1002 i)) (by omega) (by omega) (by rw [lLf_s hi0, ← hlf]; first | exact (if_pos (show mu 1001 i = 2 ∧ mu 1001 (24 + i) = k from ⟨by omega, by omega⟩)).symm | (rw [if_neg (by omega)]; done) | (exfalso; omega)) (by omega) _ _ (by first | (have z := lT1_w (mu := mu) (k := k) (pr := pr) (d := d) (v := lLea mu k d i) hi0 (by omega) (by omega) (by unfold lV1; rw [← hlf]; first | exact (if_pos (show mu 1001 i = 2 by omega)).symm | exact (if_neg (show ¬ mu 1001 i = 2 by omega)).symm); rw [z] at hR; exact hR) | (exfalso; omega)) hS ls (lv_sub hl [3, 4, 5, 6, 7, 8, 9, 10, 11, 12, 13, 14, 15, 2, 0] rfl)
                      refine lv_lload hx hb dL_take_233 (lv_at hl 0 rfl) ?_
                      refine lv_lconst (v := lI (0)) hx hb dL_take_235 (by decide) ?_
                      refine xr_lcmp hx hb dL_take_236 (by omega) (by omega) (fun y46 h47 => ?_)
                      refine xr_if_gt (tgt := 244) hx hb dL_take_237 (by decide) (by omega) (fun h48 => ?_) (fun h48 => ?_)
                      · skip
                        refine lv_lload hx hb dL_take_244 (lv_at hl 0 rfl) ?_
                        have J262 : W p l e (rmF 0 0 0 0) s m args below meth c H locs 0 0 (MQ below (Qm (some (.long (lI (lLand mu k pr)))) (fun H' => RM D cy A ad (lTkT mu many k pr d) H') A) args s 0 0 A) (F0 m 262 ls ([.int (iI ((if mu 1000 ((8 * k) + 1) = 2 then 90 else 0))), .long (lI (lDay mu d i)), .int (iI (i)), .ref (ad 33 (0))])) := by
                          refine xr_i2l hx hb dL_take_262 (by split <;> omega) ?_
                          refine xr_ladd hx hb dL_take_263 ?_
                          refine lv_aload hx hb dL_take_264 (lv_at hl 6 rfl) ?_
                          refine lv_iload hx hb dL_take_266 (lv_at hl 15 rfl) ?_
                          refine xa_1006 (v := mu 1006 i) hx hb hK hR (by omega) ((st_f (by decide)).trans ((lT1_f (by decide) (by decide)))) dL_take_268 ?_
                          have g49 := ml_1006 hG (i)
                          refine xr_i2l hx hb dL_take_269 (by omega) ?_
                          refine xr_lmul hx hb dL_take_270 ?_
                          exact w_topJ (by unfold lLea; first | exact (if_pos (by omega)).symm | exact (if_neg (by omega)).symm) J271
                        refine lv_aload_n hx hb dL_take_246 rfl (lv_at hl 2 rfl) ?_
                        refine lv_iload hx hb dL_take_247 (lv_at hl 13 rfl) ?_
                        refine lv_iconst (v := iI (1)) hx hb dL_take_249 rfl ?_
                        refine xr_iadd hx hb dL_take_250 ?_
                        refine xa_1000 (v := mu 1000 ((8 * k) + 1)) hx hb hK hR (by omega) ((st_f (by decide)).trans ((lT1_p (by omega) (by omega)))) dL_take_251 ?_
                        have g50 := ml_1000 hG ((8 * k) + 1)
                        refine lv_iconst (v := iI (2)) hx hb dL_take_252 rfl ?_
                        refine xr_icmp_ne (tgt := 261) hx hb dL_take_253 (by decide) (by omega) (by omega) (fun h51 => ?_) (fun h51 => ?_)
                        · skip
                          refine lv_iconst (v := iI (0)) hx hb dL_take_261 rfl ?_
                          exact w_topI (by first | exact (if_pos (by omega)).symm | exact (if_neg (by omega)).symm) J262
                        · skip
                          refine lv_bipush (v := iI (90)) hx hb dL_take_256 (by decide) ?_
                          refine lv_goto (tgt := 262) hx hb dL_take_258 (by decide) ?_
                          exact w_topI (by first | exact (if_pos (by omega)).symm | exact (if_neg (by omega)).symm) J262
                      · skip
                        refine lv_lconst (v := lI (0)) hx hb dL_take_240 (by decide) ?_
                        refine lv_goto (tgt := 271) hx hb dL_take_241 (by decide) ?_
                        exact w_topJ (by unfold lLea; first | exact (if_pos (by omega)).symm | exact (if_neg (by omega)).symm) J271
                    refine lv_aload_n hx hb dL_take_200 rfl (lv_at hl 3 rfl) ?_
                    refine lv_iload hx hb dL_take_201 (lv_at hl 14 rfl) ?_
                    refine xa_1002 (v := mu 1002 i) hx hb hK hR (by omega) ((st_f (by decide)).trans ((lT1_f (by decide) (by decide)))) dL_take_203 ?_
                    have g52 := ml_1002 hG (i)
                    refine lv_iload hx hb dL_take_204 (lv_at hl 11 rfl) ?_
                    refine xr_isub hx hb dL_take_206 ?_
                    refine lv_sipush (v := iI (730)) hx hb dL_take_207 (by decide) ?_
                    refine xr_icmp_le (tgt := 219) hx hb dL_take_210 (by decide) (by omega) (by omega) (fun h53 => ?_) (fun h53 => ?_)
                    · skip
                      refine lv_aload_n hx hb dL_take_219 rfl (lv_at hl 3 rfl) ?_
                      refine lv_iload hx hb dL_take_220 (lv_at hl 14 rfl) ?_
                      refine xa_1002 (v := mu 1002 i) hx hb hK hR (by omega) ((st_f (by decide)).trans ((lT1_f (by decide) (by decide)))) dL_take_222 ?_
                      refine lv_iload hx hb dL_take_223 (lv_at hl 11 rfl) ?_
                      refine xr_isub hx hb dL_take_225 ?_
                      refine xr_i2l hx hb dL_take_226 (by omega) ?_
                      exact w_topJ (by unfold lDay; first | exact (if_pos (by omega)).symm | exact (if_neg (by omega)).symm) J227
                    · skip
                      refine lv_ldc2 (v := lI (730)) hx hb hown (hts _ kw_673) dL_take_213 ?_
                      refine lv_goto (tgt := 227) hx hb dL_take_216 (by decide) ?_
                      exact w_topJ (by unfold lDay; first | exact (if_pos (by omega)).symm | exact (if_neg (by omega)).symm) J227
              refine lv_lload hx hb dL_take_148 (lv_at hl 13 rfl) ?_
              refine lv_aload_n hx hb dL_take_150 rfl (lv_at hl 2 rfl) ?_
              refine lv_iload hx hb dL_take_151 (lv_at hl 14 rfl) ?_
              refine xa_1002 (v := mu 1002 i) hx hb hK hR (by omega) (lT1_f (by decide) (by decide)) dL_take_153 ?_
              have g54 := ml_1002 hG (i)
              refine xr_i2l hx hb dL_take_154 (by omega) ?_
              refine xr_lcmp hx hb dL_take_155 (by omega) (by omega) (fun y55 h56 => ?_)
              refine xr_if_ge (tgt := 164) hx hb dL_take_156 (by decide) (by omega) (fun h57 => ?_) (fun h57 => ?_)
              · skip
                refine lv_aload_n hx hb dL_take_164 rfl (lv_at hl 2 rfl) ?_
                refine lv_iload hx hb dL_take_165 (lv_at hl 14 rfl) ?_
                refine xa_1002 (v := mu 1002 i) hx hb hK hR (by omega) (lT1_f (by decide) (by decide)) dL_take_167 ?_
                refine xr_i2l hx hb dL_take_168 (by omega) ?_
                exact w_topJ (by first | exact (if_pos (by omega)).symm | exact (if_neg (by omega)).symm) J169
              · skip
                refine lv_lload hx hb dL_take_159 (lv_at hl 13 rfl) ?_
                refine lv_goto (tgt := 169) hx hb dL_take_161 (by decide) ?_
                exact w_topJ (by first | exact (if_pos (by omega)).symm | exact (if_neg (by omega)).symm) J169
    exact loop117 _ 0 (lLand mu k pr) (by decide) (by omega) rfl (Nat.lt_succ_self _) _ _ (by rw [← lT1_0]; exact hR) hS ls (lv_sub hl [7, 8, 9, 10, 11, 12, 13, 14, 15, 16, 17, 6, 2, 1, 0] rfl)
  refine lv_lload hx hb dL_take_80 (lv_at hl 0 rfl) ?_
  refine lv_lconst (v := lI (0)) hx hb dL_take_82 (by decide) ?_
  refine xr_lcmp hx hb dL_take_83 (by omega) (by omega) (fun y58 h59 => ?_)
  refine xr_if_ge (tgt := 91) hx hb dL_take_84 (by decide) (by omega) (fun h60 => ?_) (fun h60 => ?_)
  · skip
    refine lv_lload hx hb dL_take_91 (lv_at hl 0 rfl) ?_
    exact w_topJ (by unfold lLand; first | exact (if_pos (by omega)).symm | exact (if_neg (by omega)).symm) J93
  · skip
    refine lv_lconst (v := lI (0)) hx hb dL_take_87 (by decide) ?_
    refine lv_goto (tgt := 93) hx hb dL_take_88 (by decide) ?_
    exact w_topJ (by unfold lLand; first | exact (if_pos (by omega)).symm | exact (if_neg (by omega)).symm) J93
