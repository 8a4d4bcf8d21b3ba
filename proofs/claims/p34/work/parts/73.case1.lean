set_option maxRecDepth 100000 in
set_option maxHeartbeats 8000000 in
theorem law_notice {p : Program} {l : Launch} {e : Env} {s : State} {m : MethodId} {below : List Frame} {meth : Method} {c : Code} {D : va_G} {cy : Nat → ClassId} {A A2 : Nat → Prop} {b L hh : Nat} {xs : Nat → Int32} {ad adM : Nat → Int → Nat} {sg mu : Nat → Int → Int} {H : Heap} {locs : List Loc} {cells slots : Nat} {Q : State → Prop} {ls : Array Slot} {turn : Int} {vx : Int32} {what k who w : Int} (E : LE p l s m meth c b L xs D cy A A2 adM) (I : LI D cy A A2 s hh ad adM sg mu H locs) (h7 : sg 702 0 ≤ 1000000) (hcl : cells + 1000 ≤ 600104) (hsl : slots + 20000 ≤ 7301314) (hwhat : 7 ≤ what ∧ what < 10) (hk : 0 ≤ k ∧ k ≤ 3) (hw : 0 ≤ w ∧ w ≤ 1) (hwho : 0 ≤ who ∧ who < sg 503 0) (hl : lv_has ls 37 [(23, .int (iI (1))), (18, .int (iI (sg 503 0))), (19, .int (iI (sg 506 0))), (20, .long (lI (sg 510 0))), (24, .int (iI (turn))), (0, .ref b), (1, .ref hh), (2, .ref (adM 20 0)), (3, .ref (adM 21 0)), (4, .ref (adM 22 0)), (5, .ref (adM 23 0)), (6, .ref (adM 24 0)), (7, .ref (adM 25 0)), (8, .ref (adM 26 0)), (9, .ref (adM 27 0)), (10, .ref (adM 28 0)), (11, .ref (adM 29 0)), (12, .ref (adM 30 0)), (13, .ref (adM 31 0)), (14, .ref (adM 32 0)), (15, .ref (adM 33 0)), (16, .ref (adM 34 0)), (17, .ref (adM 35 0)), (25, .int (vx)), (26, .int (iI (what))), (27, .int (iI (k))), (28, .int (iI (8 * k))), (29, .int (iI (who))), (30, .int (iI (w)))]) (kk : LK p l e s m below meth c b D cy A A2 hh adM cells slots Q sg turn) : W p l e room_1 s m #[Value.ref b] below meth c H locs cells slots Q (F0 m 1001 ls []) := by
  obtain ⟨⟨hx, hb, hr, hml, hown, hts0, hX, hbl, hlocks, -⟩, hl0, hK, hXS, hXN, hA, hA1, hA2, hN12, hL⟩ := E
  obtain ⟨hC, hR, h4, hLR, hV, hG, hM, hS⟩ := I
  have hM0 := hM
  have hts : ∀ w ∈ wG, w.before #[Value.ref b] s = true := fun w hw => hts0 w (List.mem_filter.mp hw).1
  have hown : s.vm.findClass "TakinghallLaw" = some m.cls := hown
  have g503 := gr_503 hG 0
  have g506 := gr_506 hG 0
  obtain ⟨K, hKe⟩ : ∃ K, K = mu 1001 (24 + who) := ⟨_, rfl⟩
  obtain ⟨hK3, hKp, hdr1, hdr0⟩ := a_draft hLR hG hM hwho hKe
  have hn1 := a_nle hLR hG hK3
  obtain ⟨mm, hRel, hGM⟩ := id hV
  have hiA : iAt sg who = who := iAt_q hwho
  refine lv_bipush (v := iI (8)) hx hb dL_law_1001 (by decide) ?_
  refine lv_aload_n hx hb dL_law_1003 rfl (lv_at hl 8 rfl) ?_
  refine lv_bipush (v := iI (24)) hx hb dL_law_1004 (by decide) ?_
  refine lv_iload hx hb dL_law_1006 (lv_at hl 27 rfl) ?_
  refine xr_iadd hx hb dL_law_1008 ?_
  refine xa_1001 (v := K) hx hb hK hR (by omega) (hKe.symm) dL_law_1009 ?_
  refine xr_imul hx hb dL_law_1010 ?_
  refine lv_istore (i := 31) (lv' := [(31, .int (iI (8 * K))), (23, .int (iI (1))), (18, .int (iI (sg 503 0))), (19, .int (iI (sg 506 0))), (20, .long (lI (sg 510 0))), (24, .int (iI (turn))), (0, .ref b), (1, .ref hh), (2, .ref (adM 20 0)), (3, .ref (adM 21 0)), (4, .ref (adM 22 0)), (5, .ref (adM 23 0)), (6, .ref (adM 24 0)), (7, .ref (adM 25 0)), (8, .ref (adM 26 0)), (9, .ref (adM 27 0)), (10, .ref (adM 28 0)), (11, .ref (adM 29 0)), (12, .ref (adM 30 0)), (13, .ref (adM 31 0)), (14, .ref (adM 32 0)), (15, .ref (adM 33 0)), (16, .ref (adM 34 0)), (17, .ref (adM 35 0)), (25, .int (vx)), (26, .int (iI (what))), (27, .int (iI (k))), (28, .int (iI (8 * k))), (29, .int (iI (who))), (30, .int (iI (w)))]) hx hb dL_law_1011 hl (by decide) rfl (fun ls hl => ?_)
  have J1061 : W p l e room_1 s m #[Value.ref b] below meth c H locs cells slots Q (F0 m 1061 ls [.int (iI (bI (mu 1000 (8 * K + 2) = 0 ∧ 0 ≤ mu 1000 (8 * K + 3) ∧ mu 1011 (mu 1000 (8 * K + 3)) = 0)))]) := by
    rcases bI_cases (mu 1000 (8 * K + 2) = 0 ∧ 0 ≤ mu 1000 (8 * K + 3) ∧ mu 1011 (mu 1000 (8 * K + 3)) = 0) with ⟨p1, q2⟩ | ⟨p1, q2⟩
    · rw [q2]
      obtain ⟨hd1, hd2, hd3, hd4⟩ := hdr1 p1
      refine lv_istore (i := 32) (lv' := [(32, .int (iI (1))), (31, .int (iI (8 * K))), (23, .int (iI (1))), (18, .int (iI (sg 503 0))), (19, .int (iI (sg 506 0))), (20, .long (lI (sg 510 0))), (24, .int (iI (turn))), (0, .ref b), (1, .ref hh), (2, .ref (adM 20 0)), (3, .ref (adM 21 0)), (4, .ref (adM 22 0)), (5, .ref (adM 23 0)), (6, .ref (adM 24 0)), (7, .ref (adM 25 0)), (8, .ref (adM 26 0)), (9, .ref (adM 27 0)), (10, .ref (adM 28 0)), (11, .ref (adM 29 0)), (12, .ref (adM 30 0)), (13, .ref (adM 31 0)), (14, .ref (adM 32 0)), (15, .ref (adM 33 0)), (16, .ref (adM 34 0)), (17, .ref (adM 35 0)), (25, .int (vx)), (26, .int (iI (what))), (27, .int (iI (k))), (28, .int (iI (8 * k))), (29, .int (iI (who))), (30, .int (iI (w)))]) hx hb dL_law_1061 hl (by decide) rfl (fun ls hl => ?_)
      refine lv_aload_n hx hb dL_law_1063 rfl (lv_at hl 9 rfl) ?_
      refine lv_iload hx hb dL_law_1064 (lv_at hl 1 rfl) ?_
      refine lv_iconst (v := iI (3)) hx hb dL_law_1066 rfl ?_
      refine xr_iadd hx hb dL_law_1067 ?_
      refine xa_1000 (v := mu 1000 ((8 * K) + 3)) hx hb hK hR (by omega) rfl dL_law_1068 ?_
      have g3 := ml_1000 hM0 ((8 * K) + 3)
      refine lv_istore (i := 33) (lv' := [(33, .int (iI (mu 1000 ((8 * K) + 3)))), (32, .int (iI (1))), (31, .int (iI (8 * K))), (23, .int (iI (1))), (18, .int (iI (sg 503 0))), (19, .int (iI (sg 506 0))), (20, .long (lI (sg 510 0))), (24, .int (iI (turn))), (0, .ref b), (1, .ref hh), (2, .ref (adM 20 0)), (3, .ref (adM 21 0)), (4, .ref (adM 22 0)), (5, .ref (adM 23 0)), (6, .ref (adM 24 0)), (7, .ref (adM 25 0)), (8, .ref (adM 26 0)), (9, .ref (adM 27 0)), (10, .ref (adM 28 0)), (11, .ref (adM 29 0)), (12, .ref (adM 30 0)), (13, .ref (adM 31 0)), (14, .ref (adM 32 0)), (15, .ref (adM 33 0)), (16, .ref (adM 34 0)), (17, .ref (adM 35 0)), (25, .int (vx)), (26, .int (iI (what))), (27, .int (iI (k))), (28, .int (iI (8 * k))), (29, .int (iI (who))), (30, .int (iI (w)))]) hx hb dL_law_1069 hl (by decide) rfl (fun ls hl => ?_)
      refine lv_iload hx hb dL_law_1071 (lv_at hl 27 rfl) ?_
      refine lv_bipush (v := iI (10)) hx hb dL_law_1073 (by decide) ?_
      refine xr_icmp_ge (tgt := 1156) hx hb dL_law_1075 (by decide) (by omega) (by omega) (fun yy4 => absurd yy4 (by omega)) (fun yy4 => ?_)
      refine lv_iload hx hb dL_law_1078 (lv_at hl 1 rfl) ?_
      refine xr_if_eq (tgt := 1095) hx hb dL_law_1080 (by decide) (by decide) (fun yy5 => absurd yy5 (by decide)) (fun _ => ?_)
      have J1096 : W p l e room_1 s m #[Value.ref b] below meth c H locs cells slots Q (F0 m 1096 ls [.int (iI (bI (mu 1004 who < 0)))]) := by
        rcases bI_cases (mu 1004 who < 0) with ⟨p6, q7⟩ | ⟨p6, q7⟩
        · rw [q7]
          have hE := (a_notice hLR hG hwho hd1).1 ⟨by omega, p6⟩
          refine lv_istore (i := 34) (lv' := [(34, .int (iI (1))), (33, .int (iI (mu 1000 ((8 * K) + 3)))), (32, .int (iI (1))), (31, .int (iI (8 * K))), (23, .int (iI (1))), (18, .int (iI (sg 503 0))), (19, .int (iI (sg 506 0))), (20, .long (lI (sg 510 0))), (24, .int (iI (turn))), (0, .ref b), (1, .ref hh), (2, .ref (adM 20 0)), (3, .ref (adM 21 0)), (4, .ref (adM 22 0)), (5, .ref (adM 23 0)), (6, .ref (adM 24 0)), (7, .ref (adM 25 0)), (8, .ref (adM 26 0)), (9, .ref (adM 27 0)), (10, .ref (adM 28 0)), (11, .ref (adM 29 0)), (12, .ref (adM 30 0)), (13, .ref (adM 31 0)), (14, .ref (adM 32 0)), (15, .ref (adM 33 0)), (16, .ref (adM 34 0)), (17, .ref (adM 35 0)), (25, .int (vx)), (26, .int (iI (what))), (27, .int (iI (k))), (28, .int (iI (8 * k))), (29, .int (iI (who))), (30, .int (iI (w)))]) hx hb dL_law_1096 hl (by decide) rfl (fun ls hl => ?_)
          refine lv_aload hx hb dL_law_1098 (lv_at hl 15 rfl) ?_
          refine lv_iload hx hb dL_law_1100 (lv_at hl 31 rfl) ?_
          refine lv_iload hx hb dL_law_1102 (lv_at hl 0 rfl) ?_
          refine xr_if_eq (tgt := 1112) hx hb dL_law_1104 (by decide) (by decide) (fun yy8 => absurd yy8 (by decide)) (fun _ => ?_)
          refine lv_iload hx hb dL_law_1107 (lv_at hl 6 rfl) ?_
          refine lv_goto (tgt := 1117) hx hb dL_law_1109 (by decide) ?_
          refine ys_1004 (v := sg 506 0) hx hb hK hC hR hA2 hA1 hN12 hS (by omega) dL_law_1117 (fun H locs hC hR hS => ?_)
          have hM := gl_1004 hM (who) (v := sg 506 0) (by omega)
          refine lv_aload_n hx hb dL_law_1118 rfl (lv_at hl 10 rfl) ?_
          refine lv_iconst (v := iI (4)) hx hb dL_law_1119 rfl ?_
          refine lv_iload hx hb dL_law_1120 (lv_at hl 31 rfl) ?_
          refine lv_iconst (v := iI (0)) hx hb dL_law_1122 rfl ?_
          refine lv_iconst (v := iI (0)) hx hb dL_law_1123 rfl ?_
          refine lv_iconst (v := iI (0)) hx hb dL_law_1124 rfl ?_
          refine lw_act (f := 8) (lo := 132) (mc := 1) (ms := 6) (E := noticeE sg who) (T := (st sg 107 (iAt sg who) (sg 506 0))) hx hb hml hown hts hK hXS hXN hS hA1 hN12 hG hR h4 (c_act_4 hC hG hl0 (lw_hA hA hR) who 0 0 0 (by omega)) ⟨by decide, by decide⟩ ⟨by omega, by omega⟩ hl.1 (Nat.le_of_ble_eq_true rfl) dL_law_1125 (fun ad H locs h4 hC hR hS => ?_)
          rw [if_pos hE] at hC
          rw [aR_0 hE]
          rw [hiA] at hC
          rw [hiA, hd1]
          refine lv_iload hx hb dL_law_1128 (lv_at hl 0 rfl) ?_
          refine xr_if_eq (tgt := 1138) hx hb dL_law_1130 (by decide) (by decide) (fun yy9 => absurd yy9 (by decide)) (fun _ => ?_)
          refine lv_iload hx hb dL_law_1133 (lv_at hl 1 rfl) ?_
          refine lv_goto (tgt := 1141) hx hb dL_law_1135 (by decide) ?_
          refine xr_i2l hx hb dL_law_1141 (by omega) ?_
          refine lw_leq hx hb dL_law_1142 (by first | rfl | omega | (rfl)) ?_
          refine xr_if_ne (tgt := 1150) hx hb dL_law_1143 (by decide) (by decide) (fun yy10 => absurd yy10 (by decide)) (fun _ => ?_)
          refine lv_iconst (v := iI (1)) hx hb dL_law_1146 rfl ?_
          refine lv_goto (tgt := 1151) hx hb dL_law_1147 (by decide) ?_
          refine lv_istore (i := 23) (lv' := [(23, .int (iI (1))), (34, .int (iI (1))), (33, .int (iI (mu 1000 ((8 * K) + 3)))), (32, .int (iI (1))), (31, .int (iI (8 * K))), (18, .int (iI (sg 503 0))), (19, .int (iI (sg 506 0))), (20, .long (lI (sg 510 0))), (24, .int (iI (turn))), (0, .ref b), (1, .ref hh), (2, .ref (adM 20 0)), (3, .ref (adM 21 0)), (4, .ref (adM 22 0)), (5, .ref (adM 23 0)), (6, .ref (adM 24 0)), (7, .ref (adM 25 0)), (8, .ref (adM 26 0)), (9, .ref (adM 27 0)), (10, .ref (adM 28 0)), (11, .ref (adM 29 0)), (12, .ref (adM 30 0)), (13, .ref (adM 31 0)), (14, .ref (adM 32 0)), (15, .ref (adM 33 0)), (16, .ref (adM 34 0)), (17, .ref (adM 35 0)), (25, .int (vx)), (26, .int (iI (what))), (27, .int (iI (k))), (28, .int (iI (8 * k))), (29, .int (iI (who))), (30, .int (iI (w)))]) hx hb dL_law_1151 hl (by decide) rfl (fun ls hl => ?_)
          refine lv_goto (tgt := 1417) hx hb dL_law_1153 (by decide) ?_
          refine lv_goto (tgt := 3115) hx hb dL_law_1417 (by decide) ?_
          have hz := inv_of (s_notice hRel hG hGM who) hE
          rw [hiA] at hz
          refine W.widen (k := cells + 3) (n := slots + 45) (by omega) (by omega) ?_
          exact kk ad (st sg 107 who (sg 506 0)) (st mu 1004 (who) (sg 506 0)) H locs ls _ _ _ ⟨hC, hR, h4, (o_notice hLR hG hwho), hz.1, hz.2, hM, hS⟩ (by show sg 702 0 ≤ sg 702 0 + 1; omega) rfl rfl rfl (lv_sub hl [0, 5, 6, 7, 8, 9, 10, 11, 12, 13, 14, 15, 16, 17, 18, 19, 20, 21, 22, 23, 24, 25, 26] rfl)
        · rw [q7]
          have hE := (a_notice hLR hG hwho hd1).2 (by omega)
          refine lv_istore (i := 34) (lv' := [(34, .int (iI (0))), (33, .int (iI (mu 1000 ((8 * K) + 3)))), (32, .int (iI (1))), (31, .int (iI (8 * K))), (23, .int (iI (1))), (18, .int (iI (sg 503 0))), (19, .int (iI (sg 506 0))), (20, .long (lI (sg 510 0))), (24, .int (iI (turn))), (0, .ref b), (1, .ref hh), (2, .ref (adM 20 0)), (3, .ref (adM 21 0)), (4, .ref (adM 22 0)), (5, .ref (adM 23 0)), (6, .ref (adM 24 0)), (7, .ref (adM 25 0)), (8, .ref (adM 26 0)), (9, .ref (adM 27 0)), (10, .ref (adM 28 0)), (11, .ref (adM 29 0)), (12, .ref (adM 30 0)), (13, .ref (adM 31 0)), (14, .ref (adM 32 0)), (15, .ref (adM 33 0)), (16, .ref (adM 34 0)), (17, .ref (adM 35 0)), (25, .int (vx)), (26, .int (iI (what))), (27, .int (iI (k))), (28, .int (iI (8 * k))), (29, .int (iI (who))), (30, .int (iI (w)))]) hx hb dL_law_1096 hl (by decide) rfl (fun ls hl => ?_)
          refine lv_aload hx hb dL_law_1098 (lv_at hl 15 rfl) ?_
          refine lv_iload hx hb dL_law_1100 (lv_at hl 31 rfl) ?_
          refine lv_iload hx hb dL_law_1102 (lv_at hl 0 rfl) ?_
          refine xr_if_eq (tgt := 1112) hx hb dL_law_1104 (by decide) (by decide) (fun _ => ?_) (fun yy11 => absurd yy11 (by decide))
          refine lv_aload hx hb dL_law_1112 (lv_at hl 15 rfl) ?_
          refine lv_iload hx hb dL_law_1114 (lv_at hl 31 rfl) ?_
          refine xa_1004 (v := mu 1004 who) hx hb hK hR (by omega) rfl dL_law_1116 ?_
          have g12 := ml_1004 hM0 (who)
          refine ys_1004 (v := mu 1004 who) hx hb hK hC hR hA2 hA1 hN12 hS (by omega) dL_law_1117 (fun H locs hC hR hS => ?_)
          have hM := gl_1004 hM (who) (v := mu 1004 who) (by omega)
          refine lv_aload_n hx hb dL_law_1118 rfl (lv_at hl 10 rfl) ?_
          refine lv_iconst (v := iI (4)) hx hb dL_law_1119 rfl ?_
          refine lv_iload hx hb dL_law_1120 (lv_at hl 31 rfl) ?_
          refine lv_iconst (v := iI (0)) hx hb dL_law_1122 rfl ?_
          refine lv_iconst (v := iI (0)) hx hb dL_law_1123 rfl ?_
          refine lv_iconst (v := iI (0)) hx hb dL_law_1124 rfl ?_
          refine lw_act (f := 8) (lo := 132) (mc := 1) (ms := 6) (E := noticeE sg who) (T := (st sg 107 (iAt sg who) (sg 506 0))) hx hb hml hown hts hK hXS hXN hS hA1 hN12 hG hR h4 (c_act_4 hC hG hl0 (lw_hA hA hR) who 0 0 0 (by omega)) ⟨by decide, by decide⟩ ⟨by omega, by omega⟩ hl.1 (Nat.le_of_ble_eq_true rfl) dL_law_1125 (fun ad H locs h4 hC hR hS => ?_)
          rw [if_neg (by rw [hE]; decide)] at hC
          rw [aR_n (by rw [hE]; decide), hE]
          refine lv_iload hx hb dL_law_1128 (lv_at hl 0 rfl) ?_
          refine xr_if_eq (tgt := 1138) hx hb dL_law_1130 (by decide) (by decide) (fun _ => ?_) (fun yy13 => absurd yy13 (by decide))
          refine lv_sipush (v := iI (-1003)) hx hb dL_law_1138 (by decide) ?_
          refine xr_i2l hx hb dL_law_1141 (by omega) ?_
          refine lw_leq hx hb dL_law_1142 (by first | rfl | omega | (rfl)) ?_
          refine xr_if_ne (tgt := 1150) hx hb dL_law_1143 (by decide) (by decide) (fun yy14 => absurd yy14 (by decide)) (fun _ => ?_)
          refine lv_iconst (v := iI (1)) hx hb dL_law_1146 rfl ?_
          refine lv_goto (tgt := 1151) hx hb dL_law_1147 (by decide) ?_
          refine lv_istore (i := 23) (lv' := [(23, .int (iI (1))), (34, .int (iI (0))), (33, .int (iI (mu 1000 ((8 * K) + 3)))), (32, .int (iI (1))), (31, .int (iI (8 * K))), (18, .int (iI (sg 503 0))), (19, .int (iI (sg 506 0))), (20, .long (lI (sg 510 0))), (24, .int (iI (turn))), (0, .ref b), (1, .ref hh), (2, .ref (adM 20 0)), (3, .ref (adM 21 0)), (4, .ref (adM 22 0)), (5, .ref (adM 23 0)), (6, .ref (adM 24 0)), (7, .ref (adM 25 0)), (8, .ref (adM 26 0)), (9, .ref (adM 27 0)), (10, .ref (adM 28 0)), (11, .ref (adM 29 0)), (12, .ref (adM 30 0)), (13, .ref (adM 31 0)), (14, .ref (adM 32 0)), (15, .ref (adM 33 0)), (16, .ref (adM 34 0)), (17, .ref (adM 35 0)), (25, .int (vx)), (26, .int (iI (what))), (27, .int (iI (k))), (28, .int (iI (8 * k))), (29, .int (iI (who))), (30, .int (iI (w)))]) hx hb dL_law_1151 hl (by decide) rfl (fun ls hl => ?_)
          refine lv_goto (tgt := 1417) hx hb dL_law_1153 (by decide) ?_
          refine lv_goto (tgt := 3115) hx hb dL_law_1417 (by decide) ?_
          refine W.widen (k := cells + 3) (n := slots + 45) (by omega) (by omega) ?_
          exact kk ad sg (st mu 1004 (who) (mu 1004 who)) H locs ls _ _ _ ⟨hC, hR, h4, (by rw [st_id rfl]; exact hLR), hV, hG, hM, hS⟩ (by omega) rfl rfl rfl (lv_sub hl [0, 5, 6, 7, 8, 9, 10, 11, 12, 13, 14, 15, 16, 17, 18, 19, 20, 21, 22, 23, 24, 25, 26] rfl)
      refine lv_aload hx hb dL_law_1083 (lv_at hl 14 rfl) ?_
      refine lv_iload hx hb dL_law_1085 (lv_at hl 30 rfl) ?_
      refine xa_1004 (v := mu 1004 who) hx hb hK hR (by omega) rfl dL_law_1087 ?_
      have g15 := ml_1004 hM0 (who)
      refine xr_if_ge (tgt := 1095) hx hb dL_law_1088 (by decide) (by omega) (fun yy16 => ?_) (fun yy16 => ?_)
      · skip
        refine lv_iconst (v := iI (0)) hx hb dL_law_1095 rfl ?_
        exact w_topI (by first | exact (bI_t (by first | omega | grind)).symm | exact (bI_f (by first | omega | grind)).symm) J1096
      · skip
        refine lv_iconst (v := iI (1)) hx hb dL_law_1091 rfl ?_
        refine lv_goto (tgt := 1096) hx hb dL_law_1092 (by decide) ?_
        exact w_topI (by first | exact (bI_t (by first | omega | grind)).symm | exact (bI_f (by first | omega | grind)).symm) J1096
    · rw [q2]
      have hd1 := hdr0 p1
      have hE := (a_notice hLR hG hwho hd1).2 (by omega)
      refine lv_istore (i := 32) (lv' := [(32, .int (iI (0))), (31, .int (iI (8 * K))), (23, .int (iI (1))), (18, .int (iI (sg 503 0))), (19, .int (iI (sg 506 0))), (20, .long (lI (sg 510 0))), (24, .int (iI (turn))), (0, .ref b), (1, .ref hh), (2, .ref (adM 20 0)), (3, .ref (adM 21 0)), (4, .ref (adM 22 0)), (5, .ref (adM 23 0)), (6, .ref (adM 24 0)), (7, .ref (adM 25 0)), (8, .ref (adM 26 0)), (9, .ref (adM 27 0)), (10, .ref (adM 28 0)), (11, .ref (adM 29 0)), (12, .ref (adM 30 0)), (13, .ref (adM 31 0)), (14, .ref (adM 32 0)), (15, .ref (adM 33 0)), (16, .ref (adM 34 0)), (17, .ref (adM 35 0)), (25, .int (vx)), (26, .int (iI (what))), (27, .int (iI (k))), (28, .int (iI (8 * k))), (29, .int (iI (who))), (30, .int (iI (w)))]) hx hb dL_law_1061 hl (by decide) rfl (fun ls hl => ?_)
      refine lv_aload_n hx hb dL_law_1063 rfl (lv_at hl 9 rfl) ?_
      refine lv_iload hx hb dL_law_1064 (lv_at hl 1 rfl) ?_
      refine lv_iconst (v := iI (3)) hx hb dL_law_1066 rfl ?_
      refine xr_iadd hx hb dL_law_1067 ?_
      refine xa_1000 (v := mu 1000 ((8 * K) + 3)) hx hb hK hR (by omega) rfl dL_law_1068 ?_
      have g17 := ml_1000 hM0 ((8 * K) + 3)
      refine lv_istore (i := 33) (lv' := [(33, .int (iI (mu 1000 ((8 * K) + 3)))), (32, .int (iI (0))), (31, .int (iI (8 * K))), (23, .int (iI (1))), (18, .int (iI (sg 503 0))), (19, .int (iI (sg 506 0))), (20, .long (lI (sg 510 0))), (24, .int (iI (turn))), (0, .ref b), (1, .ref hh), (2, .ref (adM 20 0)), (3, .ref (adM 21 0)), (4, .ref (adM 22 0)), (5, .ref (adM 23 0)), (6, .ref (adM 24 0)), (7, .ref (adM 25 0)), (8, .ref (adM 26 0)), (9, .ref (adM 27 0)), (10, .ref (adM 28 0)), (11, .ref (adM 29 0)), (12, .ref (adM 30 0)), (13, .ref (adM 31 0)), (14, .ref (adM 32 0)), (15, .ref (adM 33 0)), (16, .ref (adM 34 0)), (17, .ref (adM 35 0)), (25, .int (vx)), (26, .int (iI (what))), (27, .int (iI (k))), (28, .int (iI (8 * k))), (29, .int (iI (who))), (30, .int (iI (w)))]) hx hb dL_law_1069 hl (by decide) rfl (fun ls hl => ?_)
      refine lv_iload hx hb dL_law_1071 (lv_at hl 27 rfl) ?_
      refine lv_bipush (v := iI (10)) hx hb dL_law_1073 (by decide) ?_
      refine xr_icmp_ge (tgt := 1156) hx hb dL_law_1075 (by decide) (by omega) (by omega) (fun yy18 => absurd yy18 (by omega)) (fun yy18 => ?_)
      refine lv_iload hx hb dL_law_1078 (lv_at hl 1 rfl) ?_
      refine xr_if_eq (tgt := 1095) hx hb dL_law_1080 (by decide) (by decide) (fun _ => ?_) (fun yy19 => absurd yy19 (by decide))
      refine lv_iconst (v := iI (0)) hx hb dL_law_1095 rfl ?_
      refine lv_istore (i := 34) (lv' := [(34, .int (iI (0))), (33, .int (iI (mu 1000 ((8 * K) + 3)))), (32, .int (iI (0))), (31, .int (iI (8 * K))), (23, .int (iI (1))), (18, .int (iI (sg 503 0))), (19, .int (iI (sg 506 0))), (20, .long (lI (sg 510 0))), (24, .int (iI (turn))), (0, .ref b), (1, .ref hh), (2, .ref (adM 20 0)), (3, .ref (adM 21 0)), (4, .ref (adM 22 0)), (5, .ref (adM 23 0)), (6, .ref (adM 24 0)), (7, .ref (adM 25 0)), (8, .ref (adM 26 0)), (9, .ref (adM 27 0)), (10, .ref (adM 28 0)), (11, .ref (adM 29 0)), (12, .ref (adM 30 0)), (13, .ref (adM 31 0)), (14, .ref (adM 32 0)), (15, .ref (adM 33 0)), (16, .ref (adM 34 0)), (17, .ref (adM 35 0)), (25, .int (vx)), (26, .int (iI (what))), (27, .int (iI (k))), (28, .int (iI (8 * k))), (29, .int (iI (who))), (30, .int (iI (w)))]) hx hb dL_law_1096 hl (by decide) rfl (fun ls hl => ?_)
      refine lv_aload hx hb dL_law_1098 (lv_at hl 15 rfl) ?_
      refine lv_iload hx hb dL_law_1100 (lv_at hl 31 rfl) ?_
      refine lv_iload hx hb dL_law_1102 (lv_at hl 0 rfl) ?_
      refine xr_if_eq (tgt := 1112) hx hb dL_law_1104 (by decide) (by decide) (fun _ => ?_) (fun yy20 => absurd yy20 (by decide))
      refine lv_aload hx hb dL_law_1112 (lv_at hl 15 rfl) ?_
      refine lv_iload hx hb dL_law_1114 (lv_at hl 31 rfl) ?_
      refine xa_1004 (v := mu 1004 who) hx hb hK hR (by omega) rfl dL_law_1116 ?_
      have g21 := ml_1004 hM0 (who)
      refine ys_1004 (v := mu 1004 who) hx hb hK hC hR hA2 hA1 hN12 hS (by omega) dL_law_1117 (fun H locs hC hR hS => ?_)
      have hM := gl_1004 hM (who) (v := mu 1004 who) (by omega)
      refine lv_aload_n hx hb dL_law_1118 rfl (lv_at hl 10 rfl) ?_
      refine lv_iconst (v := iI (4)) hx hb dL_law_1119 rfl ?_
      refine lv_iload hx hb dL_law_1120 (lv_at hl 31 rfl) ?_
      refine lv_iconst (v := iI (0)) hx hb dL_law_1122 rfl ?_
      refine lv_iconst (v := iI (0)) hx hb dL_law_1123 rfl ?_
      refine lv_iconst (v := iI (0)) hx hb dL_law_1124 rfl ?_
      refine lw_act (f := 8) (lo := 132) (mc := 1) (ms := 6) (E := noticeE sg who) (T := (st sg 107 (iAt sg who) (sg 506 0))) hx hb hml hown hts hK hXS hXN hS hA1 hN12 hG hR h4 (c_act_4 hC hG hl0 (lw_hA hA hR) who 0 0 0 (by omega)) ⟨by decide, by decide⟩ ⟨by omega, by omega⟩ hl.1 (Nat.le_of_ble_eq_true rfl) dL_law_1125 (fun ad H locs h4 hC hR hS => ?_)
      rw [if_neg (by rw [hE]; decide)] at hC
      rw [aR_n (by rw [hE]; decide), hE]
      refine lv_iload hx hb dL_law_1128 (lv_at hl 0 rfl) ?_
      refine xr_if_eq (tgt := 1138) hx hb dL_law_1130 (by decide) (by decide) (fun _ => ?_) (fun yy22 => absurd yy22 (by decide))
      refine lv_sipush (v := iI (-1003)) hx hb dL_law_1138 (by decide) ?_
      refine xr_i2l hx hb dL_law_1141 (by omega) ?_
      refine lw_leq hx hb dL_law_1142 (by first | rfl | omega | (rfl)) ?_
      refine xr_if_ne (tgt := 1150) hx hb dL_law_1143 (by decide) (by decide) (fun yy23 => absurd yy23 (by decide)) (fun _ => ?_)
      refine lv_iconst (v := iI (1)) hx hb dL_law_1146 rfl ?_
      refine lv_goto (tgt := 1151) hx hb dL_law_1147 (by decide) ?_
      refine lv_istore (i := 23) (lv' := [(23, .int (iI (1))), (34, .int (iI (0))), (33, .int (iI (mu 1000 ((8 * K) + 3)))), (32, .int (iI (0))), (31, .int (iI (8 * K))), (18, .int (iI (sg 503 0))), (19, .int (iI (sg 506 0))), (20, .long (lI (sg 510 0))), (24, .int (iI (turn))), (0, .ref b), (1, .ref hh), (2, .ref (adM 20 0)), (3, .ref (adM 21 0)), (4, .ref (adM 22 0)), (5, .ref (adM 23 0)), (6, .ref (adM 24 0)), (7, .ref (adM 25 0)), (8, .ref (adM 26 0)), (9, .ref (adM 27 0)), (10, .ref (adM 28 0)), (11, .ref (adM 29 0)), (12, .ref (adM 30 0)), (13, .ref (adM 31 0)), (14, .ref (adM 32 0)), (15, .ref (adM 33 0)), (16, .ref (adM 34 0)), (17, .ref (adM 35 0)), (25, .int (vx)), (26, .int (iI (what))), (27, .int (iI (k))), (28, .int (iI (8 * k))), (29, .int (iI (who))), (30, .int (iI (w)))]) hx hb dL_law_1151 hl (by decide) rfl (fun ls hl => ?_)
      refine lv_goto (tgt := 1417) hx hb dL_law_1153 (by decide) ?_
      refine lv_goto (tgt := 3115) hx hb dL_law_1417 (by decide) ?_
      refine W.widen (k := cells + 3) (n := slots + 45) (by omega) (by omega) ?_
      exact kk ad sg (st mu 1004 (who) (mu 1004 who)) H locs ls _ _ _ ⟨hC, hR, h4, (by rw [st_id rfl]; exact hLR), hV, hG, hM, hS⟩ (by omega) rfl rfl rfl (lv_sub hl [0, 5, 6, 7, 8, 9, 10, 11, 12, 13, 14, 15, 16, 17, 18, 19, 20, 21, 22, 23, 24, 25, 26] rfl)
  refine lv_aload_n hx hb dL_law_1013 rfl (lv_at hl 8 rfl) ?_
  refine lv_iload hx hb dL_law_1014 (lv_at hl 0 rfl) ?_
  refine lv_iconst (v := iI (2)) hx hb dL_law_1016 rfl ?_
  refine xr_iadd hx hb dL_law_1017 ?_
  refine xa_1000 (v := mu 1000 ((8 * K) + 2)) hx hb hK hR (by omega) rfl dL_law_1018 ?_
  have g24 := ml_1000 hM0 ((8 * K) + 2)
  refine xr_if_ne (tgt := 1060) hx hb dL_law_1019 (by decide) (by omega) (fun yy25 => ?_) (fun yy25 => ?_)
  · skip
    refine lv_iconst (v := iI (0)) hx hb dL_law_1060 rfl ?_
    exact w_topI (by first | exact (bI_t (by first | omega | grind)).symm | exact (bI_f (by first | omega | grind)).symm) J1061
  · skip
    refine lv_aload_n hx hb dL_law_1022 rfl (lv_at hl 8 rfl) ?_
    refine lv_iload hx hb dL_law_1023 (lv_at hl 0 rfl) ?_
    refine lv_iconst (v := iI (3)) hx hb dL_law_1025 rfl ?_
    refine xr_iadd hx hb dL_law_1026 ?_
    refine xa_1000 (v := mu 1000 ((8 * K) + 3)) hx hb hK hR (by omega) rfl dL_law_1027 ?_
    have g26 := ml_1000 hM0 ((8 * K) + 3)
    refine xr_if_lt (tgt := 1060) hx hb dL_law_1028 (by decide) (by omega) (fun yy27 => ?_) (fun yy27 => ?_)
    · skip
      refine lv_iconst (v := iI (0)) hx hb dL_law_1060 rfl ?_
      exact w_topI (by first | exact (bI_t (by first | omega | grind)).symm | exact (bI_f (by first | omega | grind)).symm) J1061
    · skip
      refine lv_aload hx hb dL_law_1031 (lv_at hl 19 rfl) ?_
      refine lv_aload_n hx hb dL_law_1033 rfl (lv_at hl 8 rfl) ?_
      refine lv_iload hx hb dL_law_1034 (lv_at hl 0 rfl) ?_
      refine lv_iconst (v := iI (3)) hx hb dL_law_1036 rfl ?_
      refine xr_iadd hx hb dL_law_1037 ?_
      refine xa_1000 (v := mu 1000 ((8 * K) + 3)) hx hb hK hR (by omega) rfl dL_law_1038 ?_
      refine xr_if_ge (tgt := 1046) hx hb dL_law_1039 (by decide) (by omega) (fun yy28 => ?_) (fun yy28 => absurd yy28 (by omega))
      refine lv_aload_n hx hb dL_law_1046 rfl (lv_at hl 8 rfl) ?_
      refine lv_iload hx hb dL_law_1047 (lv_at hl 0 rfl) ?_
      refine lv_iconst (v := iI (3)) hx hb dL_law_1049 rfl ?_
      refine xr_iadd hx hb dL_law_1050 ?_
      refine xa_1000 (v := mu 1000 ((8 * K) + 3)) hx hb hK hR (by omega) rfl dL_law_1051 ?_
      refine xa_1011 (v := mu 1011 (mu 1000 ((8 * K) + 3))) hx hb hK hR (by omega) rfl dL_law_1052 ?_
      have g29 := ml_1011 hM0 (mu 1000 ((8 * K) + 3))
      refine xr_if_ne (tgt := 1060) hx hb dL_law_1053 (by decide) (by omega) (fun yy30 => ?_) (fun yy30 => ?_)
      · skip
        refine lv_iconst (v := iI (0)) hx hb dL_law_1060 rfl ?_
        exact w_topI (by first | exact (bI_t (by first | omega | grind)).symm | exact (bI_f (by first | omega | grind)).symm) J1061
      · skip
        refine lv_iconst (v := iI (1)) hx hb dL_law_1056 rfl ?_
        refine lv_goto (tgt := 1061) hx hb dL_law_1057 (by decide) ?_
        exact w_topI (by first | exact (bI_t (by first | omega | grind)).symm | exact (bI_f (by first | omega | grind)).symm) J1061
set_option maxRecDepth 100000 in
set_option maxHeartbeats 8000000 in
theorem law_object {p : Program} {l : Launch} {e : Env} {s : State} {m : MethodId} {below : List Frame} {meth : Method} {c : Code} {D : va_G} {cy : Nat → ClassId} {A A2 : Nat → Prop} {b L hh : Nat} {xs : Nat → Int32} {ad adM : Nat → Int → Nat} {sg mu : Nat → Int → Int} {H : Heap} {locs : List Loc} {cells slots : Nat} {Q : State → Prop} {ls : Array Slot} {turn : Int} {vx : Int32} {what k who w : Int} (E : LE p l s m meth c b L xs D cy A A2 adM) (I : LI D cy A A2 s hh ad adM sg mu H locs) (h7 : sg 702 0 ≤ 1000000) (hcl : cells + 1000 ≤ 600104) (hsl : slots + 20000 ≤ 7301314) (hwhat : 10 ≤ what ∧ what < 12) (hk : 0 ≤ k ∧ k ≤ 3) (hw : 0 ≤ w ∧ w ≤ 1) (hwho : 0 ≤ who ∧ who < sg 503 0) (hl : lv_has ls 37 [(23, .int (iI (1))), (18, .int (iI (sg 503 0))), (19, .int (iI (sg 506 0))), (20, .long (lI (sg 510 0))), (24, .int (iI (turn))), (0, .ref b), (1, .ref hh), (2, .ref (adM 20 0)), (3, .ref (adM 21 0)), (4, .ref (adM 22 0)), (5, .ref (adM 23 0)), (6, .ref (adM 24 0)), (7, .ref (adM 25 0)), (8, .ref (adM 26 0)), (9, .ref (adM 27 0)), (10, .ref (adM 28 0)), (11, .ref (adM 29 0)), (12, .ref (adM 30 0)), (13, .ref (adM 31 0)), (14, .ref (adM 32 0)), (15, .ref (adM 33 0)), (16, .ref (adM 34 0)), (17, .ref (adM 35 0)), (25, .int (vx)), (26, .int (iI (what))), (27, .int (iI (k))), (28, .int (iI (8 * k))), (29, .int (iI (who))), (30, .int (iI (w)))]) (kk : LK p l e s m below meth c b D cy A A2 hh adM cells slots Q sg turn) : W p l e room_1 s m #[Value.ref b] below meth c H locs cells slots Q (F0 m 1001 ls []) := by
  obtain ⟨⟨hx, hb, hr, hml, hown, hts0, hX, hbl, hlocks, -⟩, hl0, hK, hXS, hXN, hA, hA1, hA2, hN12, hL⟩ := E
  obtain ⟨hC, hR, h4, hLR, hV, hG, hM, hS⟩ := I
  have hM0 := hM
  have hts : ∀ w ∈ wG, w.before #[Value.ref b] s = true := fun w hw => hts0 w (List.mem_filter.mp hw).1
  have hown : s.vm.findClass "TakinghallLaw" = some m.cls := hown
  have g503 := gr_503 hG 0
  have g506 := gr_506 hG 0
  obtain ⟨K, hKe⟩ : ∃ K, K = mu 1001 (24 + who) := ⟨_, rfl⟩
  obtain ⟨hK3, hKp, hdr1, hdr0⟩ := a_draft hLR hG hM hwho hKe
  have hn1 := a_nle hLR hG hK3
  obtain ⟨mm, hRel, hGM⟩ := id hV
  have hiA : iAt sg who = who := iAt_q hwho
  refine lv_bipush (v := iI (8)) hx hb dL_law_1001 (by decide) ?_
  refine lv_aload_n hx hb dL_law_1003 rfl (lv_at hl 8 rfl) ?_
  refine lv_bipush (v := iI (24)) hx hb dL_law_1004 (by decide) ?_
  refine lv_iload hx hb dL_law_1006 (lv_at hl 27 rfl) ?_
  refine xr_iadd hx hb dL_law_1008 ?_
  refine xa_1001 (v := K) hx hb hK hR (by omega) (hKe.symm) dL_law_1009 ?_
  refine xr_imul hx hb dL_law_1010 ?_
  refine lv_istore (i := 31) (lv' := [(31, .int (iI (8 * K))), (23, .int (iI (1))), (18, .int (iI (sg 503 0))), (19, .int (iI (sg 506 0))), (20, .long (lI (sg 510 0))), (24, .int (iI (turn))), (0, .ref b), (1, .ref hh), (2, .ref (adM 20 0)), (3, .ref (adM 21 0)), (4, .ref (adM 22 0)), (5, .ref (adM 23 0)), (6, .ref (adM 24 0)), (7, .ref (adM 25 0)), (8, .ref (adM 26 0)), (9, .ref (adM 27 0)), (10, .ref (adM 28 0)), (11, .ref (adM 29 0)), (12, .ref (adM 30 0)), (13, .ref (adM 31 0)), (14, .ref (adM 32 0)), (15, .ref (adM 33 0)), (16, .ref (adM 34 0)), (17, .ref (adM 35 0)), (25, .int (vx)), (26, .int (iI (what))), (27, .int (iI (k))), (28, .int (iI (8 * k))), (29, .int (iI (who))), (30, .int (iI (w)))]) hx hb dL_law_1011 hl (by decide) rfl (fun ls hl => ?_)
  have J1061 : W p l e room_1 s m #[Value.ref b] below meth c H locs cells slots Q (F0 m 1061 ls [.int (iI (bI (mu 1000 (8 * K + 2) = 0 ∧ 0 ≤ mu 1000 (8 * K + 3) ∧ mu 1011 (mu 1000 (8 * K + 3)) = 0)))]) := by
    rcases bI_cases (mu 1000 (8 * K + 2) = 0 ∧ 0 ≤ mu 1000 (8 * K + 3) ∧ mu 1011 (mu 1000 (8 * K + 3)) = 0) with ⟨p1, q2⟩ | ⟨p1, q2⟩
    · rw [q2]
      obtain ⟨hd1, hd2, hd3, hd4⟩ := hdr1 p1
      refine lv_istore (i := 32) (lv' := [(32, .int (iI (1))), (31, .int (iI (8 * K))), (23, .int (iI (1))), (18, .int (iI (sg 503 0))), (19, .int (iI (sg 506 0))), (20, .long (lI (sg 510 0))), (24, .int (iI (turn))), (0, .ref b), (1, .ref hh), (2, .ref (adM 20 0)), (3, .ref (adM 21 0)), (4, .ref (adM 22 0)), (5, .ref (adM 23 0)), (6, .ref (adM 24 0)), (7, .ref (adM 25 0)), (8, .ref (adM 26 0)), (9, .ref (adM 27 0)), (10, .ref (adM 28 0)), (11, .ref (adM 29 0)), (12, .ref (adM 30 0)), (13, .ref (adM 31 0)), (14, .ref (adM 32 0)), (15, .ref (adM 33 0)), (16, .ref (adM 34 0)), (17, .ref (adM 35 0)), (25, .int (vx)), (26, .int (iI (what))), (27, .int (iI (k))), (28, .int (iI (8 * k))), (29, .int (iI (who))), (30, .int (iI (w)))]) hx hb dL_law_1061 hl (by decide) rfl (fun ls hl => ?_)
      refine lv_aload_n hx hb dL_law_1063 rfl (lv_at hl 9 rfl) ?_
      refine lv_iload hx hb dL_law_1064 (lv_at hl 1 rfl) ?_
      refine lv_iconst (v := iI (3)) hx hb dL_law_1066 rfl ?_
      refine xr_iadd hx hb dL_law_1067 ?_
      refine xa_1000 (v := mu 1000 ((8 * K) + 3)) hx hb hK hR (by omega) rfl dL_law_1068 ?_
      have g3 := ml_1000 hM0 ((8 * K) + 3)
      refine lv_istore (i := 33) (lv' := [(33, .int (iI (mu 1000 ((8 * K) + 3)))), (32, .int (iI (1))), (31, .int (iI (8 * K))), (23, .int (iI (1))), (18, .int (iI (sg 503 0))), (19, .int (iI (sg 506 0))), (20, .long (lI (sg 510 0))), (24, .int (iI (turn))), (0, .ref b), (1, .ref hh), (2, .ref (adM 20 0)), (3, .ref (adM 21 0)), (4, .ref (adM 22 0)), (5, .ref (adM 23 0)), (6, .ref (adM 24 0)), (7, .ref (adM 25 0)), (8, .ref (adM 26 0)), (9, .ref (adM 27 0)), (10, .ref (adM 28 0)), (11, .ref (adM 29 0)), (12, .ref (adM 30 0)), (13, .ref (adM 31 0)), (14, .ref (adM 32 0)), (15, .ref (adM 33 0)), (16, .ref (adM 34 0)), (17, .ref (adM 35 0)), (25, .int (vx)), (26, .int (iI (what))), (27, .int (iI (k))), (28, .int (iI (8 * k))), (29, .int (iI (who))), (30, .int (iI (w)))]) hx hb dL_law_1069 hl (by decide) rfl (fun ls hl => ?_)
      refine lv_iload hx hb dL_law_1071 (lv_at hl 27 rfl) ?_
      refine lv_bipush (v := iI (10)) hx hb dL_law_1073 (by decide) ?_
      refine xr_icmp_ge (tgt := 1156) hx hb dL_law_1075 (by decide) (by omega) (by omega) (fun yy4 => ?_) (fun yy4 => absurd yy4 (by omega))
      refine lv_iload hx hb dL_law_1156 (lv_at hl 27 rfl) ?_
      refine lv_bipush (v := iI (12)) hx hb dL_law_1158 (by decide) ?_
      refine xr_icmp_ge (tgt := 1270) hx hb dL_law_1160 (by decide) (by omega) (by omega) (fun yy5 => absurd yy5 (by omega)) (fun yy5 => ?_)
      refine lv_iload hx hb dL_law_1163 (lv_at hl 1 rfl) ?_
      refine xr_if_eq (tgt := 1201) hx hb dL_law_1165 (by decide) (by decide) (fun yy6 => absurd yy6 (by decide)) (fun _ => ?_)
      have J1202 : W p l e room_1 s m #[Value.ref b] below meth c H locs cells slots Q (F0 m 1202 ls [.int (iI (bI (0 ≤ mu 1004 who ∧ sg 506 0 - mu 1004 who ≤ 21 ∧ mu 1005 who = 0)))]) := by
        rcases bI_cases (0 ≤ mu 1004 who ∧ sg 506 0 - mu 1004 who ≤ 21 ∧ mu 1005 who = 0) with ⟨p7, q8⟩ | ⟨p7, q8⟩
        · rw [q8]
          have hE := (a_object hLR hG hV hwho hd1).1 ⟨by omega, p7⟩
          refine lv_istore (i := 34) (lv' := [(34, .int (iI (1))), (33, .int (iI (mu 1000 ((8 * K) + 3)))), (32, .int (iI (1))), (31, .int (iI (8 * K))), (23, .int (iI (1))), (18, .int (iI (sg 503 0))), (19, .int (iI (sg 506 0))), (20, .long (lI (sg 510 0))), (24, .int (iI (turn))), (0, .ref b), (1, .ref hh), (2, .ref (adM 20 0)), (3, .ref (adM 21 0)), (4, .ref (adM 22 0)), (5, .ref (adM 23 0)), (6, .ref (adM 24 0)), (7, .ref (adM 25 0)), (8, .ref (adM 26 0)), (9, .ref (adM 27 0)), (10, .ref (adM 28 0)), (11, .ref (adM 29 0)), (12, .ref (adM 30 0)), (13, .ref (adM 31 0)), (14, .ref (adM 32 0)), (15, .ref (adM 33 0)), (16, .ref (adM 34 0)), (17, .ref (adM 35 0)), (25, .int (vx)), (26, .int (iI (what))), (27, .int (iI (k))), (28, .int (iI (8 * k))), (29, .int (iI (who))), (30, .int (iI (w)))]) hx hb dL_law_1202 hl (by decide) rfl (fun ls hl => ?_)
          refine lv_aload hx hb dL_law_1204 (lv_at hl 16 rfl) ?_
          refine lv_iload hx hb dL_law_1206 (lv_at hl 31 rfl) ?_
          refine lv_iload hx hb dL_law_1208 (lv_at hl 0 rfl) ?_
          refine xr_if_eq (tgt := 1217) hx hb dL_law_1210 (by decide) (by decide) (fun yy9 => absurd yy9 (by decide)) (fun _ => ?_)
          refine lv_iconst (v := iI (1)) hx hb dL_law_1213 rfl ?_
          refine lv_goto (tgt := 1222) hx hb dL_law_1214 (by decide) ?_
          refine ys_1005 (v := 1) hx hb hK hC hR hA2 hA1 hN12 hS (by omega) dL_law_1222 (fun H locs hC hR hS => ?_)
          have hM := gl_1005 hM (who) (v := 1) (by omega)
          refine lv_aload_n hx hb dL_law_1223 rfl (lv_at hl 10 rfl) ?_
          refine lv_iconst (v := iI (5)) hx hb dL_law_1224 rfl ?_
          refine lv_iload hx hb dL_law_1225 (lv_at hl 31 rfl) ?_
          refine lv_iconst (v := iI (0)) hx hb dL_law_1227 rfl ?_
          refine lv_iconst (v := iI (0)) hx hb dL_law_1228 rfl ?_
          refine lv_iconst (v := iI (0)) hx hb dL_law_1229 rfl ?_
          refine lw_act (f := 8) (lo := 137) (mc := 1) (ms := 6) (E := objectE sg who) (T := (st (st sg 108 (iAt sg who) 1) 109 (iAt sg who) 1)) hx hb hml hown hts hK hXS hXN hS hA1 hN12 hG hR h4 (c_act_5 hC hG hl0 (lw_hA hA hR) who 0 0 0 (by omega)) ⟨by decide, by decide⟩ ⟨by omega, by omega⟩ hl.1 (Nat.le_of_ble_eq_true rfl) dL_law_1230 (fun ad H locs h4 hC hR hS => ?_)
          rw [if_pos hE] at hC
          rw [aR_0 hE]
          have hz := inv_of (s_object hRel hG hGM who) hE
          rw [hiA] at hz hC
          rw [hiA, hd1]
          have hLR := o_object hLR hG hwho
          refine lv_iload hx hb dL_law_1233 (lv_at hl 0 rfl) ?_
          refine xr_if_eq (tgt := 1252) hx hb dL_law_1235 (by decide) (by decide) (fun yy10 => absurd yy10 (by decide)) (fun _ => ?_)
          refine lv_aload_n hx hb dL_law_1238 rfl (lv_at hl 11 rfl) ?_
          refine lv_aload_n hx hb dL_law_1239 rfl (lv_at hl 12 rfl) ?_
          refine lv_aload hx hb dL_law_1240 (lv_at hl 16 rfl) ?_
          refine lv_iload hx hb dL_law_1242 (lv_at hl 5 rfl) ?_
          refine lv_iload hx hb dL_law_1244 (lv_at hl 1 rfl) ?_
          refine xk_pF (xr_S (As := [.ref (adM 20 0), .ref (adM 21 0), .ref (adM 25 0), .int (iI (sg 503 0)), .int (iI (mu 1000 ((8 * K) + 3)))]) (rest := [.long (lI (cntOpen (st (st sg 108 who 1) 109 who 1) (mu 1000 (8 * K + 3))))]) hx hb hml hown hts hK (c_L_opens hR hM (sg 503 0) (mu 1000 ((8 * K) + 3)) (by omega) (by omega)) ms_L_opens kw_661 ⟨by decide, by decide⟩ ⟨by show _ ≤ 600104; omega, by show _ ≤ 7301314; omega⟩ rfl rfl hl.1 rfl (lv_room (Nat.le_of_ble_eq_true rfl)) dL_law_1246) ?_
          have hop : lOpens (st mu 1005 (who) (1)) (sg 503 0) (mu 1000 (8 * K + 3)) = cntOpen (st (st sg 108 who 1) 109 who 1) (mu 1000 (8 * K + 3)) := l_opens hz.2 hM hLR.2.1 hLR.2.2.1 hLR.2.2.2.2.2.1 hLR.2.2.2.2.2.2.1 (by omega)
          rw [hop]
          have hcr := cntOpen_rng (st (st sg 108 who 1) 109 who 1) (mu 1000 (8 * K + 3))
          refine lv_goto (tgt := 1255) hx hb dL_law_1249 (by decide) ?_
          refine xr_i2l hx hb dL_law_1255 (by omega) ?_
          refine lw_leq hx hb dL_law_1256 (by first | rfl | omega | (rfl)) ?_
          refine xr_if_ne (tgt := 1264) hx hb dL_law_1257 (by decide) (by decide) (fun yy11 => absurd yy11 (by decide)) (fun _ => ?_)
          refine lv_iconst (v := iI (1)) hx hb dL_law_1260 rfl ?_
          refine lv_goto (tgt := 1265) hx hb dL_law_1261 (by decide) ?_
          refine lv_istore (i := 23) (lv' := [(23, .int (iI (1))), (34, .int (iI (1))), (33, .int (iI (mu 1000 ((8 * K) + 3)))), (32, .int (iI (1))), (31, .int (iI (8 * K))), (18, .int (iI (sg 503 0))), (19, .int (iI (sg 506 0))), (20, .long (lI (sg 510 0))), (24, .int (iI (turn))), (0, .ref b), (1, .ref hh), (2, .ref (adM 20 0)), (3, .ref (adM 21 0)), (4, .ref (adM 22 0)), (5, .ref (adM 23 0)), (6, .ref (adM 24 0)), (7, .ref (adM 25 0)), (8, .ref (adM 26 0)), (9, .ref (adM 27 0)), (10, .ref (adM 28 0)), (11, .ref (adM 29 0)), (12, .ref (adM 30 0)), (13, .ref (adM 31 0)), (14, .ref (adM 32 0)), (15, .ref (adM 33 0)), (16, .ref (adM 34 0)), (17, .ref (adM 35 0)), (25, .int (vx)), (26, .int (iI (what))), (27, .int (iI (k))), (28, .int (iI (8 * k))), (29, .int (iI (who))), (30, .int (iI (w)))]) hx hb dL_law_1265 hl (by decide) rfl (fun ls hl => ?_)
          refine lv_goto (tgt := 1417) hx hb dL_law_1267 (by decide) ?_
          refine lv_goto (tgt := 3115) hx hb dL_law_1417 (by decide) ?_
          refine W.widen (k := cells + 3) (n := slots + 45) (by omega) (by omega) ?_
          exact kk ad ((st (st sg 108 who 1) 109 who 1)) (st mu 1005 (who) (1)) H locs ls _ _ _ ⟨hC, hR, h4, hLR, hz.1, hz.2, hM, hS⟩ (by show sg 702 0 ≤ sg 702 0 + 1; omega) rfl rfl rfl (lv_sub hl [0, 5, 6, 7, 8, 9, 10, 11, 12, 13, 14, 15, 16, 17, 18, 19, 20, 21, 22, 23, 24, 25, 26] rfl)
        · rw [q8]
          have hE := (a_object hLR hG hV hwho hd1).2 (fun z => p7 z.2)
          refine lv_istore (i := 34) (lv' := [(34, .int (iI (0))), (33, .int (iI (mu 1000 ((8 * K) + 3)))), (32, .int (iI (1))), (31, .int (iI (8 * K))), (23, .int (iI (1))), (18, .int (iI (sg 503 0))), (19, .int (iI (sg 506 0))), (20, .long (lI (sg 510 0))), (24, .int (iI (turn))), (0, .ref b), (1, .ref hh), (2, .ref (adM 20 0)), (3, .ref (adM 21 0)), (4, .ref (adM 22 0)), (5, .ref (adM 23 0)), (6, .ref (adM 24 0)), (7, .ref (adM 25 0)), (8, .ref (adM 26 0)), (9, .ref (adM 27 0)), (10, .ref (adM 28 0)), (11, .ref (adM 29 0)), (12, .ref (adM 30 0)), (13, .ref (adM 31 0)), (14, .ref (adM 32 0)), (15, .ref (adM 33 0)), (16, .ref (adM 34 0)), (17, .ref (adM 35 0)), (25, .int (vx)), (26, .int (iI (what))), (27, .int (iI (k))), (28, .int (iI (8 * k))), (29, .int (iI (who))), (30, .int (iI (w)))]) hx hb dL_law_1202 hl (by decide) rfl (fun ls hl => ?_)
          refine lv_aload hx hb dL_law_1204 (lv_at hl 16 rfl) ?_
          refine lv_iload hx hb dL_law_1206 (lv_at hl 31 rfl) ?_
          refine lv_iload hx hb dL_law_1208 (lv_at hl 0 rfl) ?_
          refine xr_if_eq (tgt := 1217) hx hb dL_law_1210 (by decide) (by decide) (fun _ => ?_) (fun yy12 => absurd yy12 (by decide))
          refine lv_aload hx hb dL_law_1217 (lv_at hl 16 rfl) ?_
          refine lv_iload hx hb dL_law_1219 (lv_at hl 31 rfl) ?_
          refine xa_1005 (v := mu 1005 who) hx hb hK hR (by omega) rfl dL_law_1221 ?_
          have g13 := ml_1005 hM0 (who)
          refine ys_1005 (v := mu 1005 who) hx hb hK hC hR hA2 hA1 hN12 hS (by omega) dL_law_1222 (fun H locs hC hR hS => ?_)
          have hM := gl_1005 hM (who) (v := mu 1005 who) (by omega)
          refine lv_aload_n hx hb dL_law_1223 rfl (lv_at hl 10 rfl) ?_
          refine lv_iconst (v := iI (5)) hx hb dL_law_1224 rfl ?_
          refine lv_iload hx hb dL_law_1225 (lv_at hl 31 rfl) ?_
          refine lv_iconst (v := iI (0)) hx hb dL_law_1227 rfl ?_
          refine lv_iconst (v := iI (0)) hx hb dL_law_1228 rfl ?_
          refine lv_iconst (v := iI (0)) hx hb dL_law_1229 rfl ?_
          refine lw_act (f := 8) (lo := 137) (mc := 1) (ms := 6) (E := objectE sg who) (T := (st (st sg 108 (iAt sg who) 1) 109 (iAt sg who) 1)) hx hb hml hown hts hK hXS hXN hS hA1 hN12 hG hR h4 (c_act_5 hC hG hl0 (lw_hA hA hR) who 0 0 0 (by omega)) ⟨by decide, by decide⟩ ⟨by omega, by omega⟩ hl.1 (Nat.le_of_ble_eq_true rfl) dL_law_1230 (fun ad H locs h4 hC hR hS => ?_)
          rw [if_neg (by rw [hE]; decide)] at hC
          rw [aR_n (by rw [hE]; decide), hE]
          refine lv_iload hx hb dL_law_1233 (lv_at hl 0 rfl) ?_
          refine xr_if_eq (tgt := 1252) hx hb dL_law_1235 (by decide) (by decide) (fun _ => ?_) (fun yy14 => absurd yy14 (by decide))
          refine lv_sipush (v := iI (-1003)) hx hb dL_law_1252 (by decide) ?_
          refine xr_i2l hx hb dL_law_1255 (by omega) ?_
          refine lw_leq hx hb dL_law_1256 (by first | rfl | omega | (rfl)) ?_
          refine xr_if_ne (tgt := 1264) hx hb dL_law_1257 (by decide) (by decide) (fun yy15 => absurd yy15 (by decide)) (fun _ => ?_)
          refine lv_iconst (v := iI (1)) hx hb dL_law_1260 rfl ?_
          refine lv_goto (tgt := 1265) hx hb dL_law_1261 (by decide) ?_
          refine lv_istore (i := 23) (lv' := [(23, .int (iI (1))), (34, .int (iI (0))), (33, .int (iI (mu 1000 ((8 * K) + 3)))), (32, .int (iI (1))), (31, .int (iI (8 * K))), (18, .int (iI (sg 503 0))), (19, .int (iI (sg 506 0))), (20, .long (lI (sg 510 0))), (24, .int (iI (turn))), (0, .ref b), (1, .ref hh), (2, .ref (adM 20 0)), (3, .ref (adM 21 0)), (4, .ref (adM 22 0)), (5, .ref (adM 23 0)), (6, .ref (adM 24 0)), (7, .ref (adM 25 0)), (8, .ref (adM 26 0)), (9, .ref (adM 27 0)), (10, .ref (adM 28 0)), (11, .ref (adM 29 0)), (12, .ref (adM 30 0)), (13, .ref (adM 31 0)), (14, .ref (adM 32 0)), (15, .ref (adM 33 0)), (16, .ref (adM 34 0)), (17, .ref (adM 35 0)), (25, .int (vx)), (26, .int (iI (what))), (27, .int (iI (k))), (28, .int (iI (8 * k))), (29, .int (iI (who))), (30, .int (iI (w)))]) hx hb dL_law_1265 hl (by decide) rfl (fun ls hl => ?_)
          refine lv_goto (tgt := 1417) hx hb dL_law_1267 (by decide) ?_
          refine lv_goto (tgt := 3115) hx hb dL_law_1417 (by decide) ?_
          refine W.widen (k := cells + 3) (n := slots + 45) (by omega) (by omega) ?_
          exact kk ad sg (st mu 1005 (who) (mu 1005 who)) H locs ls _ _ _ ⟨hC, hR, h4, (by rw [st_id rfl]; exact hLR), hV, hG, hM, hS⟩ (by omega) rfl rfl rfl (lv_sub hl [0, 5, 6, 7, 8, 9, 10, 11, 12, 13, 14, 15, 16, 17, 18, 19, 20, 21, 22, 23, 24, 25, 26] rfl)
      refine lv_aload hx hb dL_law_1168 (lv_at hl 14 rfl) ?_
      refine lv_iload hx hb dL_law_1170 (lv_at hl 30 rfl) ?_
      refine xa_1004 (v := mu 1004 who) hx hb hK hR (by omega) rfl dL_law_1172 ?_
      have g16 := ml_1004 hM0 (who)
      refine xr_if_lt (tgt := 1201) hx hb dL_law_1173 (by decide) (by omega) (fun yy17 => ?_) (fun yy17 => ?_)
      · skip
        refine lv_iconst (v := iI (0)) hx hb dL_law_1201 rfl ?_
        exact w_topI (by first | exact (bI_t (by first | omega | grind)).symm | exact (bI_f (by first | omega | grind)).symm) J1202
      · skip
        refine lv_iload hx hb dL_law_1176 (lv_at hl 5 rfl) ?_
        refine lv_aload hx hb dL_law_1178 (lv_at hl 14 rfl) ?_
        refine lv_iload hx hb dL_law_1180 (lv_at hl 30 rfl) ?_
        refine xa_1004 (v := mu 1004 who) hx hb hK hR (by omega) rfl dL_law_1182 ?_
        refine xr_isub hx hb dL_law_1183 ?_
        refine lv_bipush (v := iI (21)) hx hb dL_law_1184 (by decide) ?_
        refine xr_icmp_gt (tgt := 1201) hx hb dL_law_1186 (by decide) (by omega) (by omega) (fun yy18 => ?_) (fun yy18 => ?_)
        · skip
          refine lv_iconst (v := iI (0)) hx hb dL_law_1201 rfl ?_
          exact w_topI (by first | exact (bI_t (by first | omega | grind)).symm | exact (bI_f (by first | omega | grind)).symm) J1202
        · skip
          refine lv_aload hx hb dL_law_1189 (lv_at hl 15 rfl) ?_
          refine lv_iload hx hb dL_law_1191 (lv_at hl 30 rfl) ?_
          refine xa_1005 (v := mu 1005 who) hx hb hK hR (by omega) rfl dL_law_1193 ?_
          have g19 := ml_1005 hM0 (who)
          refine xr_if_ne (tgt := 1201) hx hb dL_law_1194 (by decide) (by omega) (fun yy20 => ?_) (fun yy20 => ?_)
          · skip
            refine lv_iconst (v := iI (0)) hx hb dL_law_1201 rfl ?_
            exact w_topI (by first | exact (bI_t (by first | omega | grind)).symm | exact (bI_f (by first | omega | grind)).symm) J1202
          · skip
            refine lv_iconst (v := iI (1)) hx hb dL_law_1197 rfl ?_
            refine lv_goto (tgt := 1202) hx hb dL_law_1198 (by decide) ?_
            exact w_topI (by first | exact (bI_t (by first | omega | grind)).symm | exact (bI_f (by first | omega | grind)).symm) J1202
    · rw [q2]
      have hd1 := hdr0 p1
      have hE := (a_object hLR hG hV hwho hd1).2 (by omega)
      refine lv_istore (i := 32) (lv' := [(32, .int (iI (0))), (31, .int (iI (8 * K))), (23, .int (iI (1))), (18, .int (iI (sg 503 0))), (19, .int (iI (sg 506 0))), (20, .long (lI (sg 510 0))), (24, .int (iI (turn))), (0, .ref b), (1, .ref hh), (2, .ref (adM 20 0)), (3, .ref (adM 21 0)), (4, .ref (adM 22 0)), (5, .ref (adM 23 0)), (6, .ref (adM 24 0)), (7, .ref (adM 25 0)), (8, .ref (adM 26 0)), (9, .ref (adM 27 0)), (10, .ref (adM 28 0)), (11, .ref (adM 29 0)), (12, .ref (adM 30 0)), (13, .ref (adM 31 0)), (14, .ref (adM 32 0)), (15, .ref (adM 33 0)), (16, .ref (adM 34 0)), (17, .ref (adM 35 0)), (25, .int (vx)), (26, .int (iI (what))), (27, .int (iI (k))), (28, .int (iI (8 * k))), (29, .int (iI (who))), (30, .int (iI (w)))]) hx hb dL_law_1061 hl (by decide) rfl (fun ls hl => ?_)
      refine lv_aload_n hx hb dL_law_1063 rfl (lv_at hl 9 rfl) ?_
      refine lv_iload hx hb dL_law_1064 (lv_at hl 1 rfl) ?_
      refine lv_iconst (v := iI (3)) hx hb dL_law_1066 rfl ?_
      refine xr_iadd hx hb dL_law_1067 ?_
      refine xa_1000 (v := mu 1000 ((8 * K) + 3)) hx hb hK hR (by omega) rfl dL_law_1068 ?_
      have g21 := ml_1000 hM0 ((8 * K) + 3)
      refine lv_istore (i := 33) (lv' := [(33, .int (iI (mu 1000 ((8 * K) + 3)))), (32, .int (iI (0))), (31, .int (iI (8 * K))), (23, .int (iI (1))), (18, .int (iI (sg 503 0))), (19, .int (iI (sg 506 0))), (20, .long (lI (sg 510 0))), (24, .int (iI (turn))), (0, .ref b), (1, .ref hh), (2, .ref (adM 20 0)), (3, .ref (adM 21 0)), (4, .ref (adM 22 0)), (5, .ref (adM 23 0)), (6, .ref (adM 24 0)), (7, .ref (adM 25 0)), (8, .ref (adM 26 0)), (9, .ref (adM 27 0)), (10, .ref (adM 28 0)), (11, .ref (adM 29 0)), (12, .ref (adM 30 0)), (13, .ref (adM 31 0)), (14, .ref (adM 32 0)), (15, .ref (adM 33 0)), (16, .ref (adM 34 0)), (17, .ref (adM 35 0)), (25, .int (vx)), (26, .int (iI (what))), (27, .int (iI (k))), (28, .int (iI (8 * k))), (29, .int (iI (who))), (30, .int (iI (w)))]) hx hb dL_law_1069 hl (by decide) rfl (fun ls hl => ?_)
      refine lv_iload hx hb dL_law_1071 (lv_at hl 27 rfl) ?_
      refine lv_bipush (v := iI (10)) hx hb dL_law_1073 (by decide) ?_
      refine xr_icmp_ge (tgt := 1156) hx hb dL_law_1075 (by decide) (by omega) (by omega) (fun yy22 => ?_) (fun yy22 => absurd yy22 (by omega))
      refine lv_iload hx hb dL_law_1156 (lv_at hl 27 rfl) ?_
      refine lv_bipush (v := iI (12)) hx hb dL_law_1158 (by decide) ?_
      refine xr_icmp_ge (tgt := 1270) hx hb dL_law_1160 (by decide) (by omega) (by omega) (fun yy23 => absurd yy23 (by omega)) (fun yy23 => ?_)
      refine lv_iload hx hb dL_law_1163 (lv_at hl 1 rfl) ?_
      refine xr_if_eq (tgt := 1201) hx hb dL_law_1165 (by decide) (by decide) (fun _ => ?_) (fun yy24 => absurd yy24 (by decide))
      refine lv_iconst (v := iI (0)) hx hb dL_law_1201 rfl ?_
      refine lv_istore (i := 34) (lv' := [(34, .int (iI (0))), (33, .int (iI (mu 1000 ((8 * K) + 3)))), (32, .int (iI (0))), (31, .int (iI (8 * K))), (23, .int (iI (1))), (18, .int (iI (sg 503 0))), (19, .int (iI (sg 506 0))), (20, .long (lI (sg 510 0))), (24, .int (iI (turn))), (0, .ref b), (1, .ref hh), (2, .ref (adM 20 0)), (3, .ref (adM 21 0)), (4, .ref (adM 22 0)), (5, .ref (adM 23 0)), (6, .ref (adM 24 0)), (7, .ref (adM 25 0)), (8, .ref (adM 26 0)), (9, .ref (adM 27 0)), (10, .ref (adM 28 0)), (11, .ref (adM 29 0)), (12, .ref (adM 30 0)), (13, .ref (adM 31 0)), (14, .ref (adM 32 0)), (15, .ref (adM 33 0)), (16, .ref (adM 34 0)), (17, .ref (adM 35 0)), (25, .int (vx)), (26, .int (iI (what))), (27, .int (iI (k))), (28, .int (iI (8 * k))), (29, .int (iI (who))), (30, .int (iI (w)))]) hx hb dL_law_1202 hl (by decide) rfl (fun ls hl => ?_)
      refine lv_aload hx hb dL_law_1204 (lv_at hl 16 rfl) ?_
      refine lv_iload hx hb dL_law_1206 (lv_at hl 31 rfl) ?_
      refine lv_iload hx hb dL_law_1208 (lv_at hl 0 rfl) ?_
      refine xr_if_eq (tgt := 1217) hx hb dL_law_1210 (by decide) (by decide) (fun _ => ?_) (fun yy25 => absurd yy25 (by decide))
      refine lv_aload hx hb dL_law_1217 (lv_at hl 16 rfl) ?_
      refine lv_iload hx hb dL_law_1219 (lv_at hl 31 rfl) ?_
      refine xa_1005 (v := mu 1005 who) hx hb hK hR (by omega) rfl dL_law_1221 ?_
      have g26 := ml_1005 hM0 (who)
      refine ys_1005 (v := mu 1005 who) hx hb hK hC hR hA2 hA1 hN12 hS (by omega) dL_law_1222 (fun H locs hC hR hS => ?_)
      have hM := gl_1005 hM (who) (v := mu 1005 who) (by omega)
      refine lv_aload_n hx hb dL_law_1223 rfl (lv_at hl 10 rfl) ?_
      refine lv_iconst (v := iI (5)) hx hb dL_law_1224 rfl ?_
      refine lv_iload hx hb dL_law_1225 (lv_at hl 31 rfl) ?_
      refine lv_iconst (v := iI (0)) hx hb dL_law_1227 rfl ?_
      refine lv_iconst (v := iI (0)) hx hb dL_law_1228 rfl ?_
      refine lv_iconst (v := iI (0)) hx hb dL_law_1229 rfl ?_
      refine lw_act (f := 8) (lo := 137) (mc := 1) (ms := 6) (E := objectE sg who) (T := (st (st sg 108 (iAt sg who) 1) 109 (iAt sg who) 1)) hx hb hml hown hts hK hXS hXN hS hA1 hN12 hG hR h4 (c_act_5 hC hG hl0 (lw_hA hA hR) who 0 0 0 (by omega)) ⟨by decide, by decide⟩ ⟨by omega, by omega⟩ hl.1 (Nat.le_of_ble_eq_true rfl) dL_law_1230 (fun ad H locs h4 hC hR hS => ?_)
      rw [if_neg (by rw [hE]; decide)] at hC
      rw [aR_n (by rw [hE]; decide), hE]
      refine lv_iload hx hb dL_law_1233 (lv_at hl 0 rfl) ?_
      refine xr_if_eq (tgt := 1252) hx hb dL_law_1235 (by decide) (by decide) (fun _ => ?_) (fun yy27 => absurd yy27 (by decide))
      refine lv_sipush (v := iI (-1003)) hx hb dL_law_1252 (by decide) ?_
      refine xr_i2l hx hb dL_law_1255 (by omega) ?_
      refine lw_leq hx hb dL_law_1256 (by first | rfl | omega | (rfl)) ?_
      refine xr_if_ne (tgt := 1264) hx hb dL_law_1257 (by decide) (by decide) (fun yy28 => absurd yy28 (by decide)) (fun _ => ?_)
      refine lv_iconst (v := iI (1)) hx hb dL_law_1260 rfl ?_
      refine lv_goto (tgt := 1265) hx hb dL_law_1261 (by decide) ?_
      refine lv_istore (i := 23) (lv' := [(23, .int (iI (1))), (34, .int (iI (0))), (33, .int (iI (mu 1000 ((8 * K) + 3)))), (32, .int (iI (0))), (31, .int (iI (8 * K))), (18, .int (iI (sg 503 0))), (19, .int (iI (sg 506 0))), (20, .long (lI (sg 510 0))), (24, .int (iI (turn))), (0, .ref b), (1, .ref hh), (2, .ref (adM 20 0)), (3, .ref (adM 21 0)), (4, .ref (adM 22 0)), (5, .ref (adM 23 0)), (6, .ref (adM 24 0)), (7, .ref (adM 25 0)), (8, .ref (adM 26 0)), (9, .ref (adM 27 0)), (10, .ref (adM 28 0)), (11, .ref (adM 29 0)), (12, .ref (adM 30 0)), (13, .ref (adM 31 0)), (14, .ref (adM 32 0)), (15, .ref (adM 33 0)), (16, .ref (adM 34 0)), (17, .ref (adM 35 0)), (25, .int (vx)), (26, .int (iI (what))), (27, .int (iI (k))), (28, .int (iI (8 * k))), (29, .int (iI (who))), (30, .int (iI (w)))]) hx hb dL_law_1265 hl (by decide) rfl (fun ls hl => ?_)
      refine lv_goto (tgt := 1417) hx hb dL_law_1267 (by decide) ?_
      refine lv_goto (tgt := 3115) hx hb dL_law_1417 (by decide) ?_
      refine W.widen (k := cells + 3) (n := slots + 45) (by omega) (by omega) ?_
      exact kk ad sg (st mu 1005 (who) (mu 1005 who)) H locs ls _ _ _ ⟨hC, hR, h4, (by rw [st_id rfl]; exact hLR), hV, hG, hM, hS⟩ (by omega) rfl rfl rfl (lv_sub hl [0, 5, 6, 7, 8, 9, 10, 11, 12, 13, 14, 15, 16, 17, 18, 19, 20, 21, 22, 23, 24, 25, 26] rfl)
  refine lv_aload_n hx hb dL_law_1013 rfl (lv_at hl 8 rfl) ?_
  refine lv_iload hx hb dL_law_1014 (lv_at hl 0 rfl) ?_
  refine lv_iconst (v := iI (2)) hx hb dL_law_1016 rfl ?_
  refine xr_iadd hx hb dL_law_1017 ?_
  refine xa_1000 (v := mu 1000 ((8 * K) + 2)) hx hb hK hR (by omega) rfl dL_law_1018 ?_
  have g29 := ml_1000 hM0 ((8 * K) + 2)
  refine xr_if_ne (tgt := 1060) hx hb dL_law_1019 (by decide) (by omega) (fun yy30 => ?_) (fun yy30 => ?_)
  · skip
    refine lv_iconst (v := iI (0)) hx hb dL_law_1060 rfl ?_
    exact w_topI (by first | exact (bI_t (by first | omega | grind)).symm | exact (bI_f (by first | omega | grind)).symm) J1061
  · skip
    refine lv_aload_n hx hb dL_law_1022 rfl (lv_at hl 8 rfl) ?_
    refine lv_iload hx hb dL_law_1023 (lv_at hl 0 rfl) ?_
    refine lv_iconst (v := iI (3)) hx hb dL_law_1025 rfl ?_
    refine xr_iadd hx hb dL_law_1026 ?_
    refine xa_1000 (v := mu 1000 ((8 * K) + 3)) hx hb hK hR (by omega) rfl dL_law_1027 ?_
    have g31 := ml_1000 hM0 ((8 * K) + 3)
    refine xr_if_lt (tgt := 1060) hx hb dL_law_1028 (by decide) (by omega) (fun yy32 => ?_) (fun yy32 => ?_)
    · skip
      refine lv_iconst (v := iI (0)) hx hb dL_law_1060 rfl ?_
      exact w_topI (by first | exact (bI_t (by first | omega | grind)).symm | exact (bI_f (by first | omega | grind)).symm) J1061
    · skip
      refine lv_aload hx hb dL_law_1031 (lv_at hl 19 rfl) ?_
      refine lv_aload_n hx hb dL_law_1033 rfl (lv_at hl 8 rfl) ?_
      refine lv_iload hx hb dL_law_1034 (lv_at hl 0 rfl) ?_
      refine lv_iconst (v := iI (3)) hx hb dL_law_1036 rfl ?_
      refine xr_iadd hx hb dL_law_1037 ?_
      refine xa_1000 (v := mu 1000 ((8 * K) + 3)) hx hb hK hR (by omega) rfl dL_law_1038 ?_
      refine xr_if_ge (tgt := 1046) hx hb dL_law_1039 (by decide) (by omega) (fun yy33 => ?_) (fun yy33 => absurd yy33 (by omega))
      refine lv_aload_n hx hb dL_law_1046 rfl (lv_at hl 8 rfl) ?_
      refine lv_iload hx hb dL_law_1047 (lv_at hl 0 rfl) ?_
      refine lv_iconst (v := iI (3)) hx hb dL_law_1049 rfl ?_
      refine xr_iadd hx hb dL_law_1050 ?_
      refine xa_1000 (v := mu 1000 ((8 * K) + 3)) hx hb hK hR (by omega) rfl dL_law_1051 ?_
      refine xa_1011 (v := mu 1011 (mu 1000 ((8 * K) + 3))) hx hb hK hR (by omega) rfl dL_law_1052 ?_
      have g34 := ml_1011 hM0 (mu 1000 ((8 * K) + 3))
      refine xr_if_ne (tgt := 1060) hx hb dL_law_1053 (by decide) (by omega) (fun yy35 => ?_) (fun yy35 => ?_)
      · skip
        refine lv_iconst (v := iI (0)) hx hb dL_law_1060 rfl ?_
        exact w_topI (by first | exact (bI_t (by first | omega | grind)).symm | exact (bI_f (by first | omega | grind)).symm) J1061
      · skip
        refine lv_iconst (v := iI (1)) hx hb dL_law_1056 rfl ?_
        refine lv_goto (tgt := 1061) hx hb dL_law_1057 (by decide) ?_
        exact w_topI (by first | exact (bI_t (by first | omega | grind)).symm | exact (bI_f (by first | omega | grind)).symm) J1061
