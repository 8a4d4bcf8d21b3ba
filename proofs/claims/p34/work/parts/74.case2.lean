set_option maxRecDepth 100000 in
set_option maxHeartbeats 8000000 in
theorem law_hear {p : Program} {l : Launch} {e : Env} {s : State} {m : MethodId} {below : List Frame} {meth : Method} {c : Code} {D : va_G} {cy : Nat → ClassId} {A A2 : Nat → Prop} {b L hh : Nat} {xs : Nat → Int32} {ad adM : Nat → Int → Nat} {sg mu : Nat → Int → Int} {H : Heap} {locs : List Loc} {cells slots : Nat} {Q : State → Prop} {ls : Array Slot} {turn : Int} {vx : Int32} {what k who w : Int} (E : LE p l s m meth c b L xs D cy A A2 adM) (I : LI D cy A A2 s hh ad adM sg mu H locs) (h7 : sg 702 0 ≤ 1000000) (hcl : cells + 1000 ≤ 600104) (hsl : slots + 20000 ≤ 7301314) (hwhat : 12 ≤ what ∧ what < 14) (hk : 0 ≤ k ∧ k ≤ 3) (hw : 0 ≤ w ∧ w ≤ 1) (hwho : 0 ≤ who ∧ who < sg 503 0) (hl : lv_has ls 37 [(23, .int (iI (1))), (18, .int (iI (sg 503 0))), (19, .int (iI (sg 506 0))), (20, .long (lI (sg 510 0))), (24, .int (iI (turn))), (0, .ref b), (1, .ref hh), (2, .ref (adM 20 0)), (3, .ref (adM 21 0)), (4, .ref (adM 22 0)), (5, .ref (adM 23 0)), (6, .ref (adM 24 0)), (7, .ref (adM 25 0)), (8, .ref (adM 26 0)), (9, .ref (adM 27 0)), (10, .ref (adM 28 0)), (11, .ref (adM 29 0)), (12, .ref (adM 30 0)), (13, .ref (adM 31 0)), (14, .ref (adM 32 0)), (15, .ref (adM 33 0)), (16, .ref (adM 34 0)), (17, .ref (adM 35 0)), (25, .int (vx)), (26, .int (iI (what))), (27, .int (iI (k))), (28, .int (iI (8 * k))), (29, .int (iI (who))), (30, .int (iI (w)))]) (kk : LK p l e s m below meth c b D cy A A2 hh adM cells slots Q sg turn) : W p l e room_1 s m #[Value.ref b] below meth c H locs cells slots Q (F0 m 1001 ls []) := by
  obtain ⟨⟨hx, hb, hr, hml, hown, hts0, hX, hbl, hlocks, -⟩, hl0, hK, hXS, hXN, hA, hA1, hA2, hN12, hL⟩ := E
  obtain ⟨hC, hR, h4, hLR, hV, hG, hM, hS⟩ := I
  have hM0 := hM
  have hts : ∀ w ∈ wG, w.before #[Value.ref b] s = true := fun w hw => hts0 w (List.mem_filter.mp hw).1
  have hown : s.vm.findClass "TakinghallLaw" = some m.cls := hown
  have g503 := gr_503 hG 0
  have g506 := gr_506 hG 0
  obtain ⟨K, hKe⟩ : ∃ K, K = mu 1001 (24 + who) := ⟨_, rfl⟩
  obtain ⟨hK3, hKp, hdr1, hdr0⟩ := a_draft hLR hG hM hwho hKe
  have hn1 := a_nle hLR hG hK3
  obtain ⟨mm, hRel, hGM⟩ := id hV
  have hiA : iAt sg who = who := iAt_q hwho
  refine lv_bipush (v := iI (8)) hx hb dL_law_1001 (by decide) ?_
  refine lv_aload_n hx hb dL_law_1003 rfl (lv_at hl 8 rfl) ?_
  refine lv_bipush (v := iI (24)) hx hb dL_law_1004 (by decide) ?_
  refine lv_iload hx hb dL_law_1006 (lv_at hl 27 rfl) ?_
  refine xr_iadd hx hb dL_law_1008 ?_
  refine xa_1001 (v := K) hx hb hK hR (by omega) (hKe.symm) dL_law_1009 ?_
  refine xr_imul hx hb dL_law_1010 ?_
  refine lv_istore (i := 31) (lv' := [(31, .int (iI (8 * K))), (23, .int (iI (1))), (18, .int (iI (sg 503 0))), (19, .int (iI (sg 506 0))), (20, .long (lI (sg 510 0))), (24, .int (iI (turn))), (0, .ref b), (1, .ref hh), (2, .ref (adM 20 0)), (3, .ref (adM 21 0)), (4, .ref (adM 22 0)), (5, .ref (adM 23 0)), (6, .ref (adM 24 0)), (7, .ref (adM 25 0)), (8, .ref (adM 26 0)), (9, .ref (adM 27 0)), (10, .ref (adM 28 0)), (11, .ref (adM 29 0)), (12, .ref (adM 30 0)), (13, .ref (adM 31 0)), (14, .ref (adM 32 0)), (15, .ref (adM 33 0)), (16, .ref (adM 34 0)), (17, .ref (adM 35 0)), (25, .int (vx)), (26, .int (iI (what))), (27, .int (iI (k))), (28, .int (iI (8 * k))), (29, .int (iI (who))), (30, .int (iI (w)))]) hx hb dL_law_1011 hl (by decide) rfl (fun ls hl => ?_)
  have J1061 : W p l e room_1 s m #[Value.ref b] below meth c H locs cells slots Q (F0 m 1061 ls [.int (iI (bI (mu 1000 (8 * K + 2) = 0 ∧ 0 ≤ mu 1000 (8 * K + 3) ∧ mu 1011 (mu 1000 (8 * K + 3)) = 0)))]) := by
    rcases bI_cases (mu 1000 (8 * K + 2) = 0 ∧ 0 ≤ mu 1000 (8 * K + 3) ∧ mu 1011 (mu 1000 (8 * K + 3)) = 0) with ⟨p1, q2⟩ | ⟨p1, q2⟩
    · rw [q2]
      obtain ⟨hd1, hd2, hd3, hd4⟩ := hdr1 p1
      refine lv_istore (i := 32) (lv' := [(32, .int (iI (1))), (31, .int (iI (8 * K))), (23, .int (iI (1))), (18, .int (iI (sg 503 0))), (19, .int (iI (sg 506 0))), (20, .long (lI (sg 510 0))), (24, .int (iI (turn))), (0, .ref b), (1, .ref hh), (2, .ref (adM 20 0)), (3, .ref (adM 21 0)), (4, .ref (adM 22 0)), (5, .ref (adM 23 0)), (6, .ref (adM 24 0)), (7, .ref (adM 25 0)), (8, .ref (adM 26 0)), (9, .ref (adM 27 0)), (10, .ref (adM 28 0)), (11, .ref (adM 29 0)), (12, .ref (adM 30 0)), (13, .ref (adM 31 0)), (14, .ref (adM 32 0)), (15, .ref (adM 33 0)), (16, .ref (adM 34 0)), (17, .ref (adM 35 0)), (25, .int (vx)), (26, .int (iI (what))), (27, .int (iI (k))), (28, .int (iI (8 * k))), (29, .int (iI (who))), (30, .int (iI (w)))]) hx hb dL_law_1061 hl (by decide) rfl (fun ls hl => ?_)
      refine lv_aload_n hx hb dL_law_1063 rfl (lv_at hl 9 rfl) ?_
      refine lv_iload hx hb dL_law_1064 (lv_at hl 1 rfl) ?_
      refine lv_iconst (v := iI (3)) hx hb dL_law_1066 rfl ?_
      refine xr_iadd hx hb dL_law_1067 ?_
      refine xa_1000 (v := mu 1000 ((8 * K) + 3)) hx hb hK hR (by omega) rfl dL_law_1068 ?_
      have g3 := ml_1000 hM0 ((8 * K) + 3)
      refine lv_istore (i := 33) (lv' := [(33, .int (iI (mu 1000 ((8 * K) + 3)))), (32, .int (iI (1))), (31, .int (iI (8 * K))), (23, .int (iI (1))), (18, .int (iI (sg 503 0))), (19, .int (iI (sg 506 0))), (20, .long (lI (sg 510 0))), (24, .int (iI (turn))), (0, .ref b), (1, .ref hh), (2, .ref (adM 20 0)), (3, .ref (adM 21 0)), (4, .ref (adM 22 0)), (5, .ref (adM 23 0)), (6, .ref (adM 24 0)), (7, .ref (adM 25 0)), (8, .ref (adM 26 0)), (9, .ref (adM 27 0)), (10, .ref (adM 28 0)), (11, .ref (adM 29 0)), (12, .ref (adM 30 0)), (13, .ref (adM 31 0)), (14, .ref (adM 32 0)), (15, .ref (adM 33 0)), (16, .ref (adM 34 0)), (17, .ref (adM 35 0)), (25, .int (vx)), (26, .int (iI (what))), (27, .int (iI (k))), (28, .int (iI (8 * k))), (29, .int (iI (who))), (30, .int (iI (w)))]) hx hb dL_law_1069 hl (by decide) rfl (fun ls hl => ?_)
      refine lv_iload hx hb dL_law_1071 (lv_at hl 27 rfl) ?_
      refine lv_bipush (v := iI (10)) hx hb dL_law_1073 (by decide) ?_
      refine xr_icmp_ge (tgt := 1156) hx hb dL_law_1075 (by decide) (by omega) (by omega) (fun yy4 => ?_) (fun yy4 => absurd yy4 (by omega))
      refine lv_iload hx hb dL_law_1156 (lv_at hl 27 rfl) ?_
      refine lv_bipush (v := iI (12)) hx hb dL_law_1158 (by decide) ?_
      refine xr_icmp_ge (tgt := 1270) hx hb dL_law_1160 (by decide) (by omega) (by omega) (fun yy5 => ?_) (fun yy5 => absurd yy5 (by omega))
      refine lv_iload hx hb dL_law_1270 (lv_at hl 1 rfl) ?_
      refine xr_if_eq (tgt := 1288) hx hb dL_law_1272 (by decide) (by decide) (fun yy6 => absurd yy6 (by decide)) (fun _ => ?_)
      have J1289 : W p l e room_1 s m #[Value.ref b] below meth c H locs cells slots Q (F0 m 1289 ls [.int (iI (bI (mu 1005 who = 1)))]) := by
        rcases bI_cases (mu 1005 who = 1) with ⟨p7, q8⟩ | ⟨p7, q8⟩
        · rw [q8]
          obtain ⟨hE, h109⟩ := (a_hear hLR hwho hd1).1 ⟨by omega, p7⟩
          refine lv_istore (i := 34) (lv' := [(34, .int (iI (1))), (33, .int (iI (mu 1000 ((8 * K) + 3)))), (32, .int (iI (1))), (31, .int (iI (8 * K))), (23, .int (iI (1))), (18, .int (iI (sg 503 0))), (19, .int (iI (sg 506 0))), (20, .long (lI (sg 510 0))), (24, .int (iI (turn))), (0, .ref b), (1, .ref hh), (2, .ref (adM 20 0)), (3, .ref (adM 21 0)), (4, .ref (adM 22 0)), (5, .ref (adM 23 0)), (6, .ref (adM 24 0)), (7, .ref (adM 25 0)), (8, .ref (adM 26 0)), (9, .ref (adM 27 0)), (10, .ref (adM 28 0)), (11, .ref (adM 29 0)), (12, .ref (adM 30 0)), (13, .ref (adM 31 0)), (14, .ref (adM 32 0)), (15, .ref (adM 33 0)), (16, .ref (adM 34 0)), (17, .ref (adM 35 0)), (25, .int (vx)), (26, .int (iI (what))), (27, .int (iI (k))), (28, .int (iI (8 * k))), (29, .int (iI (who))), (30, .int (iI (w)))]) hx hb dL_law_1289 hl (by decide) rfl (fun ls hl => ?_)
          refine lv_iload hx hb dL_law_1291 (lv_at hl 27 rfl) ?_
          refine lv_sipush (v := iI (512)) hx hb dL_law_1293 (by decide) ?_
          refine lw_idiv hx hb (by decide) dL_law_1296 ?_
          refine lv_iconst (v := iI (3)) hx hb dL_law_1297 rfl ?_
          refine lw_up (n := 3) hx hb hml hown hts hK hl.1 ⟨by omega, by omega⟩ (by decide) (lv_room (Nat.le_of_ble_eq_true rfl)) dL_law_1298 (fun u9 u9a u9b => ?_)
          refine xr_if_ne (tgt := 1308) hx hb dL_law_1301 (by decide) (by omega) (fun yy10 => ?_) (fun yy10 => ?_)
          · skip
            refine lv_iconst (v := iI (0)) hx hb dL_law_1308 rfl ?_
            refine lv_istore (i := 35) (lv' := [(35, .int (iI (0))), (34, .int (iI (1))), (33, .int (iI (mu 1000 ((8 * K) + 3)))), (32, .int (iI (1))), (31, .int (iI (8 * K))), (23, .int (iI (1))), (18, .int (iI (sg 503 0))), (19, .int (iI (sg 506 0))), (20, .long (lI (sg 510 0))), (24, .int (iI (turn))), (0, .ref b), (1, .ref hh), (2, .ref (adM 20 0)), (3, .ref (adM 21 0)), (4, .ref (adM 22 0)), (5, .ref (adM 23 0)), (6, .ref (adM 24 0)), (7, .ref (adM 25 0)), (8, .ref (adM 26 0)), (9, .ref (adM 27 0)), (10, .ref (adM 28 0)), (11, .ref (adM 29 0)), (12, .ref (adM 30 0)), (13, .ref (adM 31 0)), (14, .ref (adM 32 0)), (15, .ref (adM 33 0)), (16, .ref (adM 34 0)), (17, .ref (adM 35 0)), (25, .int (vx)), (26, .int (iI (what))), (27, .int (iI (k))), (28, .int (iI (8 * k))), (29, .int (iI (who))), (30, .int (iI (w)))]) hx hb dL_law_1309 hl (by decide) rfl (fun ls hl => ?_)
            refine lv_iload hx hb dL_law_1311 (lv_at hl 1 rfl) ?_
            refine xr_if_eq (tgt := 1339) hx hb dL_law_1313 (by decide) (by decide) (fun yy11 => absurd yy11 (by decide)) (fun _ => ?_)
            refine lv_iload hx hb dL_law_1316 (lv_at hl 0 rfl) ?_
            refine xr_if_eq (tgt := 1339) hx hb dL_law_1318 (by decide) (by decide) (fun _ => ?_) (fun yy12 => absurd yy12 (by decide))
            refine lv_aload hx hb dL_law_1339 (lv_at hl 17 rfl) ?_
            refine lv_iload hx hb dL_law_1341 (lv_at hl 32 rfl) ?_
            refine lv_iload hx hb dL_law_1343 (lv_at hl 1 rfl) ?_
            refine xr_if_eq (tgt := 1357) hx hb dL_law_1345 (by decide) (by decide) (fun yy13 => absurd yy13 (by decide)) (fun _ => ?_)
            refine lv_iload hx hb dL_law_1348 (lv_at hl 0 rfl) ?_
            refine xr_if_ne (tgt := 1357) hx hb dL_law_1350 (by decide) (by decide) (fun yy14 => absurd yy14 (by decide)) (fun _ => ?_)
            refine lv_iconst (v := iI (2)) hx hb dL_law_1353 rfl ?_
            refine lv_goto (tgt := 1362) hx hb dL_law_1354 (by decide) ?_
            refine ys_1005 (v := 2) hx hb hK hC hR hA2 hA1 hN12 hS (by omega) dL_law_1362 (fun H locs hC hR hS => ?_)
            have hM := gl_1005 hM (who) (v := 2) (by omega)
            refine lv_aload_n hx hb dL_law_1363 rfl (lv_at hl 11 rfl) ?_
            refine lv_bipush (v := iI (6)) hx hb dL_law_1364 (by decide) ?_
            refine lv_iload hx hb dL_law_1366 (lv_at hl 32 rfl) ?_
            refine lv_iload hx hb dL_law_1368 (lv_at hl 0 rfl) ?_
            refine xr_if_eq (tgt := 1377) hx hb dL_law_1370 (by decide) (by decide) (fun _ => ?_) (fun yy15 => absurd yy15 (by decide))
            refine lv_iconst (v := iI (0)) hx hb dL_law_1377 rfl ?_
            refine lv_iconst (v := iI (0)) hx hb dL_law_1378 rfl ?_
            refine lv_iconst (v := iI (0)) hx hb dL_law_1379 rfl ?_
            refine lw_act (f := 8) (lo := 138) (mc := 1) (ms := 6) (E := hearE sg who) (T := (hearT sg who 0)) hx hb hml hown hts hK hXS hXN hS hA1 hN12 hG hR h4 (c_act_6 hC hG hl0 (lw_hA hA hR) who 0 0 0 (by omega) (by omega)) ⟨by decide, by decide⟩ ⟨by omega, by omega⟩ hl.1 (Nat.le_of_ble_eq_true rfl) dL_law_1380 (fun ad H locs h4 hC hR hS => ?_)
            rw [if_pos hE] at hC
            rw [aR_0 hE]
            have hT : hearT sg who 0 = st sg 109 who 0 := by unfold hearT; rw [if_pos rfl, hiA]
            have hz := inv_of (s_hear hRel hG hGM who 0) hE
            rw [hT] at hz hC
            rw [hT, hiA, hd1]
            have hLR := o_hear0 hLR hG hV hwho h109
            refine lv_iload hx hb dL_law_1383 (lv_at hl 1 rfl) ?_
            refine xr_if_eq (tgt := 1402) hx hb dL_law_1385 (by decide) (by decide) (fun yy16 => absurd yy16 (by decide)) (fun _ => ?_)
            refine lv_aload_n hx hb dL_law_1388 rfl (lv_at hl 12 rfl) ?_
            refine lv_aload_n hx hb dL_law_1389 rfl (lv_at hl 13 rfl) ?_
            refine lv_aload hx hb dL_law_1390 (lv_at hl 17 rfl) ?_
            refine lv_iload hx hb dL_law_1392 (lv_at hl 6 rfl) ?_
            refine lv_iload hx hb dL_law_1394 (lv_at hl 2 rfl) ?_
            refine xk_pF (xr_S (As := [.ref (adM 20 0), .ref (adM 21 0), .ref (adM 25 0), .int (iI (sg 503 0)), .int (iI (mu 1000 ((8 * K) + 3)))]) (rest := [.long (lI (cntOpen (st sg 109 who 0) (mu 1000 (8 * K + 3))))]) hx hb hml hown hts hK (c_L_opens hR hM (sg 503 0) (mu 1000 ((8 * K) + 3)) (by omega) (by omega)) ms_L_opens kw_661 ⟨by decide, by decide⟩ ⟨by show _ ≤ 600104; omega, by show _ ≤ 7301314; omega⟩ rfl rfl hl.1 rfl (lv_room (Nat.le_of_ble_eq_true rfl)) dL_law_1396) ?_
            have hLT : LR (st sg 109 who 0) (st mu 1005 (who) (2)) := hLR
            have hop : lOpens (st mu 1005 (who) (2)) (sg 503 0) (mu 1000 (8 * K + 3)) = cntOpen (st sg 109 who 0) (mu 1000 (8 * K + 3)) := by have z := l_opens hz.2 hM hLT.2.1 hLT.2.2.1 hLT.2.2.2.2.2.1 hLT.2.2.2.2.2.2.1 (w := mu 1000 (8 * K + 3)) (by omega); exact z
            rw [hop]
            have hcr := cntOpen_rng (st sg 109 who 0) (mu 1000 (8 * K + 3))
            refine lv_goto (tgt := 1405) hx hb dL_law_1399 (by decide) ?_
            refine xr_i2l hx hb dL_law_1405 (by omega) ?_
            refine lw_leq hx hb dL_law_1406 (by first | rfl | omega | (rfl)) ?_
            refine xr_if_ne (tgt := 1414) hx hb dL_law_1407 (by decide) (by decide) (fun yy17 => absurd yy17 (by decide)) (fun _ => ?_)
            refine lv_iconst (v := iI (1)) hx hb dL_law_1410 rfl ?_
            refine lv_goto (tgt := 1415) hx hb dL_law_1411 (by decide) ?_
            refine lv_istore (i := 23) (lv' := [(23, .int (iI (1))), (35, .int (iI (0))), (34, .int (iI (1))), (33, .int (iI (mu 1000 ((8 * K) + 3)))), (32, .int (iI (1))), (31, .int (iI (8 * K))), (18, .int (iI (sg 503 0))), (19, .int (iI (sg 506 0))), (20, .long (lI (sg 510 0))), (24, .int (iI (turn))), (0, .ref b), (1, .ref hh), (2, .ref (adM 20 0)), (3, .ref (adM 21 0)), (4, .ref (adM 22 0)), (5, .ref (adM 23 0)), (6, .ref (adM 24 0)), (7, .ref (adM 25 0)), (8, .ref (adM 26 0)), (9, .ref (adM 27 0)), (10, .ref (adM 28 0)), (11, .ref (adM 29 0)), (12, .ref (adM 30 0)), (13, .ref (adM 31 0)), (14, .ref (adM 32 0)), (15, .ref (adM 33 0)), (16, .ref (adM 34 0)), (17, .ref (adM 35 0)), (25, .int (vx)), (26, .int (iI (what))), (27, .int (iI (k))), (28, .int (iI (8 * k))), (29, .int (iI (who))), (30, .int (iI (w)))]) hx hb dL_law_1415 hl (by decide) rfl (fun ls hl => ?_)
            refine lv_goto (tgt := 3115) hx hb dL_law_1417 (by decide) ?_
            refine W.widen (k := cells + 3) (n := slots + 45) (by omega) (by omega) ?_
            exact kk ad (st sg 109 who 0) (st mu 1005 (who) (2)) H locs ls _ _ _ ⟨hC, hR, h4, hLT, hz.1, hz.2, hM, hS⟩ (by show sg 702 0 ≤ sg 702 0 + 1; omega) rfl rfl rfl (lv_sub hl [0, 6, 7, 8, 9, 10, 11, 12, 13, 14, 15, 16, 17, 18, 19, 20, 21, 22, 23, 24, 25, 26, 27] rfl)
          · skip
            refine lv_iconst (v := iI (1)) hx hb dL_law_1304 rfl ?_
            refine lv_goto (tgt := 1309) hx hb dL_law_1305 (by decide) ?_
            refine lv_istore (i := 35) (lv' := [(35, .int (iI (1))), (34, .int (iI (1))), (33, .int (iI (mu 1000 ((8 * K) + 3)))), (32, .int (iI (1))), (31, .int (iI (8 * K))), (23, .int (iI (1))), (18, .int (iI (sg 503 0))), (19, .int (iI (sg 506 0))), (20, .long (lI (sg 510 0))), (24, .int (iI (turn))), (0, .ref b), (1, .ref hh), (2, .ref (adM 20 0)), (3, .ref (adM 21 0)), (4, .ref (adM 22 0)), (5, .ref (adM 23 0)), (6, .ref (adM 24 0)), (7, .ref (adM 25 0)), (8, .ref (adM 26 0)), (9, .ref (adM 27 0)), (10, .ref (adM 28 0)), (11, .ref (adM 29 0)), (12, .ref (adM 30 0)), (13, .ref (adM 31 0)), (14, .ref (adM 32 0)), (15, .ref (adM 33 0)), (16, .ref (adM 34 0)), (17, .ref (adM 35 0)), (25, .int (vx)), (26, .int (iI (what))), (27, .int (iI (k))), (28, .int (iI (8 * k))), (29, .int (iI (who))), (30, .int (iI (w)))]) hx hb dL_law_1309 hl (by decide) rfl (fun ls hl => ?_)
            refine lv_iload hx hb dL_law_1311 (lv_at hl 1 rfl) ?_
            refine xr_if_eq (tgt := 1339) hx hb dL_law_1313 (by decide) (by decide) (fun yy18 => absurd yy18 (by decide)) (fun _ => ?_)
            refine lv_iload hx hb dL_law_1316 (lv_at hl 0 rfl) ?_
            refine xr_if_eq (tgt := 1339) hx hb dL_law_1318 (by decide) (by decide) (fun yy19 => absurd yy19 (by decide)) (fun _ => ?_)
            refine lv_aload_n hx hb dL_law_1321 rfl (lv_at hl 12 rfl) ?_
            refine lv_aload_n hx hb dL_law_1322 rfl (lv_at hl 13 rfl) ?_
            refine lv_aload hx hb dL_law_1323 (lv_at hl 16 rfl) ?_
            refine lv_aload hx hb dL_law_1325 (lv_at hl 17 rfl) ?_
            refine lv_iload hx hb dL_law_1327 (lv_at hl 6 rfl) ?_
            refine lv_aload_n hx hb dL_law_1329 rfl (lv_at hl 13 rfl) ?_
            refine lv_bipush (v := iI (24)) hx hb dL_law_1330 (by decide) ?_
            refine lv_iload hx hb dL_law_1332 (lv_at hl 32 rfl) ?_
            refine xr_iadd hx hb dL_law_1334 ?_
            refine xa_1001 (v := K) hx hb hK hR (by omega) (hKe.symm) dL_law_1335 ?_
            refine lw_mut (xr_S (As := [.ref (adM 20 0), .ref (adM 21 0), .ref (adM 24 0), .ref (adM 25 0), .int (iI (sg 503 0)), .int (iI (K))]) (rest := []) hx hb hml hown hts hK (c_L_forget hR hM (sg 503 0) K (by omega) (by omega)) ms_L_forget kw_664 ⟨by decide, by decide⟩ ⟨by show _ ≤ 600104; omega, by show _ ≤ 7301314; omega⟩ rfl rfl hl.1 rfl (lv_room (Nat.le_of_ble_eq_true rfl)) dL_law_1336) hS hA2 hN12 hC (fun H locs hR hC hS => ?_)
            have hM := gl_lfN hM K (sg 503 0)
            show W p l e room_1 s m #[Value.ref b] below meth c H locs (cells + 0) (slots + 0) Q (F0 m 1339 ls [])
            refine lv_aload hx hb dL_law_1339 (lv_at hl 17 rfl) ?_
            refine lv_iload hx hb dL_law_1341 (lv_at hl 32 rfl) ?_
            refine lv_iload hx hb dL_law_1343 (lv_at hl 1 rfl) ?_
            refine xr_if_eq (tgt := 1357) hx hb dL_law_1345 (by decide) (by decide) (fun yy20 => absurd yy20 (by decide)) (fun _ => ?_)
            refine lv_iload hx hb dL_law_1348 (lv_at hl 0 rfl) ?_
            refine xr_if_ne (tgt := 1357) hx hb dL_law_1350 (by decide) (by decide) (fun _ => ?_) (fun yy21 => absurd yy21 (by decide))
            refine lv_aload hx hb dL_law_1357 (lv_at hl 17 rfl) ?_
            refine lv_iload hx hb dL_law_1359 (lv_at hl 32 rfl) ?_
            refine xa_1005 (v := (lfN mu K (sg 503 0)) 1005 who) hx hb hK hR (by omega) rfl dL_law_1361 ?_
            have g22 := ml_1005 hM (who)
            refine ys_1005 (v := (lfN mu K (sg 503 0)) 1005 who) hx hb hK hC hR hA2 hA1 hN12 hS (by omega) dL_law_1362 (fun H locs hC hR hS => ?_)
            have hM := gl_1005 hM (who) (v := (lfN mu K (sg 503 0)) 1005 who) (by omega)
            refine lv_aload_n hx hb dL_law_1363 rfl (lv_at hl 11 rfl) ?_
            refine lv_bipush (v := iI (6)) hx hb dL_law_1364 (by decide) ?_
            refine lv_iload hx hb dL_law_1366 (lv_at hl 32 rfl) ?_
            refine lv_iload hx hb dL_law_1368 (lv_at hl 0 rfl) ?_
            refine xr_if_eq (tgt := 1377) hx hb dL_law_1370 (by decide) (by decide) (fun yy23 => absurd yy23 (by decide)) (fun _ => ?_)
            refine lv_iconst (v := iI (1)) hx hb dL_law_1373 rfl ?_
            refine lv_goto (tgt := 1378) hx hb dL_law_1374 (by decide) ?_
            refine lv_iconst (v := iI (0)) hx hb dL_law_1378 rfl ?_
            refine lv_iconst (v := iI (0)) hx hb dL_law_1379 rfl ?_
            refine lw_act (f := 8) (lo := 138) (mc := 1) (ms := 6) (E := hearE sg who) (T := (hearT sg who 1)) hx hb hml hown hts hK hXS hXN hS hA1 hN12 hG hR h4 (c_act_6 hC hG hl0 (lw_hA hA hR) who 1 0 0 (by omega) (by omega)) ⟨by decide, by decide⟩ ⟨by omega, by omega⟩ hl.1 (Nat.le_of_ble_eq_true rfl) dL_law_1380 (fun ad H locs h4 hC hR hS => ?_)
            rw [if_pos hE] at hC
            rw [aR_0 hE]
            have hT : hearT sg who 1 = relT sg (pl K) := by unfold hearT; rw [if_neg (by decide), hiA, hKp]
            have hz := inv_of (s_hear hRel hG hGM who 1) hE
            rw [hT] at hz hC
            rw [hT, hiA, hd1]
            have h6 : sg 206 (pl K) = -1 := (inv_J1 hV (pl K) (by have := pl_rng K; omega) (by have := pl_rng K; omega)).mp hd3
            have hLR := o_rel hLR hG hM0 hK3 h6
            have e503 : relT sg (pl K) 503 0 = sg 503 0 := relT_o (by decide) (by decide) (by decide) (by decide) (by decide)
            refine lv_iload hx hb dL_law_1383 (lv_at hl 1 rfl) ?_
            refine xr_if_eq (tgt := 1402) hx hb dL_law_1385 (by decide) (by decide) (fun yy24 => absurd yy24 (by decide)) (fun _ => ?_)
            refine lv_aload_n hx hb dL_law_1388 rfl (lv_at hl 12 rfl) ?_
            refine lv_aload_n hx hb dL_law_1389 rfl (lv_at hl 13 rfl) ?_
            refine lv_aload hx hb dL_law_1390 (lv_at hl 17 rfl) ?_
            refine lv_iload hx hb dL_law_1392 (lv_at hl 6 rfl) ?_
            refine lv_iload hx hb dL_law_1394 (lv_at hl 2 rfl) ?_
            refine xk_pF (xr_S (As := [.ref (adM 20 0), .ref (adM 21 0), .ref (adM 25 0), .int (iI (sg 503 0)), .int (iI (mu 1000 ((8 * K) + 3)))]) (rest := [.long (lI (cntOpen (relT sg (pl K)) (mu 1000 (8 * K + 3))))]) hx hb hml hown hts hK (c_L_opens hR hM (sg 503 0) (mu 1000 ((8 * K) + 3)) (by omega) (by omega)) ms_L_opens kw_661 ⟨by decide, by decide⟩ ⟨by show _ ≤ 600104; omega, by show _ ≤ 7301314; omega⟩ rfl rfl hl.1 rfl (lv_room (Nat.le_of_ble_eq_true rfl)) dL_law_1396) ?_
            have hLT : LR (relT sg (pl K)) (st (lfN mu K (sg 503 0)) 1005 (who) ((lfN mu K (sg 503 0)) 1005 who)) := (by rw [st_id rfl]; exact hLR)
            have hop : lOpens (st (lfN mu K (sg 503 0)) 1005 (who) ((lfN mu K (sg 503 0)) 1005 who)) (sg 503 0) (mu 1000 (8 * K + 3)) = cntOpen (relT sg (pl K)) (mu 1000 (8 * K + 3)) := by have z := l_opens hz.2 hM hLT.2.1 hLT.2.2.1 hLT.2.2.2.2.2.1 hLT.2.2.2.2.2.2.1 (w := mu 1000 (8 * K + 3)) (by omega); rw [e503] at z; exact z
            rw [hop]
            have hcr := cntOpen_rng (relT sg (pl K)) (mu 1000 (8 * K + 3))
            refine lv_goto (tgt := 1405) hx hb dL_law_1399 (by decide) ?_
            refine xr_i2l hx hb dL_law_1405 (by omega) ?_
            refine lw_leq hx hb dL_law_1406 (by first | rfl | omega | (rfl)) ?_
            refine xr_if_ne (tgt := 1414) hx hb dL_law_1407 (by decide) (by decide) (fun yy25 => absurd yy25 (by decide)) (fun _ => ?_)
            refine lv_iconst (v := iI (1)) hx hb dL_law_1410 rfl ?_
            refine lv_goto (tgt := 1415) hx hb dL_law_1411 (by decide) ?_
            refine lv_istore (i := 23) (lv' := [(23, .int (iI (1))), (35, .int (iI (1))), (34, .int (iI (1))), (33, .int (iI (mu 1000 ((8 * K) + 3)))), (32, .int (iI (1))), (31, .int (iI (8 * K))), (18, .int (iI (sg 503 0))), (19, .int (iI (sg 506 0))), (20, .long (lI (sg 510 0))), (24, .int (iI (turn))), (0, .ref b), (1, .ref hh), (2, .ref (adM 20 0)), (3, .ref (adM 21 0)), (4, .ref (adM 22 0)), (5, .ref (adM 23 0)), (6, .ref (adM 24 0)), (7, .ref (adM 25 0)), (8, .ref (adM 26 0)), (9, .ref (adM 27 0)), (10, .ref (adM 28 0)), (11, .ref (adM 29 0)), (12, .ref (adM 30 0)), (13, .ref (adM 31 0)), (14, .ref (adM 32 0)), (15, .ref (adM 33 0)), (16, .ref (adM 34 0)), (17, .ref (adM 35 0)), (25, .int (vx)), (26, .int (iI (what))), (27, .int (iI (k))), (28, .int (iI (8 * k))), (29, .int (iI (who))), (30, .int (iI (w)))]) hx hb dL_law_1415 hl (by decide) rfl (fun ls hl => ?_)
            refine lv_goto (tgt := 3115) hx hb dL_law_1417 (by decide) ?_
            refine W.widen (k := cells + 3) (n := slots + 45) (by omega) (by omega) ?_
            exact kk ad ((relT sg (pl K))) (st (lfN mu K (sg 503 0)) 1005 (who) ((lfN mu K (sg 503 0)) 1005 who)) H locs ls _ _ _ ⟨hC, hR, h4, hLT, hz.1, hz.2, hM, hS⟩ (by rw [relT_o (by decide) (by decide) (by decide) (by decide) (by decide)]; omega) (relT_o (by decide) (by decide) (by decide) (by decide) (by decide)) (relT_o (by decide) (by decide) (by decide) (by decide) (by decide)) (relT_o (by decide) (by decide) (by decide) (by decide) (by decide)) (lv_sub hl [0, 6, 7, 8, 9, 10, 11, 12, 13, 14, 15, 16, 17, 18, 19, 20, 21, 22, 23, 24, 25, 26, 27] rfl)
        · rw [q8]
          have hE := (a_hear hLR hwho hd1).2 (fun z => p7 z.2)
          refine lv_istore (i := 34) (lv' := [(34, .int (iI (0))), (33, .int (iI (mu 1000 ((8 * K) + 3)))), (32, .int (iI (1))), (31, .int (iI (8 * K))), (23, .int (iI (1))), (18, .int (iI (sg 503 0))), (19, .int (iI (sg 506 0))), (20, .long (lI (sg 510 0))), (24, .int (iI (turn))), (0, .ref b), (1, .ref hh), (2, .ref (adM 20 0)), (3, .ref (adM 21 0)), (4, .ref (adM 22 0)), (5, .ref (adM 23 0)), (6, .ref (adM 24 0)), (7, .ref (adM 25 0)), (8, .ref (adM 26 0)), (9, .ref (adM 27 0)), (10, .ref (adM 28 0)), (11, .ref (adM 29 0)), (12, .ref (adM 30 0)), (13, .ref (adM 31 0)), (14, .ref (adM 32 0)), (15, .ref (adM 33 0)), (16, .ref (adM 34 0)), (17, .ref (adM 35 0)), (25, .int (vx)), (26, .int (iI (what))), (27, .int (iI (k))), (28, .int (iI (8 * k))), (29, .int (iI (who))), (30, .int (iI (w)))]) hx hb dL_law_1289 hl (by decide) rfl (fun ls hl => ?_)
          refine lv_iload hx hb dL_law_1291 (lv_at hl 27 rfl) ?_
          refine lv_sipush (v := iI (512)) hx hb dL_law_1293 (by decide) ?_
          refine lw_idiv hx hb (by decide) dL_law_1296 ?_
          refine lv_iconst (v := iI (3)) hx hb dL_law_1297 rfl ?_
          refine lw_up (n := 3) hx hb hml hown hts hK hl.1 ⟨by omega, by omega⟩ (by decide) (lv_room (Nat.le_of_ble_eq_true rfl)) dL_law_1298 (fun u26 u26a u26b => ?_)
          refine xr_if_ne (tgt := 1308) hx hb dL_law_1301 (by decide) (by omega) (fun yy27 => ?_) (fun yy27 => ?_)
          · skip
            refine lv_iconst (v := iI (0)) hx hb dL_law_1308 rfl ?_
            refine lv_istore (i := 35) (lv' := [(35, .int (iI (0))), (34, .int (iI (0))), (33, .int (iI (mu 1000 ((8 * K) + 3)))), (32, .int (iI (1))), (31, .int (iI (8 * K))), (23, .int (iI (1))), (18, .int (iI (sg 503 0))), (19, .int (iI (sg 506 0))), (20, .long (lI (sg 510 0))), (24, .int (iI (turn))), (0, .ref b), (1, .ref hh), (2, .ref (adM 20 0)), (3, .ref (adM 21 0)), (4, .ref (adM 22 0)), (5, .ref (adM 23 0)), (6, .ref (adM 24 0)), (7, .ref (adM 25 0)), (8, .ref (adM 26 0)), (9, .ref (adM 27 0)), (10, .ref (adM 28 0)), (11, .ref (adM 29 0)), (12, .ref (adM 30 0)), (13, .ref (adM 31 0)), (14, .ref (adM 32 0)), (15, .ref (adM 33 0)), (16, .ref (adM 34 0)), (17, .ref (adM 35 0)), (25, .int (vx)), (26, .int (iI (what))), (27, .int (iI (k))), (28, .int (iI (8 * k))), (29, .int (iI (who))), (30, .int (iI (w)))]) hx hb dL_law_1309 hl (by decide) rfl (fun ls hl => ?_)
            refine lv_iload hx hb dL_law_1311 (lv_at hl 1 rfl) ?_
            refine xr_if_eq (tgt := 1339) hx hb dL_law_1313 (by decide) (by decide) (fun _ => ?_) (fun yy28 => absurd yy28 (by decide))
            refine lv_aload hx hb dL_law_1339 (lv_at hl 17 rfl) ?_
            refine lv_iload hx hb dL_law_1341 (lv_at hl 32 rfl) ?_
            refine lv_iload hx hb dL_law_1343 (lv_at hl 1 rfl) ?_
            refine xr_if_eq (tgt := 1357) hx hb dL_law_1345 (by decide) (by decide) (fun _ => ?_) (fun yy29 => absurd yy29 (by decide))
            refine lv_aload hx hb dL_law_1357 (lv_at hl 17 rfl) ?_
            refine lv_iload hx hb dL_law_1359 (lv_at hl 32 rfl) ?_
            refine xa_1005 (v := mu 1005 who) hx hb hK hR (by omega) rfl dL_law_1361 ?_
            have g30 := ml_1005 hM0 (who)
            refine ys_1005 (v := mu 1005 who) hx hb hK hC hR hA2 hA1 hN12 hS (by omega) dL_law_1362 (fun H locs hC hR hS => ?_)
            have hM := gl_1005 hM (who) (v := mu 1005 who) (by omega)
            refine lv_aload_n hx hb dL_law_1363 rfl (lv_at hl 11 rfl) ?_
            refine lv_bipush (v := iI (6)) hx hb dL_law_1364 (by decide) ?_
            refine lv_iload hx hb dL_law_1366 (lv_at hl 32 rfl) ?_
            refine lv_iload hx hb dL_law_1368 (lv_at hl 0 rfl) ?_
            refine xr_if_eq (tgt := 1377) hx hb dL_law_1370 (by decide) (by decide) (fun _ => ?_) (fun yy31 => absurd yy31 (by decide))
            refine lv_iconst (v := iI (0)) hx hb dL_law_1377 rfl ?_
            refine lv_iconst (v := iI (0)) hx hb dL_law_1378 rfl ?_
            refine lv_iconst (v := iI (0)) hx hb dL_law_1379 rfl ?_
            refine lw_act (f := 8) (lo := 138) (mc := 1) (ms := 6) (E := hearE sg who) (T := (hearT sg who 0)) hx hb hml hown hts hK hXS hXN hS hA1 hN12 hG hR h4 (c_act_6 hC hG hl0 (lw_hA hA hR) who 0 0 0 (by omega) (by omega)) ⟨by decide, by decide⟩ ⟨by omega, by omega⟩ hl.1 (Nat.le_of_ble_eq_true rfl) dL_law_1380 (fun ad H locs h4 hC hR hS => ?_)
            rw [if_neg (by rw [hE]; decide)] at hC
            rw [aR_n (by rw [hE]; decide), hE]
            refine lv_iload hx hb dL_law_1383 (lv_at hl 1 rfl) ?_
            refine xr_if_eq (tgt := 1402) hx hb dL_law_1385 (by decide) (by decide) (fun _ => ?_) (fun yy32 => absurd yy32 (by decide))
            refine lv_sipush (v := iI (-1003)) hx hb dL_law_1402 (by decide) ?_
            refine xr_i2l hx hb dL_law_1405 (by omega) ?_
            refine lw_leq hx hb dL_law_1406 (by first | rfl | omega | (rfl)) ?_
            refine xr_if_ne (tgt := 1414) hx hb dL_law_1407 (by decide) (by decide) (fun yy33 => absurd yy33 (by decide)) (fun _ => ?_)
            refine lv_iconst (v := iI (1)) hx hb dL_law_1410 rfl ?_
            refine lv_goto (tgt := 1415) hx hb dL_law_1411 (by decide) ?_
            refine lv_istore (i := 23) (lv' := [(23, .int (iI (1))), (35, .int (iI (0))), (34, .int (iI (0))), (33, .int (iI (mu 1000 ((8 * K) + 3)))), (32, .int (iI (1))), (31, .int (iI (8 * K))), (18, .int (iI (sg 503 0))), (19, .int (iI (sg 506 0))), (20, .long (lI (sg 510 0))), (24, .int (iI (turn))), (0, .ref b), (1, .ref hh), (2, .ref (adM 20 0)), (3, .ref (adM 21 0)), (4, .ref (adM 22 0)), (5, .ref (adM 23 0)), (6, .ref (adM 24 0)), (7, .ref (adM 25 0)), (8, .ref (adM 26 0)), (9, .ref (adM 27 0)), (10, .ref (adM 28 0)), (11, .ref (adM 29 0)), (12, .ref (adM 30 0)), (13, .ref (adM 31 0)), (14, .ref (adM 32 0)), (15, .ref (adM 33 0)), (16, .ref (adM 34 0)), (17, .ref (adM 35 0)), (25, .int (vx)), (26, .int (iI (what))), (27, .int (iI (k))), (28, .int (iI (8 * k))), (29, .int (iI (who))), (30, .int (iI (w)))]) hx hb dL_law_1415 hl (by decide) rfl (fun ls hl => ?_)
            refine lv_goto (tgt := 3115) hx hb dL_law_1417 (by decide) ?_
            refine W.widen (k := cells + 3) (n := slots + 45) (by omega) (by omega) ?_
            exact kk ad sg (st mu 1005 (who) (mu 1005 who)) H locs ls _ _ _ ⟨hC, hR, h4, (by rw [st_id rfl]; exact hLR), hV, hG, hM, hS⟩ (by omega) rfl rfl rfl (lv_sub hl [0, 6, 7, 8, 9, 10, 11, 12, 13, 14, 15, 16, 17, 18, 19, 20, 21, 22, 23, 24, 25, 26, 27] rfl)
          · skip
            refine lv_iconst (v := iI (1)) hx hb dL_law_1304 rfl ?_
            refine lv_goto (tgt := 1309) hx hb dL_law_1305 (by decide) ?_
            refine lv_istore (i := 35) (lv' := [(35, .int (iI (1))), (34, .int (iI (0))), (33, .int (iI (mu 1000 ((8 * K) + 3)))), (32, .int (iI (1))), (31, .int (iI (8 * K))), (23, .int (iI (1))), (18, .int (iI (sg 503 0))), (19, .int (iI (sg 506 0))), (20, .long (lI (sg 510 0))), (24, .int (iI (turn))), (0, .ref b), (1, .ref hh), (2, .ref (adM 20 0)), (3, .ref (adM 21 0)), (4, .ref (adM 22 0)), (5, .ref (adM 23 0)), (6, .ref (adM 24 0)), (7, .ref (adM 25 0)), (8, .ref (adM 26 0)), (9, .ref (adM 27 0)), (10, .ref (adM 28 0)), (11, .ref (adM 29 0)), (12, .ref (adM 30 0)), (13, .ref (adM 31 0)), (14, .ref (adM 32 0)), (15, .ref (adM 33 0)), (16, .ref (adM 34 0)), (17, .ref (adM 35 0)), (25, .int (vx)), (26, .int (iI (what))), (27, .int (iI (k))), (28, .int (iI (8 * k))), (29, .int (iI (who))), (30, .int (iI (w)))]) hx hb dL_law_1309 hl (by decide) rfl (fun ls hl => ?_)
            refine lv_iload hx hb dL_law_1311 (lv_at hl 1 rfl) ?_
            refine xr_if_eq (tgt := 1339) hx hb dL_law_1313 (by decide) (by decide) (fun _ => ?_) (fun yy34 => absurd yy34 (by decide))
            refine lv_aload hx hb dL_law_1339 (lv_at hl 17 rfl) ?_
            refine lv_iload hx hb dL_law_1341 (lv_at hl 32 rfl) ?_
            refine lv_iload hx hb dL_law_1343 (lv_at hl 1 rfl) ?_
            refine xr_if_eq (tgt := 1357) hx hb dL_law_1345 (by decide) (by decide) (fun _ => ?_) (fun yy35 => absurd yy35 (by decide))
            refine lv_aload hx hb dL_law_1357 (lv_at hl 17 rfl) ?_
            refine lv_iload hx hb dL_law_1359 (lv_at hl 32 rfl) ?_
            refine xa_1005 (v := mu 1005 who) hx hb hK hR (by omega) rfl dL_law_1361 ?_
            have g36 := ml_1005 hM0 (who)
            refine ys_1005 (v := mu 1005 who) hx hb hK hC hR hA2 hA1 hN12 hS (by omega) dL_law_1362 (fun H locs hC hR hS => ?_)
            have hM := gl_1005 hM (who) (v := mu 1005 who) (by omega)
            refine lv_aload_n hx hb dL_law_1363 rfl (lv_at hl 11 rfl) ?_
            refine lv_bipush (v := iI (6)) hx hb dL_law_1364 (by decide) ?_
            refine lv_iload hx hb dL_law_1366 (lv_at hl 32 rfl) ?_
            refine lv_iload hx hb dL_law_1368 (lv_at hl 0 rfl) ?_
            refine xr_if_eq (tgt := 1377) hx hb dL_law_1370 (by decide) (by decide) (fun yy37 => absurd yy37 (by decide)) (fun _ => ?_)
            refine lv_iconst (v := iI (1)) hx hb dL_law_1373 rfl ?_
            refine lv_goto (tgt := 1378) hx hb dL_law_1374 (by decide) ?_
            refine lv_iconst (v := iI (0)) hx hb dL_law_1378 rfl ?_
            refine lv_iconst (v := iI (0)) hx hb dL_law_1379 rfl ?_
            refine lw_act (f := 8) (lo := 138) (mc := 1) (ms := 6) (E := hearE sg who) (T := (hearT sg who 1)) hx hb hml hown hts hK hXS hXN hS hA1 hN12 hG hR h4 (c_act_6 hC hG hl0 (lw_hA hA hR) who 1 0 0 (by omega) (by omega)) ⟨by decide, by decide⟩ ⟨by omega, by omega⟩ hl.1 (Nat.le_of_ble_eq_true rfl) dL_law_1380 (fun ad H locs h4 hC hR hS => ?_)
            rw [if_neg (by rw [hE]; decide)] at hC
            rw [aR_n (by rw [hE]; decide), hE]
            refine lv_iload hx hb dL_law_1383 (lv_at hl 1 rfl) ?_
            refine xr_if_eq (tgt := 1402) hx hb dL_law_1385 (by decide) (by decide) (fun _ => ?_) (fun yy38 => absurd yy38 (by decide))
            refine lv_sipush (v := iI (-1003)) hx hb dL_law_1402 (by decide) ?_
            refine xr_i2l hx hb dL_law_1405 (by omega) ?_
            refine lw_leq hx hb dL_law_1406 (by first | rfl | omega | (rfl)) ?_
            refine xr_if_ne (tgt := 1414) hx hb dL_law_1407 (by decide) (by decide) (fun yy39 => absurd yy39 (by decide)) (fun _ => ?_)
            refine lv_iconst (v := iI (1)) hx hb dL_law_1410 rfl ?_
            refine lv_goto (tgt := 1415) hx hb dL_law_1411 (by decide) ?_
            refine lv_istore (i := 23) (lv' := [(23, .int (iI (1))), (35, .int (iI (1))), (34, .int (iI (0))), (33, .int (iI (mu 1000 ((8 * K) + 3)))), (32, .int (iI (1))), (31, .int (iI (8 * K))), (18, .int (iI (sg 503 0))), (19, .int (iI (sg 506 0))), (20, .long (lI (sg 510 0))), (24, .int (iI (turn))), (0, .ref b), (1, .ref hh), (2, .ref (adM 20 0)), (3, .ref (adM 21 0)), (4, .ref (adM 22 0)), (5, .ref (adM 23 0)), (6, .ref (adM 24 0)), (7, .ref (adM 25 0)), (8, .ref (adM 26 0)), (9, .ref (adM 27 0)), (10, .ref (adM 28 0)), (11, .ref (adM 29 0)), (12, .ref (adM 30 0)), (13, .ref (adM 31 0)), (14, .ref (adM 32 0)), (15, .ref (adM 33 0)), (16, .ref (adM 34 0)), (17, .ref (adM 35 0)), (25, .int (vx)), (26, .int (iI (what))), (27, .int (iI (k))), (28, .int (iI (8 * k))), (29, .int (iI (who))), (30, .int (iI (w)))]) hx hb dL_law_1415 hl (by decide) rfl (fun ls hl => ?_)
            refine lv_goto (tgt := 3115) hx hb dL_law_1417 (by decide) ?_
            refine W.widen (k := cells + 3) (n := slots + 45) (by omega) (by omega) ?_
            exact kk ad sg (st mu 1005 (who) (mu 1005 who)) H locs ls _ _ _ ⟨hC, hR, h4, (by rw [st_id rfl]; exact hLR), hV, hG, hM, hS⟩ (by omega) rfl rfl rfl (lv_sub hl [0, 6, 7, 8, 9, 10, 11, 12, 13, 14, 15, 16, 17, 18, 19, 20, 21, 22, 23, 24, 25, 26, 27] rfl)
      refine lv_aload hx hb dL_law_1275 (lv_at hl 15 rfl) ?_
      refine lv_iload hx hb dL_law_1277 (lv_at hl 30 rfl) ?_
      refine xa_1005 (v := mu 1005 who) hx hb hK hR (by omega) rfl dL_law_1279 ?_
      have g40 := ml_1005 hM0 (who)
      refine lv_iconst (v := iI (1)) hx hb dL_law_1280 rfl ?_
      refine xr_icmp_ne (tgt := 1288) hx hb dL_law_1281 (by decide) (by omega) (by omega) (fun yy41 => ?_) (fun yy41 => ?_)
      · skip
        refine lv_iconst (v := iI (0)) hx hb dL_law_1288 rfl ?_
        exact w_topI (by first | exact (bI_t (by first | omega | grind)).symm | exact (bI_f (by first | omega | grind)).symm) J1289
      · skip
        refine lv_iconst (v := iI (1)) hx hb dL_law_1284 rfl ?_
        refine lv_goto (tgt := 1289) hx hb dL_law_1285 (by decide) ?_
        exact w_topI (by first | exact (bI_t (by first | omega | grind)).symm | exact (bI_f (by first | omega | grind)).symm) J1289
    · rw [q2]
      have hd1 := hdr0 p1
      have hE := (a_hear hLR hwho hd1).2 (by omega)
      refine lv_istore (i := 32) (lv' := [(32, .int (iI (0))), (31, .int (iI (8 * K))), (23, .int (iI (1))), (18, .int (iI (sg 503 0))), (19, .int (iI (sg 506 0))), (20, .long (lI (sg 510 0))), (24, .int (iI (turn))), (0, .ref b), (1, .ref hh), (2, .ref (adM 20 0)), (3, .ref (adM 21 0)), (4, .ref (adM 22 0)), (5, .ref (adM 23 0)), (6, .ref (adM 24 0)), (7, .ref (adM 25 0)), (8, .ref (adM 26 0)), (9, .ref (adM 27 0)), (10, .ref (adM 28 0)), (11, .ref (adM 29 0)), (12, .ref (adM 30 0)), (13, .ref (adM 31 0)), (14, .ref (adM 32 0)), (15, .ref (adM 33 0)), (16, .ref (adM 34 0)), (17, .ref (adM 35 0)), (25, .int (vx)), (26, .int (iI (what))), (27, .int (iI (k))), (28, .int (iI (8 * k))), (29, .int (iI (who))), (30, .int (iI (w)))]) hx hb dL_law_1061 hl (by decide) rfl (fun ls hl => ?_)
      refine lv_aload_n hx hb dL_law_1063 rfl (lv_at hl 9 rfl) ?_
      refine lv_iload hx hb dL_law_1064 (lv_at hl 1 rfl) ?_
      refine lv_iconst (v := iI (3)) hx hb dL_law_1066 rfl ?_
      refine xr_iadd hx hb dL_law_1067 ?_
      refine xa_1000 (v := mu 1000 ((8 * K) + 3)) hx hb hK hR (by omega) rfl dL_law_1068 ?_
      have g42 := ml_1000 hM0 ((8 * K) + 3)
      refine lv_istore (i := 33) (lv' := [(33, .int (iI (mu 1000 ((8 * K) + 3)))), (32, .int (iI (0))), (31, .int (iI (8 * K))), (23, .int (iI (1))), (18, .int (iI (sg 503 0))), (19, .int (iI (sg 506 0))), (20, .long (lI (sg 510 0))), (24, .int (iI (turn))), (0, .ref b), (1, .ref hh), (2, .ref (adM 20 0)), (3, .ref (adM 21 0)), (4, .ref (adM 22 0)), (5, .ref (adM 23 0)), (6, .ref (adM 24 0)), (7, .ref (adM 25 0)), (8, .ref (adM 26 0)), (9, .ref (adM 27 0)), (10, .ref (adM 28 0)), (11, .ref (adM 29 0)), (12, .ref (adM 30 0)), (13, .ref (adM 31 0)), (14, .ref (adM 32 0)), (15, .ref (adM 33 0)), (16, .ref (adM 34 0)), (17, .ref (adM 35 0)), (25, .int (vx)), (26, .int (iI (what))), (27, .int (iI (k))), (28, .int (iI (8 * k))), (29, .int (iI (who))), (30, .int (iI (w)))]) hx hb dL_law_1069 hl (by decide) rfl (fun ls hl => ?_)
      refine lv_iload hx hb dL_law_1071 (lv_at hl 27 rfl) ?_
      refine lv_bipush (v := iI (10)) hx hb dL_law_1073 (by decide) ?_
      refine xr_icmp_ge (tgt := 1156) hx hb dL_law_1075 (by decide) (by omega) (by omega) (fun yy43 => ?_) (fun yy43 => absurd yy43 (by omega))
      refine lv_iload hx hb dL_law_1156 (lv_at hl 27 rfl) ?_
      refine lv_bipush (v := iI (12)) hx hb dL_law_1158 (by decide) ?_
      refine xr_icmp_ge (tgt := 1270) hx hb dL_law_1160 (by decide) (by omega) (by omega) (fun yy44 => ?_) (fun yy44 => absurd yy44 (by omega))
      refine lv_iload hx hb dL_law_1270 (lv_at hl 1 rfl) ?_
      refine xr_if_eq (tgt := 1288) hx hb dL_law_1272 (by decide) (by decide) (fun _ => ?_) (fun yy45 => absurd yy45 (by decide))
      refine lv_iconst (v := iI (0)) hx hb dL_law_1288 rfl ?_
      refine lv_istore (i := 34) (lv' := [(34, .int (iI (0))), (33, .int (iI (mu 1000 ((8 * K) + 3)))), (32, .int (iI (0))), (31, .int (iI (8 * K))), (23, .int (iI (1))), (18, .int (iI (sg 503 0))), (19, .int (iI (sg 506 0))), (20, .long (lI (sg 510 0))), (24, .int (iI (turn))), (0, .ref b), (1, .ref hh), (2, .ref (adM 20 0)), (3, .ref (adM 21 0)), (4, .ref (adM 22 0)), (5, .ref (adM 23 0)), (6, .ref (adM 24 0)), (7, .ref (adM 25 0)), (8, .ref (adM 26 0)), (9, .ref (adM 27 0)), (10, .ref (adM 28 0)), (11, .ref (adM 29 0)), (12, .ref (adM 30 0)), (13, .ref (adM 31 0)), (14, .ref (adM 32 0)), (15, .ref (adM 33 0)), (16, .ref (adM 34 0)), (17, .ref (adM 35 0)), (25, .int (vx)), (26, .int (iI (what))), (27, .int (iI (k))), (28, .int (iI (8 * k))), (29, .int (iI (who))), (30, .int (iI (w)))]) hx hb dL_law_1289 hl (by decide) rfl (fun ls hl => ?_)
      refine lv_iload hx hb dL_law_1291 (lv_at hl 27 rfl) ?_
      refine lv_sipush (v := iI (512)) hx hb dL_law_1293 (by decide) ?_
      refine lw_idiv hx hb (by decide) dL_law_1296 ?_
      refine lv_iconst (v := iI (3)) hx hb dL_law_1297 rfl ?_
      refine lw_up (n := 3) hx hb hml hown hts hK hl.1 ⟨by omega, by omega⟩ (by decide) (lv_room (Nat.le_of_ble_eq_true rfl)) dL_law_1298 (fun u46 u46a u46b => ?_)
      refine xr_if_ne (tgt := 1308) hx hb dL_law_1301 (by decide) (by omega) (fun yy47 => ?_) (fun yy47 => ?_)
      · skip
        refine lv_iconst (v := iI (0)) hx hb dL_law_1308 rfl ?_
        refine lv_istore (i := 35) (lv' := [(35, .int (iI (0))), (34, .int (iI (0))), (33, .int (iI (mu 1000 ((8 * K) + 3)))), (32, .int (iI (0))), (31, .int (iI (8 * K))), (23, .int (iI (1))), (18, .int (iI (sg 503 0))), (19, .int (iI (sg 506 0))), (20, .long (lI (sg 510 0))), (24, .int (iI (turn))), (0, .ref b), (1, .ref hh), (2, .ref (adM 20 0)), (3, .ref (adM 21 0)), (4, .ref (adM 22 0)), (5, .ref (adM 23 0)), (6, .ref (adM 24 0)), (7, .ref (adM 25 0)), (8, .ref (adM 26 0)), (9, .ref (adM 27 0)), (10, .ref (adM 28 0)), (11, .ref (adM 29 0)), (12, .ref (adM 30 0)), (13, .ref (adM 31 0)), (14, .ref (adM 32 0)), (15, .ref (adM 33 0)), (16, .ref (adM 34 0)), (17, .ref (adM 35 0)), (25, .int (vx)), (26, .int (iI (what))), (27, .int (iI (k))), (28, .int (iI (8 * k))), (29, .int (iI (who))), (30, .int (iI (w)))]) hx hb dL_law_1309 hl (by decide) rfl (fun ls hl => ?_)
        refine lv_iload hx hb dL_law_1311 (lv_at hl 1 rfl) ?_
        refine xr_if_eq (tgt := 1339) hx hb dL_law_1313 (by decide) (by decide) (fun _ => ?_) (fun yy48 => absurd yy48 (by decide))
        refine lv_aload hx hb dL_law_1339 (lv_at hl 17 rfl) ?_
        refine lv_iload hx hb dL_law_1341 (lv_at hl 32 rfl) ?_
        refine lv_iload hx hb dL_law_1343 (lv_at hl 1 rfl) ?_
        refine xr_if_eq (tgt := 1357) hx hb dL_law_1345 (by decide) (by decide) (fun _ => ?_) (fun yy49 => absurd yy49 (by decide))
        refine lv_aload hx hb dL_law_1357 (lv_at hl 17 rfl) ?_
        refine lv_iload hx hb dL_law_1359 (lv_at hl 32 rfl) ?_
        refine xa_1005 (v := mu 1005 who) hx hb hK hR (by omega) rfl dL_law_1361 ?_
        have g50 := ml_1005 hM0 (who)
        refine ys_1005 (v := mu 1005 who) hx hb hK hC hR hA2 hA1 hN12 hS (by omega) dL_law_1362 (fun H locs hC hR hS => ?_)
        have hM := gl_1005 hM (who) (v := mu 1005 who) (by omega)
        refine lv_aload_n hx hb dL_law_1363 rfl (lv_at hl 11 rfl) ?_
        refine lv_bipush (v := iI (6)) hx hb dL_law_1364 (by decide) ?_
        refine lv_iload hx hb dL_law_1366 (lv_at hl 32 rfl) ?_
        refine lv_iload hx hb dL_law_1368 (lv_at hl 0 rfl) ?_
        refine xr_if_eq (tgt := 1377) hx hb dL_law_1370 (by decide) (by decide) (fun _ => ?_) (fun yy51 => absurd yy51 (by decide))
        refine lv_iconst (v := iI (0)) hx hb dL_law_1377 rfl ?_
        refine lv_iconst (v := iI (0)) hx hb dL_law_1378 rfl ?_
        refine lv_iconst (v := iI (0)) hx hb dL_law_1379 rfl ?_
        refine lw_act (f := 8) (lo := 138) (mc := 1) (ms := 6) (E := hearE sg who) (T := (hearT sg who 0)) hx hb hml hown hts hK hXS hXN hS hA1 hN12 hG hR h4 (c_act_6 hC hG hl0 (lw_hA hA hR) who 0 0 0 (by omega) (by omega)) ⟨by decide, by decide⟩ ⟨by omega, by omega⟩ hl.1 (Nat.le_of_ble_eq_true rfl) dL_law_1380 (fun ad H locs h4 hC hR hS => ?_)
        rw [if_neg (by rw [hE]; decide)] at hC
        rw [aR_n (by rw [hE]; decide), hE]
        refine lv_iload hx hb dL_law_1383 (lv_at hl 1 rfl) ?_
        refine xr_if_eq (tgt := 1402) hx hb dL_law_1385 (by decide) (by decide) (fun _ => ?_) (fun yy52 => absurd yy52 (by decide))
        refine lv_sipush (v := iI (-1003)) hx hb dL_law_1402 (by decide) ?_
        refine xr_i2l hx hb dL_law_1405 (by omega) ?_
        refine lw_leq hx hb dL_law_1406 (by first | rfl | omega | (rfl)) ?_
        refine xr_if_ne (tgt := 1414) hx hb dL_law_1407 (by decide) (by decide) (fun yy53 => absurd yy53 (by decide)) (fun _ => ?_)
        refine lv_iconst (v := iI (1)) hx hb dL_law_1410 rfl ?_
        refine lv_goto (tgt := 1415) hx hb dL_law_1411 (by decide) ?_
        refine lv_istore (i := 23) (lv' := [(23, .int (iI (1))), (35, .int (iI (0))), (34, .int (iI (0))), (33, .int (iI (mu 1000 ((8 * K) + 3)))), (32, .int (iI (0))), (31, .int (iI (8 * K))), (18, .int (iI (sg 503 0))), (19, .int (iI (sg 506 0))), (20, .long (lI (sg 510 0))), (24, .int (iI (turn))), (0, .ref b), (1, .ref hh), (2, .ref (adM 20 0)), (3, .ref (adM 21 0)), (4, .ref (adM 22 0)), (5, .ref (adM 23 0)), (6, .ref (adM 24 0)), (7, .ref (adM 25 0)), (8, .ref (adM 26 0)), (9, .ref (adM 27 0)), (10, .ref (adM 28 0)), (11, .ref (adM 29 0)), (12, .ref (adM 30 0)), (13, .ref (adM 31 0)), (14, .ref (adM 32 0)), (15, .ref (adM 33 0)), (16, .ref (adM 34 0)), (17, .ref (adM 35 0)), (25, .int (vx)), (26, .int (iI (what))), (27, .int (iI (k))), (28, .int (iI (8 * k))), (29, .int (iI (who))), (30, .int (iI (w)))]) hx hb dL_law_1415 hl (by decide) rfl (fun ls hl => ?_)
        refine lv_goto (tgt := 3115) hx hb dL_law_1417 (by decide) ?_
        refine W.widen (k := cells + 3) (n := slots + 45) (by omega) (by omega) ?_
        exact kk ad sg (st mu 1005 (who) (mu 1005 who)) H locs ls _ _ _ ⟨hC, hR, h4, (by rw [st_id rfl]; exact hLR), hV, hG, hM, hS⟩ (by omega) rfl rfl rfl (lv_sub hl [0, 6, 7, 8, 9, 10, 11, 12, 13, 14, 15, 16, 17, 18, 19, 20, 21, 22, 23, 24, 25, 26, 27] rfl)
      · skip
        refine lv_iconst (v := iI (1)) hx hb dL_law_1304 rfl ?_
        refine lv_goto (tgt := 1309) hx hb dL_law_1305 (by decide) ?_
        refine lv_istore (i := 35) (lv' := [(35, .int (iI (1))), (34, .int (iI (0))), (33, .int (iI (mu 1000 ((8 * K) + 3)))), (32, .int (iI (0))), (31, .int (iI (8 * K))), (23, .int (iI (1))), (18, .int (iI (sg 503 0))), (19, .int (iI (sg 506 0))), (20, .long (lI (sg 510 0))), (24, .int (iI (turn))), (0, .ref b), (1, .ref hh), (2, .ref (adM 20 0)), (3, .ref (adM 21 0)), (4, .ref (adM 22 0)), (5, .ref (adM 23 0)), (6, .ref (adM 24 0)), (7, .ref (adM 25 0)), (8, .ref (adM 26 0)), (9, .ref (adM 27 0)), (10, .ref (adM 28 0)), (11, .ref (adM 29 0)), (12, .ref (adM 30 0)), (13, .ref (adM 31 0)), (14, .ref (adM 32 0)), (15, .ref (adM 33 0)), (16, .ref (adM 34 0)), (17, .ref (adM 35 0)), (25, .int (vx)), (26, .int (iI (what))), (27, .int (iI (k))), (28, .int (iI (8 * k))), (29, .int (iI (who))), (30, .int (iI (w)))]) hx hb dL_law_1309 hl (by decide) rfl (fun ls hl => ?_)
        refine lv_iload hx hb dL_law_1311 (lv_at hl 1 rfl) ?_
        refine xr_if_eq (tgt := 1339) hx hb dL_law_1313 (by decide) (by decide) (fun _ => ?_) (fun yy54 => absurd yy54 (by decide))
        refine lv_aload hx hb dL_law_1339 (lv_at hl 17 rfl) ?_
        refine lv_iload hx hb dL_law_1341 (lv_at hl 32 rfl) ?_
        refine lv_iload hx hb dL_law_1343 (lv_at hl 1 rfl) ?_
        refine xr_if_eq (tgt := 1357) hx hb dL_law_1345 (by decide) (by decide) (fun _ => ?_) (fun yy55 => absurd yy55 (by decide))
        refine lv_aload hx hb dL_law_1357 (lv_at hl 17 rfl) ?_
        refine lv_iload hx hb dL_law_1359 (lv_at hl 32 rfl) ?_
        refine xa_1005 (v := mu 1005 who) hx hb hK hR (by omega) rfl dL_law_1361 ?_
        have g56 := ml_1005 hM0 (who)
        refine ys_1005 (v := mu 1005 who) hx hb hK hC hR hA2 hA1 hN12 hS (by omega) dL_law_1362 (fun H locs hC hR hS => ?_)
        have hM := gl_1005 hM (who) (v := mu 1005 who) (by omega)
        refine lv_aload_n hx hb dL_law_1363 rfl (lv_at hl 11 rfl) ?_
        refine lv_bipush (v := iI (6)) hx hb dL_law_1364 (by decide) ?_
        refine lv_iload hx hb dL_law_1366 (lv_at hl 32 rfl) ?_
        refine lv_iload hx hb dL_law_1368 (lv_at hl 0 rfl) ?_
        refine xr_if_eq (tgt := 1377) hx hb dL_law_1370 (by decide) (by decide) (fun yy57 => absurd yy57 (by decide)) (fun _ => ?_)
        refine lv_iconst (v := iI (1)) hx hb dL_law_1373 rfl ?_
        refine lv_goto (tgt := 1378) hx hb dL_law_1374 (by decide) ?_
        refine lv_iconst (v := iI (0)) hx hb dL_law_1378 rfl ?_
        refine lv_iconst (v := iI (0)) hx hb dL_law_1379 rfl ?_
        refine lw_act (f := 8) (lo := 138) (mc := 1) (ms := 6) (E := hearE sg who) (T := (hearT sg who 1)) hx hb hml hown hts hK hXS hXN hS hA1 hN12 hG hR h4 (c_act_6 hC hG hl0 (lw_hA hA hR) who 1 0 0 (by omega) (by omega)) ⟨by decide, by decide⟩ ⟨by omega, by omega⟩ hl.1 (Nat.le_of_ble_eq_true rfl) dL_law_1380 (fun ad H locs h4 hC hR hS => ?_)
        rw [if_neg (by rw [hE]; decide)] at hC
        rw [aR_n (by rw [hE]; decide), hE]
        refine lv_iload hx hb dL_law_1383 (lv_at hl 1 rfl) ?_
        refine xr_if_eq (tgt := 1402) hx hb dL_law_1385 (by decide) (by decide) (fun _ => ?_) (fun yy58 => absurd yy58 (by decide))
        refine lv_sipush (v := iI (-1003)) hx hb dL_law_1402 (by decide) ?_
        refine xr_i2l hx hb dL_law_1405 (by omega) ?_
        refine lw_leq hx hb dL_law_1406 (by first | rfl | omega | (rfl)) ?_
        refine xr_if_ne (tgt := 1414) hx hb dL_law_1407 (by decide) (by decide) (fun yy59 => absurd yy59 (by decide)) (fun _ => ?_)
        refine lv_iconst (v := iI (1)) hx hb dL_law_1410 rfl ?_
        refine lv_goto (tgt := 1415) hx hb dL_law_1411 (by decide) ?_
        refine lv_istore (i := 23) (lv' := [(23, .int (iI (1))), (35, .int (iI (1))), (34, .int (iI (0))), (33, .int (iI (mu 1000 ((8 * K) + 3)))), (32, .int (iI (0))), (31, .int (iI (8 * K))), (18, .int (iI (sg 503 0))), (19, .int (iI (sg 506 0))), (20, .long (lI (sg 510 0))), (24, .int (iI (turn))), (0, .ref b), (1, .ref hh), (2, .ref (adM 20 0)), (3, .ref (adM 21 0)), (4, .ref (adM 22 0)), (5, .ref (adM 23 0)), (6, .ref (adM 24 0)), (7, .ref (adM 25 0)), (8, .ref (adM 26 0)), (9, .ref (adM 27 0)), (10, .ref (adM 28 0)), (11, .ref (adM 29 0)), (12, .ref (adM 30 0)), (13, .ref (adM 31 0)), (14, .ref (adM 32 0)), (15, .ref (adM 33 0)), (16, .ref (adM 34 0)), (17, .ref (adM 35 0)), (25, .int (vx)), (26, .int (iI (what))), (27, .int (iI (k))), (28, .int (iI (8 * k))), (29, .int (iI (who))), (30, .int (iI (w)))]) hx hb dL_law_1415 hl (by decide) rfl (fun ls hl => ?_)
        refine lv_goto (tgt := 3115) hx hb dL_law_1417 (by decide) ?_
        refine W.widen (k := cells + 3) (n := slots + 45) (by omega) (by omega) ?_
        exact kk ad sg (st mu 1005 (who) (mu 1005 who)) H locs ls _ _ _ ⟨hC, hR, h4, (by rw [st_id rfl]; exact hLR), hV, hG, hM, hS⟩ (by omega) rfl rfl rfl (lv_sub hl [0, 6, 7, 8, 9, 10, 11, 12, 13, 14, 15, 16, 17, 18, 19, 20, 21, 22, 23, 24, 25, 26, 27] rfl)
  refine lv_aload_n hx hb dL_law_1013 rfl (lv_at hl 8 rfl) ?_
  refine lv_iload hx hb dL_law_1014 (lv_at hl 0 rfl) ?_
  refine lv_iconst (v := iI (2)) hx hb dL_law_1016 rfl ?_
  refine xr_iadd hx hb dL_law_1017 ?_
  refine xa_1000 (v := mu 1000 ((8 * K) + 2)) hx hb hK hR (by omega) rfl dL_law_1018 ?_
  have g60 := ml_1000 hM0 ((8 * K) + 2)
  refine xr_if_ne (tgt := 1060) hx hb dL_law_1019 (by decide) (by omega) (fun yy61 => ?_) (fun yy61 => ?_)
  · skip
    refine lv_iconst (v := iI (0)) hx hb dL_law_1060 rfl ?_
    exact w_topI (by first | exact (bI_t (by first | omega | grind)).symm | exact (bI_f (by first | omega | grind)).symm) J1061
  · skip
    refine lv_aload_n hx hb dL_law_1022 rfl (lv_at hl 8 rfl) ?_
    refine lv_iload hx hb dL_law_1023 (lv_at hl 0 rfl) ?_
    refine lv_iconst (v := iI (3)) hx hb dL_law_1025 rfl ?_
    refine xr_iadd hx hb dL_law_1026 ?_
    refine xa_1000 (v := mu 1000 ((8 * K) + 3)) hx hb hK hR (by omega) rfl dL_law_1027 ?_
    have g62 := ml_1000 hM0 ((8 * K) + 3)
    refine xr_if_lt (tgt := 1060) hx hb dL_law_1028 (by decide) (by omega) (fun yy63 => ?_) (fun yy63 => ?_)
    · skip
      refine lv_iconst (v := iI (0)) hx hb dL_law_1060 rfl ?_
      exact w_topI (by first | exact (bI_t (by first | omega | grind)).symm | exact (bI_f (by first | omega | grind)).symm) J1061
    · skip
      refine lv_aload hx hb dL_law_1031 (lv_at hl 19 rfl) ?_
      refine lv_aload_n hx hb dL_law_1033 rfl (lv_at hl 8 rfl) ?_
      refine lv_iload hx hb dL_law_1034 (lv_at hl 0 rfl) ?_
      refine lv_iconst (v := iI (3)) hx hb dL_law_1036 rfl ?_
      refine xr_iadd hx hb dL_law_1037 ?_
      refine xa_1000 (v := mu 1000 ((8 * K) + 3)) hx hb hK hR (by omega) rfl dL_law_1038 ?_
      refine xr_if_ge (tgt := 1046) hx hb dL_law_1039 (by decide) (by omega) (fun yy64 => ?_) (fun yy64 => absurd yy64 (by omega))
      refine lv_aload_n hx hb dL_law_1046 rfl (lv_at hl 8 rfl) ?_
      refine lv_iload hx hb dL_law_1047 (lv_at hl 0 rfl) ?_
      refine lv_iconst (v := iI (3)) hx hb dL_law_1049 rfl ?_
      refine xr_iadd hx hb dL_law_1050 ?_
      refine xa_1000 (v := mu 1000 ((8 * K) + 3)) hx hb hK hR (by omega) rfl dL_law_1051 ?_
      refine xa_1011 (v := mu 1011 (mu 1000 ((8 * K) + 3))) hx hb hK hR (by omega) rfl dL_law_1052 ?_
      have g65 := ml_1011 hM0 (mu 1000 ((8 * K) + 3))
      refine xr_if_ne (tgt := 1060) hx hb dL_law_1053 (by decide) (by omega) (fun yy66 => ?_) (fun yy66 => ?_)
      · skip
        refine lv_iconst (v := iI (0)) hx hb dL_law_1060 rfl ?_
        exact w_topI (by first | exact (bI_t (by first | omega | grind)).symm | exact (bI_f (by first | omega | grind)).symm) J1061
      · skip
        refine lv_iconst (v := iI (1)) hx hb dL_law_1056 rfl ?_
        refine lv_goto (tgt := 1061) hx hb dL_law_1057 (by decide) ?_
        exact w_topI (by first | exact (bI_t (by first | omega | grind)).symm | exact (bI_f (by first | omega | grind)).symm) J1061
set_option maxRecDepth 100000 in
set_option maxHeartbeats 8000000 in
theorem law_confirm {p : Program} {l : Launch} {e : Env} {s : State} {m : MethodId} {below : List Frame} {meth : Method} {c : Code} {D : va_G} {cy : Nat → ClassId} {A A2 : Nat → Prop} {b L hh : Nat} {xs : Nat → Int32} {ad adM : Nat → Int → Nat} {sg mu : Nat → Int → Int} {H : Heap} {locs : List Loc} {cells slots : Nat} {Q : State → Prop} {ls : Array Slot} {turn : Int} {vx : Int32} {what k who w : Int} (E : LE p l s m meth c b L xs D cy A A2 adM) (I : LI D cy A A2 s hh ad adM sg mu H locs) (h7 : sg 702 0 ≤ 1000000) (hcl : cells + 1000 ≤ 600104) (hsl : slots + 20000 ≤ 7301314) (hwhat : what = 14) (hk : 0 ≤ k ∧ k ≤ 3) (hw : 0 ≤ w ∧ w ≤ 1) (hl : lv_has ls 37 [(23, .int (iI (1))), (18, .int (iI (sg 503 0))), (19, .int (iI (sg 506 0))), (20, .long (lI (sg 510 0))), (24, .int (iI (turn))), (0, .ref b), (1, .ref hh), (2, .ref (adM 20 0)), (3, .ref (adM 21 0)), (4, .ref (adM 22 0)), (5, .ref (adM 23 0)), (6, .ref (adM 24 0)), (7, .ref (adM 25 0)), (8, .ref (adM 26 0)), (9, .ref (adM 27 0)), (10, .ref (adM 28 0)), (11, .ref (adM 29 0)), (12, .ref (adM 30 0)), (13, .ref (adM 31 0)), (14, .ref (adM 32 0)), (15, .ref (adM 33 0)), (16, .ref (adM 34 0)), (17, .ref (adM 35 0)), (25, .int (vx)), (26, .int (iI (what))), (27, .int (iI (k))), (28, .int (iI (8 * k))), (29, .int (iI (who))), (30, .int (iI (w)))]) (kk : LK p l e s m below meth c b D cy A A2 hh adM cells slots Q sg turn) : W p l e room_1 s m #[Value.ref b] below meth c H locs cells slots Q (F0 m 1427 ls []) := by
  obtain ⟨⟨hx, hb, hr, hml, hown, hts0, hX, hbl, hlocks, -⟩, hl0, hK, hXS, hXN, hA, hA1, hA2, hN12, hL⟩ := E
  obtain ⟨hC, hR, h4, hLR, hV, hG, hM, hS⟩ := I
  have hM0 := hM
  have hts : ∀ w ∈ wG, w.before #[Value.ref b] s = true := fun w hw => hts0 w (List.mem_filter.mp hw).1
  have hown : s.vm.findClass "TakinghallLaw" = some m.cls := hown
  have g503 := gr_503 hG 0
  have g506 := gr_506 hG 0
  obtain ⟨hc1, hc0, hc403, hcF, hcS, hcW⟩ := a_confirm hLR hG hM hw
  obtain ⟨mm, hRel, hGM⟩ := id hV
  have hes : sAt sg w = w := sAt_q ⟨hw.1, by have := hLR.2.2.2.2.2.2.2.2.2.1.1; omega⟩
  have hnr := lNeeds_rng mu w 1
  have hsr : -1 ≤ lStops mu (sg 503 0) w (sg 506 0) ∧ lStops mu (sg 503 0) w (sg 506 0) < 24 := by have z := low_rng (P := lStop mu w (sg 506 0)) (sg 503 0).toNat; unfold lStops; omega
  have J1470 : W p l e room_1 s m #[Value.ref b] below meth c H locs cells slots Q (F0 m 1470 ls [.int (iI (bI (mu 1011 w = 0 ∧ 0 < lNeeds mu w 1 ∧ lStops mu (sg 503 0) w (sg 506 0) < 0)))]) := by
    rcases bI_cases (mu 1011 w = 0 ∧ 0 < lNeeds mu w 1 ∧ lStops mu (sg 503 0) w (sg 506 0) < 0) with ⟨p1, q2⟩ | ⟨p1, q2⟩
    · rw [q2]
      have hpp := p1
      have hE := hc1 hpp
      refine lv_istore (i := 31) (lv' := [(31, .int (iI (1))), (23, .int (iI (1))), (18, .int (iI (sg 503 0))), (19, .int (iI (sg 506 0))), (20, .long (lI (sg 510 0))), (24, .int (iI (turn))), (0, .ref b), (1, .ref hh), (2, .ref (adM 20 0)), (3, .ref (adM 21 0)), (4, .ref (adM 22 0)), (5, .ref (adM 23 0)), (6, .ref (adM 24 0)), (7, .ref (adM 25 0)), (8, .ref (adM 26 0)), (9, .ref (adM 27 0)), (10, .ref (adM 28 0)), (11, .ref (adM 29 0)), (12, .ref (adM 30 0)), (13, .ref (adM 31 0)), (14, .ref (adM 32 0)), (15, .ref (adM 33 0)), (16, .ref (adM 34 0)), (17, .ref (adM 35 0)), (25, .int (vx)), (26, .int (iI (what))), (27, .int (iI (k))), (28, .int (iI (8 * k))), (29, .int (iI (who))), (30, .int (iI (w)))]) hx hb dL_law_1470 hl (by decide) rfl (fun ls hl => ?_)
      refine lv_aload_n hx hb dL_law_1472 rfl (lv_at hl 7 rfl) ?_
      refine lv_iload hx hb dL_law_1473 (lv_at hl 29 rfl) ?_
      rw [← h4]
      refine lw_back (lw_run (As := [.int (iI (w))]) (rest := []) hx hb hml hown hts hK hXS hS hA1 hC hG (c_X4_whoStops hC hG hl0 (lw_hA hA hR) w (by omega)) ms_X4_whoStops kw_342 ⟨by decide, by decide⟩ ⟨by omega, by omega⟩ rfl hl.1 (Nat.le_of_ble_eq_true rfl) dL_law_1475) (by exact hcS) hS hA1 hN12 hR (fun H locs hC hR hS => ?_)
      rw [hcW, if_pos hpp.1]
      refine lv_aload hx hb dL_law_1478 (lv_at hl 19 rfl) ?_
      refine lv_iload hx hb dL_law_1480 (lv_at hl 29 rfl) ?_
      refine xa_1011 (v := mu 1011 w) hx hb hK hR (by omega) rfl dL_law_1482 ?_
      have g3 := ml_1011 hM0 (w)
      refine xr_if_ne (tgt := 1506) hx hb dL_law_1483 (by decide) (by omega) (fun yy4 => absurd yy4 (by omega)) (fun yy4 => ?_)
      refine lv_aload_n hx hb dL_law_1486 rfl (lv_at hl 8 rfl) ?_
      refine lv_aload_n hx hb dL_law_1487 rfl (lv_at hl 9 rfl) ?_
      refine lv_aload hx hb dL_law_1488 (lv_at hl 10 rfl) ?_
      refine lv_aload hx hb dL_law_1490 (lv_at hl 12 rfl) ?_
      refine lv_aload hx hb dL_law_1492 (lv_at hl 13 rfl) ?_
      refine lv_iload hx hb dL_law_1494 (lv_at hl 2 rfl) ?_
      refine lv_iload hx hb dL_law_1496 (lv_at hl 29 rfl) ?_
      refine lv_iload hx hb dL_law_1498 (lv_at hl 3 rfl) ?_
      refine xk_pF (xr_S (As := [.ref (adM 20 0), .ref (adM 21 0), .ref (adM 22 0), .ref (adM 24 0), .ref (adM 25 0), .int (iI (sg 503 0)), .int (iI (w)), .int (iI (sg 506 0))]) (rest := [.int (iI (lStops mu (sg 503 0) w (sg 506 0)))]) hx hb hml hown hts hK (c_L_stops hR hM (sg 503 0) w (sg 506 0) (by omega) (by omega) (by omega)) ms_L_stops kw_655 ⟨by decide, by decide⟩ ⟨by show _ ≤ 600104; omega, by show _ ≤ 7301314; omega⟩ rfl rfl hl.1 rfl (lv_room (Nat.le_of_ble_eq_true rfl)) dL_law_1500) ?_
      refine lv_goto (tgt := 1507) hx hb dL_law_1503 (by decide) ?_
      refine xr_icmp_ne (tgt := 1548) hx hb dL_law_1507 (by decide) (by first | omega | (split <;> omega)) (by omega) (fun yy5 => absurd yy5 (fun z => z rfl)) (fun yy5 => ?_)
      refine lv_aload_n hx hb dL_law_1510 rfl (lv_at hl 7 rfl) ?_
      refine lv_bipush (v := iI (7)) hx hb dL_law_1511 (by decide) ?_
      refine lv_iload hx hb dL_law_1513 (lv_at hl 29 rfl) ?_
      refine lv_iconst (v := iI (0)) hx hb dL_law_1515 rfl ?_
      refine lv_iconst (v := iI (0)) hx hb dL_law_1516 rfl ?_
      refine lv_iconst (v := iI (0)) hx hb dL_law_1517 rfl ?_
      refine lw_act (f := 8) (lo := 137) (mc := 1) (ms := 6) (E := confirmE sg w) (T := (st (st sg 403 (sAt sg w) 1) 404 (sAt sg w) (sg 506 0))) hx hb hml hown hts hK hXS hXN hS hA1 hN12 hG hR h4 (c_act_7 hC hG hl0 (lw_hA hA hR) w 0 0 0 (by omega)) ⟨by decide, by decide⟩ ⟨by omega, by omega⟩ hl.1 (Nat.le_of_ble_eq_true rfl) dL_law_1518 (fun ad H locs h4 hC hR hS => ?_)
      rw [if_pos hE] at hC
      rw [aR_0 hE]
      have hz := inv_of (s_confirm hRel hG hGM w) hE
      rw [hes] at hz hC
      rw [hcF]
      refine lv_iload hx hb dL_law_1521 (lv_at hl 0 rfl) ?_
      refine xr_if_eq (tgt := 1536) hx hb dL_law_1523 (by decide) (by decide) (fun yy6 => absurd yy6 (by decide)) (fun _ => ?_)
      refine lv_aload_n hx hb dL_law_1526 rfl (lv_at hl 8 rfl) ?_
      refine lv_iload hx hb dL_law_1527 (lv_at hl 29 rfl) ?_
      refine lv_iconst (v := iI (1)) hx hb dL_law_1529 rfl ?_
      refine xk_pF (xr_S (As := [.ref (adM 20 0), .int (iI (w)), .int (iI (1))]) (rest := [.long (lI (lNeeds mu w 1))]) hx hb hml hown hts hK (c_L_needs hR hM w 1 (by omega) (by omega)) ms_L_needs kw_658 ⟨by decide, by decide⟩ ⟨by show _ ≤ 600104; omega, by show _ ≤ 7301314; omega⟩ rfl rfl hl.1 rfl (lv_room (Nat.le_of_ble_eq_true rfl)) dL_law_1530) ?_
      refine lv_goto (tgt := 1539) hx hb dL_law_1533 (by decide) ?_
      refine xr_i2l hx hb dL_law_1539 (by omega) ?_
      refine lw_leq hx hb dL_law_1540 (by first | rfl | omega | (rfl)) ?_
      refine xr_if_ne (tgt := 1548) hx hb dL_law_1541 (by decide) (by decide) (fun yy7 => absurd yy7 (by decide)) (fun _ => ?_)
      refine lv_iconst (v := iI (1)) hx hb dL_law_1544 rfl ?_
      refine lv_goto (tgt := 1549) hx hb dL_law_1545 (by decide) ?_
      refine lv_istore (i := 23) (lv' := [(23, .int (iI (1))), (31, .int (iI (1))), (18, .int (iI (sg 503 0))), (19, .int (iI (sg 506 0))), (20, .long (lI (sg 510 0))), (24, .int (iI (turn))), (0, .ref b), (1, .ref hh), (2, .ref (adM 20 0)), (3, .ref (adM 21 0)), (4, .ref (adM 22 0)), (5, .ref (adM 23 0)), (6, .ref (adM 24 0)), (7, .ref (adM 25 0)), (8, .ref (adM 26 0)), (9, .ref (adM 27 0)), (10, .ref (adM 28 0)), (11, .ref (adM 29 0)), (12, .ref (adM 30 0)), (13, .ref (adM 31 0)), (14, .ref (adM 32 0)), (15, .ref (adM 33 0)), (16, .ref (adM 34 0)), (17, .ref (adM 35 0)), (25, .int (vx)), (26, .int (iI (what))), (27, .int (iI (k))), (28, .int (iI (8 * k))), (29, .int (iI (who))), (30, .int (iI (w)))]) hx hb dL_law_1549 hl (by decide) rfl (fun ls hl => ?_)
      refine lv_aload hx hb dL_law_1551 (lv_at hl 19 rfl) ?_
      refine lv_iload hx hb dL_law_1553 (lv_at hl 29 rfl) ?_
      refine lv_iload hx hb dL_law_1555 (lv_at hl 1 rfl) ?_
      refine xr_if_eq (tgt := 1564) hx hb dL_law_1557 (by decide) (by decide) (fun yy8 => absurd yy8 (by decide)) (fun _ => ?_)
      refine lv_iconst (v := iI (1)) hx hb dL_law_1560 rfl ?_
      refine lv_goto (tgt := 1569) hx hb dL_law_1561 (by decide) ?_
      refine ys_1011 (v := 1) hx hb hK hC hR hA2 hA1 hN12 hS (by omega) dL_law_1569 (fun H locs hC hR hS => ?_)
      have hM := gl_1011 hM (w) (v := 1) (by omega)
      refine lv_aload hx hb dL_law_1570 (lv_at hl 19 rfl) ?_
      refine lv_iconst (v := iI (2)) hx hb dL_law_1572 rfl ?_
      refine lv_iload hx hb dL_law_1573 (lv_at hl 29 rfl) ?_
      refine xr_iadd hx hb dL_law_1575 ?_
      refine lv_iload hx hb dL_law_1576 (lv_at hl 1 rfl) ?_
      refine xr_if_eq (tgt := 1586) hx hb dL_law_1578 (by decide) (by decide) (fun yy9 => absurd yy9 (by decide)) (fun _ => ?_)
      refine lv_iload hx hb dL_law_1581 (lv_at hl 3 rfl) ?_
      refine lv_goto (tgt := 1593) hx hb dL_law_1583 (by decide) ?_
      refine ys_1011 (v := sg 506 0) hx hb hK hC hR hA2 hA1 hN12 hS (by omega) dL_law_1593 (fun H locs hC hR hS => ?_)
      have hM := gl_1011 hM (2 + w) (v := sg 506 0) (by omega)
      refine lv_goto (tgt := 3115) hx hb dL_law_1594 (by decide) ?_
      refine W.widen (k := cells + 3) (n := slots + 45) (by omega) (by omega) ?_
      exact kk ad ((st (st sg 403 w 1) 404 w (sg 506 0))) (st (st mu 1011 (w) (1)) 1011 (2 + w) (sg 506 0)) H locs ls _ _ _ ⟨hC, hR, h4, (o_confirm hLR hG hw (by omega)), hz.1, hz.2, hM, hS⟩ (by show sg 702 0 ≤ sg 702 0 + 1; omega) rfl rfl rfl (lv_sub hl [0, 2, 3, 4, 5, 6, 7, 8, 9, 10, 11, 12, 13, 14, 15, 16, 17, 18, 19, 20, 21, 22, 23] rfl)
    · rw [q2]
      have hE := hc0 p1
      refine lv_istore (i := 31) (lv' := [(31, .int (iI (0))), (23, .int (iI (1))), (18, .int (iI (sg 503 0))), (19, .int (iI (sg 506 0))), (20, .long (lI (sg 510 0))), (24, .int (iI (turn))), (0, .ref b), (1, .ref hh), (2, .ref (adM 20 0)), (3, .ref (adM 21 0)), (4, .ref (adM 22 0)), (5, .ref (adM 23 0)), (6, .ref (adM 24 0)), (7, .ref (adM 25 0)), (8, .ref (adM 26 0)), (9, .ref (adM 27 0)), (10, .ref (adM 28 0)), (11, .ref (adM 29 0)), (12, .ref (adM 30 0)), (13, .ref (adM 31 0)), (14, .ref (adM 32 0)), (15, .ref (adM 33 0)), (16, .ref (adM 34 0)), (17, .ref (adM 35 0)), (25, .int (vx)), (26, .int (iI (what))), (27, .int (iI (k))), (28, .int (iI (8 * k))), (29, .int (iI (who))), (30, .int (iI (w)))]) hx hb dL_law_1470 hl (by decide) rfl (fun ls hl => ?_)
      refine lv_aload_n hx hb dL_law_1472 rfl (lv_at hl 7 rfl) ?_
      refine lv_iload hx hb dL_law_1473 (lv_at hl 29 rfl) ?_
      rw [← h4]
      refine lw_back (lw_run (As := [.int (iI (w))]) (rest := []) hx hb hml hown hts hK hXS hS hA1 hC hG (c_X4_whoStops hC hG hl0 (lw_hA hA hR) w (by omega)) ms_X4_whoStops kw_342 ⟨by decide, by decide⟩ ⟨by omega, by omega⟩ rfl hl.1 (Nat.le_of_ble_eq_true rfl) dL_law_1475) (by exact hcS) hS hA1 hN12 hR (fun H locs hC hR hS => ?_)
      rw [hcW]
      refine lv_aload hx hb dL_law_1478 (lv_at hl 19 rfl) ?_
      refine lv_iload hx hb dL_law_1480 (lv_at hl 29 rfl) ?_
      refine xa_1011 (v := mu 1011 w) hx hb hK hR (by omega) rfl dL_law_1482 ?_
      have g10 := ml_1011 hM0 (w)
      refine xr_if_ne (tgt := 1506) hx hb dL_law_1483 (by decide) (by omega) (fun yy11 => ?_) (fun yy11 => ?_)
      · skip
        refine lv_iconst (v := iI (-1)) hx hb dL_law_1506 rfl ?_
        refine xr_icmp_ne (tgt := 1548) hx hb dL_law_1507 (by decide) (by first | omega | (split <;> omega)) (by omega) (fun yy12 => absurd yy12 (fun z => z (if_neg (by omega)))) (fun yy12 => ?_)
        refine lv_aload_n hx hb dL_law_1510 rfl (lv_at hl 7 rfl) ?_
        refine lv_bipush (v := iI (7)) hx hb dL_law_1511 (by decide) ?_
        refine lv_iload hx hb dL_law_1513 (lv_at hl 29 rfl) ?_
        refine lv_iconst (v := iI (0)) hx hb dL_law_1515 rfl ?_
        refine lv_iconst (v := iI (0)) hx hb dL_law_1516 rfl ?_
        refine lv_iconst (v := iI (0)) hx hb dL_law_1517 rfl ?_
        refine lw_act (f := 8) (lo := 137) (mc := 1) (ms := 6) (E := confirmE sg w) (T := (st (st sg 403 (sAt sg w) 1) 404 (sAt sg w) (sg 506 0))) hx hb hml hown hts hK hXS hXN hS hA1 hN12 hG hR h4 (c_act_7 hC hG hl0 (lw_hA hA hR) w 0 0 0 (by omega)) ⟨by decide, by decide⟩ ⟨by omega, by omega⟩ hl.1 (Nat.le_of_ble_eq_true rfl) dL_law_1518 (fun ad H locs h4 hC hR hS => ?_)
        rw [if_neg (by rw [hE]; decide)] at hC
        rw [aR_n (by rw [hE]; decide), hE]
        refine lv_iload hx hb dL_law_1521 (lv_at hl 0 rfl) ?_
        refine xr_if_eq (tgt := 1536) hx hb dL_law_1523 (by decide) (by decide) (fun _ => ?_) (fun yy13 => absurd yy13 (by decide))
        refine lv_sipush (v := iI (-1003)) hx hb dL_law_1536 (by decide) ?_
        refine xr_i2l hx hb dL_law_1539 (by omega) ?_
        refine lw_leq hx hb dL_law_1540 (by first | rfl | omega | (rfl)) ?_
        refine xr_if_ne (tgt := 1548) hx hb dL_law_1541 (by decide) (by decide) (fun yy14 => absurd yy14 (by decide)) (fun _ => ?_)
        refine lv_iconst (v := iI (1)) hx hb dL_law_1544 rfl ?_
        refine lv_goto (tgt := 1549) hx hb dL_law_1545 (by decide) ?_
        refine lv_istore (i := 23) (lv' := [(23, .int (iI (1))), (31, .int (iI (0))), (18, .int (iI (sg 503 0))), (19, .int (iI (sg 506 0))), (20, .long (lI (sg 510 0))), (24, .int (iI (turn))), (0, .ref b), (1, .ref hh), (2, .ref (adM 20 0)), (3, .ref (adM 21 0)), (4, .ref (adM 22 0)), (5, .ref (adM 23 0)), (6, .ref (adM 24 0)), (7, .ref (adM 25 0)), (8, .ref (adM 26 0)), (9, .ref (adM 27 0)), (10, .ref (adM 28 0)), (11, .ref (adM 29 0)), (12, .ref (adM 30 0)), (13, .ref (adM 31 0)), (14, .ref (adM 32 0)), (15, .ref (adM 33 0)), (16, .ref (adM 34 0)), (17, .ref (adM 35 0)), (25, .int (vx)), (26, .int (iI (what))), (27, .int (iI (k))), (28, .int (iI (8 * k))), (29, .int (iI (who))), (30, .int (iI (w)))]) hx hb dL_law_1549 hl (by decide) rfl (fun ls hl => ?_)
        refine lv_aload hx hb dL_law_1551 (lv_at hl 19 rfl) ?_
        refine lv_iload hx hb dL_law_1553 (lv_at hl 29 rfl) ?_
        refine lv_iload hx hb dL_law_1555 (lv_at hl 1 rfl) ?_
        refine xr_if_eq (tgt := 1564) hx hb dL_law_1557 (by decide) (by decide) (fun _ => ?_) (fun yy15 => absurd yy15 (by decide))
        refine lv_aload hx hb dL_law_1564 (lv_at hl 19 rfl) ?_
        refine lv_iload hx hb dL_law_1566 (lv_at hl 29 rfl) ?_
        refine xa_1011 (v := mu 1011 w) hx hb hK hR (by omega) rfl dL_law_1568 ?_
        refine ys_1011 (v := mu 1011 w) hx hb hK hC hR hA2 hA1 hN12 hS (by omega) dL_law_1569 (fun H locs hC hR hS => ?_)
        have hM := gl_1011 hM (w) (v := mu 1011 w) (by omega)
        refine lv_aload hx hb dL_law_1570 (lv_at hl 19 rfl) ?_
        refine lv_iconst (v := iI (2)) hx hb dL_law_1572 rfl ?_
        refine lv_iload hx hb dL_law_1573 (lv_at hl 29 rfl) ?_
        refine xr_iadd hx hb dL_law_1575 ?_
        refine lv_iload hx hb dL_law_1576 (lv_at hl 1 rfl) ?_
        refine xr_if_eq (tgt := 1586) hx hb dL_law_1578 (by decide) (by decide) (fun _ => ?_) (fun yy16 => absurd yy16 (by decide))
        refine lv_aload hx hb dL_law_1586 (lv_at hl 19 rfl) ?_
        refine lv_iconst (v := iI (2)) hx hb dL_law_1588 rfl ?_
        refine lv_iload hx hb dL_law_1589 (lv_at hl 29 rfl) ?_
        refine xr_iadd hx hb dL_law_1591 ?_
        refine xa_1011 (v := mu 1011 (2 + w)) hx hb hK hR (by omega) ((st_j (by omega)).trans rfl) dL_law_1592 ?_
        have g17 := ml_1011 hM0 (2 + w)
        refine ys_1011 (v := mu 1011 (2 + w)) hx hb hK hC hR hA2 hA1 hN12 hS (by omega) dL_law_1593 (fun H locs hC hR hS => ?_)
        have hM := gl_1011 hM (2 + w) (v := mu 1011 (2 + w)) (by omega)
        refine lv_goto (tgt := 3115) hx hb dL_law_1594 (by decide) ?_
        refine W.widen (k := cells + 3) (n := slots + 45) (by omega) (by omega) ?_
        exact kk ad sg (st (st mu 1011 (w) (mu 1011 w)) 1011 (2 + w) (mu 1011 (2 + w))) H locs ls _ _ _ ⟨hC, hR, h4, (by rw [st_id (sg := mu) rfl, st_id (sg := mu) rfl]; exact hLR), hV, hG, hM, hS⟩ (by omega) rfl rfl rfl (lv_sub hl [0, 2, 3, 4, 5, 6, 7, 8, 9, 10, 11, 12, 13, 14, 15, 16, 17, 18, 19, 20, 21, 22, 23] rfl)
      · skip
        refine lv_aload_n hx hb dL_law_1486 rfl (lv_at hl 8 rfl) ?_
        refine lv_aload_n hx hb dL_law_1487 rfl (lv_at hl 9 rfl) ?_
        refine lv_aload hx hb dL_law_1488 (lv_at hl 10 rfl) ?_
        refine lv_aload hx hb dL_law_1490 (lv_at hl 12 rfl) ?_
        refine lv_aload hx hb dL_law_1492 (lv_at hl 13 rfl) ?_
        refine lv_iload hx hb dL_law_1494 (lv_at hl 2 rfl) ?_
        refine lv_iload hx hb dL_law_1496 (lv_at hl 29 rfl) ?_
        refine lv_iload hx hb dL_law_1498 (lv_at hl 3 rfl) ?_
        refine xk_pF (xr_S (As := [.ref (adM 20 0), .ref (adM 21 0), .ref (adM 22 0), .ref (adM 24 0), .ref (adM 25 0), .int (iI (sg 503 0)), .int (iI (w)), .int (iI (sg 506 0))]) (rest := [.int (iI (if mu 1011 w = 0 then lStops mu (sg 503 0) w (sg 506 0) else -1))]) hx hb hml hown hts hK (c_L_stops hR hM (sg 503 0) w (sg 506 0) (by omega) (by omega) (by omega)) ms_L_stops kw_655 ⟨by decide, by decide⟩ ⟨by show _ ≤ 600104; omega, by show _ ≤ 7301314; omega⟩ rfl rfl hl.1 rfl (lv_room (Nat.le_of_ble_eq_true rfl)) dL_law_1500) ?_
        refine lv_goto (tgt := 1507) hx hb dL_law_1503 (by decide) ?_
        refine xr_icmp_ne (tgt := 1548) hx hb dL_law_1507 (by decide) (by first | omega | (split <;> omega)) (by omega) (fun yy18 => absurd yy18 (fun z => z (if_pos (by omega)))) (fun yy18 => ?_)
        refine lv_aload_n hx hb dL_law_1510 rfl (lv_at hl 7 rfl) ?_
        refine lv_bipush (v := iI (7)) hx hb dL_law_1511 (by decide) ?_
        refine lv_iload hx hb dL_law_1513 (lv_at hl 29 rfl) ?_
        refine lv_iconst (v := iI (0)) hx hb dL_law_1515 rfl ?_
        refine lv_iconst (v := iI (0)) hx hb dL_law_1516 rfl ?_
        refine lv_iconst (v := iI (0)) hx hb dL_law_1517 rfl ?_
        refine lw_act (f := 8) (lo := 137) (mc := 1) (ms := 6) (E := confirmE sg w) (T := (st (st sg 403 (sAt sg w) 1) 404 (sAt sg w) (sg 506 0))) hx hb hml hown hts hK hXS hXN hS hA1 hN12 hG hR h4 (c_act_7 hC hG hl0 (lw_hA hA hR) w 0 0 0 (by omega)) ⟨by decide, by decide⟩ ⟨by omega, by omega⟩ hl.1 (Nat.le_of_ble_eq_true rfl) dL_law_1518 (fun ad H locs h4 hC hR hS => ?_)
        rw [if_neg (by rw [hE]; decide)] at hC
        rw [aR_n (by rw [hE]; decide), hE]
        refine lv_iload hx hb dL_law_1521 (lv_at hl 0 rfl) ?_
        refine xr_if_eq (tgt := 1536) hx hb dL_law_1523 (by decide) (by decide) (fun _ => ?_) (fun yy19 => absurd yy19 (by decide))
        refine lv_sipush (v := iI (-1003)) hx hb dL_law_1536 (by decide) ?_
        refine xr_i2l hx hb dL_law_1539 (by omega) ?_
        refine lw_leq hx hb dL_law_1540 (by first | rfl | omega | (rfl)) ?_
        refine xr_if_ne (tgt := 1548) hx hb dL_law_1541 (by decide) (by decide) (fun yy20 => absurd yy20 (by decide)) (fun _ => ?_)
        refine lv_iconst (v := iI (1)) hx hb dL_law_1544 rfl ?_
        refine lv_goto (tgt := 1549) hx hb dL_law_1545 (by decide) ?_
        refine lv_istore (i := 23) (lv' := [(23, .int (iI (1))), (31, .int (iI (0))), (18, .int (iI (sg 503 0))), (19, .int (iI (sg 506 0))), (20, .long (lI (sg 510 0))), (24, .int (iI (turn))), (0, .ref b), (1, .ref hh), (2, .ref (adM 20 0)), (3, .ref (adM 21 0)), (4, .ref (adM 22 0)), (5, .ref (adM 23 0)), (6, .ref (adM 24 0)), (7, .ref (adM 25 0)), (8, .ref (adM 26 0)), (9, .ref (adM 27 0)), (10, .ref (adM 28 0)), (11, .ref (adM 29 0)), (12, .ref (adM 30 0)), (13, .ref (adM 31 0)), (14, .ref (adM 32 0)), (15, .ref (adM 33 0)), (16, .ref (adM 34 0)), (17, .ref (adM 35 0)), (25, .int (vx)), (26, .int (iI (what))), (27, .int (iI (k))), (28, .int (iI (8 * k))), (29, .int (iI (who))), (30, .int (iI (w)))]) hx hb dL_law_1549 hl (by decide) rfl (fun ls hl => ?_)
        refine lv_aload hx hb dL_law_1551 (lv_at hl 19 rfl) ?_
        refine lv_iload hx hb dL_law_1553 (lv_at hl 29 rfl) ?_
        refine lv_iload hx hb dL_law_1555 (lv_at hl 1 rfl) ?_
        refine xr_if_eq (tgt := 1564) hx hb dL_law_1557 (by decide) (by decide) (fun _ => ?_) (fun yy21 => absurd yy21 (by decide))
        refine lv_aload hx hb dL_law_1564 (lv_at hl 19 rfl) ?_
        refine lv_iload hx hb dL_law_1566 (lv_at hl 29 rfl) ?_
        refine xa_1011 (v := mu 1011 w) hx hb hK hR (by omega) rfl dL_law_1568 ?_
        refine ys_1011 (v := mu 1011 w) hx hb hK hC hR hA2 hA1 hN12 hS (by omega) dL_law_1569 (fun H locs hC hR hS => ?_)
        have hM := gl_1011 hM (w) (v := mu 1011 w) (by omega)
        refine lv_aload hx hb dL_law_1570 (lv_at hl 19 rfl) ?_
        refine lv_iconst (v := iI (2)) hx hb dL_law_1572 rfl ?_
        refine lv_iload hx hb dL_law_1573 (lv_at hl 29 rfl) ?_
        refine xr_iadd hx hb dL_law_1575 ?_
        refine lv_iload hx hb dL_law_1576 (lv_at hl 1 rfl) ?_
        refine xr_if_eq (tgt := 1586) hx hb dL_law_1578 (by decide) (by decide) (fun _ => ?_) (fun yy22 => absurd yy22 (by decide))
        refine lv_aload hx hb dL_law_1586 (lv_at hl 19 rfl) ?_
        refine lv_iconst (v := iI (2)) hx hb dL_law_1588 rfl ?_
        refine lv_iload hx hb dL_law_1589 (lv_at hl 29 rfl) ?_
        refine xr_iadd hx hb dL_law_1591 ?_
        refine xa_1011 (v := mu 1011 (2 + w)) hx hb hK hR (by omega) ((st_j (by omega)).trans rfl) dL_law_1592 ?_
        have g23 := ml_1011 hM0 (2 + w)
        refine ys_1011 (v := mu 1011 (2 + w)) hx hb hK hC hR hA2 hA1 hN12 hS (by omega) dL_law_1593 (fun H locs hC hR hS => ?_)
        have hM := gl_1011 hM (2 + w) (v := mu 1011 (2 + w)) (by omega)
        refine lv_goto (tgt := 3115) hx hb dL_law_1594 (by decide) ?_
        refine W.widen (k := cells + 3) (n := slots + 45) (by omega) (by omega) ?_
        exact kk ad sg (st (st mu 1011 (w) (mu 1011 w)) 1011 (2 + w) (mu 1011 (2 + w))) H locs ls _ _ _ ⟨hC, hR, h4, (by rw [st_id (sg := mu) rfl, st_id (sg := mu) rfl]; exact hLR), hV, hG, hM, hS⟩ (by omega) rfl rfl rfl (lv_sub hl [0, 2, 3, 4, 5, 6, 7, 8, 9, 10, 11, 12, 13, 14, 15, 16, 17, 18, 19, 20, 21, 22, 23] rfl)
  refine lv_aload hx hb dL_law_1427 (lv_at hl 18 rfl) ?_
  refine lv_iload hx hb dL_law_1429 (lv_at hl 28 rfl) ?_
  refine xa_1011 (v := mu 1011 w) hx hb hK hR (by omega) rfl dL_law_1431 ?_
  have g24 := ml_1011 hM0 (w)
  refine xr_if_ne (tgt := 1469) hx hb dL_law_1432 (by decide) (by omega) (fun yy25 => ?_) (fun yy25 => ?_)
  · skip
    refine lv_iconst (v := iI (0)) hx hb dL_law_1469 rfl ?_
    exact w_topI (by first | exact (bI_t (by first | omega | grind)).symm | exact (bI_f (by first | omega | grind)).symm) J1470
  · skip
    refine lv_aload_n hx hb dL_law_1435 rfl (lv_at hl 7 rfl) ?_
    refine lv_iload hx hb dL_law_1436 (lv_at hl 28 rfl) ?_
    refine lv_iconst (v := iI (1)) hx hb dL_law_1438 rfl ?_
    refine xk_pF (xr_S (As := [.ref (adM 20 0), .int (iI (w)), .int (iI (1))]) (rest := []) hx hb hml hown hts hK (c_L_needs hR hM w 1 (by omega) (by omega)) ms_L_needs kw_658 ⟨by decide, by decide⟩ ⟨by show _ ≤ 600104; omega, by show _ ≤ 7301314; omega⟩ rfl rfl hl.1 rfl (lv_room (Nat.le_of_ble_eq_true rfl)) dL_law_1439) ?_
    refine xr_if_le (tgt := 1469) hx hb dL_law_1442 (by decide) (by omega) (fun yy26 => ?_) (fun yy26 => ?_)
    · skip
      refine lv_iconst (v := iI (0)) hx hb dL_law_1469 rfl ?_
      exact w_topI (by first | exact (bI_t (by first | omega | grind)).symm | exact (bI_f (by first | omega | grind)).symm) J1470
    · skip
      refine lv_aload_n hx hb dL_law_1445 rfl (lv_at hl 7 rfl) ?_
      refine lv_aload_n hx hb dL_law_1446 rfl (lv_at hl 8 rfl) ?_
      refine lv_aload hx hb dL_law_1447 (lv_at hl 9 rfl) ?_
      refine lv_aload hx hb dL_law_1449 (lv_at hl 11 rfl) ?_
      refine lv_aload hx hb dL_law_1451 (lv_at hl 12 rfl) ?_
      refine lv_iload hx hb dL_law_1453 (lv_at hl 1 rfl) ?_
      refine lv_iload hx hb dL_law_1455 (lv_at hl 28 rfl) ?_
      refine lv_iload hx hb dL_law_1457 (lv_at hl 2 rfl) ?_
      refine xk_pF (xr_S (As := [.ref (adM 20 0), .ref (adM 21 0), .ref (adM 22 0), .ref (adM 24 0), .ref (adM 25 0), .int (iI (sg 503 0)), .int (iI (w)), .int (iI (sg 506 0))]) (rest := []) hx hb hml hown hts hK (c_L_stops hR hM (sg 503 0) w (sg 506 0) (by omega) (by omega) (by omega)) ms_L_stops kw_655 ⟨by decide, by decide⟩ ⟨by show _ ≤ 600104; omega, by show _ ≤ 7301314; omega⟩ rfl rfl hl.1 rfl (lv_room (Nat.le_of_ble_eq_true rfl)) dL_law_1459) ?_
      refine xr_if_ge (tgt := 1469) hx hb dL_law_1462 (by decide) (by omega) (fun yy27 => ?_) (fun yy27 => ?_)
      · skip
        refine lv_iconst (v := iI (0)) hx hb dL_law_1469 rfl ?_
        exact w_topI (by first | exact (bI_t (by first | omega | grind)).symm | exact (bI_f (by first | omega | grind)).symm) J1470
      · skip
        refine lv_iconst (v := iI (1)) hx hb dL_law_1465 rfl ?_
        refine lv_goto (tgt := 1470) hx hb dL_law_1466 (by decide) ?_
        exact w_topI (by first | exact (bI_t (by first | omega | grind)).symm | exact (bI_f (by first | omega | grind)).symm) J1470
set_option maxRecDepth 100000 in
set_option maxHeartbeats 8000000 in
theorem law_enter {p : Program} {l : Launch} {e : Env} {s : State} {m : MethodId} {below : List Frame} {meth : Method} {c : Code} {D : va_G} {cy : Nat → ClassId} {A A2 : Nat → Prop} {b L hh : Nat} {xs : Nat → Int32} {ad adM : Nat → Int → Nat} {sg mu : Nat → Int → Int} {H : Heap} {locs : List Loc} {cells slots : Nat} {Q : State → Prop} {ls : Array Slot} {turn : Int} {vx : Int32} {what k who w : Int} (E : LE p l s m meth c b L xs D cy A A2 adM) (I : LI D cy A A2 s hh ad adM sg mu H locs) (h7 : sg 702 0 ≤ 1000000) (hcl : cells + 1000 ≤ 600104) (hsl : slots + 20000 ≤ 7301314) (hwhat : what = 15) (hk : 0 ≤ k ∧ k ≤ 3) (hw : 0 ≤ w ∧ w ≤ 1) (hl : lv_has ls 37 [(23, .int (iI (1))), (18, .int (iI (sg 503 0))), (19, .int (iI (sg 506 0))), (20, .long (lI (sg 510 0))), (24, .int (iI (turn))), (0, .ref b), (1, .ref hh), (2, .ref (adM 20 0)), (3, .ref (adM 21 0)), (4, .ref (adM 22 0)), (5, .ref (adM 23 0)), (6, .ref (adM 24 0)), (7, .ref (adM 25 0)), (8, .ref (adM 26 0)), (9, .ref (adM 27 0)), (10, .ref (adM 28 0)), (11, .ref (adM 29 0)), (12, .ref (adM 30 0)), (13, .ref (adM 31 0)), (14, .ref (adM 32 0)), (15, .ref (adM 33 0)), (16, .ref (adM 34 0)), (17, .ref (adM 35 0)), (25, .int (vx)), (26, .int (iI (what))), (27, .int (iI (k))), (28, .int (iI (8 * k))), (29, .int (iI (who))), (30, .int (iI (w)))]) (kk : LK p l e s m below meth c b D cy A A2 hh adM cells slots Q sg turn) : W p l e room_1 s m #[Value.ref b] below meth c H locs cells slots Q (F0 m 1604 ls []) := by
  obtain ⟨⟨hx, hb, hr, hml, hown, hts0, hX, hbl, hlocks, -⟩, hl0, hK, hXS, hXN, hA, hA1, hA2, hN12, hL⟩ := E
  obtain ⟨hC, hR, h4, hLR, hV, hG, hM, hS⟩ := I
  have hM0 := hM
  have hts : ∀ w ∈ wG, w.before #[Value.ref b] s = true := fun w hw => hts0 w (List.mem_filter.mp hw).1
  have hown : s.vm.findClass "TakinghallLaw" = some m.cls := hown
  have g503 := gr_503 hG 0
  have g506 := gr_506 hG 0
  obtain ⟨ha1, ha0, hn1⟩ := a_enter hLR hG hk
  obtain ⟨hpa, hpu, hpp4, hp7⟩ := a_plot hLR hG hk
  have hpl := pl_rng k
  obtain ⟨mm, hRel, hGM⟩ := id hV
  have J1686 : W p l e room_1 s m #[Value.ref b] below meth c H locs cells slots Q (F0 m 1686 ls [.int (iI (bI (mu 1000 (8 * k + 2) = 0 ∧ 0 ≤ mu 1000 (8 * k + 3) ∧ mu 1011 (mu 1000 (8 * k + 3)) = 1 ∧ sg 506 0 - mu 1011 (2 + mu 1000 (8 * k + 3)) ≤ 1095)))]) := by
    rcases bI_cases (mu 1000 (8 * k + 2) = 0 ∧ 0 ≤ mu 1000 (8 * k + 3) ∧ mu 1011 (mu 1000 (8 * k + 3)) = 1 ∧ sg 506 0 - mu 1011 (2 + mu 1000 (8 * k + 3)) ≤ 1095) with ⟨p1, q2⟩ | ⟨p1, q2⟩
    · rw [q2]
      obtain ⟨hE, h203, hnd⟩ := ha1 p1
      have hpp := p1
      refine lv_istore (i := 31) (lv' := [(31, .int (iI (1))), (23, .int (iI (1))), (18, .int (iI (sg 503 0))), (19, .int (iI (sg 506 0))), (20, .long (lI (sg 510 0))), (24, .int (iI (turn))), (0, .ref b), (1, .ref hh), (2, .ref (adM 20 0)), (3, .ref (adM 21 0)), (4, .ref (adM 22 0)), (5, .ref (adM 23 0)), (6, .ref (adM 24 0)), (7, .ref (adM 25 0)), (8, .ref (adM 26 0)), (9, .ref (adM 27 0)), (10, .ref (adM 28 0)), (11, .ref (adM 29 0)), (12, .ref (adM 30 0)), (13, .ref (adM 31 0)), (14, .ref (adM 32 0)), (15, .ref (adM 33 0)), (16, .ref (adM 34 0)), (17, .ref (adM 35 0)), (25, .int (vx)), (26, .int (iI (what))), (27, .int (iI (k))), (28, .int (iI (8 * k))), (29, .int (iI (who))), (30, .int (iI (w)))]) hx hb dL_law_1686 hl (by decide) rfl (fun ls hl => ?_)
      refine lv_iload hx hb dL_law_1688 (lv_at hl 0 rfl) ?_
      refine xr_if_eq (tgt := 1726) hx hb dL_law_1690 (by decide) (by decide) (fun yy3 => absurd yy3 (by decide)) (fun _ => ?_)
      refine lv_aload_n hx hb dL_law_1693 rfl (lv_at hl 8 rfl) ?_
      refine lv_aload_n hx hb dL_law_1694 rfl (lv_at hl 9 rfl) ?_
      refine lv_aload hx hb dL_law_1695 (lv_at hl 10 rfl) ?_
      refine lv_aload hx hb dL_law_1697 (lv_at hl 11 rfl) ?_
      refine lv_aload hx hb dL_law_1699 (lv_at hl 14 rfl) ?_
      refine lv_aload hx hb dL_law_1701 (lv_at hl 15 rfl) ?_
      refine lv_aload hx hb dL_law_1703 (lv_at hl 21 rfl) ?_
      refine lv_iload hx hb dL_law_1705 (lv_at hl 2 rfl) ?_
      refine lv_iload hx hb dL_law_1707 (lv_at hl 26 rfl) ?_
      refine lv_aload hx hb dL_law_1709 (lv_at hl 16 rfl) ?_
      refine lv_aload_n hx hb dL_law_1711 rfl (lv_at hl 8 rfl) ?_
      refine lv_iload hx hb dL_law_1712 (lv_at hl 27 rfl) ?_
      refine lv_iconst (v := iI (1)) hx hb dL_law_1714 rfl ?_
      refine xr_iadd hx hb dL_law_1715 ?_
      refine xa_1000 (v := mu 1000 ((8 * k) + 1)) hx hb hK hR (by omega) rfl dL_law_1716 ?_
      have g4 := ml_1000 hM0 ((8 * k) + 1)
      refine xa_1008 (v := mu 1008 (mu 1000 ((8 * k) + 1))) hx hb hK hR (by omega) rfl dL_law_1717 ?_
      have g5 := ml_1008 hM0 (mu 1000 ((8 * k) + 1))
      refine lv_iload hx hb dL_law_1718 (lv_at hl 3 rfl) ?_
      refine lw_mut (xr_S (As := [.ref (adM 20 0), .ref (adM 21 0), .ref (adM 22 0), .ref (adM 23 0), .ref (adM 26 0), .ref (adM 27 0), .ref (adM 33 0), .int (iI (sg 503 0)), .int (iI (k)), .int (iI (mu 1008 (mu 1000 ((8 * k) + 1)))), .int (iI (sg 506 0))]) (rest := []) hx hb hml hown hts hK (c_L_take hR hM (sg 503 0) k (mu 1008 (mu 1000 ((8 * k) + 1))) (sg 506 0) (by omega) (by omega) (by omega) (by omega) (by omega) (by omega) (by omega)) ms_L_take kw_670 ⟨by decide, by decide⟩ ⟨by show _ ≤ 600104; omega, by show _ ≤ 7301314; omega⟩ rfl rfl hl.1 rfl (lv_room (Nat.le_of_ble_eq_true rfl)) dL_law_1720) hS hA2 hN12 hC (fun H locs hR hC hS => ?_)
      have hM := gl_lTkT hM (sg 503 0) k (mu 1008 (mu 1000 ((8 * k) + 1))) (by omega)
      show W p l e room_1 s m #[Value.ref b] below meth c H locs (cells + 0) (slots + 0) Q (F0 m 1723 ls [.long (lI (lLand mu k (mu 1008 (mu 1000 ((8 * k) + 1)))))])
      refine lv_goto (tgt := 1729) hx hb dL_law_1723 (by decide) ?_
      refine lv_lstore (i := 32) (lv' := [(32, .long (lI (lLand mu k (mu 1008 (mu 1000 ((8 * k) + 1)))))), (31, .int (iI (1))), (23, .int (iI (1))), (18, .int (iI (sg 503 0))), (19, .int (iI (sg 506 0))), (20, .long (lI (sg 510 0))), (24, .int (iI (turn))), (0, .ref b), (1, .ref hh), (2, .ref (adM 20 0)), (3, .ref (adM 21 0)), (4, .ref (adM 22 0)), (5, .ref (adM 23 0)), (6, .ref (adM 24 0)), (7, .ref (adM 25 0)), (8, .ref (adM 26 0)), (9, .ref (adM 27 0)), (10, .ref (adM 28 0)), (11, .ref (adM 29 0)), (12, .ref (adM 30 0)), (13, .ref (adM 31 0)), (14, .ref (adM 32 0)), (15, .ref (adM 33 0)), (16, .ref (adM 34 0)), (17, .ref (adM 35 0)), (25, .int (vx)), (26, .int (iI (what))), (27, .int (iI (k))), (28, .int (iI (8 * k))), (29, .int (iI (who))), (30, .int (iI (w)))]) hx hb dL_law_1729 hl (by decide) rfl (fun ls hl => ?_)
      refine lv_aload_n hx hb dL_law_1731 rfl (lv_at hl 8 rfl) ?_
      refine lv_bipush (v := iI (8)) hx hb dL_law_1732 (by decide) ?_
      refine lv_iload hx hb dL_law_1734 (lv_at hl 27 rfl) ?_
      refine lw_plot hx hb hml hown hts hK hl.1 ⟨by omega, by omega⟩ (by omega) (lv_room (Nat.le_of_ble_eq_true rfl)) dL_law_1736 ?_
      refine lv_iconst (v := iI (0)) hx hb dL_law_1739 rfl ?_
      refine lv_iconst (v := iI (0)) hx hb dL_law_1740 rfl ?_
      refine lv_iconst (v := iI (0)) hx hb dL_law_1741 rfl ?_
      refine lw_act (f := 8) (lo := 189) (mc := 1) (ms := 6) (E := enterE sg (pl k)) (T := (tkT sg (pAt (pl k)))) hx hb hml hown hts hK hXS hXN hS hA1 hN12 hG hR h4 (c_act_8 hC hG hl0 (lw_hA hA hR) (pl k) 0 0 0 (by omega) (by omega)) ⟨by decide, by decide⟩ ⟨by omega, by omega⟩ hl.1 (Nat.le_of_ble_eq_true rfl) dL_law_1742 (fun ad H locs h4 hC hR hS => ?_)
      rw [if_pos hE] at hC
      rw [aR_0 hE]
      rw [pl_pAt] at hC
      rw [pl_pAt, ← tq_land hG hLR hk hnd]
      have hz := inv_of (s_enter hRel hG hGM h7 (pl k)) hE
      rw [pl_pAt] at hz
      have hLR := o_take hLR hG hV hM0 hk h203 hnd
      refine lv_lload hx hb dL_law_1745 (lv_at hl 0 rfl) ?_
      refine lw_leq hx hb dL_law_1747 (by first | rfl | omega | (rfl)) ?_
      refine xr_if_ne (tgt := 1755) hx hb dL_law_1748 (by decide) (by decide) (fun yy6 => absurd yy6 (by decide)) (fun _ => ?_)
      refine lv_iconst (v := iI (1)) hx hb dL_law_1751 rfl ?_
      refine lv_goto (tgt := 1756) hx hb dL_law_1752 (by decide) ?_
      refine lv_istore (i := 23) (lv' := [(23, .int (iI (1))), (32, .long (lI (lLand mu k (mu 1008 (mu 1000 ((8 * k) + 1)))))), (31, .int (iI (1))), (18, .int (iI (sg 503 0))), (19, .int (iI (sg 506 0))), (20, .long (lI (sg 510 0))), (24, .int (iI (turn))), (0, .ref b), (1, .ref hh), (2, .ref (adM 20 0)), (3, .ref (adM 21 0)), (4, .ref (adM 22 0)), (5, .ref (adM 23 0)), (6, .ref (adM 24 0)), (7, .ref (adM 25 0)), (8, .ref (adM 26 0)), (9, .ref (adM 27 0)), (10, .ref (adM 28 0)), (11, .ref (adM 29 0)), (12, .ref (adM 30 0)), (13, .ref (adM 31 0)), (14, .ref (adM 32 0)), (15, .ref (adM 33 0)), (16, .ref (adM 34 0)), (17, .ref (adM 35 0)), (25, .int (vx)), (26, .int (iI (what))), (27, .int (iI (k))), (28, .int (iI (8 * k))), (29, .int (iI (who))), (30, .int (iI (w)))]) hx hb dL_law_1756 hl (by decide) rfl (fun ls hl => ?_)
      refine lv_goto (tgt := 3115) hx hb dL_law_1758 (by decide) ?_
      refine W.widen (k := cells + 3) (n := slots + 45) (by omega) (by omega) ?_
      exact kk ad ((tkT sg (pl k))) (lTkT mu (sg 503 0) k (mu 1008 (mu 1000 ((8 * k) + 1))) (sg 506 0)) H locs ls _ _ _ ⟨hC, hR, h4, hLR, hz.1, hz.2, hM, hS⟩ (by rw [tkT_f (by decide) (by decide) (by decide) (by decide) (by decide) (by decide) (by decide)]; omega) (tkT_f (by decide) (by decide) (by decide) (by decide) (by decide) (by decide) (by decide)) (tkT_f (by decide) (by decide) (by decide) (by decide) (by decide) (by decide) (by decide)) (tkT_f (by decide) (by decide) (by decide) (by decide) (by decide) (by decide) (by decide)) (lv_sub hl [0, 3, 4, 5, 6, 7, 8, 9, 10, 11, 12, 13, 14, 15, 16, 17, 18, 19, 20, 21, 22, 23, 24] rfl)
    · rw [q2]
      have hE := ha0 p1
      refine lv_istore (i := 31) (lv' := [(31, .int (iI (0))), (23, .int (iI (1))), (18, .int (iI (sg 503 0))), (19, .int (iI (sg 506 0))), (20, .long (lI (sg 510 0))), (24, .int (iI (turn))), (0, .ref b), (1, .ref hh), (2, .ref (adM 20 0)), (3, .ref (adM 21 0)), (4, .ref (adM 22 0)), (5, .ref (adM 23 0)), (6, .ref (adM 24 0)), (7, .ref (adM 25 0)), (8, .ref (adM 26 0)), (9, .ref (adM 27 0)), (10, .ref (adM 28 0)), (11, .ref (adM 29 0)), (12, .ref (adM 30 0)), (13, .ref (adM 31 0)), (14, .ref (adM 32 0)), (15, .ref (adM 33 0)), (16, .ref (adM 34 0)), (17, .ref (adM 35 0)), (25, .int (vx)), (26, .int (iI (what))), (27, .int (iI (k))), (28, .int (iI (8 * k))), (29, .int (iI (who))), (30, .int (iI (w)))]) hx hb dL_law_1686 hl (by decide) rfl (fun ls hl => ?_)
      refine lv_iload hx hb dL_law_1688 (lv_at hl 0 rfl) ?_
      refine xr_if_eq (tgt := 1726) hx hb dL_law_1690 (by decide) (by decide) (fun _ => ?_) (fun yy7 => absurd yy7 (by decide))
      refine lv_ldc2 (v := lI (-1003)) hx hb hown (hts _ kw_654) dL_law_1726 ?_
      refine lv_lstore (i := 32) (lv' := [(32, .long (lI (-1003))), (31, .int (iI (0))), (23, .int (iI (1))), (18, .int (iI (sg 503 0))), (19, .int (iI (sg 506 0))), (20, .long (lI (sg 510 0))), (24, .int (iI (turn))), (0, .ref b), (1, .ref hh), (2, .ref (adM 20 0)), (3, .ref (adM 21 0)), (4, .ref (adM 22 0)), (5, .ref (adM 23 0)), (6, .ref (adM 24 0)), (7, .ref (adM 25 0)), (8, .ref (adM 26 0)), (9, .ref (adM 27 0)), (10, .ref (adM 28 0)), (11, .ref (adM 29 0)), (12, .ref (adM 30 0)), (13, .ref (adM 31 0)), (14, .ref (adM 32 0)), (15, .ref (adM 33 0)), (16, .ref (adM 34 0)), (17, .ref (adM 35 0)), (25, .int (vx)), (26, .int (iI (what))), (27, .int (iI (k))), (28, .int (iI (8 * k))), (29, .int (iI (who))), (30, .int (iI (w)))]) hx hb dL_law_1729 hl (by decide) rfl (fun ls hl => ?_)
      refine lv_aload_n hx hb dL_law_1731 rfl (lv_at hl 8 rfl) ?_
      refine lv_bipush (v := iI (8)) hx hb dL_law_1732 (by decide) ?_
      refine lv_iload hx hb dL_law_1734 (lv_at hl 27 rfl) ?_
      refine lw_plot hx hb hml hown hts hK hl.1 ⟨by omega, by omega⟩ (by omega) (lv_room (Nat.le_of_ble_eq_true rfl)) dL_law_1736 ?_
      refine lv_iconst (v := iI (0)) hx hb dL_law_1739 rfl ?_
      refine lv_iconst (v := iI (0)) hx hb dL_law_1740 rfl ?_
      refine lv_iconst (v := iI (0)) hx hb dL_law_1741 rfl ?_
      refine lw_act (f := 8) (lo := 189) (mc := 1) (ms := 6) (E := enterE sg (pl k)) (T := (tkT sg (pAt (pl k)))) hx hb hml hown hts hK hXS hXN hS hA1 hN12 hG hR h4 (c_act_8 hC hG hl0 (lw_hA hA hR) (pl k) 0 0 0 (by omega) (by omega)) ⟨by decide, by decide⟩ ⟨by omega, by omega⟩ hl.1 (Nat.le_of_ble_eq_true rfl) dL_law_1742 (fun ad H locs h4 hC hR hS => ?_)
      rw [if_neg (by rw [hE]; decide)] at hC
      rw [aR_n (by rw [hE]; decide), hE]
      refine lv_lload hx hb dL_law_1745 (lv_at hl 0 rfl) ?_
      refine lw_leq hx hb dL_law_1747 (by first | rfl | omega | (rfl)) ?_
      refine xr_if_ne (tgt := 1755) hx hb dL_law_1748 (by decide) (by decide) (fun yy8 => absurd yy8 (by decide)) (fun _ => ?_)
      refine lv_iconst (v := iI (1)) hx hb dL_law_1751 rfl ?_
      refine lv_goto (tgt := 1756) hx hb dL_law_1752 (by decide) ?_
      refine lv_istore (i := 23) (lv' := [(23, .int (iI (1))), (32, .long (lI (-1003))), (31, .int (iI (0))), (18, .int (iI (sg 503 0))), (19, .int (iI (sg 506 0))), (20, .long (lI (sg 510 0))), (24, .int (iI (turn))), (0, .ref b), (1, .ref hh), (2, .ref (adM 20 0)), (3, .ref (adM 21 0)), (4, .ref (adM 22 0)), (5, .ref (adM 23 0)), (6, .ref (adM 24 0)), (7, .ref (adM 25 0)), (8, .ref (adM 26 0)), (9, .ref (adM 27 0)), (10, .ref (adM 28 0)), (11, .ref (adM 29 0)), (12, .ref (adM 30 0)), (13, .ref (adM 31 0)), (14, .ref (adM 32 0)), (15, .ref (adM 33 0)), (16, .ref (adM 34 0)), (17, .ref (adM 35 0)), (25, .int (vx)), (26, .int (iI (what))), (27, .int (iI (k))), (28, .int (iI (8 * k))), (29, .int (iI (who))), (30, .int (iI (w)))]) hx hb dL_law_1756 hl (by decide) rfl (fun ls hl => ?_)
      refine lv_goto (tgt := 3115) hx hb dL_law_1758 (by decide) ?_
      refine W.widen (k := cells + 3) (n := slots + 45) (by omega) (by omega) ?_
      exact kk ad sg mu H locs ls _ _ _ ⟨hC, hR, h4, hLR, hV, hG, hM, hS⟩ (by omega) rfl rfl rfl (lv_sub hl [0, 3, 4, 5, 6, 7, 8, 9, 10, 11, 12, 13, 14, 15, 16, 17, 18, 19, 20, 21, 22, 23, 24] rfl)
  refine lv_aload_n hx hb dL_law_1604 rfl (lv_at hl 7 rfl) ?_
  refine lv_iload hx hb dL_law_1605 (lv_at hl 26 rfl) ?_
  refine lv_iconst (v := iI (2)) hx hb dL_law_1607 rfl ?_
  refine xr_iadd hx hb dL_law_1608 ?_
  refine xa_1000 (v := mu 1000 ((8 * k) + 2)) hx hb hK hR (by omega) rfl dL_law_1609 ?_
  have g9 := ml_1000 hM0 ((8 * k) + 2)
  refine xr_if_ne (tgt := 1685) hx hb dL_law_1610 (by decide) (by omega) (fun yy10 => ?_) (fun yy10 => ?_)
  · skip
    refine lv_iconst (v := iI (0)) hx hb dL_law_1685 rfl ?_
    exact w_topI (by first | exact (bI_t (by first | omega | grind)).symm | exact (bI_f (by first | omega | grind)).symm) J1686
  · skip
    refine lv_aload_n hx hb dL_law_1613 rfl (lv_at hl 7 rfl) ?_
    refine lv_iload hx hb dL_law_1614 (lv_at hl 26 rfl) ?_
    refine lv_iconst (v := iI (3)) hx hb dL_law_1616 rfl ?_
    refine xr_iadd hx hb dL_law_1617 ?_
    refine xa_1000 (v := mu 1000 ((8 * k) + 3)) hx hb hK hR (by omega) rfl dL_law_1618 ?_
    have g11 := ml_1000 hM0 ((8 * k) + 3)
    refine xr_if_lt (tgt := 1685) hx hb dL_law_1619 (by decide) (by omega) (fun yy12 => ?_) (fun yy12 => ?_)
    · skip
      refine lv_iconst (v := iI (0)) hx hb dL_law_1685 rfl ?_
      exact w_topI (by first | exact (bI_t (by first | omega | grind)).symm | exact (bI_f (by first | omega | grind)).symm) J1686
    · skip
      refine lv_aload hx hb dL_law_1622 (lv_at hl 18 rfl) ?_
      refine lv_aload_n hx hb dL_law_1624 rfl (lv_at hl 7 rfl) ?_
      refine lv_iload hx hb dL_law_1625 (lv_at hl 26 rfl) ?_
      refine lv_iconst (v := iI (3)) hx hb dL_law_1627 rfl ?_
      refine xr_iadd hx hb dL_law_1628 ?_
      refine xa_1000 (v := mu 1000 ((8 * k) + 3)) hx hb hK hR (by omega) rfl dL_law_1629 ?_
      refine xr_if_ge (tgt := 1637) hx hb dL_law_1630 (by decide) (by omega) (fun yy13 => ?_) (fun yy13 => absurd yy13 (by omega))
      refine lv_aload_n hx hb dL_law_1637 rfl (lv_at hl 7 rfl) ?_
      refine lv_iload hx hb dL_law_1638 (lv_at hl 26 rfl) ?_
      refine lv_iconst (v := iI (3)) hx hb dL_law_1640 rfl ?_
      refine xr_iadd hx hb dL_law_1641 ?_
      refine xa_1000 (v := mu 1000 ((8 * k) + 3)) hx hb hK hR (by omega) rfl dL_law_1642 ?_
      refine xa_1011 (v := mu 1011 (mu 1000 ((8 * k) + 3))) hx hb hK hR (by omega) rfl dL_law_1643 ?_
      have g14 := ml_1011 hM0 (mu 1000 ((8 * k) + 3))
      refine lv_iconst (v := iI (1)) hx hb dL_law_1644 rfl ?_
      refine xr_icmp_ne (tgt := 1685) hx hb dL_law_1645 (by decide) (by omega) (by omega) (fun yy15 => ?_) (fun yy15 => ?_)
      · skip
        refine lv_iconst (v := iI (0)) hx hb dL_law_1685 rfl ?_
        exact w_topI (by first | exact (bI_t (by first | omega | grind)).symm | exact (bI_f (by first | omega | grind)).symm) J1686
      · skip
        refine lv_iload hx hb dL_law_1648 (lv_at hl 2 rfl) ?_
        refine lv_aload hx hb dL_law_1650 (lv_at hl 18 rfl) ?_
        refine lv_iconst (v := iI (2)) hx hb dL_law_1652 rfl ?_
        refine lv_aload_n hx hb dL_law_1653 rfl (lv_at hl 7 rfl) ?_
        refine lv_iload hx hb dL_law_1654 (lv_at hl 26 rfl) ?_
        refine lv_iconst (v := iI (3)) hx hb dL_law_1656 rfl ?_
        refine xr_iadd hx hb dL_law_1657 ?_
        refine xa_1000 (v := mu 1000 ((8 * k) + 3)) hx hb hK hR (by omega) rfl dL_law_1658 ?_
        refine xr_if_ge (tgt := 1666) hx hb dL_law_1659 (by decide) (by omega) (fun yy16 => ?_) (fun yy16 => absurd yy16 (by omega))
        refine lv_aload_n hx hb dL_law_1666 rfl (lv_at hl 7 rfl) ?_
        refine lv_iload hx hb dL_law_1667 (lv_at hl 26 rfl) ?_
        refine lv_iconst (v := iI (3)) hx hb dL_law_1669 rfl ?_
        refine xr_iadd hx hb dL_law_1670 ?_
        refine xa_1000 (v := mu 1000 ((8 * k) + 3)) hx hb hK hR (by omega) rfl dL_law_1671 ?_
        refine xr_iadd hx hb dL_law_1672 ?_
        refine xa_1011 (v := mu 1011 (2 + (mu 1000 ((8 * k) + 3)))) hx hb hK hR (by omega) rfl dL_law_1673 ?_
        have g17 := ml_1011 hM0 (2 + (mu 1000 ((8 * k) + 3)))
        refine xr_isub hx hb dL_law_1674 ?_
        refine lv_sipush (v := iI (1095)) hx hb dL_law_1675 (by decide) ?_
        refine xr_icmp_gt (tgt := 1685) hx hb dL_law_1678 (by decide) (by omega) (by omega) (fun yy18 => ?_) (fun yy18 => ?_)
        · skip
          refine lv_iconst (v := iI (0)) hx hb dL_law_1685 rfl ?_
          exact w_topI (by first | exact (bI_t (by first | omega | grind)).symm | exact (bI_f (by first | omega | grind)).symm) J1686
        · skip
          refine lv_iconst (v := iI (1)) hx hb dL_law_1681 rfl ?_
          refine lv_goto (tgt := 1686) hx hb dL_law_1682 (by decide) ?_
          exact w_topI (by first | exact (bI_t (by first | omega | grind)).symm | exact (bI_f (by first | omega | grind)).symm) J1686
