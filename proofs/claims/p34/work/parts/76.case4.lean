set_option maxRecDepth 100000 in
set_option maxHeartbeats 8000000 in
theorem law_advance {p : Program} {l : Launch} {e : Env} {s : State} {m : MethodId} {below : List Frame} {meth : Method} {c : Code} {D : va_G} {cy : Nat → ClassId} {A A2 : Nat → Prop} {b L hh : Nat} {xs : Nat → Int32} {ad adM : Nat → Int → Nat} {sg mu : Nat → Int → Int} {H : Heap} {locs : List Loc} {cells slots : Nat} {Q : State → Prop} {ls : Array Slot} {turn : Int} {vx : Int32} {what k who w : Int} (E : LE p l s m meth c b L xs D cy A A2 adM) (I : LI D cy A A2 s hh ad adM sg mu H locs) (h7 : sg 702 0 ≤ 1000000) (hcl : cells + 1000 ≤ 600104) (hsl : slots + 20000 ≤ 7301314) (hwhat : what = 19) (hk : 0 ≤ k ∧ k ≤ 3) (hw : 0 ≤ w ∧ w ≤ 1) (hwho : 0 ≤ who ∧ who < sg 503 0) (hl : lv_has ls 37 [(23, .int (iI (1))), (18, .int (iI (sg 503 0))), (19, .int (iI (sg 506 0))), (20, .long (lI (sg 510 0))), (24, .int (iI (turn))), (0, .ref b), (1, .ref hh), (2, .ref (adM 20 0)), (3, .ref (adM 21 0)), (4, .ref (adM 22 0)), (5, .ref (adM 23 0)), (6, .ref (adM 24 0)), (7, .ref (adM 25 0)), (8, .ref (adM 26 0)), (9, .ref (adM 27 0)), (10, .ref (adM 28 0)), (11, .ref (adM 29 0)), (12, .ref (adM 30 0)), (13, .ref (adM 31 0)), (14, .ref (adM 32 0)), (15, .ref (adM 33 0)), (16, .ref (adM 34 0)), (17, .ref (adM 35 0)), (25, .int (vx)), (26, .int (iI (what))), (27, .int (iI (k))), (28, .int (iI (8 * k))), (29, .int (iI (who))), (30, .int (iI (w)))]) (kk : LK p l e s m below meth c b D cy A A2 hh adM cells slots Q sg turn) : W p l e room_1 s m #[Value.ref b] below meth c H locs cells slots Q (F0 m 2353 ls []) := by
  obtain ⟨⟨hx, hb, hr, hml, hown, hts0, hX, hbl, hlocks, -⟩, hl0, hK, hXS, hXN, hA, hA1, hA2, hN12, hL⟩ := E
  obtain ⟨hC, hR, h4, hLR, hV, hG, hM, hS⟩ := I
  have hM0 := hM
  have hts : ∀ w ∈ wG, w.before #[Value.ref b] s = true := fun w hw => hts0 w (List.mem_filter.mp hw).1
  have hown : s.vm.findClass "TakinghallLaw" = some m.cls := hown
  have g503 := gr_503 hG 0
  have g506 := gr_506 hG 0
  obtain ⟨K, hKe⟩ : ∃ K, K = mu 1001 (24 + who) := ⟨_, rfl⟩
  obtain ⟨hK3, h13, ha1, ha0⟩ := a_advance hLR hG hM hwho hKe
  have hsr := gr_110 hG who
  have hiA : iAt sg who = who := iAt_q hwho
  obtain ⟨mm, hRel, hGM⟩ := id hV
  have J2375 : W p l e room_1 s m #[Value.ref b] below meth c H locs cells slots Q (F0 m 2375 ls [.int (iI (bI (0 ≤ mu 1000 (8 * K + 5))))]) := by
    rcases bI_cases (0 ≤ mu 1000 (8 * K + 5)) with ⟨p1, q2⟩ | ⟨p1, q2⟩
    · rw [q2]
      have hp0 := p1
      refine lv_istore (i := 31) (lv' := [(31, .int (iI (1))), (23, .int (iI (1))), (18, .int (iI (sg 503 0))), (19, .int (iI (sg 506 0))), (20, .long (lI (sg 510 0))), (24, .int (iI (turn))), (0, .ref b), (1, .ref hh), (2, .ref (adM 20 0)), (3, .ref (adM 21 0)), (4, .ref (adM 22 0)), (5, .ref (adM 23 0)), (6, .ref (adM 24 0)), (7, .ref (adM 25 0)), (8, .ref (adM 26 0)), (9, .ref (adM 27 0)), (10, .ref (adM 28 0)), (11, .ref (adM 29 0)), (12, .ref (adM 30 0)), (13, .ref (adM 31 0)), (14, .ref (adM 32 0)), (15, .ref (adM 33 0)), (16, .ref (adM 34 0)), (17, .ref (adM 35 0)), (25, .int (vx)), (26, .int (iI (what))), (27, .int (iI (k))), (28, .int (iI (8 * k))), (29, .int (iI (who))), (30, .int (iI (w)))]) hx hb dL_law_2375 hl (by decide) rfl (fun ls hl => ?_)
      refine lv_iload hx hb dL_law_2377 (lv_at hl 0 rfl) ?_
      refine xr_if_eq (tgt := 2402) hx hb dL_law_2379 (by decide) (by decide) (fun yy3 => absurd yy3 (by decide)) (fun _ => ?_)
      have J2403 : W p l e room_1 s m #[Value.ref b] below meth c H locs cells slots Q (F0 m 2403 ls [.int (iI (bI (mu 1009 who < 0 ∧ mu 1010 who = 0)))]) := by
        rcases bI_cases (mu 1009 who < 0 ∧ mu 1010 who = 0) with ⟨p4, q5⟩ | ⟨p4, q5⟩
        · rw [q5]
          obtain ⟨hE, h112, h114⟩ := ha1 ⟨hp0, p4⟩
          refine lv_istore (i := 32) (lv' := [(32, .int (iI (1))), (31, .int (iI (1))), (23, .int (iI (1))), (18, .int (iI (sg 503 0))), (19, .int (iI (sg 506 0))), (20, .long (lI (sg 510 0))), (24, .int (iI (turn))), (0, .ref b), (1, .ref hh), (2, .ref (adM 20 0)), (3, .ref (adM 21 0)), (4, .ref (adM 22 0)), (5, .ref (adM 23 0)), (6, .ref (adM 24 0)), (7, .ref (adM 25 0)), (8, .ref (adM 26 0)), (9, .ref (adM 27 0)), (10, .ref (adM 28 0)), (11, .ref (adM 29 0)), (12, .ref (adM 30 0)), (13, .ref (adM 31 0)), (14, .ref (adM 32 0)), (15, .ref (adM 33 0)), (16, .ref (adM 34 0)), (17, .ref (adM 35 0)), (25, .int (vx)), (26, .int (iI (what))), (27, .int (iI (k))), (28, .int (iI (8 * k))), (29, .int (iI (who))), (30, .int (iI (w)))]) hx hb dL_law_2403 hl (by decide) rfl (fun ls hl => ?_)
          refine lv_aload hx hb dL_law_2405 (lv_at hl 23 rfl) ?_
          refine lv_iload hx hb dL_law_2407 (lv_at hl 29 rfl) ?_
          refine lv_iload hx hb dL_law_2409 (lv_at hl 0 rfl) ?_
          refine xr_if_eq (tgt := 2430) hx hb dL_law_2411 (by decide) (by decide) (fun yy6 => absurd yy6 (by decide)) (fun _ => ?_)
          refine lv_aload hx hb dL_law_2414 (lv_at hl 22 rfl) ?_
          refine lv_iload hx hb dL_law_2416 (lv_at hl 29 rfl) ?_
          refine xa_1013 (v := mu 1013 who) hx hb hK hR (by omega) rfl dL_law_2418 ?_
          refine lv_ldc2 (v := lI (90)) hx hb hown (hts _ kw_679) dL_law_2419 ?_
          refine xr_lmul hx hb dL_law_2422 ?_
          refine lv_ldc2 (v := lI (100)) hx hb hown (hts _ kw_674) dL_law_2423 ?_
          refine xr_ldiv hx hb dL_law_2426 (by omega) (by omega) ?_
          refine lv_goto (tgt := 2435) hx hb dL_law_2427 (by decide) ?_
          refine ys_1014 (v := ((mu 1013 who) * 90) / 100) hx hb hK hC hR hA2 hA1 hN12 hS (by omega) dL_law_2435 (fun H locs hC hR hS => ?_)
          have hM := gl_1014 hM (who) (((mu 1013 who) * 90) / 100)
          refine lv_aload hx hb dL_law_2436 (lv_at hl 24 rfl) ?_
          refine lv_iload hx hb dL_law_2438 (lv_at hl 29 rfl) ?_
          refine lv_dup2_11 hx hb dL_law_2440 rfl rfl ?_
          refine xa_1015 (v := mu 1015 who) hx hb hK hR (by omega) ((st_f (by decide)).trans rfl) dL_law_2441 ?_
          refine lv_iload hx hb dL_law_2442 (lv_at hl 0 rfl) ?_
          refine xr_if_eq (tgt := 2455) hx hb dL_law_2444 (by decide) (by decide) (fun yy7 => absurd yy7 (by decide)) (fun _ => ?_)
          refine lv_aload hx hb dL_law_2447 (lv_at hl 23 rfl) ?_
          refine lv_iload hx hb dL_law_2449 (lv_at hl 29 rfl) ?_
          refine xa_1014 (v := ((mu 1013 who) * 90) / 100) hx hb hK hR (by omega) (st_s) dL_law_2451 ?_
          refine lv_goto (tgt := 2456) hx hb dL_law_2452 (by decide) ?_
          refine xr_ladd hx hb dL_law_2456 ?_
          refine ys_1015 (v := (mu 1015 who) + (((mu 1013 who) * 90) / 100)) hx hb hK hC hR hA2 hA1 hN12 hS (by omega) dL_law_2457 (fun H locs hC hR hS => ?_)
          have hM := gl_1015 hM (who) ((mu 1015 who) + (((mu 1013 who) * 90) / 100))
          refine lv_aload hx hb dL_law_2458 (lv_at hl 18 rfl) ?_
          refine lv_iload hx hb dL_law_2460 (lv_at hl 29 rfl) ?_
          refine lv_iload hx hb dL_law_2462 (lv_at hl 0 rfl) ?_
          refine xr_if_eq (tgt := 2472) hx hb dL_law_2464 (by decide) (by decide) (fun yy8 => absurd yy8 (by decide)) (fun _ => ?_)
          refine lv_iload hx hb dL_law_2467 (lv_at hl 4 rfl) ?_
          refine lv_goto (tgt := 2477) hx hb dL_law_2469 (by decide) ?_
          refine ys_1009 (v := sg 506 0) hx hb hK hC hR hA2 hA1 hN12 hS (by omega) dL_law_2477 (fun H locs hC hR hS => ?_)
          have hM := gl_1009 hM (who) (v := sg 506 0) (by omega)
          refine lv_aload_n hx hb dL_law_2478 rfl (lv_at hl 8 rfl) ?_
          refine lv_bipush (v := iI (12)) hx hb dL_law_2479 (by decide) ?_
          refine lv_iload hx hb dL_law_2481 (lv_at hl 29 rfl) ?_
          refine lv_iconst (v := iI (0)) hx hb dL_law_2483 rfl ?_
          refine lv_iconst (v := iI (0)) hx hb dL_law_2484 rfl ?_
          refine lv_iconst (v := iI (0)) hx hb dL_law_2485 rfl ?_
          refine lw_act (f := 8) (lo := 131) (mc := 1) (ms := 6) (E := advE sg who) (T := (st (st (st sg 111 (iAt sg who) (sg 110 (iAt sg who) * 90 / 100)) 112 (iAt sg who) (sg 506 0)) 508 0 (sg 508 0 + sg 110 (iAt sg who) * 90 / 100))) hx hb hml hown hts hK hXS hXN hS hA1 hN12 hG hR h4 (c_act_12 hC hG hl0 (lw_hA hA hR) who 0 0 0 (by omega)) ⟨by decide, by decide⟩ ⟨by omega, by omega⟩ hl.1 (Nat.le_of_ble_eq_true rfl) dL_law_2486 (fun ad H locs h4 hC hR hS => ?_)
          rw [if_pos hE] at hC
          rw [aR_0 hE]
          rw [hiA] at hC
          rw [hiA]
          have hz := inv_of (s_advance hRel hG hGM who) hE
          rw [hiA] at hz
          have hLR0 := o_advance (A := mu 1013 who * 90 / 100) (t := sg 508 0 + mu 1013 who * 90 / 100) hLR hG hV hwho h112 h114
          refine lv_iload hx hb dL_law_2489 (lv_at hl 0 rfl) ?_
          refine xr_if_eq (tgt := 2502) hx hb dL_law_2491 (by decide) (by decide) (fun yy9 => absurd yy9 (by decide)) (fun _ => ?_)
          refine lv_aload hx hb dL_law_2494 (lv_at hl 23 rfl) ?_
          refine lv_iload hx hb dL_law_2496 (lv_at hl 29 rfl) ?_
          refine xa_1014 (v := ((mu 1013 who) * 90) / 100) hx hb hK hR (by omega) ((st_f (by decide)).trans ((st_f (by decide)).trans (st_s))) dL_law_2498 ?_
          refine lv_goto (tgt := 2505) hx hb dL_law_2499 (by decide) ?_
          refine lw_leq hx hb dL_law_2505 (by first | rfl | omega | (rfl)) ?_
          refine xr_if_ne (tgt := 2513) hx hb dL_law_2506 (by decide) (by decide) (fun yy10 => absurd yy10 (by decide)) (fun _ => ?_)
          refine lv_iconst (v := iI (1)) hx hb dL_law_2509 rfl ?_
          refine lv_goto (tgt := 2514) hx hb dL_law_2510 (by decide) ?_
          refine lv_istore (i := 23) (lv' := [(23, .int (iI (1))), (32, .int (iI (1))), (31, .int (iI (1))), (18, .int (iI (sg 503 0))), (19, .int (iI (sg 506 0))), (20, .long (lI (sg 510 0))), (24, .int (iI (turn))), (0, .ref b), (1, .ref hh), (2, .ref (adM 20 0)), (3, .ref (adM 21 0)), (4, .ref (adM 22 0)), (5, .ref (adM 23 0)), (6, .ref (adM 24 0)), (7, .ref (adM 25 0)), (8, .ref (adM 26 0)), (9, .ref (adM 27 0)), (10, .ref (adM 28 0)), (11, .ref (adM 29 0)), (12, .ref (adM 30 0)), (13, .ref (adM 31 0)), (14, .ref (adM 32 0)), (15, .ref (adM 33 0)), (16, .ref (adM 34 0)), (17, .ref (adM 35 0)), (25, .int (vx)), (26, .int (iI (what))), (27, .int (iI (k))), (28, .int (iI (8 * k))), (29, .int (iI (who))), (30, .int (iI (w)))]) hx hb dL_law_2514 hl (by decide) rfl (fun ls hl => ?_)
          refine lv_goto (tgt := 3115) hx hb dL_law_2516 (by decide) ?_
          have hLR : LR (st (st (st sg 111 who (sg 110 who * 90 / 100)) 112 who (sg 506 0)) 508 0 (sg 508 0 + sg 110 who * 90 / 100)) (st (st (st mu 1014 (who) (((mu 1013 who) * 90) / 100)) 1015 (who) ((mu 1015 who) + (((mu 1013 who) * 90) / 100))) 1009 (who) (sg 506 0)) := by rw [← h13]; exact hLR0
          refine W.widen (k := cells + 3) (n := slots + 45) (by omega) (by omega) ?_
          exact kk ad ((st (st (st sg 111 who (sg 110 who * 90 / 100)) 112 who (sg 506 0)) 508 0 (sg 508 0 + sg 110 who * 90 / 100))) (st (st (st mu 1014 (who) (((mu 1013 who) * 90) / 100)) 1015 (who) ((mu 1015 who) + (((mu 1013 who) * 90) / 100))) 1009 (who) (sg 506 0)) H locs ls _ _ _ ⟨hC, hR, h4, hLR, hz.1, hz.2, hM, hS⟩ (by show sg 702 0 ≤ sg 702 0 + 1; omega) rfl rfl rfl (lv_sub hl [0, 3, 4, 5, 6, 7, 8, 9, 10, 11, 12, 13, 14, 15, 16, 17, 18, 19, 20, 21, 22, 23, 24] rfl)
        · rw [q5]
          have hE := ha0 (fun z => p4 z.2)
          refine lv_istore (i := 32) (lv' := [(32, .int (iI (0))), (31, .int (iI (1))), (23, .int (iI (1))), (18, .int (iI (sg 503 0))), (19, .int (iI (sg 506 0))), (20, .long (lI (sg 510 0))), (24, .int (iI (turn))), (0, .ref b), (1, .ref hh), (2, .ref (adM 20 0)), (3, .ref (adM 21 0)), (4, .ref (adM 22 0)), (5, .ref (adM 23 0)), (6, .ref (adM 24 0)), (7, .ref (adM 25 0)), (8, .ref (adM 26 0)), (9, .ref (adM 27 0)), (10, .ref (adM 28 0)), (11, .ref (adM 29 0)), (12, .ref (adM 30 0)), (13, .ref (adM 31 0)), (14, .ref (adM 32 0)), (15, .ref (adM 33 0)), (16, .ref (adM 34 0)), (17, .ref (adM 35 0)), (25, .int (vx)), (26, .int (iI (what))), (27, .int (iI (k))), (28, .int (iI (8 * k))), (29, .int (iI (who))), (30, .int (iI (w)))]) hx hb dL_law_2403 hl (by decide) rfl (fun ls hl => ?_)
          refine lv_aload hx hb dL_law_2405 (lv_at hl 23 rfl) ?_
          refine lv_iload hx hb dL_law_2407 (lv_at hl 29 rfl) ?_
          refine lv_iload hx hb dL_law_2409 (lv_at hl 0 rfl) ?_
          refine xr_if_eq (tgt := 2430) hx hb dL_law_2411 (by decide) (by decide) (fun _ => ?_) (fun yy11 => absurd yy11 (by decide))
          refine lv_aload hx hb dL_law_2430 (lv_at hl 23 rfl) ?_
          refine lv_iload hx hb dL_law_2432 (lv_at hl 29 rfl) ?_
          refine xa_1014 (v := mu 1014 who) hx hb hK hR (by omega) rfl dL_law_2434 ?_
          refine ys_1014 (v := mu 1014 who) hx hb hK hC hR hA2 hA1 hN12 hS (by omega) dL_law_2435 (fun H locs hC hR hS => ?_)
          have hM := gl_1014 hM (who) (mu 1014 who)
          refine lv_aload hx hb dL_law_2436 (lv_at hl 24 rfl) ?_
          refine lv_iload hx hb dL_law_2438 (lv_at hl 29 rfl) ?_
          refine lv_dup2_11 hx hb dL_law_2440 rfl rfl ?_
          refine xa_1015 (v := mu 1015 who) hx hb hK hR (by omega) ((st_f (by decide)).trans rfl) dL_law_2441 ?_
          refine lv_iload hx hb dL_law_2442 (lv_at hl 0 rfl) ?_
          refine xr_if_eq (tgt := 2455) hx hb dL_law_2444 (by decide) (by decide) (fun _ => ?_) (fun yy12 => absurd yy12 (by decide))
          refine lv_lconst (v := lI (0)) hx hb dL_law_2455 (by decide) ?_
          refine xr_ladd hx hb dL_law_2456 ?_
          refine ys_1015 (v := (mu 1015 who) + 0) hx hb hK hC hR hA2 hA1 hN12 hS (by omega) dL_law_2457 (fun H locs hC hR hS => ?_)
          have hM := gl_1015 hM (who) ((mu 1015 who) + 0)
          refine lv_aload hx hb dL_law_2458 (lv_at hl 18 rfl) ?_
          refine lv_iload hx hb dL_law_2460 (lv_at hl 29 rfl) ?_
          refine lv_iload hx hb dL_law_2462 (lv_at hl 0 rfl) ?_
          refine xr_if_eq (tgt := 2472) hx hb dL_law_2464 (by decide) (by decide) (fun _ => ?_) (fun yy13 => absurd yy13 (by decide))
          refine lv_aload hx hb dL_law_2472 (lv_at hl 18 rfl) ?_
          refine lv_iload hx hb dL_law_2474 (lv_at hl 29 rfl) ?_
          refine xa_1009 (v := mu 1009 who) hx hb hK hR (by omega) ((st_f (by decide)).trans ((st_f (by decide)).trans rfl)) dL_law_2476 ?_
          have g14 := ml_1009 hM0 (who)
          refine ys_1009 (v := mu 1009 who) hx hb hK hC hR hA2 hA1 hN12 hS (by omega) dL_law_2477 (fun H locs hC hR hS => ?_)
          have hM := gl_1009 hM (who) (v := mu 1009 who) (by omega)
          refine lv_aload_n hx hb dL_law_2478 rfl (lv_at hl 8 rfl) ?_
          refine lv_bipush (v := iI (12)) hx hb dL_law_2479 (by decide) ?_
          refine lv_iload hx hb dL_law_2481 (lv_at hl 29 rfl) ?_
          refine lv_iconst (v := iI (0)) hx hb dL_law_2483 rfl ?_
          refine lv_iconst (v := iI (0)) hx hb dL_law_2484 rfl ?_
          refine lv_iconst (v := iI (0)) hx hb dL_law_2485 rfl ?_
          refine lw_act (f := 8) (lo := 131) (mc := 1) (ms := 6) (E := advE sg who) (T := (st (st (st sg 111 (iAt sg who) (sg 110 (iAt sg who) * 90 / 100)) 112 (iAt sg who) (sg 506 0)) 508 0 (sg 508 0 + sg 110 (iAt sg who) * 90 / 100))) hx hb hml hown hts hK hXS hXN hS hA1 hN12 hG hR h4 (c_act_12 hC hG hl0 (lw_hA hA hR) who 0 0 0 (by omega)) ⟨by decide, by decide⟩ ⟨by omega, by omega⟩ hl.1 (Nat.le_of_ble_eq_true rfl) dL_law_2486 (fun ad H locs h4 hC hR hS => ?_)
          rw [if_neg (by rw [hE]; decide)] at hC
          rw [aR_n (by rw [hE]; decide), hE]
          refine lv_iload hx hb dL_law_2489 (lv_at hl 0 rfl) ?_
          refine xr_if_eq (tgt := 2502) hx hb dL_law_2491 (by decide) (by decide) (fun _ => ?_) (fun yy15 => absurd yy15 (by decide))
          refine lv_ldc2 (v := lI (-1003)) hx hb hown (hts _ kw_654) dL_law_2502 ?_
          refine lw_leq hx hb dL_law_2505 (by first | rfl | omega | (rfl)) ?_
          refine xr_if_ne (tgt := 2513) hx hb dL_law_2506 (by decide) (by decide) (fun yy16 => absurd yy16 (by decide)) (fun _ => ?_)
          refine lv_iconst (v := iI (1)) hx hb dL_law_2509 rfl ?_
          refine lv_goto (tgt := 2514) hx hb dL_law_2510 (by decide) ?_
          refine lv_istore (i := 23) (lv' := [(23, .int (iI (1))), (32, .int (iI (0))), (31, .int (iI (1))), (18, .int (iI (sg 503 0))), (19, .int (iI (sg 506 0))), (20, .long (lI (sg 510 0))), (24, .int (iI (turn))), (0, .ref b), (1, .ref hh), (2, .ref (adM 20 0)), (3, .ref (adM 21 0)), (4, .ref (adM 22 0)), (5, .ref (adM 23 0)), (6, .ref (adM 24 0)), (7, .ref (adM 25 0)), (8, .ref (adM 26 0)), (9, .ref (adM 27 0)), (10, .ref (adM 28 0)), (11, .ref (adM 29 0)), (12, .ref (adM 30 0)), (13, .ref (adM 31 0)), (14, .ref (adM 32 0)), (15, .ref (adM 33 0)), (16, .ref (adM 34 0)), (17, .ref (adM 35 0)), (25, .int (vx)), (26, .int (iI (what))), (27, .int (iI (k))), (28, .int (iI (8 * k))), (29, .int (iI (who))), (30, .int (iI (w)))]) hx hb dL_law_2514 hl (by decide) rfl (fun ls hl => ?_)
          refine lv_goto (tgt := 3115) hx hb dL_law_2516 (by decide) ?_
          refine W.widen (k := cells + 3) (n := slots + 45) (by omega) (by omega) ?_
          exact kk ad sg (st (st (st mu 1014 (who) (mu 1014 who)) 1015 (who) ((mu 1015 who) + 0)) 1009 (who) (mu 1009 who)) H locs ls _ _ _ ⟨hC, hR, h4, (by rw [st_id (sg := mu) (f := 1014) rfl, st_id (sg := mu) (f := 1015) (by omega), st_id (sg := mu) rfl]; exact hLR), hV, hG, hM, hS⟩ (by omega) rfl rfl rfl (lv_sub hl [0, 3, 4, 5, 6, 7, 8, 9, 10, 11, 12, 13, 14, 15, 16, 17, 18, 19, 20, 21, 22, 23, 24] rfl)
      refine lv_aload hx hb dL_law_2382 (lv_at hl 17 rfl) ?_
      refine lv_iload hx hb dL_law_2384 (lv_at hl 28 rfl) ?_
      refine xa_1009 (v := mu 1009 who) hx hb hK hR (by omega) rfl dL_law_2386 ?_
      have g17 := ml_1009 hM0 (who)
      refine xr_if_ge (tgt := 2402) hx hb dL_law_2387 (by decide) (by omega) (fun yy18 => ?_) (fun yy18 => ?_)
      · skip
        refine lv_iconst (v := iI (0)) hx hb dL_law_2402 rfl ?_
        exact w_topI (by first | exact (bI_t (by first | omega | grind)).symm | exact (bI_f (by first | omega | grind)).symm) J2403
      · skip
        refine lv_aload hx hb dL_law_2390 (lv_at hl 18 rfl) ?_
        refine lv_iload hx hb dL_law_2392 (lv_at hl 28 rfl) ?_
        refine xa_1010 (v := mu 1010 who) hx hb hK hR (by omega) rfl dL_law_2394 ?_
        have g19 := ml_1010 hM0 (who)
        refine xr_if_ne (tgt := 2402) hx hb dL_law_2395 (by decide) (by omega) (fun yy20 => ?_) (fun yy20 => ?_)
        · skip
          refine lv_iconst (v := iI (0)) hx hb dL_law_2402 rfl ?_
          exact w_topI (by first | exact (bI_t (by first | omega | grind)).symm | exact (bI_f (by first | omega | grind)).symm) J2403
        · skip
          refine lv_iconst (v := iI (1)) hx hb dL_law_2398 rfl ?_
          refine lv_goto (tgt := 2403) hx hb dL_law_2399 (by decide) ?_
          exact w_topI (by first | exact (bI_t (by first | omega | grind)).symm | exact (bI_f (by first | omega | grind)).symm) J2403
    · rw [q2]
      have hE := ha0 (fun z => p1 z.1)
      refine lv_istore (i := 31) (lv' := [(31, .int (iI (0))), (23, .int (iI (1))), (18, .int (iI (sg 503 0))), (19, .int (iI (sg 506 0))), (20, .long (lI (sg 510 0))), (24, .int (iI (turn))), (0, .ref b), (1, .ref hh), (2, .ref (adM 20 0)), (3, .ref (adM 21 0)), (4, .ref (adM 22 0)), (5, .ref (adM 23 0)), (6, .ref (adM 24 0)), (7, .ref (adM 25 0)), (8, .ref (adM 26 0)), (9, .ref (adM 27 0)), (10, .ref (adM 28 0)), (11, .ref (adM 29 0)), (12, .ref (adM 30 0)), (13, .ref (adM 31 0)), (14, .ref (adM 32 0)), (15, .ref (adM 33 0)), (16, .ref (adM 34 0)), (17, .ref (adM 35 0)), (25, .int (vx)), (26, .int (iI (what))), (27, .int (iI (k))), (28, .int (iI (8 * k))), (29, .int (iI (who))), (30, .int (iI (w)))]) hx hb dL_law_2375 hl (by decide) rfl (fun ls hl => ?_)
      refine lv_iload hx hb dL_law_2377 (lv_at hl 0 rfl) ?_
      refine xr_if_eq (tgt := 2402) hx hb dL_law_2379 (by decide) (by decide) (fun _ => ?_) (fun yy21 => absurd yy21 (by decide))
      refine lv_iconst (v := iI (0)) hx hb dL_law_2402 rfl ?_
      refine lv_istore (i := 32) (lv' := [(32, .int (iI (0))), (31, .int (iI (0))), (23, .int (iI (1))), (18, .int (iI (sg 503 0))), (19, .int (iI (sg 506 0))), (20, .long (lI (sg 510 0))), (24, .int (iI (turn))), (0, .ref b), (1, .ref hh), (2, .ref (adM 20 0)), (3, .ref (adM 21 0)), (4, .ref (adM 22 0)), (5, .ref (adM 23 0)), (6, .ref (adM 24 0)), (7, .ref (adM 25 0)), (8, .ref (adM 26 0)), (9, .ref (adM 27 0)), (10, .ref (adM 28 0)), (11, .ref (adM 29 0)), (12, .ref (adM 30 0)), (13, .ref (adM 31 0)), (14, .ref (adM 32 0)), (15, .ref (adM 33 0)), (16, .ref (adM 34 0)), (17, .ref (adM 35 0)), (25, .int (vx)), (26, .int (iI (what))), (27, .int (iI (k))), (28, .int (iI (8 * k))), (29, .int (iI (who))), (30, .int (iI (w)))]) hx hb dL_law_2403 hl (by decide) rfl (fun ls hl => ?_)
      refine lv_aload hx hb dL_law_2405 (lv_at hl 23 rfl) ?_
      refine lv_iload hx hb dL_law_2407 (lv_at hl 29 rfl) ?_
      refine lv_iload hx hb dL_law_2409 (lv_at hl 0 rfl) ?_
      refine xr_if_eq (tgt := 2430) hx hb dL_law_2411 (by decide) (by decide) (fun _ => ?_) (fun yy22 => absurd yy22 (by decide))
      refine lv_aload hx hb dL_law_2430 (lv_at hl 23 rfl) ?_
      refine lv_iload hx hb dL_law_2432 (lv_at hl 29 rfl) ?_
      refine xa_1014 (v := mu 1014 who) hx hb hK hR (by omega) rfl dL_law_2434 ?_
      refine ys_1014 (v := mu 1014 who) hx hb hK hC hR hA2 hA1 hN12 hS (by omega) dL_law_2435 (fun H locs hC hR hS => ?_)
      have hM := gl_1014 hM (who) (mu 1014 who)
      refine lv_aload hx hb dL_law_2436 (lv_at hl 24 rfl) ?_
      refine lv_iload hx hb dL_law_2438 (lv_at hl 29 rfl) ?_
      refine lv_dup2_11 hx hb dL_law_2440 rfl rfl ?_
      refine xa_1015 (v := mu 1015 who) hx hb hK hR (by omega) ((st_f (by decide)).trans rfl) dL_law_2441 ?_
      refine lv_iload hx hb dL_law_2442 (lv_at hl 0 rfl) ?_
      refine xr_if_eq (tgt := 2455) hx hb dL_law_2444 (by decide) (by decide) (fun _ => ?_) (fun yy23 => absurd yy23 (by decide))
      refine lv_lconst (v := lI (0)) hx hb dL_law_2455 (by decide) ?_
      refine xr_ladd hx hb dL_law_2456 ?_
      refine ys_1015 (v := (mu 1015 who) + 0) hx hb hK hC hR hA2 hA1 hN12 hS (by omega) dL_law_2457 (fun H locs hC hR hS => ?_)
      have hM := gl_1015 hM (who) ((mu 1015 who) + 0)
      refine lv_aload hx hb dL_law_2458 (lv_at hl 18 rfl) ?_
      refine lv_iload hx hb dL_law_2460 (lv_at hl 29 rfl) ?_
      refine lv_iload hx hb dL_law_2462 (lv_at hl 0 rfl) ?_
      refine xr_if_eq (tgt := 2472) hx hb dL_law_2464 (by decide) (by decide) (fun _ => ?_) (fun yy24 => absurd yy24 (by decide))
      refine lv_aload hx hb dL_law_2472 (lv_at hl 18 rfl) ?_
      refine lv_iload hx hb dL_law_2474 (lv_at hl 29 rfl) ?_
      refine xa_1009 (v := mu 1009 who) hx hb hK hR (by omega) ((st_f (by decide)).trans ((st_f (by decide)).trans rfl)) dL_law_2476 ?_
      have g25 := ml_1009 hM0 (who)
      refine ys_1009 (v := mu 1009 who) hx hb hK hC hR hA2 hA1 hN12 hS (by omega) dL_law_2477 (fun H locs hC hR hS => ?_)
      have hM := gl_1009 hM (who) (v := mu 1009 who) (by omega)
      refine lv_aload_n hx hb dL_law_2478 rfl (lv_at hl 8 rfl) ?_
      refine lv_bipush (v := iI (12)) hx hb dL_law_2479 (by decide) ?_
      refine lv_iload hx hb dL_law_2481 (lv_at hl 29 rfl) ?_
      refine lv_iconst (v := iI (0)) hx hb dL_law_2483 rfl ?_
      refine lv_iconst (v := iI (0)) hx hb dL_law_2484 rfl ?_
      refine lv_iconst (v := iI (0)) hx hb dL_law_2485 rfl ?_
      refine lw_act (f := 8) (lo := 131) (mc := 1) (ms := 6) (E := advE sg who) (T := (st (st (st sg 111 (iAt sg who) (sg 110 (iAt sg who) * 90 / 100)) 112 (iAt sg who) (sg 506 0)) 508 0 (sg 508 0 + sg 110 (iAt sg who) * 90 / 100))) hx hb hml hown hts hK hXS hXN hS hA1 hN12 hG hR h4 (c_act_12 hC hG hl0 (lw_hA hA hR) who 0 0 0 (by omega)) ⟨by decide, by decide⟩ ⟨by omega, by omega⟩ hl.1 (Nat.le_of_ble_eq_true rfl) dL_law_2486 (fun ad H locs h4 hC hR hS => ?_)
      rw [if_neg (by rw [hE]; decide)] at hC
      rw [aR_n (by rw [hE]; decide), hE]
      refine lv_iload hx hb dL_law_2489 (lv_at hl 0 rfl) ?_
      refine xr_if_eq (tgt := 2502) hx hb dL_law_2491 (by decide) (by decide) (fun _ => ?_) (fun yy26 => absurd yy26 (by decide))
      refine lv_ldc2 (v := lI (-1003)) hx hb hown (hts _ kw_654) dL_law_2502 ?_
      refine lw_leq hx hb dL_law_2505 (by first | rfl | omega | (rfl)) ?_
      refine xr_if_ne (tgt := 2513) hx hb dL_law_2506 (by decide) (by decide) (fun yy27 => absurd yy27 (by decide)) (fun _ => ?_)
      refine lv_iconst (v := iI (1)) hx hb dL_law_2509 rfl ?_
      refine lv_goto (tgt := 2514) hx hb dL_law_2510 (by decide) ?_
      refine lv_istore (i := 23) (lv' := [(23, .int (iI (1))), (32, .int (iI (0))), (31, .int (iI (0))), (18, .int (iI (sg 503 0))), (19, .int (iI (sg 506 0))), (20, .long (lI (sg 510 0))), (24, .int (iI (turn))), (0, .ref b), (1, .ref hh), (2, .ref (adM 20 0)), (3, .ref (adM 21 0)), (4, .ref (adM 22 0)), (5, .ref (adM 23 0)), (6, .ref (adM 24 0)), (7, .ref (adM 25 0)), (8, .ref (adM 26 0)), (9, .ref (adM 27 0)), (10, .ref (adM 28 0)), (11, .ref (adM 29 0)), (12, .ref (adM 30 0)), (13, .ref (adM 31 0)), (14, .ref (adM 32 0)), (15, .ref (adM 33 0)), (16, .ref (adM 34 0)), (17, .ref (adM 35 0)), (25, .int (vx)), (26, .int (iI (what))), (27, .int (iI (k))), (28, .int (iI (8 * k))), (29, .int (iI (who))), (30, .int (iI (w)))]) hx hb dL_law_2514 hl (by decide) rfl (fun ls hl => ?_)
      refine lv_goto (tgt := 3115) hx hb dL_law_2516 (by decide) ?_
      refine W.widen (k := cells + 3) (n := slots + 45) (by omega) (by omega) ?_
      exact kk ad sg (st (st (st mu 1014 (who) (mu 1014 who)) 1015 (who) ((mu 1015 who) + 0)) 1009 (who) (mu 1009 who)) H locs ls _ _ _ ⟨hC, hR, h4, (by rw [st_id (sg := mu) (f := 1014) rfl, st_id (sg := mu) (f := 1015) (by omega), st_id (sg := mu) rfl]; exact hLR), hV, hG, hM, hS⟩ (by omega) rfl rfl rfl (lv_sub hl [0, 3, 4, 5, 6, 7, 8, 9, 10, 11, 12, 13, 14, 15, 16, 17, 18, 19, 20, 21, 22, 23, 24] rfl)
  refine lv_aload_n hx hb dL_law_2353 rfl (lv_at hl 7 rfl) ?_
  refine lv_bipush (v := iI (8)) hx hb dL_law_2354 (by decide) ?_
  refine lv_aload_n hx hb dL_law_2356 rfl (lv_at hl 8 rfl) ?_
  refine lv_bipush (v := iI (24)) hx hb dL_law_2357 (by decide) ?_
  refine lv_iload hx hb dL_law_2359 (lv_at hl 27 rfl) ?_
  refine xr_iadd hx hb dL_law_2361 ?_
  refine xa_1001 (v := K) hx hb hK hR (by omega) (hKe.symm) dL_law_2362 ?_
  refine xr_imul hx hb dL_law_2363 ?_
  refine lv_iconst (v := iI (5)) hx hb dL_law_2364 rfl ?_
  refine xr_iadd hx hb dL_law_2365 ?_
  refine xa_1000 (v := mu 1000 ((8 * K) + 5)) hx hb hK hR (by omega) rfl dL_law_2366 ?_
  have g28 := ml_1000 hM0 ((8 * K) + 5)
  refine xr_if_lt (tgt := 2374) hx hb dL_law_2367 (by decide) (by omega) (fun yy29 => ?_) (fun yy29 => ?_)
  · skip
    refine lv_iconst (v := iI (0)) hx hb dL_law_2374 rfl ?_
    exact w_topI (by first | exact (bI_t (by first | omega | grind)).symm | exact (bI_f (by first | omega | grind)).symm) J2375
  · skip
    refine lv_iconst (v := iI (1)) hx hb dL_law_2370 rfl ?_
    refine lv_goto (tgt := 2375) hx hb dL_law_2371 (by decide) ?_
    exact w_topI (by first | exact (bI_t (by first | omega | grind)).symm | exact (bI_f (by first | omega | grind)).symm) J2375
set_option maxRecDepth 100000 in
set_option maxHeartbeats 8000000 in
theorem law_settle {p : Program} {l : Launch} {e : Env} {s : State} {m : MethodId} {below : List Frame} {meth : Method} {c : Code} {D : va_G} {cy : Nat → ClassId} {A A2 : Nat → Prop} {b L hh : Nat} {xs : Nat → Int32} {ad adM : Nat → Int → Nat} {sg mu : Nat → Int → Int} {H : Heap} {locs : List Loc} {cells slots : Nat} {Q : State → Prop} {ls : Array Slot} {turn : Int} {vx : Int32} {what k who w : Int} (E : LE p l s m meth c b L xs D cy A A2 adM) (I : LI D cy A A2 s hh ad adM sg mu H locs) (h7 : sg 702 0 ≤ 1000000) (hcl : cells + 1000 ≤ 600104) (hsl : slots + 20000 ≤ 7301314) (hwhat : what = 20) (hk : 0 ≤ k ∧ k ≤ 3) (hw : 0 ≤ w ∧ w ≤ 1) (hwho : 0 ≤ who ∧ who < sg 503 0) (hl : lv_has ls 37 [(23, .int (iI (1))), (18, .int (iI (sg 503 0))), (19, .int (iI (sg 506 0))), (20, .long (lI (sg 510 0))), (24, .int (iI (turn))), (0, .ref b), (1, .ref hh), (2, .ref (adM 20 0)), (3, .ref (adM 21 0)), (4, .ref (adM 22 0)), (5, .ref (adM 23 0)), (6, .ref (adM 24 0)), (7, .ref (adM 25 0)), (8, .ref (adM 26 0)), (9, .ref (adM 27 0)), (10, .ref (adM 28 0)), (11, .ref (adM 29 0)), (12, .ref (adM 30 0)), (13, .ref (adM 31 0)), (14, .ref (adM 32 0)), (15, .ref (adM 33 0)), (16, .ref (adM 34 0)), (17, .ref (adM 35 0)), (25, .int (vx)), (26, .int (iI (what))), (27, .int (iI (k))), (28, .int (iI (8 * k))), (29, .int (iI (who))), (30, .int (iI (w)))]) (kk : LK p l e s m below meth c b D cy A A2 hh adM cells slots Q sg turn) : W p l e room_1 s m #[Value.ref b] below meth c H locs cells slots Q (F0 m 2531 ls []) := by
  obtain ⟨⟨hx, hb, hr, hml, hown, hts0, hX, hbl, hlocks, -⟩, hl0, hK, hXS, hXN, hA, hA1, hA2, hN12, hL⟩ := E
  obtain ⟨hC, hR, h4, hLR, hV, hG, hM, hS⟩ := I
  have hM0 := hM
  have hts : ∀ w ∈ wG, w.before #[Value.ref b] s = true := fun w hw => hts0 w (List.mem_filter.mp hw).1
  have hown : s.vm.findClass "TakinghallLaw" = some m.cls := hown
  have g503 := gr_503 hG 0
  have g506 := gr_506 hG 0
  obtain ⟨K, hKe⟩ : ∃ K, K = mu 1001 (24 + who) := ⟨_, rfl⟩
  obtain ⟨hK3, ha1, ha0, hr13, hr14⟩ := a_settle hLR hG hV hM hwho hKe
  have hiA : iAt sg who = who := iAt_q hwho
  obtain ⟨mm, hRel, hGM⟩ := id hV
  have hb5 := ml_1000 hM (8 * K + 5)
  have hb9 := ml_1009 hM who
  obtain ⟨due, hdue⟩ : ∃ due, due = (if mu 1009 who < 0 then mu 1013 who + gainR (mu 1013 who) (sg 506 0 - mu 1000 (8 * K + 5)) else mu 1013 who - mu 1014 who + gainR (mu 1013 who) (mu 1009 who - mu 1000 (8 * K + 5)) + gainR (mu 1013 who - mu 1014 who) (sg 506 0 - mu 1009 who)) := ⟨_, rfl⟩
  refine lv_aload_n hx hb dL_law_2531 rfl (lv_at hl 7 rfl) ?_
  refine lv_bipush (v := iI (8)) hx hb dL_law_2532 (by decide) ?_
  refine lv_aload_n hx hb dL_law_2534 rfl (lv_at hl 8 rfl) ?_
  refine lv_bipush (v := iI (24)) hx hb dL_law_2535 (by decide) ?_
  refine lv_iload hx hb dL_law_2537 (lv_at hl 27 rfl) ?_
  refine xr_iadd hx hb dL_law_2539 ?_
  refine xa_1001 (v := K) hx hb hK hR (by omega) (hKe.symm) dL_law_2540 ?_
  refine xr_imul hx hb dL_law_2541 ?_
  refine lv_iconst (v := iI (5)) hx hb dL_law_2542 rfl ?_
  refine xr_iadd hx hb dL_law_2543 ?_
  refine xa_1000 (v := mu 1000 ((8 * K) + 5)) hx hb hK hR (by omega) rfl dL_law_2544 ?_
  have g1 := ml_1000 hM0 ((8 * K) + 5)
  refine lv_istore (i := 31) (lv' := [(31, .int (iI (mu 1000 ((8 * K) + 5)))), (23, .int (iI (1))), (18, .int (iI (sg 503 0))), (19, .int (iI (sg 506 0))), (20, .long (lI (sg 510 0))), (24, .int (iI (turn))), (0, .ref b), (1, .ref hh), (2, .ref (adM 20 0)), (3, .ref (adM 21 0)), (4, .ref (adM 22 0)), (5, .ref (adM 23 0)), (6, .ref (adM 24 0)), (7, .ref (adM 25 0)), (8, .ref (adM 26 0)), (9, .ref (adM 27 0)), (10, .ref (adM 28 0)), (11, .ref (adM 29 0)), (12, .ref (adM 30 0)), (13, .ref (adM 31 0)), (14, .ref (adM 32 0)), (15, .ref (adM 33 0)), (16, .ref (adM 34 0)), (17, .ref (adM 35 0)), (25, .int (vx)), (26, .int (iI (what))), (27, .int (iI (k))), (28, .int (iI (8 * k))), (29, .int (iI (who))), (30, .int (iI (w)))]) hx hb dL_law_2545 hl (by decide) rfl (fun ls hl => ?_)
  have J2565 : W p l e room_1 s m #[Value.ref b] below meth c H locs cells slots Q (F0 m 2565 ls [.int (iI (bI (0 ≤ mu 1000 (8 * K + 5) ∧ mu 1010 who = 0)))]) := by
    rcases bI_cases (0 ≤ mu 1000 (8 * K + 5) ∧ mu 1010 who = 0) with ⟨p2, q3⟩ | ⟨p2, q3⟩
    · rw [q3]
      obtain ⟨hE, h114, hiE, hOw⟩ := ha1 p2
      rw [hiA, ← hdue] at hOw
      refine lv_istore (i := 32) (lv' := [(32, .int (iI (1))), (31, .int (iI (mu 1000 ((8 * K) + 5)))), (23, .int (iI (1))), (18, .int (iI (sg 503 0))), (19, .int (iI (sg 506 0))), (20, .long (lI (sg 510 0))), (24, .int (iI (turn))), (0, .ref b), (1, .ref hh), (2, .ref (adM 20 0)), (3, .ref (adM 21 0)), (4, .ref (adM 22 0)), (5, .ref (adM 23 0)), (6, .ref (adM 24 0)), (7, .ref (adM 25 0)), (8, .ref (adM 26 0)), (9, .ref (adM 27 0)), (10, .ref (adM 28 0)), (11, .ref (adM 29 0)), (12, .ref (adM 30 0)), (13, .ref (adM 31 0)), (14, .ref (adM 32 0)), (15, .ref (adM 33 0)), (16, .ref (adM 34 0)), (17, .ref (adM 35 0)), (25, .int (vx)), (26, .int (iI (what))), (27, .int (iI (k))), (28, .int (iI (8 * k))), (29, .int (iI (who))), (30, .int (iI (w)))]) hx hb dL_law_2565 hl (by decide) rfl (fun ls hl => ?_)
      refine lv_aload hx hb dL_law_2567 (lv_at hl 22 rfl) ?_
      refine lv_iload hx hb dL_law_2569 (lv_at hl 29 rfl) ?_
      refine xa_1013 (v := mu 1013 who) hx hb hK hR (by omega) rfl dL_law_2571 ?_
      refine lv_aload hx hb dL_law_2572 (lv_at hl 23 rfl) ?_
      refine lv_iload hx hb dL_law_2574 (lv_at hl 29 rfl) ?_
      refine xa_1014 (v := mu 1014 who) hx hb hK hR (by omega) rfl dL_law_2576 ?_
      refine xr_lsub hx hb dL_law_2577 ?_
      refine lv_lstore (i := 33) (lv' := [(33, .long (lI ((mu 1013 who) - (mu 1014 who)))), (32, .int (iI (1))), (31, .int (iI (mu 1000 ((8 * K) + 5)))), (23, .int (iI (1))), (18, .int (iI (sg 503 0))), (19, .int (iI (sg 506 0))), (20, .long (lI (sg 510 0))), (24, .int (iI (turn))), (0, .ref b), (1, .ref hh), (2, .ref (adM 20 0)), (3, .ref (adM 21 0)), (4, .ref (adM 22 0)), (5, .ref (adM 23 0)), (6, .ref (adM 24 0)), (7, .ref (adM 25 0)), (8, .ref (adM 26 0)), (9, .ref (adM 27 0)), (10, .ref (adM 28 0)), (11, .ref (adM 29 0)), (12, .ref (adM 30 0)), (13, .ref (adM 31 0)), (14, .ref (adM 32 0)), (15, .ref (adM 33 0)), (16, .ref (adM 34 0)), (17, .ref (adM 35 0)), (25, .int (vx)), (26, .int (iI (what))), (27, .int (iI (k))), (28, .int (iI (8 * k))), (29, .int (iI (who))), (30, .int (iI (w)))]) hx hb dL_law_2578 hl (by decide) rfl (fun ls hl => ?_)
      have J2664 : W p l e room_1 s m #[Value.ref b] below meth c H locs cells slots Q (F0 m 2664 ls [.long (lI (due))]) := by
        refine lv_lstore (i := 35) (lv' := [(35, .long (lI (due))), (33, .long (lI ((mu 1013 who) - (mu 1014 who)))), (32, .int (iI (1))), (31, .int (iI (mu 1000 ((8 * K) + 5)))), (23, .int (iI (1))), (18, .int (iI (sg 503 0))), (19, .int (iI (sg 506 0))), (20, .long (lI (sg 510 0))), (24, .int (iI (turn))), (0, .ref b), (1, .ref hh), (2, .ref (adM 20 0)), (3, .ref (adM 21 0)), (4, .ref (adM 22 0)), (5, .ref (adM 23 0)), (6, .ref (adM 24 0)), (7, .ref (adM 25 0)), (8, .ref (adM 26 0)), (9, .ref (adM 27 0)), (10, .ref (adM 28 0)), (11, .ref (adM 29 0)), (12, .ref (adM 30 0)), (13, .ref (adM 31 0)), (14, .ref (adM 32 0)), (15, .ref (adM 33 0)), (16, .ref (adM 34 0)), (17, .ref (adM 35 0)), (25, .int (vx)), (26, .int (iI (what))), (27, .int (iI (k))), (28, .int (iI (8 * k))), (29, .int (iI (who))), (30, .int (iI (w)))]) hx hb dL_law_2664 hl (by decide) rfl (fun ls hl => ?_)
        refine lv_iload hx hb dL_law_2666 (lv_at hl 2 rfl) ?_
        refine xr_if_eq (tgt := 2683) hx hb dL_law_2668 (by decide) (by decide) (fun yy4 => absurd yy4 (by decide)) (fun _ => ?_)
        refine lv_aload_n hx hb dL_law_2671 rfl (lv_at hl 10 rfl) ?_
        refine lv_iload hx hb dL_law_2672 (lv_at hl 31 rfl) ?_
        rw [← h4]
        refine lw_back (lw_run (As := [.int (iI (who))]) (rest := []) hx hb hml hown hts hK hXS hS hA1 hC hG (c_X4_owed hC hG hl0 (lw_hA hA hR) who (by omega)) ms_X4_owed kw_399 ⟨by decide, by decide⟩ ⟨by omega, by omega⟩ rfl hl.1 (Nat.le_of_ble_eq_true rfl) dL_law_2674) (by exact hiE) hS hA1 hN12 hR (fun H locs hC hR hS => ?_)
        rw [hiA, hOw]
        refine lv_lload hx hb dL_law_2677 (lv_at hl 0 rfl) ?_
        refine lw_leq hx hb dL_law_2679 (by first | rfl | omega | (rfl)) ?_
        refine xr_if_ne (tgt := 2715) hx hb dL_law_2680 (by decide) (by decide) (fun yy5 => absurd yy5 (by decide)) (fun _ => ?_)
        refine lv_aload_n hx hb dL_law_2683 rfl (lv_at hl 10 rfl) ?_
        refine lv_bipush (v := iI (13)) hx hb dL_law_2684 (by decide) ?_
        refine lv_iload hx hb dL_law_2686 (lv_at hl 31 rfl) ?_
        refine lv_iconst (v := iI (0)) hx hb dL_law_2688 rfl ?_
        refine lv_iconst (v := iI (0)) hx hb dL_law_2689 rfl ?_
        refine lv_iconst (v := iI (0)) hx hb dL_law_2690 rfl ?_
        refine lw_act (f := 8) (lo := 131) (mc := 1) (ms := 6) (E := setE sg who) (T := (st (st (st sg 113 (iAt sg who) (owedO sg (iAt sg who))) 114 (iAt sg who) 1) 508 0 (sg 508 0 + owedO sg (iAt sg who)))) hx hb hml hown hts hK hXS hXN hS hA1 hN12 hG hR h4 (c_act_13 hC hG hl0 (lw_hA hA hR) who 0 0 0 (by omega)) ⟨by decide, by decide⟩ ⟨by omega, by omega⟩ hl.1 (Nat.le_of_ble_eq_true rfl) dL_law_2691 (fun ad H locs h4 hC hR hS => ?_)
        rw [if_pos hE] at hC
        rw [aR_0 hE]
        rw [hiA, hOw] at hC
        rw [hiA, hOw]
        have hz := inv_of (s_settle hRel hG hGM who) hE
        rw [hiA, hOw] at hz
        have hLR := o_settle (o := due) (t := sg 508 0 + due) hLR hG hV hwho h114
        refine lv_iload hx hb dL_law_2694 (lv_at hl 2 rfl) ?_
        refine xr_if_eq (tgt := 2704) hx hb dL_law_2696 (by decide) (by decide) (fun yy6 => absurd yy6 (by decide)) (fun _ => ?_)
        refine lv_lload hx hb dL_law_2699 (lv_at hl 0 rfl) ?_
        refine lv_goto (tgt := 2707) hx hb dL_law_2701 (by decide) ?_
        refine lw_leq hx hb dL_law_2707 (by first | rfl | omega | (rfl)) ?_
        refine xr_if_ne (tgt := 2715) hx hb dL_law_2708 (by decide) (by decide) (fun yy7 => absurd yy7 (by decide)) (fun _ => ?_)
        refine lv_iconst (v := iI (1)) hx hb dL_law_2711 rfl ?_
        refine lv_goto (tgt := 2716) hx hb dL_law_2712 (by decide) ?_
        refine lv_istore (i := 23) (lv' := [(23, .int (iI (1))), (35, .long (lI (due))), (33, .long (lI ((mu 1013 who) - (mu 1014 who)))), (32, .int (iI (1))), (31, .int (iI (mu 1000 ((8 * K) + 5)))), (18, .int (iI (sg 503 0))), (19, .int (iI (sg 506 0))), (20, .long (lI (sg 510 0))), (24, .int (iI (turn))), (0, .ref b), (1, .ref hh), (2, .ref (adM 20 0)), (3, .ref (adM 21 0)), (4, .ref (adM 22 0)), (5, .ref (adM 23 0)), (6, .ref (adM 24 0)), (7, .ref (adM 25 0)), (8, .ref (adM 26 0)), (9, .ref (adM 27 0)), (10, .ref (adM 28 0)), (11, .ref (adM 29 0)), (12, .ref (adM 30 0)), (13, .ref (adM 31 0)), (14, .ref (adM 32 0)), (15, .ref (adM 33 0)), (16, .ref (adM 34 0)), (17, .ref (adM 35 0)), (25, .int (vx)), (26, .int (iI (what))), (27, .int (iI (k))), (28, .int (iI (8 * k))), (29, .int (iI (who))), (30, .int (iI (w)))]) hx hb dL_law_2716 hl (by decide) rfl (fun ls hl => ?_)
        refine lv_aload hx hb dL_law_2718 (lv_at hl 26 rfl) ?_
        refine lv_iload hx hb dL_law_2720 (lv_at hl 31 rfl) ?_
        refine lv_dup2_11 hx hb dL_law_2722 rfl rfl ?_
        refine xa_1015 (v := mu 1015 who) hx hb hK hR (by omega) rfl dL_law_2723 ?_
        refine lv_iload hx hb dL_law_2724 (lv_at hl 3 rfl) ?_
        refine xr_if_eq (tgt := 2734) hx hb dL_law_2726 (by decide) (by decide) (fun yy8 => absurd yy8 (by decide)) (fun _ => ?_)
        refine lv_lload hx hb dL_law_2729 (lv_at hl 1 rfl) ?_
        refine lv_goto (tgt := 2735) hx hb dL_law_2731 (by decide) ?_
        refine xr_ladd hx hb dL_law_2735 ?_
        refine ys_1015 (v := (mu 1015 who) + due) hx hb hK hC hR hA2 hA1 hN12 hS (by omega) dL_law_2736 (fun H locs hC hR hS => ?_)
        have hM := gl_1015 hM (who) ((mu 1015 who) + due)
        refine lv_aload hx hb dL_law_2737 (lv_at hl 21 rfl) ?_
        refine lv_iload hx hb dL_law_2739 (lv_at hl 31 rfl) ?_
        refine lv_iload hx hb dL_law_2741 (lv_at hl 3 rfl) ?_
        refine xr_if_eq (tgt := 2750) hx hb dL_law_2743 (by decide) (by decide) (fun yy9 => absurd yy9 (by decide)) (fun _ => ?_)
        refine lv_iconst (v := iI (1)) hx hb dL_law_2746 rfl ?_
        refine lv_goto (tgt := 2755) hx hb dL_law_2747 (by decide) ?_
        refine ys_1010 (v := 1) hx hb hK hC hR hA2 hA1 hN12 hS (by omega) dL_law_2755 (fun H locs hC hR hS => ?_)
        have hM := gl_1010 hM (who) (v := 1) (by omega)
        refine lv_goto (tgt := 3115) hx hb dL_law_2756 (by decide) ?_
        refine W.widen (k := cells + 3) (n := slots + 45) (by omega) (by omega) ?_
        exact kk ad ((st (st (st sg 113 who due) 114 who 1) 508 0 (sg 508 0 + due))) (st (st mu 1015 (who) ((mu 1015 who) + due)) 1010 (who) (1)) H locs ls _ _ _ ⟨hC, hR, h4, hLR, hz.1, hz.2, hM, hS⟩ (by show sg 702 0 ≤ sg 702 0 + 1; omega) rfl rfl rfl (lv_sub hl [0, 5, 6, 7, 8, 9, 10, 11, 12, 13, 14, 15, 16, 17, 18, 19, 20, 21, 22, 23, 24, 25, 26] rfl)
      refine lv_aload hx hb dL_law_2580 (lv_at hl 19 rfl) ?_
      refine lv_iload hx hb dL_law_2582 (lv_at hl 30 rfl) ?_
      refine xa_1009 (v := mu 1009 who) hx hb hK hR (by omega) rfl dL_law_2584 ?_
      have g10 := ml_1009 hM0 (who)
      refine xr_if_ge (tgt := 2617) hx hb dL_law_2585 (by decide) (by omega) (fun yy11 => ?_) (fun yy11 => ?_)
      · skip
        refine lv_lload hx hb dL_law_2617 (lv_at hl 0 rfl) ?_
        refine lv_aload hx hb dL_law_2619 (lv_at hl 23 rfl) ?_
        refine lv_iload hx hb dL_law_2621 (lv_at hl 30 rfl) ?_
        refine xa_1013 (v := mu 1013 who) hx hb hK hR (by omega) rfl dL_law_2623 ?_
        refine lv_aload hx hb dL_law_2624 (lv_at hl 19 rfl) ?_
        refine lv_iload hx hb dL_law_2626 (lv_at hl 30 rfl) ?_
        refine xa_1009 (v := mu 1009 who) hx hb hK hR (by omega) rfl dL_law_2628 ?_
        refine lv_iload hx hb dL_law_2629 (lv_at hl 2 rfl) ?_
        refine xr_isub hx hb dL_law_2631 ?_
        refine xr_i2l hx hb dL_law_2632 (by omega) ?_
        refine xr_lmul hx hb dL_law_2633 ?_
        refine lv_ldc2 (v := lI (3)) hx hb hown (hts _ kw_680) dL_law_2634 ?_
        refine xr_lmul hx hb dL_law_2637 ?_
        refine lv_ldc2 (v := lI (36500)) hx hb hown (hts _ kw_681) dL_law_2638 ?_
        refine xr_ldivT hx hb dL_law_2641 (gain_in (by omega) (by omega)) ⟨by decide, by decide⟩ ?_
        refine xr_ladd hx hb dL_law_2642 ?_
        refine lv_lload hx hb dL_law_2643 (lv_at hl 0 rfl) ?_
        refine lv_iload hx hb dL_law_2645 (lv_at hl 5 rfl) ?_
        refine lv_aload hx hb dL_law_2647 (lv_at hl 19 rfl) ?_
        refine lv_iload hx hb dL_law_2649 (lv_at hl 30 rfl) ?_
        refine xa_1009 (v := mu 1009 who) hx hb hK hR (by omega) rfl dL_law_2651 ?_
        refine xr_isub hx hb dL_law_2652 ?_
        refine xr_i2l hx hb dL_law_2653 (by omega) ?_
        refine xr_lmul hx hb dL_law_2654 ?_
        refine lv_ldc2 (v := lI (3)) hx hb hown (hts _ kw_680) dL_law_2655 ?_
        refine xr_lmul hx hb dL_law_2658 ?_
        refine lv_ldc2 (v := lI (36500)) hx hb hown (hts _ kw_681) dL_law_2659 ?_
        refine xr_ldivT hx hb dL_law_2662 (gain_in (by omega) (by omega)) ⟨by decide, by decide⟩ ?_
        refine xr_ladd hx hb dL_law_2663 ?_
        exact w_topJ (by rw [hdue]; first | exact (if_pos (by omega)).symm | exact (if_neg (by omega)).symm) J2664
      · skip
        refine lv_aload hx hb dL_law_2588 (lv_at hl 23 rfl) ?_
        refine lv_iload hx hb dL_law_2590 (lv_at hl 30 rfl) ?_
        refine xa_1013 (v := mu 1013 who) hx hb hK hR (by omega) rfl dL_law_2592 ?_
        refine lv_aload hx hb dL_law_2593 (lv_at hl 23 rfl) ?_
        refine lv_iload hx hb dL_law_2595 (lv_at hl 30 rfl) ?_
        refine xa_1013 (v := mu 1013 who) hx hb hK hR (by omega) rfl dL_law_2597 ?_
        refine lv_iload hx hb dL_law_2598 (lv_at hl 5 rfl) ?_
        refine lv_iload hx hb dL_law_2600 (lv_at hl 2 rfl) ?_
        refine xr_isub hx hb dL_law_2602 ?_
        refine xr_i2l hx hb dL_law_2603 (by omega) ?_
        refine xr_lmul hx hb dL_law_2604 ?_
        refine lv_ldc2 (v := lI (3)) hx hb hown (hts _ kw_680) dL_law_2605 ?_
        refine xr_lmul hx hb dL_law_2608 ?_
        refine lv_ldc2 (v := lI (36500)) hx hb hown (hts _ kw_681) dL_law_2609 ?_
        refine xr_ldivT hx hb dL_law_2612 (gain_in (by omega) (by omega)) ⟨by decide, by decide⟩ ?_
        refine xr_ladd hx hb dL_law_2613 ?_
        refine lv_goto (tgt := 2664) hx hb dL_law_2614 (by decide) ?_
        exact w_topJ (by rw [hdue]; first | exact (if_pos (by omega)).symm | exact (if_neg (by omega)).symm) J2664
    · rw [q3]
      have hE := ha0 p2
      refine lv_istore (i := 32) (lv' := [(32, .int (iI (0))), (31, .int (iI (mu 1000 ((8 * K) + 5)))), (23, .int (iI (1))), (18, .int (iI (sg 503 0))), (19, .int (iI (sg 506 0))), (20, .long (lI (sg 510 0))), (24, .int (iI (turn))), (0, .ref b), (1, .ref hh), (2, .ref (adM 20 0)), (3, .ref (adM 21 0)), (4, .ref (adM 22 0)), (5, .ref (adM 23 0)), (6, .ref (adM 24 0)), (7, .ref (adM 25 0)), (8, .ref (adM 26 0)), (9, .ref (adM 27 0)), (10, .ref (adM 28 0)), (11, .ref (adM 29 0)), (12, .ref (adM 30 0)), (13, .ref (adM 31 0)), (14, .ref (adM 32 0)), (15, .ref (adM 33 0)), (16, .ref (adM 34 0)), (17, .ref (adM 35 0)), (25, .int (vx)), (26, .int (iI (what))), (27, .int (iI (k))), (28, .int (iI (8 * k))), (29, .int (iI (who))), (30, .int (iI (w)))]) hx hb dL_law_2565 hl (by decide) rfl (fun ls hl => ?_)
      refine lv_aload hx hb dL_law_2567 (lv_at hl 22 rfl) ?_
      refine lv_iload hx hb dL_law_2569 (lv_at hl 29 rfl) ?_
      refine xa_1013 (v := mu 1013 who) hx hb hK hR (by omega) rfl dL_law_2571 ?_
      refine lv_aload hx hb dL_law_2572 (lv_at hl 23 rfl) ?_
      refine lv_iload hx hb dL_law_2574 (lv_at hl 29 rfl) ?_
      refine xa_1014 (v := mu 1014 who) hx hb hK hR (by omega) rfl dL_law_2576 ?_
      refine xr_lsub hx hb dL_law_2577 ?_
      refine lv_lstore (i := 33) (lv' := [(33, .long (lI ((mu 1013 who) - (mu 1014 who)))), (32, .int (iI (0))), (31, .int (iI (mu 1000 ((8 * K) + 5)))), (23, .int (iI (1))), (18, .int (iI (sg 503 0))), (19, .int (iI (sg 506 0))), (20, .long (lI (sg 510 0))), (24, .int (iI (turn))), (0, .ref b), (1, .ref hh), (2, .ref (adM 20 0)), (3, .ref (adM 21 0)), (4, .ref (adM 22 0)), (5, .ref (adM 23 0)), (6, .ref (adM 24 0)), (7, .ref (adM 25 0)), (8, .ref (adM 26 0)), (9, .ref (adM 27 0)), (10, .ref (adM 28 0)), (11, .ref (adM 29 0)), (12, .ref (adM 30 0)), (13, .ref (adM 31 0)), (14, .ref (adM 32 0)), (15, .ref (adM 33 0)), (16, .ref (adM 34 0)), (17, .ref (adM 35 0)), (25, .int (vx)), (26, .int (iI (what))), (27, .int (iI (k))), (28, .int (iI (8 * k))), (29, .int (iI (who))), (30, .int (iI (w)))]) hx hb dL_law_2578 hl (by decide) rfl (fun ls hl => ?_)
      have J2664 : W p l e room_1 s m #[Value.ref b] below meth c H locs cells slots Q (F0 m 2664 ls [.long (lI (due))]) := by
        refine lv_lstore (i := 35) (lv' := [(35, .long (lI (due))), (33, .long (lI ((mu 1013 who) - (mu 1014 who)))), (32, .int (iI (0))), (31, .int (iI (mu 1000 ((8 * K) + 5)))), (23, .int (iI (1))), (18, .int (iI (sg 503 0))), (19, .int (iI (sg 506 0))), (20, .long (lI (sg 510 0))), (24, .int (iI (turn))), (0, .ref b), (1, .ref hh), (2, .ref (adM 20 0)), (3, .ref (adM 21 0)), (4, .ref (adM 22 0)), (5, .ref (adM 23 0)), (6, .ref (adM 24 0)), (7, .ref (adM 25 0)), (8, .ref (adM 26 0)), (9, .ref (adM 27 0)), (10, .ref (adM 28 0)), (11, .ref (adM 29 0)), (12, .ref (adM 30 0)), (13, .ref (adM 31 0)), (14, .ref (adM 32 0)), (15, .ref (adM 33 0)), (16, .ref (adM 34 0)), (17, .ref (adM 35 0)), (25, .int (vx)), (26, .int (iI (what))), (27, .int (iI (k))), (28, .int (iI (8 * k))), (29, .int (iI (who))), (30, .int (iI (w)))]) hx hb dL_law_2664 hl (by decide) rfl (fun ls hl => ?_)
        refine lv_iload hx hb dL_law_2666 (lv_at hl 2 rfl) ?_
        refine xr_if_eq (tgt := 2683) hx hb dL_law_2668 (by decide) (by decide) (fun _ => ?_) (fun yy12 => absurd yy12 (by decide))
        refine lv_aload_n hx hb dL_law_2683 rfl (lv_at hl 10 rfl) ?_
        refine lv_bipush (v := iI (13)) hx hb dL_law_2684 (by decide) ?_
        refine lv_iload hx hb dL_law_2686 (lv_at hl 31 rfl) ?_
        refine lv_iconst (v := iI (0)) hx hb dL_law_2688 rfl ?_
        refine lv_iconst (v := iI (0)) hx hb dL_law_2689 rfl ?_
        refine lv_iconst (v := iI (0)) hx hb dL_law_2690 rfl ?_
        refine lw_act (f := 8) (lo := 131) (mc := 1) (ms := 6) (E := setE sg who) (T := (st (st (st sg 113 (iAt sg who) (owedO sg (iAt sg who))) 114 (iAt sg who) 1) 508 0 (sg 508 0 + owedO sg (iAt sg who)))) hx hb hml hown hts hK hXS hXN hS hA1 hN12 hG hR h4 (c_act_13 hC hG hl0 (lw_hA hA hR) who 0 0 0 (by omega)) ⟨by decide, by decide⟩ ⟨by omega, by omega⟩ hl.1 (Nat.le_of_ble_eq_true rfl) dL_law_2691 (fun ad H locs h4 hC hR hS => ?_)
        rw [if_neg (by rw [hE]; decide)] at hC
        rw [aR_n (by rw [hE]; decide), hE]
        refine lv_iload hx hb dL_law_2694 (lv_at hl 2 rfl) ?_
        refine xr_if_eq (tgt := 2704) hx hb dL_law_2696 (by decide) (by decide) (fun _ => ?_) (fun yy13 => absurd yy13 (by decide))
        refine lv_ldc2 (v := lI (-1003)) hx hb hown (hts _ kw_654) dL_law_2704 ?_
        refine lw_leq hx hb dL_law_2707 (by first | rfl | omega | (rfl)) ?_
        refine xr_if_ne (tgt := 2715) hx hb dL_law_2708 (by decide) (by decide) (fun yy14 => absurd yy14 (by decide)) (fun _ => ?_)
        refine lv_iconst (v := iI (1)) hx hb dL_law_2711 rfl ?_
        refine lv_goto (tgt := 2716) hx hb dL_law_2712 (by decide) ?_
        refine lv_istore (i := 23) (lv' := [(23, .int (iI (1))), (35, .long (lI (due))), (33, .long (lI ((mu 1013 who) - (mu 1014 who)))), (32, .int (iI (0))), (31, .int (iI (mu 1000 ((8 * K) + 5)))), (18, .int (iI (sg 503 0))), (19, .int (iI (sg 506 0))), (20, .long (lI (sg 510 0))), (24, .int (iI (turn))), (0, .ref b), (1, .ref hh), (2, .ref (adM 20 0)), (3, .ref (adM 21 0)), (4, .ref (adM 22 0)), (5, .ref (adM 23 0)), (6, .ref (adM 24 0)), (7, .ref (adM 25 0)), (8, .ref (adM 26 0)), (9, .ref (adM 27 0)), (10, .ref (adM 28 0)), (11, .ref (adM 29 0)), (12, .ref (adM 30 0)), (13, .ref (adM 31 0)), (14, .ref (adM 32 0)), (15, .ref (adM 33 0)), (16, .ref (adM 34 0)), (17, .ref (adM 35 0)), (25, .int (vx)), (26, .int (iI (what))), (27, .int (iI (k))), (28, .int (iI (8 * k))), (29, .int (iI (who))), (30, .int (iI (w)))]) hx hb dL_law_2716 hl (by decide) rfl (fun ls hl => ?_)
        refine lv_aload hx hb dL_law_2718 (lv_at hl 26 rfl) ?_
        refine lv_iload hx hb dL_law_2720 (lv_at hl 31 rfl) ?_
        refine lv_dup2_11 hx hb dL_law_2722 rfl rfl ?_
        refine xa_1015 (v := mu 1015 who) hx hb hK hR (by omega) rfl dL_law_2723 ?_
        refine lv_iload hx hb dL_law_2724 (lv_at hl 3 rfl) ?_
        refine xr_if_eq (tgt := 2734) hx hb dL_law_2726 (by decide) (by decide) (fun _ => ?_) (fun yy15 => absurd yy15 (by decide))
        refine lv_lconst (v := lI (0)) hx hb dL_law_2734 (by decide) ?_
        refine xr_ladd hx hb dL_law_2735 ?_
        refine ys_1015 (v := (mu 1015 who) + 0) hx hb hK hC hR hA2 hA1 hN12 hS (by omega) dL_law_2736 (fun H locs hC hR hS => ?_)
        have hM := gl_1015 hM (who) ((mu 1015 who) + 0)
        refine lv_aload hx hb dL_law_2737 (lv_at hl 21 rfl) ?_
        refine lv_iload hx hb dL_law_2739 (lv_at hl 31 rfl) ?_
        refine lv_iload hx hb dL_law_2741 (lv_at hl 3 rfl) ?_
        refine xr_if_eq (tgt := 2750) hx hb dL_law_2743 (by decide) (by decide) (fun _ => ?_) (fun yy16 => absurd yy16 (by decide))
        refine lv_aload hx hb dL_law_2750 (lv_at hl 21 rfl) ?_
        refine lv_iload hx hb dL_law_2752 (lv_at hl 31 rfl) ?_
        refine xa_1010 (v := mu 1010 who) hx hb hK hR (by omega) ((st_f (by decide)).trans rfl) dL_law_2754 ?_
        have g17 := ml_1010 hM0 (who)
        refine ys_1010 (v := mu 1010 who) hx hb hK hC hR hA2 hA1 hN12 hS (by omega) dL_law_2755 (fun H locs hC hR hS => ?_)
        have hM := gl_1010 hM (who) (v := mu 1010 who) (by omega)
        refine lv_goto (tgt := 3115) hx hb dL_law_2756 (by decide) ?_
        refine W.widen (k := cells + 3) (n := slots + 45) (by omega) (by omega) ?_
        exact kk ad sg (st (st mu 1015 (who) ((mu 1015 who) + 0)) 1010 (who) (mu 1010 who)) H locs ls _ _ _ ⟨hC, hR, h4, (by rw [st_id (sg := mu) (f := 1015) (by omega), st_id (sg := mu) rfl]; exact hLR), hV, hG, hM, hS⟩ (by omega) rfl rfl rfl (lv_sub hl [0, 5, 6, 7, 8, 9, 10, 11, 12, 13, 14, 15, 16, 17, 18, 19, 20, 21, 22, 23, 24, 25, 26] rfl)
      refine lv_aload hx hb dL_law_2580 (lv_at hl 19 rfl) ?_
      refine lv_iload hx hb dL_law_2582 (lv_at hl 30 rfl) ?_
      refine xa_1009 (v := mu 1009 who) hx hb hK hR (by omega) rfl dL_law_2584 ?_
      have g18 := ml_1009 hM0 (who)
      refine xr_if_ge (tgt := 2617) hx hb dL_law_2585 (by decide) (by omega) (fun yy19 => ?_) (fun yy19 => ?_)
      · skip
        refine lv_lload hx hb dL_law_2617 (lv_at hl 0 rfl) ?_
        refine lv_aload hx hb dL_law_2619 (lv_at hl 23 rfl) ?_
        refine lv_iload hx hb dL_law_2621 (lv_at hl 30 rfl) ?_
        refine xa_1013 (v := mu 1013 who) hx hb hK hR (by omega) rfl dL_law_2623 ?_
        refine lv_aload hx hb dL_law_2624 (lv_at hl 19 rfl) ?_
        refine lv_iload hx hb dL_law_2626 (lv_at hl 30 rfl) ?_
        refine xa_1009 (v := mu 1009 who) hx hb hK hR (by omega) rfl dL_law_2628 ?_
        refine lv_iload hx hb dL_law_2629 (lv_at hl 2 rfl) ?_
        refine xr_isub hx hb dL_law_2631 ?_
        refine xr_i2l hx hb dL_law_2632 (by omega) ?_
        refine xr_lmul hx hb dL_law_2633 ?_
        refine lv_ldc2 (v := lI (3)) hx hb hown (hts _ kw_680) dL_law_2634 ?_
        refine xr_lmul hx hb dL_law_2637 ?_
        refine lv_ldc2 (v := lI (36500)) hx hb hown (hts _ kw_681) dL_law_2638 ?_
        refine xr_ldivT hx hb dL_law_2641 (gain_in (by omega) (by omega)) ⟨by decide, by decide⟩ ?_
        refine xr_ladd hx hb dL_law_2642 ?_
        refine lv_lload hx hb dL_law_2643 (lv_at hl 0 rfl) ?_
        refine lv_iload hx hb dL_law_2645 (lv_at hl 5 rfl) ?_
        refine lv_aload hx hb dL_law_2647 (lv_at hl 19 rfl) ?_
        refine lv_iload hx hb dL_law_2649 (lv_at hl 30 rfl) ?_
        refine xa_1009 (v := mu 1009 who) hx hb hK hR (by omega) rfl dL_law_2651 ?_
        refine xr_isub hx hb dL_law_2652 ?_
        refine xr_i2l hx hb dL_law_2653 (by omega) ?_
        refine xr_lmul hx hb dL_law_2654 ?_
        refine lv_ldc2 (v := lI (3)) hx hb hown (hts _ kw_680) dL_law_2655 ?_
        refine xr_lmul hx hb dL_law_2658 ?_
        refine lv_ldc2 (v := lI (36500)) hx hb hown (hts _ kw_681) dL_law_2659 ?_
        refine xr_ldivT hx hb dL_law_2662 (gain_in (by omega) (by omega)) ⟨by decide, by decide⟩ ?_
        refine xr_ladd hx hb dL_law_2663 ?_
        exact w_topJ (by rw [hdue]; first | exact (if_pos (by omega)).symm | exact (if_neg (by omega)).symm) J2664
      · skip
        refine lv_aload hx hb dL_law_2588 (lv_at hl 23 rfl) ?_
        refine lv_iload hx hb dL_law_2590 (lv_at hl 30 rfl) ?_
        refine xa_1013 (v := mu 1013 who) hx hb hK hR (by omega) rfl dL_law_2592 ?_
        refine lv_aload hx hb dL_law_2593 (lv_at hl 23 rfl) ?_
        refine lv_iload hx hb dL_law_2595 (lv_at hl 30 rfl) ?_
        refine xa_1013 (v := mu 1013 who) hx hb hK hR (by omega) rfl dL_law_2597 ?_
        refine lv_iload hx hb dL_law_2598 (lv_at hl 5 rfl) ?_
        refine lv_iload hx hb dL_law_2600 (lv_at hl 2 rfl) ?_
        refine xr_isub hx hb dL_law_2602 ?_
        refine xr_i2l hx hb dL_law_2603 (by omega) ?_
        refine xr_lmul hx hb dL_law_2604 ?_
        refine lv_ldc2 (v := lI (3)) hx hb hown (hts _ kw_680) dL_law_2605 ?_
        refine xr_lmul hx hb dL_law_2608 ?_
        refine lv_ldc2 (v := lI (36500)) hx hb hown (hts _ kw_681) dL_law_2609 ?_
        refine xr_ldivT hx hb dL_law_2612 (gain_in (by omega) (by omega)) ⟨by decide, by decide⟩ ?_
        refine xr_ladd hx hb dL_law_2613 ?_
        refine lv_goto (tgt := 2664) hx hb dL_law_2614 (by decide) ?_
        exact w_topJ (by rw [hdue]; first | exact (if_pos (by omega)).symm | exact (if_neg (by omega)).symm) J2664
  refine lv_iload hx hb dL_law_2547 (lv_at hl 0 rfl) ?_
  refine xr_if_lt (tgt := 2564) hx hb dL_law_2549 (by decide) (by omega) (fun yy20 => ?_) (fun yy20 => ?_)
  · skip
    refine lv_iconst (v := iI (0)) hx hb dL_law_2564 rfl ?_
    exact w_topI (by first | exact (bI_t (by first | omega | grind)).symm | exact (bI_f (by first | omega | grind)).symm) J2565
  · skip
    refine lv_aload hx hb dL_law_2552 (lv_at hl 18 rfl) ?_
    refine lv_iload hx hb dL_law_2554 (lv_at hl 28 rfl) ?_
    refine xa_1010 (v := mu 1010 who) hx hb hK hR (by omega) rfl dL_law_2556 ?_
    have g21 := ml_1010 hM0 (who)
    refine xr_if_ne (tgt := 2564) hx hb dL_law_2557 (by decide) (by omega) (fun yy22 => ?_) (fun yy22 => ?_)
    · skip
      refine lv_iconst (v := iI (0)) hx hb dL_law_2564 rfl ?_
      exact w_topI (by first | exact (bI_t (by first | omega | grind)).symm | exact (bI_f (by first | omega | grind)).symm) J2565
    · skip
      refine lv_iconst (v := iI (1)) hx hb dL_law_2560 rfl ?_
      refine lv_goto (tgt := 2565) hx hb dL_law_2561 (by decide) ?_
      exact w_topI (by first | exact (bI_t (by first | omega | grind)).symm | exact (bI_f (by first | omega | grind)).symm) J2565
set_option maxRecDepth 100000 in
set_option maxHeartbeats 8000000 in
theorem law_offer {p : Program} {l : Launch} {e : Env} {s : State} {m : MethodId} {below : List Frame} {meth : Method} {c : Code} {D : va_G} {cy : Nat → ClassId} {A A2 : Nat → Prop} {b L hh : Nat} {xs : Nat → Int32} {ad adM : Nat → Int → Nat} {sg mu : Nat → Int → Int} {H : Heap} {locs : List Loc} {cells slots : Nat} {Q : State → Prop} {ls : Array Slot} {turn : Int} {vx : Int32} {what k who w : Int} (E : LE p l s m meth c b L xs D cy A A2 adM) (I : LI D cy A A2 s hh ad adM sg mu H locs) (h7 : sg 702 0 ≤ 1000000) (hcl : cells + 1000 ≤ 600104) (hsl : slots + 20000 ≤ 7301314) (hwhat : what = 21) (hk : 0 ≤ k ∧ k ≤ 3) (hw : 0 ≤ w ∧ w ≤ 1) (hl : lv_has ls 37 [(23, .int (iI (1))), (18, .int (iI (sg 503 0))), (19, .int (iI (sg 506 0))), (20, .long (lI (sg 510 0))), (24, .int (iI (turn))), (0, .ref b), (1, .ref hh), (2, .ref (adM 20 0)), (3, .ref (adM 21 0)), (4, .ref (adM 22 0)), (5, .ref (adM 23 0)), (6, .ref (adM 24 0)), (7, .ref (adM 25 0)), (8, .ref (adM 26 0)), (9, .ref (adM 27 0)), (10, .ref (adM 28 0)), (11, .ref (adM 29 0)), (12, .ref (adM 30 0)), (13, .ref (adM 31 0)), (14, .ref (adM 32 0)), (15, .ref (adM 33 0)), (16, .ref (adM 34 0)), (17, .ref (adM 35 0)), (25, .int (vx)), (26, .int (iI (what))), (27, .int (iI (k))), (28, .int (iI (8 * k))), (29, .int (iI (who))), (30, .int (iI (w)))]) (kk : LK p l e s m below meth c b D cy A A2 hh adM cells slots Q sg turn) : W p l e room_1 s m #[Value.ref b] below meth c H locs cells slots Q (F0 m 2766 ls []) := by
  obtain ⟨⟨hx, hb, hr, hml, hown, hts0, hX, hbl, hlocks, -⟩, hl0, hK, hXS, hXN, hA, hA1, hA2, hN12, hL⟩ := E
  obtain ⟨hC, hR, h4, hLR, hV, hG, hM, hS⟩ := I
  have hM0 := hM
  have hts : ∀ w ∈ wG, w.before #[Value.ref b] s = true := fun w hw => hts0 w (List.mem_filter.mp hw).1
  have hown : s.vm.findClass "TakinghallLaw" = some m.cls := hown
  have g503 := gr_503 hG 0
  have g506 := gr_506 hG 0
  obtain ⟨ha1, ha0, ha9⟩ := a_offer hLR hG hk
  have hpl := pl_rng k
  obtain ⟨mm, hRel, hGM⟩ := id hV
  obtain ⟨hpa, hpu, hpp4, hp7⟩ := a_plot hLR hG hk
  have hor := ownBeh_rng hG (pl k) (sg 209 (pl k))
  have h9r := gp_209 hG (pl k)
  have hm7 := ml_1000 hM (8 * k + 7)
  have hnx : lNx mu (sg 503 0) k (mu 1000 (8 * k + 7)) 100 = ownBeh sg (pl k) (sg 209 (pl k)) := by rw [ha9]; exact l_next hG hM hLR.2.2.2.2.2.1 hk h9r
  have J2781 : W p l e room_1 s m #[Value.ref b] below meth c H locs cells slots Q (F0 m 2781 ls [.int (iI (bI (0 ≤ mu 1000 (8 * k + 7))))]) := by
    rcases bI_cases (0 ≤ mu 1000 (8 * k + 7)) with ⟨p1, q2⟩ | ⟨p1, q2⟩
    · rw [q2]
      obtain ⟨hE, h209, h1012⟩ := ha1 p1
      refine lv_istore (i := 31) (lv' := [(31, .int (iI (1))), (23, .int (iI (1))), (18, .int (iI (sg 503 0))), (19, .int (iI (sg 506 0))), (20, .long (lI (sg 510 0))), (24, .int (iI (turn))), (0, .ref b), (1, .ref hh), (2, .ref (adM 20 0)), (3, .ref (adM 21 0)), (4, .ref (adM 22 0)), (5, .ref (adM 23 0)), (6, .ref (adM 24 0)), (7, .ref (adM 25 0)), (8, .ref (adM 26 0)), (9, .ref (adM 27 0)), (10, .ref (adM 28 0)), (11, .ref (adM 29 0)), (12, .ref (adM 30 0)), (13, .ref (adM 31 0)), (14, .ref (adM 32 0)), (15, .ref (adM 33 0)), (16, .ref (adM 34 0)), (17, .ref (adM 35 0)), (25, .int (vx)), (26, .int (iI (what))), (27, .int (iI (k))), (28, .int (iI (8 * k))), (29, .int (iI (who))), (30, .int (iI (w)))]) hx hb dL_law_2781 hl (by decide) rfl (fun ls hl => ?_)
      refine lv_aload hx hb dL_law_2783 (lv_at hl 20 rfl) ?_
      refine lv_iload hx hb dL_law_2785 (lv_at hl 26 rfl) ?_
      refine xa_1012 (v := mu 1012 k) hx hb hK hR (by omega) rfl dL_law_2787 ?_
      have g3 := ml_1012 hM0 (k)
      refine lv_istore (i := 32) (lv' := [(32, .int (iI (mu 1012 k))), (31, .int (iI (1))), (23, .int (iI (1))), (18, .int (iI (sg 503 0))), (19, .int (iI (sg 506 0))), (20, .long (lI (sg 510 0))), (24, .int (iI (turn))), (0, .ref b), (1, .ref hh), (2, .ref (adM 20 0)), (3, .ref (adM 21 0)), (4, .ref (adM 22 0)), (5, .ref (adM 23 0)), (6, .ref (adM 24 0)), (7, .ref (adM 25 0)), (8, .ref (adM 26 0)), (9, .ref (adM 27 0)), (10, .ref (adM 28 0)), (11, .ref (adM 29 0)), (12, .ref (adM 30 0)), (13, .ref (adM 31 0)), (14, .ref (adM 32 0)), (15, .ref (adM 33 0)), (16, .ref (adM 34 0)), (17, .ref (adM 35 0)), (25, .int (vx)), (26, .int (iI (what))), (27, .int (iI (k))), (28, .int (iI (8 * k))), (29, .int (iI (who))), (30, .int (iI (w)))]) hx hb dL_law_2788 hl (by decide) rfl (fun ls hl => ?_)
      refine lv_iload hx hb dL_law_2790 (lv_at hl 25 rfl) ?_
      refine lv_sipush (v := iI (512)) hx hb dL_law_2792 (by decide) ?_
      refine lw_idiv hx hb (by decide) dL_law_2795 ?_
      refine lv_iconst (v := iI (3)) hx hb dL_law_2796 rfl ?_
      refine lw_up (n := 3) hx hb hml hown hts hK hl.1 ⟨by omega, by omega⟩ (by decide) (lv_room (Nat.le_of_ble_eq_true rfl)) dL_law_2797 (fun u4 u4a u4b => ?_)
      refine xr_if_le (tgt := 2883) hx hb dL_law_2800 (by decide) (by omega) (fun yy5 => ?_) (fun yy5 => ?_)
      · skip
        refine lv_aload_n hx hb dL_law_2883 rfl (lv_at hl 8 rfl) ?_
        refine lv_bipush (v := iI (15)) hx hb dL_law_2884 (by decide) ?_
        refine lv_iload hx hb dL_law_2886 (lv_at hl 27 rfl) ?_
        refine lw_plot hx hb hml hown hts hK hl.1 ⟨by omega, by omega⟩ (by omega) (lv_room (Nat.le_of_ble_eq_true rfl)) dL_law_2888 ?_
        refine lv_iconst (v := iI (0)) hx hb dL_law_2891 rfl ?_
        refine lv_iconst (v := iI (0)) hx hb dL_law_2892 rfl ?_
        refine lv_iconst (v := iI (0)) hx hb dL_law_2893 rfl ?_
        refine lw_act (f := 8) (lo := 130) (mc := 1) (ms := 6) (E := offE sg (pl k)) (T := (st (offT (st sg 203 (pAt (pl k)) 2) (pAt (pl k)) (-1) 0) 510 0 (sg 510 0 + sg 210 (pAt (pl k))))) hx hb hml hown hts hK hXS hXN hS hA1 hN12 hG hR h4 (c_act_15 hC hG hl0 (lw_hA hA hR) (pl k) 0 0 0 (by omega)) ⟨by decide, by decide⟩ ⟨by omega, by omega⟩ hl.1 (Nat.le_of_ble_eq_true rfl) dL_law_2894 (fun ad H locs h4 hC hR hS => ?_)
        rw [if_pos hE] at hC
        rw [aR_0 hE]
        rw [pl_pAt] at hC
        rw [pl_pAt]
        have hz := inv_of (s_accept hRel hG hGM (pl k)) hE
        rw [pl_pAt] at hz
        have hLR := o_accept (t := sg 510 0 + sg 210 (pl k)) hLR hG hk
        have g210 := gr_210 hG (pl k)
        refine lv_iload hx hb dL_law_2897 (lv_at hl 1 rfl) ?_
        refine xr_if_eq (tgt := 2907) hx hb dL_law_2899 (by decide) (by decide) (fun yy6 => absurd yy6 (by decide)) (fun _ => ?_)
        refine lv_iload hx hb dL_law_2902 (lv_at hl 0 rfl) ?_
        refine lv_goto (tgt := 2910) hx hb dL_law_2904 (by decide) ?_
        refine xr_i2l hx hb dL_law_2910 (by omega) ?_
        refine lw_leq hx hb dL_law_2911 (by first | rfl | omega | (rfl)) ?_
        refine xr_if_ne (tgt := 2919) hx hb dL_law_2912 (by decide) (by decide) (fun yy7 => absurd yy7 (by decide)) (fun _ => ?_)
        refine lv_iconst (v := iI (1)) hx hb dL_law_2915 rfl ?_
        refine lv_goto (tgt := 2920) hx hb dL_law_2916 (by decide) ?_
        refine lv_istore (i := 23) (lv' := [(23, .int (iI (1))), (32, .int (iI (mu 1012 k))), (31, .int (iI (1))), (18, .int (iI (sg 503 0))), (19, .int (iI (sg 506 0))), (20, .long (lI (sg 510 0))), (24, .int (iI (turn))), (0, .ref b), (1, .ref hh), (2, .ref (adM 20 0)), (3, .ref (adM 21 0)), (4, .ref (adM 22 0)), (5, .ref (adM 23 0)), (6, .ref (adM 24 0)), (7, .ref (adM 25 0)), (8, .ref (adM 26 0)), (9, .ref (adM 27 0)), (10, .ref (adM 28 0)), (11, .ref (adM 29 0)), (12, .ref (adM 30 0)), (13, .ref (adM 31 0)), (14, .ref (adM 32 0)), (15, .ref (adM 33 0)), (16, .ref (adM 34 0)), (17, .ref (adM 35 0)), (25, .int (vx)), (26, .int (iI (what))), (27, .int (iI (k))), (28, .int (iI (8 * k))), (29, .int (iI (who))), (30, .int (iI (w)))]) hx hb dL_law_2920 hl (by decide) rfl (fun ls hl => ?_)
        refine lv_lload hx hb dL_law_2922 (lv_at hl 5 rfl) ?_
        refine lv_iload hx hb dL_law_2924 (lv_at hl 2 rfl) ?_
        refine xr_if_eq (tgt := 2935) hx hb dL_law_2926 (by decide) (by decide) (fun yy8 => absurd yy8 (by decide)) (fun _ => ?_)
        refine lv_iload hx hb dL_law_2929 (lv_at hl 1 rfl) ?_
        refine xr_i2l hx hb dL_law_2931 (by omega) ?_
        refine lv_goto (tgt := 2936) hx hb dL_law_2932 (by decide) ?_
        refine xr_ladd hx hb dL_law_2936 ?_
        refine lv_lstore (i := 20) (lv' := [(20, .long (lI ((sg 510 0) + (mu 1012 k)))), (23, .int (iI (1))), (32, .int (iI (mu 1012 k))), (31, .int (iI (1))), (18, .int (iI (sg 503 0))), (19, .int (iI (sg 506 0))), (24, .int (iI (turn))), (0, .ref b), (1, .ref hh), (2, .ref (adM 20 0)), (3, .ref (adM 21 0)), (4, .ref (adM 22 0)), (5, .ref (adM 23 0)), (6, .ref (adM 24 0)), (7, .ref (adM 25 0)), (8, .ref (adM 26 0)), (9, .ref (adM 27 0)), (10, .ref (adM 28 0)), (11, .ref (adM 29 0)), (12, .ref (adM 30 0)), (13, .ref (adM 31 0)), (14, .ref (adM 32 0)), (15, .ref (adM 33 0)), (16, .ref (adM 34 0)), (17, .ref (adM 35 0)), (25, .int (vx)), (26, .int (iI (what))), (27, .int (iI (k))), (28, .int (iI (8 * k))), (29, .int (iI (who))), (30, .int (iI (w)))]) hx hb dL_law_2937 hl (by decide) rfl (fun ls hl => ?_)
        refine lv_aload_n hx hb dL_law_2939 rfl (lv_at hl 9 rfl) ?_
        refine lv_iload hx hb dL_law_2940 (lv_at hl 28 rfl) ?_
        refine lv_iconst (v := iI (2)) hx hb dL_law_2942 rfl ?_
        refine xr_iadd hx hb dL_law_2943 ?_
        refine lv_iload hx hb dL_law_2944 (lv_at hl 3 rfl) ?_
        refine xr_if_eq (tgt := 2953) hx hb dL_law_2946 (by decide) (by decide) (fun yy9 => absurd yy9 (by decide)) (fun _ => ?_)
        refine lv_iconst (v := iI (2)) hx hb dL_law_2949 rfl ?_
        refine lv_goto (tgt := 2959) hx hb dL_law_2950 (by decide) ?_
        refine ys_1000 (v := 2) hx hb hK hC hR hA2 hA1 hN12 hS (by omega) dL_law_2959 (fun H locs hC hR hS => ?_)
        have hM := gl_1000 hM ((8 * k) + 2) (v := 2) (by omega)
        refine lv_aload_n hx hb dL_law_2960 rfl (lv_at hl 9 rfl) ?_
        refine lv_iload hx hb dL_law_2961 (lv_at hl 28 rfl) ?_
        refine lv_bipush (v := iI (7)) hx hb dL_law_2963 (by decide) ?_
        refine xr_iadd hx hb dL_law_2965 ?_
        refine lv_iconst (v := iI (-1)) hx hb dL_law_2966 rfl ?_
        refine ys_1000 (v := -1) hx hb hK hC hR hA2 hA1 hN12 hS (by omega) dL_law_2967 (fun H locs hC hR hS => ?_)
        have hM := gl_1000 hM ((8 * k) + 7) (v := -1) (by omega)
        refine lv_goto (tgt := 3115) hx hb dL_law_2968 (by decide) ?_
        refine W.widen (k := cells + 3) (n := slots + 45) (by omega) (by omega) ?_
        exact kk ad ((st (offT (st sg 203 (pl k) 2) (pl k) (-1) 0) 510 0 (sg 510 0 + sg 210 (pl k)))) (st (st mu 1000 ((8 * k) + 2) (2)) 1000 ((8 * k) + 7) (-1)) H locs ls _ _ _ ⟨hC, hR, h4, hLR, hz.1, hz.2, hM, hS⟩ (by show sg 702 0 ≤ sg 702 0 + 1; omega) rfl rfl (by show sg 510 0 + sg 210 (pl k) = sg 510 0 + mu 1012 k; omega) (lv_sub hl [1, 4, 5, 0, 6, 7, 8, 9, 10, 11, 12, 13, 14, 15, 16, 17, 18, 19, 20, 21, 22, 23, 24] rfl)
      · skip
        refine lv_aload_n hx hb dL_law_2803 rfl (lv_at hl 9 rfl) ?_
        refine lv_iload hx hb dL_law_2804 (lv_at hl 28 rfl) ?_
        refine lv_bipush (v := iI (7)) hx hb dL_law_2806 (by decide) ?_
        refine xr_iadd hx hb dL_law_2808 ?_
        refine lv_iload hx hb dL_law_2809 (lv_at hl 1 rfl) ?_
        refine xr_if_eq (tgt := 2834) hx hb dL_law_2811 (by decide) (by decide) (fun yy10 => absurd yy10 (by decide)) (fun _ => ?_)
        refine lv_aload_n hx hb dL_law_2814 rfl (lv_at hl 10 rfl) ?_
        refine lv_aload hx hb dL_law_2815 (lv_at hl 11 rfl) ?_
        refine lv_iload hx hb dL_law_2817 (lv_at hl 3 rfl) ?_
        refine lv_iload hx hb dL_law_2819 (lv_at hl 27 rfl) ?_
        refine lv_aload_n hx hb dL_law_2821 rfl (lv_at hl 9 rfl) ?_
        refine lv_iload hx hb dL_law_2822 (lv_at hl 28 rfl) ?_
        refine lv_bipush (v := iI (7)) hx hb dL_law_2824 (by decide) ?_
        refine xr_iadd hx hb dL_law_2826 ?_
        refine xa_1000 (v := mu 1000 ((8 * k) + 7)) hx hb hK hR (by omega) rfl dL_law_2827 ?_
        have g11 := ml_1000 hM0 ((8 * k) + 7)
        refine xk_pF (xr_S (As := [.ref (adM 21 0), .ref (adM 22 0), .int (iI (sg 503 0)), .int (iI (k)), .int (iI (mu 1000 ((8 * k) + 7)))]) (rest := [.int (iI ((8 * k) + 7)), .ref (adM 20 0)]) hx hb hml hown hts hK (c_L_next hR hM (sg 503 0) k (mu 1000 ((8 * k) + 7)) (by omega) (by omega) (by omega)) ms_L_next kw_667 ⟨by decide, by decide⟩ ⟨by show _ ≤ 600104; omega, by show _ ≤ 7301314; omega⟩ rfl rfl hl.1 rfl (lv_room (Nat.le_of_ble_eq_true rfl)) dL_law_2828) ?_
        rw [hnx]
        refine lv_goto (tgt := 2835) hx hb dL_law_2831 (by decide) ?_
        refine ys_1000 (v := ownBeh sg (pl k) (sg 209 (pl k))) hx hb hK hC hR hA2 hA1 hN12 hS (by omega) dL_law_2835 (fun H locs hC hR hS => ?_)
        have hM := gl_1000 hM ((8 * k) + 7) (v := ownBeh sg (pl k) (sg 209 (pl k))) (by omega)
        refine lv_aload_n hx hb dL_law_2836 rfl (lv_at hl 8 rfl) ?_
        refine lv_bipush (v := iI (14)) hx hb dL_law_2837 (by decide) ?_
        refine lv_iload hx hb dL_law_2839 (lv_at hl 27 rfl) ?_
        refine lw_plot hx hb hml hown hts hK hl.1 ⟨by omega, by omega⟩ (by omega) (lv_room (Nat.le_of_ble_eq_true rfl)) dL_law_2841 ?_
        refine lv_iconst (v := iI (0)) hx hb dL_law_2844 rfl ?_
        refine lv_iconst (v := iI (0)) hx hb dL_law_2845 rfl ?_
        refine lv_iconst (v := iI (0)) hx hb dL_law_2846 rfl ?_
        refine lw_act (f := 8) (lo := 130) (mc := 1) (ms := 6) (E := offE sg (pl k)) (T := (offT sg (pAt (pl k)) (ownBeh sg (pAt (pl k)) (sg 209 (pAt (pl k)))) (sg 210 (pAt (pl k))))) hx hb hml hown hts hK hXS hXN hS hA1 hN12 hG hR h4 (c_act_14 hC hG hl0 (lw_hA hA hR) (pl k) 0 0 0 (by omega)) ⟨by decide, by decide⟩ ⟨by omega, by omega⟩ hl.1 (Nat.le_of_ble_eq_true rfl) dL_law_2847 (fun ad H locs h4 hC hR hS => ?_)
        rw [if_pos hE] at hC
        rw [aR_0 hE]
        rw [pl_pAt] at hC
        rw [pl_pAt, opt_q hor.1]
        have hz := inv_of (s_refuse hRel hG hGM (pl k)) hE
        rw [pl_pAt] at hz
        have hLR := o_refuse (n := ownBeh sg (pl k) (sg 209 (pl k))) hLR hG hk h209
        refine lv_iload hx hb dL_law_2850 (lv_at hl 1 rfl) ?_
        refine xr_if_eq (tgt := 2865) hx hb dL_law_2852 (by decide) (by decide) (fun yy12 => absurd yy12 (by decide)) (fun _ => ?_)
        refine lv_aload_n hx hb dL_law_2855 rfl (lv_at hl 9 rfl) ?_
        refine lv_iload hx hb dL_law_2856 (lv_at hl 28 rfl) ?_
        refine lv_bipush (v := iI (7)) hx hb dL_law_2858 (by decide) ?_
        refine xr_iadd hx hb dL_law_2860 ?_
        refine xa_1000 (v := ownBeh sg (pl k) (sg 209 (pl k))) hx hb hK hR (by omega) (st_s) dL_law_2861 ?_
        refine lv_goto (tgt := 2868) hx hb dL_law_2862 (by decide) ?_
        refine xr_i2l hx hb dL_law_2868 (by omega) ?_
        refine lw_leq hx hb dL_law_2869 (by first | rfl | omega | (rfl)) ?_
        refine xr_if_ne (tgt := 2877) hx hb dL_law_2870 (by decide) (by decide) (fun yy13 => absurd yy13 (by decide)) (fun _ => ?_)
        refine lv_iconst (v := iI (1)) hx hb dL_law_2873 rfl ?_
        refine lv_goto (tgt := 2878) hx hb dL_law_2874 (by decide) ?_
        refine lv_istore (i := 23) (lv' := [(23, .int (iI (1))), (32, .int (iI (mu 1012 k))), (31, .int (iI (1))), (18, .int (iI (sg 503 0))), (19, .int (iI (sg 506 0))), (20, .long (lI (sg 510 0))), (24, .int (iI (turn))), (0, .ref b), (1, .ref hh), (2, .ref (adM 20 0)), (3, .ref (adM 21 0)), (4, .ref (adM 22 0)), (5, .ref (adM 23 0)), (6, .ref (adM 24 0)), (7, .ref (adM 25 0)), (8, .ref (adM 26 0)), (9, .ref (adM 27 0)), (10, .ref (adM 28 0)), (11, .ref (adM 29 0)), (12, .ref (adM 30 0)), (13, .ref (adM 31 0)), (14, .ref (adM 32 0)), (15, .ref (adM 33 0)), (16, .ref (adM 34 0)), (17, .ref (adM 35 0)), (25, .int (vx)), (26, .int (iI (what))), (27, .int (iI (k))), (28, .int (iI (8 * k))), (29, .int (iI (who))), (30, .int (iI (w)))]) hx hb dL_law_2878 hl (by decide) rfl (fun ls hl => ?_)
        refine lv_goto (tgt := 2968) hx hb dL_law_2880 (by decide) ?_
        refine lv_goto (tgt := 3115) hx hb dL_law_2968 (by decide) ?_
        refine W.widen (k := cells + 3) (n := slots + 45) (by omega) (by omega) ?_
        exact kk ad ((offT sg (pl k) (ownBeh sg (pl k) (sg 209 (pl k))) (sg 210 (pl k)))) (st mu 1000 ((8 * k) + 7) (ownBeh sg (pl k) (sg 209 (pl k)))) H locs ls _ _ _ ⟨hC, hR, h4, hLR, hz.1, hz.2, hM, hS⟩ (by show sg 702 0 ≤ sg 702 0 + 1; omega) rfl rfl rfl (lv_sub hl [0, 3, 4, 5, 6, 7, 8, 9, 10, 11, 12, 13, 14, 15, 16, 17, 18, 19, 20, 21, 22, 23, 24] rfl)
    · rw [q2]
      have hE := ha0 p1
      refine lv_istore (i := 31) (lv' := [(31, .int (iI (0))), (23, .int (iI (1))), (18, .int (iI (sg 503 0))), (19, .int (iI (sg 506 0))), (20, .long (lI (sg 510 0))), (24, .int (iI (turn))), (0, .ref b), (1, .ref hh), (2, .ref (adM 20 0)), (3, .ref (adM 21 0)), (4, .ref (adM 22 0)), (5, .ref (adM 23 0)), (6, .ref (adM 24 0)), (7, .ref (adM 25 0)), (8, .ref (adM 26 0)), (9, .ref (adM 27 0)), (10, .ref (adM 28 0)), (11, .ref (adM 29 0)), (12, .ref (adM 30 0)), (13, .ref (adM 31 0)), (14, .ref (adM 32 0)), (15, .ref (adM 33 0)), (16, .ref (adM 34 0)), (17, .ref (adM 35 0)), (25, .int (vx)), (26, .int (iI (what))), (27, .int (iI (k))), (28, .int (iI (8 * k))), (29, .int (iI (who))), (30, .int (iI (w)))]) hx hb dL_law_2781 hl (by decide) rfl (fun ls hl => ?_)
      refine lv_aload hx hb dL_law_2783 (lv_at hl 20 rfl) ?_
      refine lv_iload hx hb dL_law_2785 (lv_at hl 26 rfl) ?_
      refine xa_1012 (v := mu 1012 k) hx hb hK hR (by omega) rfl dL_law_2787 ?_
      have g14 := ml_1012 hM0 (k)
      refine lv_istore (i := 32) (lv' := [(32, .int (iI (mu 1012 k))), (31, .int (iI (0))), (23, .int (iI (1))), (18, .int (iI (sg 503 0))), (19, .int (iI (sg 506 0))), (20, .long (lI (sg 510 0))), (24, .int (iI (turn))), (0, .ref b), (1, .ref hh), (2, .ref (adM 20 0)), (3, .ref (adM 21 0)), (4, .ref (adM 22 0)), (5, .ref (adM 23 0)), (6, .ref (adM 24 0)), (7, .ref (adM 25 0)), (8, .ref (adM 26 0)), (9, .ref (adM 27 0)), (10, .ref (adM 28 0)), (11, .ref (adM 29 0)), (12, .ref (adM 30 0)), (13, .ref (adM 31 0)), (14, .ref (adM 32 0)), (15, .ref (adM 33 0)), (16, .ref (adM 34 0)), (17, .ref (adM 35 0)), (25, .int (vx)), (26, .int (iI (what))), (27, .int (iI (k))), (28, .int (iI (8 * k))), (29, .int (iI (who))), (30, .int (iI (w)))]) hx hb dL_law_2788 hl (by decide) rfl (fun ls hl => ?_)
      refine lv_iload hx hb dL_law_2790 (lv_at hl 25 rfl) ?_
      refine lv_sipush (v := iI (512)) hx hb dL_law_2792 (by decide) ?_
      refine lw_idiv hx hb (by decide) dL_law_2795 ?_
      refine lv_iconst (v := iI (3)) hx hb dL_law_2796 rfl ?_
      refine lw_up (n := 3) hx hb hml hown hts hK hl.1 ⟨by omega, by omega⟩ (by decide) (lv_room (Nat.le_of_ble_eq_true rfl)) dL_law_2797 (fun u15 u15a u15b => ?_)
      refine xr_if_le (tgt := 2883) hx hb dL_law_2800 (by decide) (by omega) (fun yy16 => ?_) (fun yy16 => ?_)
      · skip
        refine lv_aload_n hx hb dL_law_2883 rfl (lv_at hl 8 rfl) ?_
        refine lv_bipush (v := iI (15)) hx hb dL_law_2884 (by decide) ?_
        refine lv_iload hx hb dL_law_2886 (lv_at hl 27 rfl) ?_
        refine lw_plot hx hb hml hown hts hK hl.1 ⟨by omega, by omega⟩ (by omega) (lv_room (Nat.le_of_ble_eq_true rfl)) dL_law_2888 ?_
        refine lv_iconst (v := iI (0)) hx hb dL_law_2891 rfl ?_
        refine lv_iconst (v := iI (0)) hx hb dL_law_2892 rfl ?_
        refine lv_iconst (v := iI (0)) hx hb dL_law_2893 rfl ?_
        refine lw_act (f := 8) (lo := 130) (mc := 1) (ms := 6) (E := offE sg (pl k)) (T := (st (offT (st sg 203 (pAt (pl k)) 2) (pAt (pl k)) (-1) 0) 510 0 (sg 510 0 + sg 210 (pAt (pl k))))) hx hb hml hown hts hK hXS hXN hS hA1 hN12 hG hR h4 (c_act_15 hC hG hl0 (lw_hA hA hR) (pl k) 0 0 0 (by omega)) ⟨by decide, by decide⟩ ⟨by omega, by omega⟩ hl.1 (Nat.le_of_ble_eq_true rfl) dL_law_2894 (fun ad H locs h4 hC hR hS => ?_)
        rw [if_neg (by rw [hE]; decide)] at hC
        rw [aR_n (by rw [hE]; decide), hE]
        refine lv_iload hx hb dL_law_2897 (lv_at hl 1 rfl) ?_
        refine xr_if_eq (tgt := 2907) hx hb dL_law_2899 (by decide) (by decide) (fun _ => ?_) (fun yy17 => absurd yy17 (by decide))
        refine lv_sipush (v := iI (-1003)) hx hb dL_law_2907 (by decide) ?_
        refine xr_i2l hx hb dL_law_2910 (by omega) ?_
        refine lw_leq hx hb dL_law_2911 (by first | rfl | omega | (rfl)) ?_
        refine xr_if_ne (tgt := 2919) hx hb dL_law_2912 (by decide) (by decide) (fun yy18 => absurd yy18 (by decide)) (fun _ => ?_)
        refine lv_iconst (v := iI (1)) hx hb dL_law_2915 rfl ?_
        refine lv_goto (tgt := 2920) hx hb dL_law_2916 (by decide) ?_
        refine lv_istore (i := 23) (lv' := [(23, .int (iI (1))), (32, .int (iI (mu 1012 k))), (31, .int (iI (0))), (18, .int (iI (sg 503 0))), (19, .int (iI (sg 506 0))), (20, .long (lI (sg 510 0))), (24, .int (iI (turn))), (0, .ref b), (1, .ref hh), (2, .ref (adM 20 0)), (3, .ref (adM 21 0)), (4, .ref (adM 22 0)), (5, .ref (adM 23 0)), (6, .ref (adM 24 0)), (7, .ref (adM 25 0)), (8, .ref (adM 26 0)), (9, .ref (adM 27 0)), (10, .ref (adM 28 0)), (11, .ref (adM 29 0)), (12, .ref (adM 30 0)), (13, .ref (adM 31 0)), (14, .ref (adM 32 0)), (15, .ref (adM 33 0)), (16, .ref (adM 34 0)), (17, .ref (adM 35 0)), (25, .int (vx)), (26, .int (iI (what))), (27, .int (iI (k))), (28, .int (iI (8 * k))), (29, .int (iI (who))), (30, .int (iI (w)))]) hx hb dL_law_2920 hl (by decide) rfl (fun ls hl => ?_)
        refine lv_lload hx hb dL_law_2922 (lv_at hl 5 rfl) ?_
        refine lv_iload hx hb dL_law_2924 (lv_at hl 2 rfl) ?_
        refine xr_if_eq (tgt := 2935) hx hb dL_law_2926 (by decide) (by decide) (fun _ => ?_) (fun yy19 => absurd yy19 (by decide))
        refine lv_lconst (v := lI (0)) hx hb dL_law_2935 (by decide) ?_
        refine xr_ladd hx hb dL_law_2936 ?_
        refine lv_lstore (i := 20) (lv' := [(20, .long (lI ((sg 510 0) + 0))), (23, .int (iI (1))), (32, .int (iI (mu 1012 k))), (31, .int (iI (0))), (18, .int (iI (sg 503 0))), (19, .int (iI (sg 506 0))), (24, .int (iI (turn))), (0, .ref b), (1, .ref hh), (2, .ref (adM 20 0)), (3, .ref (adM 21 0)), (4, .ref (adM 22 0)), (5, .ref (adM 23 0)), (6, .ref (adM 24 0)), (7, .ref (adM 25 0)), (8, .ref (adM 26 0)), (9, .ref (adM 27 0)), (10, .ref (adM 28 0)), (11, .ref (adM 29 0)), (12, .ref (adM 30 0)), (13, .ref (adM 31 0)), (14, .ref (adM 32 0)), (15, .ref (adM 33 0)), (16, .ref (adM 34 0)), (17, .ref (adM 35 0)), (25, .int (vx)), (26, .int (iI (what))), (27, .int (iI (k))), (28, .int (iI (8 * k))), (29, .int (iI (who))), (30, .int (iI (w)))]) hx hb dL_law_2937 hl (by decide) rfl (fun ls hl => ?_)
        refine lv_aload_n hx hb dL_law_2939 rfl (lv_at hl 9 rfl) ?_
        refine lv_iload hx hb dL_law_2940 (lv_at hl 28 rfl) ?_
        refine lv_iconst (v := iI (2)) hx hb dL_law_2942 rfl ?_
        refine xr_iadd hx hb dL_law_2943 ?_
        refine lv_iload hx hb dL_law_2944 (lv_at hl 3 rfl) ?_
        refine xr_if_eq (tgt := 2953) hx hb dL_law_2946 (by decide) (by decide) (fun _ => ?_) (fun yy20 => absurd yy20 (by decide))
        refine lv_aload_n hx hb dL_law_2953 rfl (lv_at hl 9 rfl) ?_
        refine lv_iload hx hb dL_law_2954 (lv_at hl 28 rfl) ?_
        refine lv_iconst (v := iI (2)) hx hb dL_law_2956 rfl ?_
        refine xr_iadd hx hb dL_law_2957 ?_
        refine xa_1000 (v := mu 1000 ((8 * k) + 2)) hx hb hK hR (by omega) rfl dL_law_2958 ?_
        have g21 := ml_1000 hM0 ((8 * k) + 2)
        refine ys_1000 (v := mu 1000 ((8 * k) + 2)) hx hb hK hC hR hA2 hA1 hN12 hS (by omega) dL_law_2959 (fun H locs hC hR hS => ?_)
        have hM := gl_1000 hM ((8 * k) + 2) (v := mu 1000 ((8 * k) + 2)) (by omega)
        refine lv_aload_n hx hb dL_law_2960 rfl (lv_at hl 9 rfl) ?_
        refine lv_iload hx hb dL_law_2961 (lv_at hl 28 rfl) ?_
        refine lv_bipush (v := iI (7)) hx hb dL_law_2963 (by decide) ?_
        refine xr_iadd hx hb dL_law_2965 ?_
        refine lv_iconst (v := iI (-1)) hx hb dL_law_2966 rfl ?_
        refine ys_1000 (v := -1) hx hb hK hC hR hA2 hA1 hN12 hS (by omega) dL_law_2967 (fun H locs hC hR hS => ?_)
        have hM := gl_1000 hM ((8 * k) + 7) (v := -1) (by omega)
        refine lv_goto (tgt := 3115) hx hb dL_law_2968 (by decide) ?_
        refine W.widen (k := cells + 3) (n := slots + 45) (by omega) (by omega) ?_
        exact kk ad sg (st (st mu 1000 ((8 * k) + 2) (mu 1000 ((8 * k) + 2))) 1000 ((8 * k) + 7) (-1)) H locs ls _ _ _ ⟨hC, hR, h4, (by rw [st_id (sg := mu) rfl, st_id (sg := mu) (by omega)]; exact hLR), hV, hG, hM, hS⟩ (by omega) rfl rfl (by omega) (lv_sub hl [1, 4, 5, 0, 6, 7, 8, 9, 10, 11, 12, 13, 14, 15, 16, 17, 18, 19, 20, 21, 22, 23, 24] rfl)
      · skip
        refine lv_aload_n hx hb dL_law_2803 rfl (lv_at hl 9 rfl) ?_
        refine lv_iload hx hb dL_law_2804 (lv_at hl 28 rfl) ?_
        refine lv_bipush (v := iI (7)) hx hb dL_law_2806 (by decide) ?_
        refine xr_iadd hx hb dL_law_2808 ?_
        refine lv_iload hx hb dL_law_2809 (lv_at hl 1 rfl) ?_
        refine xr_if_eq (tgt := 2834) hx hb dL_law_2811 (by decide) (by decide) (fun _ => ?_) (fun yy22 => absurd yy22 (by decide))
        refine lv_iconst (v := iI (-1)) hx hb dL_law_2834 rfl ?_
        refine ys_1000 (v := -1) hx hb hK hC hR hA2 hA1 hN12 hS (by omega) dL_law_2835 (fun H locs hC hR hS => ?_)
        have hM := gl_1000 hM ((8 * k) + 7) (v := -1) (by omega)
        refine lv_aload_n hx hb dL_law_2836 rfl (lv_at hl 8 rfl) ?_
        refine lv_bipush (v := iI (14)) hx hb dL_law_2837 (by decide) ?_
        refine lv_iload hx hb dL_law_2839 (lv_at hl 27 rfl) ?_
        refine lw_plot hx hb hml hown hts hK hl.1 ⟨by omega, by omega⟩ (by omega) (lv_room (Nat.le_of_ble_eq_true rfl)) dL_law_2841 ?_
        refine lv_iconst (v := iI (0)) hx hb dL_law_2844 rfl ?_
        refine lv_iconst (v := iI (0)) hx hb dL_law_2845 rfl ?_
        refine lv_iconst (v := iI (0)) hx hb dL_law_2846 rfl ?_
        refine lw_act (f := 8) (lo := 130) (mc := 1) (ms := 6) (E := offE sg (pl k)) (T := (offT sg (pAt (pl k)) (ownBeh sg (pAt (pl k)) (sg 209 (pAt (pl k)))) (sg 210 (pAt (pl k))))) hx hb hml hown hts hK hXS hXN hS hA1 hN12 hG hR h4 (c_act_14 hC hG hl0 (lw_hA hA hR) (pl k) 0 0 0 (by omega)) ⟨by decide, by decide⟩ ⟨by omega, by omega⟩ hl.1 (Nat.le_of_ble_eq_true rfl) dL_law_2847 (fun ad H locs h4 hC hR hS => ?_)
        rw [if_neg (by rw [hE]; decide)] at hC
        rw [aR_n (by rw [hE]; decide), hE]
        refine lv_iload hx hb dL_law_2850 (lv_at hl 1 rfl) ?_
        refine xr_if_eq (tgt := 2865) hx hb dL_law_2852 (by decide) (by decide) (fun _ => ?_) (fun yy23 => absurd yy23 (by decide))
        refine lv_sipush (v := iI (-1003)) hx hb dL_law_2865 (by decide) ?_
        refine xr_i2l hx hb dL_law_2868 (by omega) ?_
        refine lw_leq hx hb dL_law_2869 (by first | rfl | omega | (rfl)) ?_
        refine xr_if_ne (tgt := 2877) hx hb dL_law_2870 (by decide) (by decide) (fun yy24 => absurd yy24 (by decide)) (fun _ => ?_)
        refine lv_iconst (v := iI (1)) hx hb dL_law_2873 rfl ?_
        refine lv_goto (tgt := 2878) hx hb dL_law_2874 (by decide) ?_
        refine lv_istore (i := 23) (lv' := [(23, .int (iI (1))), (32, .int (iI (mu 1012 k))), (31, .int (iI (0))), (18, .int (iI (sg 503 0))), (19, .int (iI (sg 506 0))), (20, .long (lI (sg 510 0))), (24, .int (iI (turn))), (0, .ref b), (1, .ref hh), (2, .ref (adM 20 0)), (3, .ref (adM 21 0)), (4, .ref (adM 22 0)), (5, .ref (adM 23 0)), (6, .ref (adM 24 0)), (7, .ref (adM 25 0)), (8, .ref (adM 26 0)), (9, .ref (adM 27 0)), (10, .ref (adM 28 0)), (11, .ref (adM 29 0)), (12, .ref (adM 30 0)), (13, .ref (adM 31 0)), (14, .ref (adM 32 0)), (15, .ref (adM 33 0)), (16, .ref (adM 34 0)), (17, .ref (adM 35 0)), (25, .int (vx)), (26, .int (iI (what))), (27, .int (iI (k))), (28, .int (iI (8 * k))), (29, .int (iI (who))), (30, .int (iI (w)))]) hx hb dL_law_2878 hl (by decide) rfl (fun ls hl => ?_)
        refine lv_goto (tgt := 2968) hx hb dL_law_2880 (by decide) ?_
        refine lv_goto (tgt := 3115) hx hb dL_law_2968 (by decide) ?_
        refine W.widen (k := cells + 3) (n := slots + 45) (by omega) (by omega) ?_
        exact kk ad sg (st mu 1000 ((8 * k) + 7) (-1)) H locs ls _ _ _ ⟨hC, hR, h4, (by rw [st_id (by omega)]; exact hLR), hV, hG, hM, hS⟩ (by omega) rfl rfl rfl (lv_sub hl [0, 3, 4, 5, 6, 7, 8, 9, 10, 11, 12, 13, 14, 15, 16, 17, 18, 19, 20, 21, 22, 23, 24] rfl)
  refine lv_aload_n hx hb dL_law_2766 rfl (lv_at hl 7 rfl) ?_
  refine lv_iload hx hb dL_law_2767 (lv_at hl 26 rfl) ?_
  refine lv_bipush (v := iI (7)) hx hb dL_law_2769 (by decide) ?_
  refine xr_iadd hx hb dL_law_2771 ?_
  refine xa_1000 (v := mu 1000 ((8 * k) + 7)) hx hb hK hR (by omega) rfl dL_law_2772 ?_
  have g25 := ml_1000 hM0 ((8 * k) + 7)
  refine xr_if_lt (tgt := 2780) hx hb dL_law_2773 (by decide) (by omega) (fun yy26 => ?_) (fun yy26 => ?_)
  · skip
    refine lv_iconst (v := iI (0)) hx hb dL_law_2780 rfl ?_
    exact w_topI (by first | exact (bI_t (by first | omega | grind)).symm | exact (bI_f (by first | omega | grind)).symm) J2781
  · skip
    refine lv_iconst (v := iI (1)) hx hb dL_law_2776 rfl ?_
    refine lv_goto (tgt := 2781) hx hb dL_law_2777 (by decide) ?_
    exact w_topI (by first | exact (bI_t (by first | omega | grind)).symm | exact (bI_f (by first | omega | grind)).symm) J2781
