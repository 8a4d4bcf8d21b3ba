set_option maxRecDepth 100000 in
set_option maxHeartbeats 8000000 in
theorem law_case {p : Program} {l : Launch} {e : Env} {s : State} {m : MethodId} {below : List Frame} {meth : Method} {c : Code} {D : va_G} {cy : Nat → ClassId} {A A2 : Nat → Prop} {b L hh : Nat} {xs : Nat → Int32} {ad adM : Nat → Int → Nat} {sg mu : Nat → Int → Int} {H : Heap} {locs : List Loc} {cells slots : Nat} {Q : State → Prop} {ls : Array Slot} {turn : Int} (E : LE p l s m meth c b L xs D cy A A2 adM) (I : LI D cy A A2 s hh ad adM sg mu H locs) (h7 : sg 702 0 ≤ 1000000) (hcl : cells + 1000 ≤ 600104) (hsl : slots + 20000 ≤ 7301314) (hturn : 0 ≤ turn ∧ turn < 90) (hl : lv_has ls 37 [(23, .int (iI (1))), (18, .int (iI (sg 503 0))), (19, .int (iI (sg 506 0))), (20, .long (lI (sg 510 0))), (24, .int (iI (turn))), (0, .ref b), (1, .ref hh), (2, .ref (adM 20 0)), (3, .ref (adM 21 0)), (4, .ref (adM 22 0)), (5, .ref (adM 23 0)), (6, .ref (adM 24 0)), (7, .ref (adM 25 0)), (8, .ref (adM 26 0)), (9, .ref (adM 27 0)), (10, .ref (adM 28 0)), (11, .ref (adM 29 0)), (12, .ref (adM 30 0)), (13, .ref (adM 31 0)), (14, .ref (adM 32 0)), (15, .ref (adM 33 0)), (16, .ref (adM 34 0)), (17, .ref (adM 35 0))]) (kk : LK p l e s m below meth c b D cy A A2 hh adM cells slots Q sg turn) : W p l e room_1 s m #[Value.ref b] below meth c H locs cells slots Q (F0 m 450 ls []) := by
  have E0 := E
  have I0 := I
  obtain ⟨⟨hx, hb, hr, hml, hown, hts0, hX, hbl, hlocks, -⟩, hl0, hK, hXS, hXN, hA, hA1, hA2, hN12, hL⟩ := E
  obtain ⟨hC, hR, h4, hLR, hV, hG, hM, hS⟩ := I
  have hM0 := hM
  have hts : ∀ w ∈ wG, w.before #[Value.ref b] s = true := fun w hw => hts0 w (List.mem_filter.mp hw).1
  have hown : s.vm.findClass "TakinghallLaw" = some m.cls := hown
  have g503 := gr_503 hG 0
  have g506 := gr_506 hG 0
  refine lv_iload hx hb dL_law_450 (lv_at hl 4 rfl) ?_
  refine lv_bipush (v := iI (90)) hx hb dL_law_452 (by decide) ?_
  refine xr_icmp_ge (tgt := 3568) hx hb dL_law_454 (by decide) (by omega) (by omega) (fun yy1 => absurd yy1 (by omega)) (fun yy1 => ?_)
  refine lv_iload hx hb dL_law_457 (lv_at hl 0 rfl) ?_
  refine xr_if_eq (tgt := 3568) hx hb dL_law_459 (by decide) (by decide) (fun yy2 => absurd yy2 (by decide)) (fun _ => ?_)
  refine lv_aload_n hx hb dL_law_462 rfl (lv_at hl 5 rfl) ?_
  refine lv_iload hx hb dL_law_463 (lv_at hl 4 rfl) ?_
  refine lw_cell hx hb hml hown hts hK hX hbl hL hS hl.1 ⟨by omega, by omega⟩ (by omega) (lv_room (Nat.le_of_ble_eq_true rfl)) dL_law_465 (fun vx => ?_)
  refine lv_istore (i := 25) (lv' := [(25, .int (vx)), (23, .int (iI (1))), (18, .int (iI (sg 503 0))), (19, .int (iI (sg 506 0))), (20, .long (lI (sg 510 0))), (24, .int (iI (turn))), (0, .ref b), (1, .ref hh), (2, .ref (adM 20 0)), (3, .ref (adM 21 0)), (4, .ref (adM 22 0)), (5, .ref (adM 23 0)), (6, .ref (adM 24 0)), (7, .ref (adM 25 0)), (8, .ref (adM 26 0)), (9, .ref (adM 27 0)), (10, .ref (adM 28 0)), (11, .ref (adM 29 0)), (12, .ref (adM 30 0)), (13, .ref (adM 31 0)), (14, .ref (adM 32 0)), (15, .ref (adM 33 0)), (16, .ref (adM 34 0)), (17, .ref (adM 35 0))]) hx hb dL_law_468 hl (by decide) rfl (fun ls hl => ?_)
  refine lv_iload hx hb dL_law_470 (lv_at hl 0 rfl) ?_
  refine lv_bipush (v := iI (24)) hx hb dL_law_472 (by decide) ?_
  refine lw_up (n := 24) hx hb hml hown hts hK hl.1 ⟨by omega, by omega⟩ (by decide) (lv_room (Nat.le_of_ble_eq_true rfl)) dL_law_474 (fun what whata whatb => ?_)
  refine lv_istore (i := 26) (lv' := [(26, .int (iI (what))), (25, .int (vx)), (23, .int (iI (1))), (18, .int (iI (sg 503 0))), (19, .int (iI (sg 506 0))), (20, .long (lI (sg 510 0))), (24, .int (iI (turn))), (0, .ref b), (1, .ref hh), (2, .ref (adM 20 0)), (3, .ref (adM 21 0)), (4, .ref (adM 22 0)), (5, .ref (adM 23 0)), (6, .ref (adM 24 0)), (7, .ref (adM 25 0)), (8, .ref (adM 26 0)), (9, .ref (adM 27 0)), (10, .ref (adM 28 0)), (11, .ref (adM 29 0)), (12, .ref (adM 30 0)), (13, .ref (adM 31 0)), (14, .ref (adM 32 0)), (15, .ref (adM 33 0)), (16, .ref (adM 34 0)), (17, .ref (adM 35 0))]) hx hb dL_law_477 hl (by decide) rfl (fun ls hl => ?_)
  refine lv_iload hx hb dL_law_479 (lv_at hl 1 rfl) ?_
  refine lv_bipush (v := iI (32)) hx hb dL_law_481 (by decide) ?_
  refine lw_idiv hx hb (by decide) dL_law_483 ?_
  refine lv_iconst (v := iI (4)) hx hb dL_law_484 rfl ?_
  refine lw_up (n := 4) hx hb hml hown hts hK hl.1 ⟨by omega, by omega⟩ (by decide) (lv_room (Nat.le_of_ble_eq_true rfl)) dL_law_485 (fun k ka kb => ?_)
  refine lv_istore (i := 27) (lv' := [(27, .int (iI (k))), (26, .int (iI (what))), (25, .int (vx)), (23, .int (iI (1))), (18, .int (iI (sg 503 0))), (19, .int (iI (sg 506 0))), (20, .long (lI (sg 510 0))), (24, .int (iI (turn))), (0, .ref b), (1, .ref hh), (2, .ref (adM 20 0)), (3, .ref (adM 21 0)), (4, .ref (adM 22 0)), (5, .ref (adM 23 0)), (6, .ref (adM 24 0)), (7, .ref (adM 25 0)), (8, .ref (adM 26 0)), (9, .ref (adM 27 0)), (10, .ref (adM 28 0)), (11, .ref (adM 29 0)), (12, .ref (adM 30 0)), (13, .ref (adM 31 0)), (14, .ref (adM 32 0)), (15, .ref (adM 33 0)), (16, .ref (adM 34 0)), (17, .ref (adM 35 0))]) hx hb dL_law_488 hl (by decide) rfl (fun ls hl => ?_)
  refine lv_bipush (v := iI (8)) hx hb dL_law_490 (by decide) ?_
  refine lv_iload hx hb dL_law_492 (lv_at hl 0 rfl) ?_
  refine xr_imul hx hb dL_law_494 ?_
  refine lv_istore (i := 28) (lv' := [(28, .int (iI (8 * k))), (27, .int (iI (k))), (26, .int (iI (what))), (25, .int (vx)), (23, .int (iI (1))), (18, .int (iI (sg 503 0))), (19, .int (iI (sg 506 0))), (20, .long (lI (sg 510 0))), (24, .int (iI (turn))), (0, .ref b), (1, .ref hh), (2, .ref (adM 20 0)), (3, .ref (adM 21 0)), (4, .ref (adM 22 0)), (5, .ref (adM 23 0)), (6, .ref (adM 24 0)), (7, .ref (adM 25 0)), (8, .ref (adM 26 0)), (9, .ref (adM 27 0)), (10, .ref (adM 28 0)), (11, .ref (adM 29 0)), (12, .ref (adM 30 0)), (13, .ref (adM 31 0)), (14, .ref (adM 32 0)), (15, .ref (adM 33 0)), (16, .ref (adM 34 0)), (17, .ref (adM 35 0))]) hx hb dL_law_495 hl (by decide) rfl (fun ls hl => ?_)
  have J517 : ∀ who : Int, (0 ≤ who ∧ (who < sg 503 0 ∨ sg 503 0 = 0)) → W p l e room_1 s m #[Value.ref b] below meth c H locs cells slots Q (F0 m 517 ls [.int (iI (who))]) := by
    intro who hwho
    refine lv_istore (i := 29) (lv' := [(29, .int (iI (who))), (28, .int (iI (8 * k))), (27, .int (iI (k))), (26, .int (iI (what))), (25, .int (vx)), (23, .int (iI (1))), (18, .int (iI (sg 503 0))), (19, .int (iI (sg 506 0))), (20, .long (lI (sg 510 0))), (24, .int (iI (turn))), (0, .ref b), (1, .ref hh), (2, .ref (adM 20 0)), (3, .ref (adM 21 0)), (4, .ref (adM 22 0)), (5, .ref (adM 23 0)), (6, .ref (adM 24 0)), (7, .ref (adM 25 0)), (8, .ref (adM 26 0)), (9, .ref (adM 27 0)), (10, .ref (adM 28 0)), (11, .ref (adM 29 0)), (12, .ref (adM 30 0)), (13, .ref (adM 31 0)), (14, .ref (adM 32 0)), (15, .ref (adM 33 0)), (16, .ref (adM 34 0)), (17, .ref (adM 35 0))]) hx hb dL_law_517 hl (by decide) rfl (fun ls hl => ?_)
    refine lv_iload hx hb dL_law_519 (lv_at hl 4 rfl) ?_
    refine lv_bipush (v := iI (64)) hx hb dL_law_521 (by decide) ?_
    refine lw_idiv hx hb (by decide) dL_law_523 ?_
    refine lv_iconst (v := iI (2)) hx hb dL_law_524 rfl ?_
    refine lw_up (n := 2) hx hb hml hown hts hK hl.1 ⟨by omega, by omega⟩ (by decide) (lv_room (Nat.le_of_ble_eq_true rfl)) dL_law_525 (fun w wa wb => ?_)
    refine lv_istore (i := 30) (lv' := [(30, .int (iI (w))), (29, .int (iI (who))), (28, .int (iI (8 * k))), (27, .int (iI (k))), (26, .int (iI (what))), (25, .int (vx)), (23, .int (iI (1))), (18, .int (iI (sg 503 0))), (19, .int (iI (sg 506 0))), (20, .long (lI (sg 510 0))), (24, .int (iI (turn))), (0, .ref b), (1, .ref hh), (2, .ref (adM 20 0)), (3, .ref (adM 21 0)), (4, .ref (adM 22 0)), (5, .ref (adM 23 0)), (6, .ref (adM 24 0)), (7, .ref (adM 25 0)), (8, .ref (adM 26 0)), (9, .ref (adM 27 0)), (10, .ref (adM 28 0)), (11, .ref (adM 29 0)), (12, .ref (adM 30 0)), (13, .ref (adM 31 0)), (14, .ref (adM 32 0)), (15, .ref (adM 33 0)), (16, .ref (adM 34 0)), (17, .ref (adM 35 0))]) hx hb dL_law_528 hl (by decide) rfl (fun ls hl => ?_)
    refine lv_iload hx hb dL_law_530 (lv_at hl 4 rfl) ?_
    refine lv_iconst (v := iI (5)) hx hb dL_law_532 rfl ?_
    refine xr_icmp_ge (tgt := 824) hx hb dL_law_533 (by decide) (by omega) (by omega) (fun yy3 => ?_) (fun yy3 => ?_)
    · skip
      refine lv_iload hx hb dL_law_824 (lv_at hl 4 rfl) ?_
      refine lv_bipush (v := iI (7)) hx hb dL_law_826 (by decide) ?_
      refine xr_icmp_ge (tgt := 989) hx hb dL_law_828 (by decide) (by omega) (by omega) (fun yy4 => ?_) (fun yy4 => ?_)
      · skip
        refine lv_iload hx hb dL_law_989 (lv_at hl 4 rfl) ?_
        refine lv_bipush (v := iI (14)) hx hb dL_law_991 (by decide) ?_
        refine xr_icmp_ge (tgt := 1420) hx hb dL_law_993 (by decide) (by omega) (by omega) (fun yy5 => ?_) (fun yy5 => ?_)
        · skip
          refine lv_iload hx hb dL_law_1420 (lv_at hl 4 rfl) ?_
          refine lv_bipush (v := iI (14)) hx hb dL_law_1422 (by decide) ?_
          refine xr_icmp_ne (tgt := 1597) hx hb dL_law_1424 (by decide) (by omega) (by omega) (fun yy6 => ?_) (fun yy6 => ?_)
          · skip
            refine lv_iload hx hb dL_law_1597 (lv_at hl 4 rfl) ?_
            refine lv_bipush (v := iI (15)) hx hb dL_law_1599 (by decide) ?_
            refine xr_icmp_ne (tgt := 1761) hx hb dL_law_1601 (by decide) (by omega) (by omega) (fun yy7 => ?_) (fun yy7 => ?_)
            · skip
              refine lv_iload hx hb dL_law_1761 (lv_at hl 4 rfl) ?_
              refine lv_bipush (v := iI (16)) hx hb dL_law_1763 (by decide) ?_
              refine xr_icmp_ne (tgt := 1946) hx hb dL_law_1765 (by decide) (by omega) (by omega) (fun yy8 => ?_) (fun yy8 => ?_)
              · skip
                refine lv_iload hx hb dL_law_1946 (lv_at hl 4 rfl) ?_
                refine lv_bipush (v := iI (17)) hx hb dL_law_1948 (by decide) ?_
                refine xr_icmp_ne (tgt := 2071) hx hb dL_law_1950 (by decide) (by omega) (by omega) (fun yy9 => ?_) (fun yy9 => ?_)
                · skip
                  refine lv_iload hx hb dL_law_2071 (lv_at hl 4 rfl) ?_
                  refine lv_bipush (v := iI (18)) hx hb dL_law_2073 (by decide) ?_
                  refine xr_icmp_ne (tgt := 2341) hx hb dL_law_2075 (by decide) (by omega) (by omega) (fun yy10 => ?_) (fun yy10 => ?_)
                  · skip
                    refine lv_iload hx hb dL_law_2341 (lv_at hl 4 rfl) ?_
                    refine lv_bipush (v := iI (19)) hx hb dL_law_2343 (by decide) ?_
                    refine xr_icmp_ne (tgt := 2519) hx hb dL_law_2345 (by decide) (by omega) (by omega) (fun yy11 => ?_) (fun yy11 => ?_)
                    · skip
                      refine lv_iload hx hb dL_law_2519 (lv_at hl 4 rfl) ?_
                      refine lv_bipush (v := iI (20)) hx hb dL_law_2521 (by decide) ?_
                      refine xr_icmp_ne (tgt := 2759) hx hb dL_law_2523 (by decide) (by omega) (by omega) (fun yy12 => ?_) (fun yy12 => ?_)
                      · skip
                        refine lv_iload hx hb dL_law_2759 (lv_at hl 4 rfl) ?_
                        refine lv_bipush (v := iI (21)) hx hb dL_law_2761 (by decide) ?_
                        refine xr_icmp_ne (tgt := 2971) hx hb dL_law_2763 (by decide) (by omega) (by omega) (fun yy13 => ?_) (fun yy13 => ?_)
                        · skip
                          exact law_pass (vx := vx) (what := what) (k := k) (who := who) (w := w) E0 I0 h7 hcl hsl (by omega) (by omega) (by omega) (lv_sub hl [6, 7, 8, 9, 10, 11, 12, 13, 14, 15, 16, 17, 18, 19, 20, 21, 22, 23, 24, 25, 26, 27, 28, 5, 4, 3, 2, 1, 0] rfl) kk
                        · skip
                          exact law_offer (vx := vx) (what := what) (k := k) (who := who) (w := w) E0 I0 h7 hcl hsl (by omega) (by omega) (by omega) (lv_sub hl [6, 7, 8, 9, 10, 11, 12, 13, 14, 15, 16, 17, 18, 19, 20, 21, 22, 23, 24, 25, 26, 27, 28, 5, 4, 3, 2, 1, 0] rfl) kk
                      · skip
                        refine lv_iload hx hb dL_law_2526 (lv_at hl 7 rfl) ?_
                        refine xr_if_le (tgt := 2759) hx hb dL_law_2528 (by decide) (by omega) (fun yy14 => ?_) (fun yy14 => ?_)
                        · skip
                          refine lv_iload hx hb dL_law_2759 (lv_at hl 4 rfl) ?_
                          refine lv_bipush (v := iI (21)) hx hb dL_law_2761 (by decide) ?_
                          refine xr_icmp_ne (tgt := 2971) hx hb dL_law_2763 (by decide) (by omega) (by omega) (fun yy15 => ?_) (fun yy15 => ?_)
                          · skip
                            exact law_pass (vx := vx) (what := what) (k := k) (who := who) (w := w) E0 I0 h7 hcl hsl (by omega) (by omega) (by omega) (lv_sub hl [6, 7, 8, 9, 10, 11, 12, 13, 14, 15, 16, 17, 18, 19, 20, 21, 22, 23, 24, 25, 26, 27, 28, 5, 4, 3, 2, 1, 0] rfl) kk
                          · skip
                            exact law_offer (vx := vx) (what := what) (k := k) (who := who) (w := w) E0 I0 h7 hcl hsl (by omega) (by omega) (by omega) (lv_sub hl [6, 7, 8, 9, 10, 11, 12, 13, 14, 15, 16, 17, 18, 19, 20, 21, 22, 23, 24, 25, 26, 27, 28, 5, 4, 3, 2, 1, 0] rfl) kk
                        · skip
                          exact law_settle (vx := vx) (what := what) (k := k) (who := who) (w := w) E0 I0 h7 hcl hsl (by omega) (by omega) (by omega) (by omega) (lv_sub hl [6, 7, 8, 9, 10, 11, 12, 13, 14, 15, 16, 17, 18, 19, 20, 21, 22, 23, 24, 25, 26, 27, 28, 5, 4, 3, 2, 1, 0] rfl) kk
                    · skip
                      refine lv_iload hx hb dL_law_2348 (lv_at hl 7 rfl) ?_
                      refine xr_if_le (tgt := 2519) hx hb dL_law_2350 (by decide) (by omega) (fun yy16 => ?_) (fun yy16 => ?_)
                      · skip
                        refine lv_iload hx hb dL_law_2519 (lv_at hl 4 rfl) ?_
                        refine lv_bipush (v := iI (20)) hx hb dL_law_2521 (by decide) ?_
                        refine xr_icmp_ne (tgt := 2759) hx hb dL_law_2523 (by decide) (by omega) (by omega) (fun yy17 => ?_) (fun yy17 => ?_)
                        · skip
                          refine lv_iload hx hb dL_law_2759 (lv_at hl 4 rfl) ?_
                          refine lv_bipush (v := iI (21)) hx hb dL_law_2761 (by decide) ?_
                          refine xr_icmp_ne (tgt := 2971) hx hb dL_law_2763 (by decide) (by omega) (by omega) (fun yy18 => ?_) (fun yy18 => ?_)
                          · skip
                            exact law_pass (vx := vx) (what := what) (k := k) (who := who) (w := w) E0 I0 h7 hcl hsl (by omega) (by omega) (by omega) (lv_sub hl [6, 7, 8, 9, 10, 11, 12, 13, 14, 15, 16, 17, 18, 19, 20, 21, 22, 23, 24, 25, 26, 27, 28, 5, 4, 3, 2, 1, 0] rfl) kk
                          · skip
                            exact law_offer (vx := vx) (what := what) (k := k) (who := who) (w := w) E0 I0 h7 hcl hsl (by omega) (by omega) (by omega) (lv_sub hl [6, 7, 8, 9, 10, 11, 12, 13, 14, 15, 16, 17, 18, 19, 20, 21, 22, 23, 24, 25, 26, 27, 28, 5, 4, 3, 2, 1, 0] rfl) kk
                        · skip
                          refine lv_iload hx hb dL_law_2526 (lv_at hl 7 rfl) ?_
                          refine xr_if_le (tgt := 2759) hx hb dL_law_2528 (by decide) (by omega) (fun yy19 => ?_) (fun yy19 => ?_)
                          · skip
                            refine lv_iload hx hb dL_law_2759 (lv_at hl 4 rfl) ?_
                            refine lv_bipush (v := iI (21)) hx hb dL_law_2761 (by decide) ?_
                            refine xr_icmp_ne (tgt := 2971) hx hb dL_law_2763 (by decide) (by omega) (by omega) (fun yy20 => ?_) (fun yy20 => ?_)
                            · skip
                              exact law_pass (vx := vx) (what := what) (k := k) (who := who) (w := w) E0 I0 h7 hcl hsl (by omega) (by omega) (by omega) (lv_sub hl [6, 7, 8, 9, 10, 11, 12, 13, 14, 15, 16, 17, 18, 19, 20, 21, 22, 23, 24, 25, 26, 27, 28, 5, 4, 3, 2, 1, 0] rfl) kk
                            · skip
                              exact law_offer (vx := vx) (what := what) (k := k) (who := who) (w := w) E0 I0 h7 hcl hsl (by omega) (by omega) (by omega) (lv_sub hl [6, 7, 8, 9, 10, 11, 12, 13, 14, 15, 16, 17, 18, 19, 20, 21, 22, 23, 24, 25, 26, 27, 28, 5, 4, 3, 2, 1, 0] rfl) kk
                          · skip
                            exact law_settle (vx := vx) (what := what) (k := k) (who := who) (w := w) E0 I0 h7 hcl hsl (by omega) (by omega) (by omega) (by omega) (lv_sub hl [6, 7, 8, 9, 10, 11, 12, 13, 14, 15, 16, 17, 18, 19, 20, 21, 22, 23, 24, 25, 26, 27, 28, 5, 4, 3, 2, 1, 0] rfl) kk
                      · skip
                        exact law_advance (vx := vx) (what := what) (k := k) (who := who) (w := w) E0 I0 h7 hcl hsl (by omega) (by omega) (by omega) (by omega) (lv_sub hl [6, 7, 8, 9, 10, 11, 12, 13, 14, 15, 16, 17, 18, 19, 20, 21, 22, 23, 24, 25, 26, 27, 28, 5, 4, 3, 2, 1, 0] rfl) kk
                  · skip
                    refine lv_iload hx hb dL_law_2078 (lv_at hl 5 rfl) ?_
                    refine lv_sipush (v := iI (512)) hx hb dL_law_2080 (by decide) ?_
                    refine lw_idiv hx hb (by decide) dL_law_2083 ?_
                    refine lv_iconst (v := iI (3)) hx hb dL_law_2084 rfl ?_
                    refine lw_up (n := 3) hx hb hml hown hts hK hl.1 ⟨by omega, by omega⟩ (by decide) (lv_room (Nat.le_of_ble_eq_true rfl)) dL_law_2085 (fun dd dda ddb => ?_)
                    refine xr_if_ne (tgt := 2341) hx hb dL_law_2088 (by decide) (by omega) (fun yy21 => ?_) (fun yy21 => ?_)
                    · skip
                      refine lv_iload hx hb dL_law_2341 (lv_at hl 4 rfl) ?_
                      refine lv_bipush (v := iI (19)) hx hb dL_law_2343 (by decide) ?_
                      refine xr_icmp_ne (tgt := 2519) hx hb dL_law_2345 (by decide) (by omega) (by omega) (fun yy22 => ?_) (fun yy22 => ?_)
                      · skip
                        refine lv_iload hx hb dL_law_2519 (lv_at hl 4 rfl) ?_
                        refine lv_bipush (v := iI (20)) hx hb dL_law_2521 (by decide) ?_
                        refine xr_icmp_ne (tgt := 2759) hx hb dL_law_2523 (by decide) (by omega) (by omega) (fun yy23 => ?_) (fun yy23 => ?_)
                        · skip
                          refine lv_iload hx hb dL_law_2759 (lv_at hl 4 rfl) ?_
                          refine lv_bipush (v := iI (21)) hx hb dL_law_2761 (by decide) ?_
                          refine xr_icmp_ne (tgt := 2971) hx hb dL_law_2763 (by decide) (by omega) (by omega) (fun yy24 => ?_) (fun yy24 => ?_)
                          · skip
                            exact law_pass (vx := vx) (what := what) (k := k) (who := who) (w := w) E0 I0 h7 hcl hsl (by omega) (by omega) (by omega) (lv_sub hl [6, 7, 8, 9, 10, 11, 12, 13, 14, 15, 16, 17, 18, 19, 20, 21, 22, 23, 24, 25, 26, 27, 28, 5, 4, 3, 2, 1, 0] rfl) kk
                          · skip
                            exact law_offer (vx := vx) (what := what) (k := k) (who := who) (w := w) E0 I0 h7 hcl hsl (by omega) (by omega) (by omega) (lv_sub hl [6, 7, 8, 9, 10, 11, 12, 13, 14, 15, 16, 17, 18, 19, 20, 21, 22, 23, 24, 25, 26, 27, 28, 5, 4, 3, 2, 1, 0] rfl) kk
                        · skip
                          refine lv_iload hx hb dL_law_2526 (lv_at hl 7 rfl) ?_
                          refine xr_if_le (tgt := 2759) hx hb dL_law_2528 (by decide) (by omega) (fun yy25 => ?_) (fun yy25 => ?_)
                          · skip
                            refine lv_iload hx hb dL_law_2759 (lv_at hl 4 rfl) ?_
                            refine lv_bipush (v := iI (21)) hx hb dL_law_2761 (by decide) ?_
                            refine xr_icmp_ne (tgt := 2971) hx hb dL_law_2763 (by decide) (by omega) (by omega) (fun yy26 => ?_) (fun yy26 => ?_)
                            · skip
                              exact law_pass (vx := vx) (what := what) (k := k) (who := who) (w := w) E0 I0 h7 hcl hsl (by omega) (by omega) (by omega) (lv_sub hl [6, 7, 8, 9, 10, 11, 12, 13, 14, 15, 16, 17, 18, 19, 20, 21, 22, 23, 24, 25, 26, 27, 28, 5, 4, 3, 2, 1, 0] rfl) kk
                            · skip
                              exact law_offer (vx := vx) (what := what) (k := k) (who := who) (w := w) E0 I0 h7 hcl hsl (by omega) (by omega) (by omega) (lv_sub hl [6, 7, 8, 9, 10, 11, 12, 13, 14, 15, 16, 17, 18, 19, 20, 21, 22, 23, 24, 25, 26, 27, 28, 5, 4, 3, 2, 1, 0] rfl) kk
                          · skip
                            exact law_settle (vx := vx) (what := what) (k := k) (who := who) (w := w) E0 I0 h7 hcl hsl (by omega) (by omega) (by omega) (by omega) (lv_sub hl [6, 7, 8, 9, 10, 11, 12, 13, 14, 15, 16, 17, 18, 19, 20, 21, 22, 23, 24, 25, 26, 27, 28, 5, 4, 3, 2, 1, 0] rfl) kk
                      · skip
                        refine lv_iload hx hb dL_law_2348 (lv_at hl 7 rfl) ?_
                        refine xr_if_le (tgt := 2519) hx hb dL_law_2350 (by decide) (by omega) (fun yy27 => ?_) (fun yy27 => ?_)
                        · skip
                          refine lv_iload hx hb dL_law_2519 (lv_at hl 4 rfl) ?_
                          refine lv_bipush (v := iI (20)) hx hb dL_law_2521 (by decide) ?_
                          refine xr_icmp_ne (tgt := 2759) hx hb dL_law_2523 (by decide) (by omega) (by omega) (fun yy28 => ?_) (fun yy28 => ?_)
                          · skip
                            refine lv_iload hx hb dL_law_2759 (lv_at hl 4 rfl) ?_
                            refine lv_bipush (v := iI (21)) hx hb dL_law_2761 (by decide) ?_
                            refine xr_icmp_ne (tgt := 2971) hx hb dL_law_2763 (by decide) (by omega) (by omega) (fun yy29 => ?_) (fun yy29 => ?_)
                            · skip
                              exact law_pass (vx := vx) (what := what) (k := k) (who := who) (w := w) E0 I0 h7 hcl hsl (by omega) (by omega) (by omega) (lv_sub hl [6, 7, 8, 9, 10, 11, 12, 13, 14, 15, 16, 17, 18, 19, 20, 21, 22, 23, 24, 25, 26, 27, 28, 5, 4, 3, 2, 1, 0] rfl) kk
                            · skip
                              exact law_offer (vx := vx) (what := what) (k := k) (who := who) (w := w) E0 I0 h7 hcl hsl (by omega) (by omega) (by omega) (lv_sub hl [6, 7, 8, 9, 10, 11, 12, 13, 14, 15, 16, 17, 18, 19, 20, 21, 22, 23, 24, 25, 26, 27, 28, 5, 4, 3, 2, 1, 0] rfl) kk
                          · skip
                            refine lv_iload hx hb dL_law_2526 (lv_at hl 7 rfl) ?_
                            refine xr_if_le (tgt := 2759) hx hb dL_law_2528 (by decide) (by omega) (fun yy30 => ?_) (fun yy30 => ?_)
                            · skip
                              refine lv_iload hx hb dL_law_2759 (lv_at hl 4 rfl) ?_
                              refine lv_bipush (v := iI (21)) hx hb dL_law_2761 (by decide) ?_
                              refine xr_icmp_ne (tgt := 2971) hx hb dL_law_2763 (by decide) (by omega) (by omega) (fun yy31 => ?_) (fun yy31 => ?_)
                              · skip
                                exact law_pass (vx := vx) (what := what) (k := k) (who := who) (w := w) E0 I0 h7 hcl hsl (by omega) (by omega) (by omega) (lv_sub hl [6, 7, 8, 9, 10, 11, 12, 13, 14, 15, 16, 17, 18, 19, 20, 21, 22, 23, 24, 25, 26, 27, 28, 5, 4, 3, 2, 1, 0] rfl) kk
                              · skip
                                exact law_offer (vx := vx) (what := what) (k := k) (who := who) (w := w) E0 I0 h7 hcl hsl (by omega) (by omega) (by omega) (lv_sub hl [6, 7, 8, 9, 10, 11, 12, 13, 14, 15, 16, 17, 18, 19, 20, 21, 22, 23, 24, 25, 26, 27, 28, 5, 4, 3, 2, 1, 0] rfl) kk
                            · skip
                              exact law_settle (vx := vx) (what := what) (k := k) (who := who) (w := w) E0 I0 h7 hcl hsl (by omega) (by omega) (by omega) (by omega) (lv_sub hl [6, 7, 8, 9, 10, 11, 12, 13, 14, 15, 16, 17, 18, 19, 20, 21, 22, 23, 24, 25, 26, 27, 28, 5, 4, 3, 2, 1, 0] rfl) kk
                        · skip
                          exact law_advance (vx := vx) (what := what) (k := k) (who := who) (w := w) E0 I0 h7 hcl hsl (by omega) (by omega) (by omega) (by omega) (lv_sub hl [6, 7, 8, 9, 10, 11, 12, 13, 14, 15, 16, 17, 18, 19, 20, 21, 22, 23, 24, 25, 26, 27, 28, 5, 4, 3, 2, 1, 0] rfl) kk
                    · skip
                      exact law_drop (vx := vx) (what := what) (k := k) (who := who) (w := w) E0 I0 h7 hcl hsl (by omega) (by omega) (by omega) (lv_sub hl [6, 7, 8, 9, 10, 11, 12, 13, 14, 15, 16, 17, 18, 19, 20, 21, 22, 23, 24, 25, 26, 27, 28, 5, 4, 3, 2, 1, 0] rfl) kk
                · skip
                  exact law_works (vx := vx) (what := what) (k := k) (who := who) (w := w) E0 I0 h7 hcl hsl (by omega) (by omega) (by omega) (lv_sub hl [6, 7, 8, 9, 10, 11, 12, 13, 14, 15, 16, 17, 18, 19, 20, 21, 22, 23, 24, 25, 26, 27, 28, 5, 4, 3, 2, 1, 0] rfl) kk
              · skip
                refine lv_iload hx hb dL_law_1768 (lv_at hl 7 rfl) ?_
                refine xr_if_le (tgt := 1946) hx hb dL_law_1770 (by decide) (by omega) (fun yy32 => ?_) (fun yy32 => ?_)
                · skip
                  refine lv_iload hx hb dL_law_1946 (lv_at hl 4 rfl) ?_
                  refine lv_bipush (v := iI (17)) hx hb dL_law_1948 (by decide) ?_
                  refine xr_icmp_ne (tgt := 2071) hx hb dL_law_1950 (by decide) (by omega) (by omega) (fun yy33 => ?_) (fun yy33 => ?_)
                  · skip
                    refine lv_iload hx hb dL_law_2071 (lv_at hl 4 rfl) ?_
                    refine lv_bipush (v := iI (18)) hx hb dL_law_2073 (by decide) ?_
                    refine xr_icmp_ne (tgt := 2341) hx hb dL_law_2075 (by decide) (by omega) (by omega) (fun yy34 => ?_) (fun yy34 => ?_)
                    · skip
                      refine lv_iload hx hb dL_law_2341 (lv_at hl 4 rfl) ?_
                      refine lv_bipush (v := iI (19)) hx hb dL_law_2343 (by decide) ?_
                      refine xr_icmp_ne (tgt := 2519) hx hb dL_law_2345 (by decide) (by omega) (by omega) (fun yy35 => ?_) (fun yy35 => ?_)
                      · skip
                        refine lv_iload hx hb dL_law_2519 (lv_at hl 4 rfl) ?_
                        refine lv_bipush (v := iI (20)) hx hb dL_law_2521 (by decide) ?_
                        refine xr_icmp_ne (tgt := 2759) hx hb dL_law_2523 (by decide) (by omega) (by omega) (fun yy36 => ?_) (fun yy36 => ?_)
                        · skip
                          refine lv_iload hx hb dL_law_2759 (lv_at hl 4 rfl) ?_
                          refine lv_bipush (v := iI (21)) hx hb dL_law_2761 (by decide) ?_
                          refine xr_icmp_ne (tgt := 2971) hx hb dL_law_2763 (by decide) (by omega) (by omega) (fun yy37 => ?_) (fun yy37 => ?_)
                          · skip
                            exact law_pass (vx := vx) (what := what) (k := k) (who := who) (w := w) E0 I0 h7 hcl hsl (by omega) (by omega) (by omega) (lv_sub hl [6, 7, 8, 9, 10, 11, 12, 13, 14, 15, 16, 17, 18, 19, 20, 21, 22, 23, 24, 25, 26, 27, 28, 5, 4, 3, 2, 1, 0] rfl) kk
                          · skip
                            exact law_offer (vx := vx) (what := what) (k := k) (who := who) (w := w) E0 I0 h7 hcl hsl (by omega) (by omega) (by omega) (lv_sub hl [6, 7, 8, 9, 10, 11, 12, 13, 14, 15, 16, 17, 18, 19, 20, 21, 22, 23, 24, 25, 26, 27, 28, 5, 4, 3, 2, 1, 0] rfl) kk
                        · skip
                          refine lv_iload hx hb dL_law_2526 (lv_at hl 7 rfl) ?_
                          refine xr_if_le (tgt := 2759) hx hb dL_law_2528 (by decide) (by omega) (fun yy38 => ?_) (fun yy38 => ?_)
                          · skip
                            refine lv_iload hx hb dL_law_2759 (lv_at hl 4 rfl) ?_
                            refine lv_bipush (v := iI (21)) hx hb dL_law_2761 (by decide) ?_
                            refine xr_icmp_ne (tgt := 2971) hx hb dL_law_2763 (by decide) (by omega) (by omega) (fun yy39 => ?_) (fun yy39 => ?_)
                            · skip
                              exact law_pass (vx := vx) (what := what) (k := k) (who := who) (w := w) E0 I0 h7 hcl hsl (by omega) (by omega) (by omega) (lv_sub hl [6, 7, 8, 9, 10, 11, 12, 13, 14, 15, 16, 17, 18, 19, 20, 21, 22, 23, 24, 25, 26, 27, 28, 5, 4, 3, 2, 1, 0] rfl) kk
                            · skip
                              exact law_offer (vx := vx) (what := what) (k := k) (who := who) (w := w) E0 I0 h7 hcl hsl (by omega) (by omega) (by omega) (lv_sub hl [6, 7, 8, 9, 10, 11, 12, 13, 14, 15, 16, 17, 18, 19, 20, 21, 22, 23, 24, 25, 26, 27, 28, 5, 4, 3, 2, 1, 0] rfl) kk
                          · skip
                            exact law_settle (vx := vx) (what := what) (k := k) (who := who) (w := w) E0 I0 h7 hcl hsl (by omega) (by omega) (by omega) (by omega) (lv_sub hl [6, 7, 8, 9, 10, 11, 12, 13, 14, 15, 16, 17, 18, 19, 20, 21, 22, 23, 24, 25, 26, 27, 28, 5, 4, 3, 2, 1, 0] rfl) kk
                      · skip
                        refine lv_iload hx hb dL_law_2348 (lv_at hl 7 rfl) ?_
                        refine xr_if_le (tgt := 2519) hx hb dL_law_2350 (by decide) (by omega) (fun yy40 => ?_) (fun yy40 => ?_)
                        · skip
                          refine lv_iload hx hb dL_law_2519 (lv_at hl 4 rfl) ?_
                          refine lv_bipush (v := iI (20)) hx hb dL_law_2521 (by decide) ?_
                          refine xr_icmp_ne (tgt := 2759) hx hb dL_law_2523 (by decide) (by omega) (by omega) (fun yy41 => ?_) (fun yy41 => ?_)
                          · skip
                            refine lv_iload hx hb dL_law_2759 (lv_at hl 4 rfl) ?_
                            refine lv_bipush (v := iI (21)) hx hb dL_law_2761 (by decide) ?_
                            refine xr_icmp_ne (tgt := 2971) hx hb dL_law_2763 (by decide) (by omega) (by omega) (fun yy42 => ?_) (fun yy42 => ?_)
                            · skip
                              exact law_pass (vx := vx) (what := what) (k := k) (who := who) (w := w) E0 I0 h7 hcl hsl (by omega) (by omega) (by omega) (lv_sub hl [6, 7, 8, 9, 10, 11, 12, 13, 14, 15, 16, 17, 18, 19, 20, 21, 22, 23, 24, 25, 26, 27, 28, 5, 4, 3, 2, 1, 0] rfl) kk
                            · skip
                              exact law_offer (vx := vx) (what := what) (k := k) (who := who) (w := w) E0 I0 h7 hcl hsl (by omega) (by omega) (by omega) (lv_sub hl [6, 7, 8, 9, 10, 11, 12, 13, 14, 15, 16, 17, 18, 19, 20, 21, 22, 23, 24, 25, 26, 27, 28, 5, 4, 3, 2, 1, 0] rfl) kk
                          · skip
                            refine lv_iload hx hb dL_law_2526 (lv_at hl 7 rfl) ?_
                            refine xr_if_le (tgt := 2759) hx hb dL_law_2528 (by decide) (by omega) (fun yy43 => ?_) (fun yy43 => ?_)
                            · skip
                              refine lv_iload hx hb dL_law_2759 (lv_at hl 4 rfl) ?_
                              refine lv_bipush (v := iI (21)) hx hb dL_law_2761 (by decide) ?_
                              refine xr_icmp_ne (tgt := 2971) hx hb dL_law_2763 (by decide) (by omega) (by omega) (fun yy44 => ?_) (fun yy44 => ?_)
                              · skip
                                exact law_pass (vx := vx) (what := what) (k := k) (who := who) (w := w) E0 I0 h7 hcl hsl (by omega) (by omega) (by omega) (lv_sub hl [6, 7, 8, 9, 10, 11, 12, 13, 14, 15, 16, 17, 18, 19, 20, 21, 22, 23, 24, 25, 26, 27, 28, 5, 4, 3, 2, 1, 0] rfl) kk
                              · skip
                                exact law_offer (vx := vx) (what := what) (k := k) (who := who) (w := w) E0 I0 h7 hcl hsl (by omega) (by omega) (by omega) (lv_sub hl [6, 7, 8, 9, 10, 11, 12, 13, 14, 15, 16, 17, 18, 19, 20, 21, 22, 23, 24, 25, 26, 27, 28, 5, 4, 3, 2, 1, 0] rfl) kk
                            · skip
                              exact law_settle (vx := vx) (what := what) (k := k) (who := who) (w := w) E0 I0 h7 hcl hsl (by omega) (by omega) (by omega) (by omega) (lv_sub hl [6, 7, 8, 9, 10, 11, 12, 13, 14, 15, 16, 17, 18, 19, 20, 21, 22, 23, 24, 25, 26, 27, 28, 5, 4, 3, 2, 1, 0] rfl) kk
                        · skip
                          exact law_advance (vx := vx) (what := what) (k := k) (who := who) (w := w) E0 I0 h7 hcl hsl (by omega) (by omega) (by omega) (by omega) (lv_sub hl [6, 7, 8, 9, 10, 11, 12, 13, 14, 15, 16, 17, 18, 19, 20, 21, 22, 23, 24, 25, 26, 27, 28, 5, 4, 3, 2, 1, 0] rfl) kk
                    · skip
                      refine lv_iload hx hb dL_law_2078 (lv_at hl 5 rfl) ?_
                      refine lv_sipush (v := iI (512)) hx hb dL_law_2080 (by decide) ?_
                      refine lw_idiv hx hb (by decide) dL_law_2083 ?_
                      refine lv_iconst (v := iI (3)) hx hb dL_law_2084 rfl ?_
                      refine lw_up (n := 3) hx hb hml hown hts hK hl.1 ⟨by omega, by omega⟩ (by decide) (lv_room (Nat.le_of_ble_eq_true rfl)) dL_law_2085 (fun dd dda ddb => ?_)
                      refine xr_if_ne (tgt := 2341) hx hb dL_law_2088 (by decide) (by omega) (fun yy45 => ?_) (fun yy45 => ?_)
                      · skip
                        refine lv_iload hx hb dL_law_2341 (lv_at hl 4 rfl) ?_
                        refine lv_bipush (v := iI (19)) hx hb dL_law_2343 (by decide) ?_
                        refine xr_icmp_ne (tgt := 2519) hx hb dL_law_2345 (by decide) (by omega) (by omega) (fun yy46 => ?_) (fun yy46 => ?_)
                        · skip
                          refine lv_iload hx hb dL_law_2519 (lv_at hl 4 rfl) ?_
                          refine lv_bipush (v := iI (20)) hx hb dL_law_2521 (by decide) ?_
                          refine xr_icmp_ne (tgt := 2759) hx hb dL_law_2523 (by decide) (by omega) (by omega) (fun yy47 => ?_) (fun yy47 => ?_)
                          · skip
                            refine lv_iload hx hb dL_law_2759 (lv_at hl 4 rfl) ?_
                            refine lv_bipush (v := iI (21)) hx hb dL_law_2761 (by decide) ?_
                            refine xr_icmp_ne (tgt := 2971) hx hb dL_law_2763 (by decide) (by omega) (by omega) (fun yy48 => ?_) (fun yy48 => ?_)
                            · skip
                              exact law_pass (vx := vx) (what := what) (k := k) (who := who) (w := w) E0 I0 h7 hcl hsl (by omega) (by omega) (by omega) (lv_sub hl [6, 7, 8, 9, 10, 11, 12, 13, 14, 15, 16, 17, 18, 19, 20, 21, 22, 23, 24, 25, 26, 27, 28, 5, 4, 3, 2, 1, 0] rfl) kk
                            · skip
                              exact law_offer (vx := vx) (what := what) (k := k) (who := who) (w := w) E0 I0 h7 hcl hsl (by omega) (by omega) (by omega) (lv_sub hl [6, 7, 8, 9, 10, 11, 12, 13, 14, 15, 16, 17, 18, 19, 20, 21, 22, 23, 24, 25, 26, 27, 28, 5, 4, 3, 2, 1, 0] rfl) kk
                          · skip
                            refine lv_iload hx hb dL_law_2526 (lv_at hl 7 rfl) ?_
                            refine xr_if_le (tgt := 2759) hx hb dL_law_2528 (by decide) (by omega) (fun yy49 => ?_) (fun yy49 => ?_)
                            · skip
                              refine lv_iload hx hb dL_law_2759 (lv_at hl 4 rfl) ?_
                              refine lv_bipush (v := iI (21)) hx hb dL_law_2761 (by decide) ?_
                              refine xr_icmp_ne (tgt := 2971) hx hb dL_law_2763 (by decide) (by omega) (by omega) (fun yy50 => ?_) (fun yy50 => ?_)
                              · skip
                                exact law_pass (vx := vx) (what := what) (k := k) (who := who) (w := w) E0 I0 h7 hcl hsl (by omega) (by omega) (by omega) (lv_sub hl [6, 7, 8, 9, 10, 11, 12, 13, 14, 15, 16, 17, 18, 19, 20, 21, 22, 23, 24, 25, 26, 27, 28, 5, 4, 3, 2, 1, 0] rfl) kk
                              · skip
                                exact law_offer (vx := vx) (what := what) (k := k) (who := who) (w := w) E0 I0 h7 hcl hsl (by omega) (by omega) (by omega) (lv_sub hl [6, 7, 8, 9, 10, 11, 12, 13, 14, 15, 16, 17, 18, 19, 20, 21, 22, 23, 24, 25, 26, 27, 28, 5, 4, 3, 2, 1, 0] rfl) kk
                            · skip
                              exact law_settle (vx := vx) (what := what) (k := k) (who := who) (w := w) E0 I0 h7 hcl hsl (by omega) (by omega) (by omega) (by omega) (lv_sub hl [6, 7, 8, 9, 10, 11, 12, 13, 14, 15, 16, 17, 18, 19, 20, 21, 22, 23, 24, 25, 26, 27, 28, 5, 4, 3, 2, 1, 0] rfl) kk
                        · skip
                          refine lv_iload hx hb dL_law_2348 (lv_at hl 7 rfl) ?_
                          refine xr_if_le (tgt := 2519) hx hb dL_law_2350 (by decide) (by omega) (fun yy51 => ?_) (fun yy51 => ?_)
                          · skip
                            refine lv_iload hx hb dL_law_2519 (lv_at hl 4 rfl) ?_
                            refine lv_bipush (v := iI (20)) hx hb dL_law_2521 (by decide) ?_
                            refine xr_icmp_ne (tgt := 2759) hx hb dL_law_2523 (by decide) (by omega) (by omega) (fun yy52 => ?_) (fun yy52 => ?_)
                            · skip
                              refine lv_iload hx hb dL_law_2759 (lv_at hl 4 rfl) ?_
                              refine lv_bipush (v := iI (21)) hx hb dL_law_2761 (by decide) ?_
                              refine xr_icmp_ne (tgt := 2971) hx hb dL_law_2763 (by decide) (by omega) (by omega) (fun yy53 => ?_) (fun yy53 => ?_)
                              · skip
                                exact law_pass (vx := vx) (what := what) (k := k) (who := who) (w := w) E0 I0 h7 hcl hsl (by omega) (by omega) (by omega) (lv_sub hl [6, 7, 8, 9, 10, 11, 12, 13, 14, 15, 16, 17, 18, 19, 20, 21, 22, 23, 24, 25, 26, 27, 28, 5, 4, 3, 2, 1, 0] rfl) kk
                              · skip
                                exact law_offer (vx := vx) (what := what) (k := k) (who := who) (w := w) E0 I0 h7 hcl hsl (by omega) (by omega) (by omega) (lv_sub hl [6, 7, 8, 9, 10, 11, 12, 13, 14, 15, 16, 17, 18, 19, 20, 21, 22, 23, 24, 25, 26, 27, 28, 5, 4, 3, 2, 1, 0] rfl) kk
                            · skip
                              refine lv_iload hx hb dL_law_2526 (lv_at hl 7 rfl) ?_
                              refine xr_if_le (tgt := 2759) hx hb dL_law_2528 (by decide) (by omega) (fun yy54 => ?_) (fun yy54 => ?_)
                              · skip
                                refine lv_iload hx hb dL_law_2759 (lv_at hl 4 rfl) ?_
                                refine lv_bipush (v := iI (21)) hx hb dL_law_2761 (by decide) ?_
                                refine xr_icmp_ne (tgt := 2971) hx hb dL_law_2763 (by decide) (by omega) (by omega) (fun yy55 => ?_) (fun yy55 => ?_)
                                · skip
                                  exact law_pass (vx := vx) (what := what) (k := k) (who := who) (w := w) E0 I0 h7 hcl hsl (by omega) (by omega) (by omega) (lv_sub hl [6, 7, 8, 9, 10, 11, 12, 13, 14, 15, 16, 17, 18, 19, 20, 21, 22, 23, 24, 25, 26, 27, 28, 5, 4, 3, 2, 1, 0] rfl) kk
                                · skip
                                  exact law_offer (vx := vx) (what := what) (k := k) (who := who) (w := w) E0 I0 h7 hcl hsl (by omega) (by omega) (by omega) (lv_sub hl [6, 7, 8, 9, 10, 11, 12, 13, 14, 15, 16, 17, 18, 19, 20, 21, 22, 23, 24, 25, 26, 27, 28, 5, 4, 3, 2, 1, 0] rfl) kk
                              · skip
                                exact law_settle (vx := vx) (what := what) (k := k) (who := who) (w := w) E0 I0 h7 hcl hsl (by omega) (by omega) (by omega) (by omega) (lv_sub hl [6, 7, 8, 9, 10, 11, 12, 13, 14, 15, 16, 17, 18, 19, 20, 21, 22, 23, 24, 25, 26, 27, 28, 5, 4, 3, 2, 1, 0] rfl) kk
                          · skip
                            exact law_advance (vx := vx) (what := what) (k := k) (who := who) (w := w) E0 I0 h7 hcl hsl (by omega) (by omega) (by omega) (by omega) (lv_sub hl [6, 7, 8, 9, 10, 11, 12, 13, 14, 15, 16, 17, 18, 19, 20, 21, 22, 23, 24, 25, 26, 27, 28, 5, 4, 3, 2, 1, 0] rfl) kk
                      · skip
                        exact law_drop (vx := vx) (what := what) (k := k) (who := who) (w := w) E0 I0 h7 hcl hsl (by omega) (by omega) (by omega) (lv_sub hl [6, 7, 8, 9, 10, 11, 12, 13, 14, 15, 16, 17, 18, 19, 20, 21, 22, 23, 24, 25, 26, 27, 28, 5, 4, 3, 2, 1, 0] rfl) kk
                  · skip
                    exact law_works (vx := vx) (what := what) (k := k) (who := who) (w := w) E0 I0 h7 hcl hsl (by omega) (by omega) (by omega) (lv_sub hl [6, 7, 8, 9, 10, 11, 12, 13, 14, 15, 16, 17, 18, 19, 20, 21, 22, 23, 24, 25, 26, 27, 28, 5, 4, 3, 2, 1, 0] rfl) kk
                · skip
                  exact law_blight (vx := vx) (what := what) (k := k) (who := who) (w := w) E0 I0 h7 hcl hsl (by omega) (by omega) (by omega) (by omega) (lv_sub hl [6, 7, 8, 9, 10, 11, 12, 13, 14, 15, 16, 17, 18, 19, 20, 21, 22, 23, 24, 25, 26, 27, 28, 5, 4, 3, 2, 1, 0] rfl) kk
            · skip
              exact law_enter (vx := vx) (what := what) (k := k) (who := who) (w := w) E0 I0 h7 hcl hsl (by omega) (by omega) (by omega) (lv_sub hl [6, 7, 8, 9, 10, 11, 12, 13, 14, 15, 16, 17, 18, 19, 20, 21, 22, 23, 24, 25, 26, 27, 28, 5, 4, 3, 2, 1, 0] rfl) kk
          · skip
            exact law_confirm (vx := vx) (what := what) (k := k) (who := who) (w := w) E0 I0 h7 hcl hsl (by omega) (by omega) (by omega) (lv_sub hl [6, 7, 8, 9, 10, 11, 12, 13, 14, 15, 16, 17, 18, 19, 20, 21, 22, 23, 24, 25, 26, 27, 28, 5, 4, 3, 2, 1, 0] rfl) kk
        · skip
          refine lv_iload hx hb dL_law_996 (lv_at hl 7 rfl) ?_
          refine xr_if_le (tgt := 1420) hx hb dL_law_998 (by decide) (by omega) (fun yy56 => ?_) (fun yy56 => ?_)
          · skip
            refine lv_iload hx hb dL_law_1420 (lv_at hl 4 rfl) ?_
            refine lv_bipush (v := iI (14)) hx hb dL_law_1422 (by decide) ?_
            refine xr_icmp_ne (tgt := 1597) hx hb dL_law_1424 (by decide) (by omega) (by omega) (fun yy57 => ?_) (fun yy57 => ?_)
            · skip
              refine lv_iload hx hb dL_law_1597 (lv_at hl 4 rfl) ?_
              refine lv_bipush (v := iI (15)) hx hb dL_law_1599 (by decide) ?_
              refine xr_icmp_ne (tgt := 1761) hx hb dL_law_1601 (by decide) (by omega) (by omega) (fun yy58 => ?_) (fun yy58 => ?_)
              · skip
                refine lv_iload hx hb dL_law_1761 (lv_at hl 4 rfl) ?_
                refine lv_bipush (v := iI (16)) hx hb dL_law_1763 (by decide) ?_
                refine xr_icmp_ne (tgt := 1946) hx hb dL_law_1765 (by decide) (by omega) (by omega) (fun yy59 => ?_) (fun yy59 => ?_)
                · skip
                  refine lv_iload hx hb dL_law_1946 (lv_at hl 4 rfl) ?_
                  refine lv_bipush (v := iI (17)) hx hb dL_law_1948 (by decide) ?_
                  refine xr_icmp_ne (tgt := 2071) hx hb dL_law_1950 (by decide) (by omega) (by omega) (fun yy60 => ?_) (fun yy60 => ?_)
                  · skip
                    refine lv_iload hx hb dL_law_2071 (lv_at hl 4 rfl) ?_
                    refine lv_bipush (v := iI (18)) hx hb dL_law_2073 (by decide) ?_
                    refine xr_icmp_ne (tgt := 2341) hx hb dL_law_2075 (by decide) (by omega) (by omega) (fun yy61 => ?_) (fun yy61 => ?_)
                    · skip
                      refine lv_iload hx hb dL_law_2341 (lv_at hl 4 rfl) ?_
                      refine lv_bipush (v := iI (19)) hx hb dL_law_2343 (by decide) ?_
                      refine xr_icmp_ne (tgt := 2519) hx hb dL_law_2345 (by decide) (by omega) (by omega) (fun yy62 => ?_) (fun yy62 => ?_)
                      · skip
                        refine lv_iload hx hb dL_law_2519 (lv_at hl 4 rfl) ?_
                        refine lv_bipush (v := iI (20)) hx hb dL_law_2521 (by decide) ?_
                        refine xr_icmp_ne (tgt := 2759) hx hb dL_law_2523 (by decide) (by omega) (by omega) (fun yy63 => ?_) (fun yy63 => ?_)
                        · skip
                          refine lv_iload hx hb dL_law_2759 (lv_at hl 4 rfl) ?_
                          refine lv_bipush (v := iI (21)) hx hb dL_law_2761 (by decide) ?_
                          refine xr_icmp_ne (tgt := 2971) hx hb dL_law_2763 (by decide) (by omega) (by omega) (fun yy64 => ?_) (fun yy64 => ?_)
                          · skip
                            exact law_pass (vx := vx) (what := what) (k := k) (who := who) (w := w) E0 I0 h7 hcl hsl (by omega) (by omega) (by omega) (lv_sub hl [6, 7, 8, 9, 10, 11, 12, 13, 14, 15, 16, 17, 18, 19, 20, 21, 22, 23, 24, 25, 26, 27, 28, 5, 4, 3, 2, 1, 0] rfl) kk
                          · skip
                            exact law_offer (vx := vx) (what := what) (k := k) (who := who) (w := w) E0 I0 h7 hcl hsl (by omega) (by omega) (by omega) (lv_sub hl [6, 7, 8, 9, 10, 11, 12, 13, 14, 15, 16, 17, 18, 19, 20, 21, 22, 23, 24, 25, 26, 27, 28, 5, 4, 3, 2, 1, 0] rfl) kk
                        · skip
                          refine lv_iload hx hb dL_law_2526 (lv_at hl 7 rfl) ?_
                          refine xr_if_le (tgt := 2759) hx hb dL_law_2528 (by decide) (by omega) (fun yy65 => ?_) (fun yy65 => ?_)
                          · skip
                            refine lv_iload hx hb dL_law_2759 (lv_at hl 4 rfl) ?_
                            refine lv_bipush (v := iI (21)) hx hb dL_law_2761 (by decide) ?_
                            refine xr_icmp_ne (tgt := 2971) hx hb dL_law_2763 (by decide) (by omega) (by omega) (fun yy66 => ?_) (fun yy66 => ?_)
                            · skip
                              exact law_pass (vx := vx) (what := what) (k := k) (who := who) (w := w) E0 I0 h7 hcl hsl (by omega) (by omega) (by omega) (lv_sub hl [6, 7, 8, 9, 10, 11, 12, 13, 14, 15, 16, 17, 18, 19, 20, 21, 22, 23, 24, 25, 26, 27, 28, 5, 4, 3, 2, 1, 0] rfl) kk
                            · skip
                              exact law_offer (vx := vx) (what := what) (k := k) (who := who) (w := w) E0 I0 h7 hcl hsl (by omega) (by omega) (by omega) (lv_sub hl [6, 7, 8, 9, 10, 11, 12, 13, 14, 15, 16, 17, 18, 19, 20, 21, 22, 23, 24, 25, 26, 27, 28, 5, 4, 3, 2, 1, 0] rfl) kk
                          · skip
                            exact law_settle (vx := vx) (what := what) (k := k) (who := who) (w := w) E0 I0 h7 hcl hsl (by omega) (by omega) (by omega) (by omega) (lv_sub hl [6, 7, 8, 9, 10, 11, 12, 13, 14, 15, 16, 17, 18, 19, 20, 21, 22, 23, 24, 25, 26, 27, 28, 5, 4, 3, 2, 1, 0] rfl) kk
                      · skip
                        refine lv_iload hx hb dL_law_2348 (lv_at hl 7 rfl) ?_
                        refine xr_if_le (tgt := 2519) hx hb dL_law_2350 (by decide) (by omega) (fun yy67 => ?_) (fun yy67 => ?_)
                        · skip
                          refine lv_iload hx hb dL_law_2519 (lv_at hl 4 rfl) ?_
                          refine lv_bipush (v := iI (20)) hx hb dL_law_2521 (by decide) ?_
                          refine xr_icmp_ne (tgt := 2759) hx hb dL_law_2523 (by decide) (by omega) (by omega) (fun yy68 => ?_) (fun yy68 => ?_)
                          · skip
                            refine lv_iload hx hb dL_law_2759 (lv_at hl 4 rfl) ?_
                            refine lv_bipush (v := iI (21)) hx hb dL_law_2761 (by decide) ?_
                            refine xr_icmp_ne (tgt := 2971) hx hb dL_law_2763 (by decide) (by omega) (by omega) (fun yy69 => ?_) (fun yy69 => ?_)
                            · skip
                              exact law_pass (vx := vx) (what := what) (k := k) (who := who) (w := w) E0 I0 h7 hcl hsl (by omega) (by omega) (by omega) (lv_sub hl [6, 7, 8, 9, 10, 11, 12, 13, 14, 15, 16, 17, 18, 19, 20, 21, 22, 23, 24, 25, 26, 27, 28, 5, 4, 3, 2, 1, 0] rfl) kk
                            · skip
                              exact law_offer (vx := vx) (what := what) (k := k) (who := who) (w := w) E0 I0 h7 hcl hsl (by omega) (by omega) (by omega) (lv_sub hl [6, 7, 8, 9, 10, 11, 12, 13, 14, 15, 16, 17, 18, 19, 20, 21, 22, 23, 24, 25, 26, 27, 28, 5, 4, 3, 2, 1, 0] rfl) kk
                          · skip
                            refine lv_iload hx hb dL_law_2526 (lv_at hl 7 rfl) ?_
                            refine xr_if_le (tgt := 2759) hx hb dL_law_2528 (by decide) (by omega) (fun yy70 => ?_) (fun yy70 => ?_)
                            · skip
                              refine lv_iload hx hb dL_law_2759 (lv_at hl 4 rfl) ?_
                              refine lv_bipush (v := iI (21)) hx hb dL_law_2761 (by decide) ?_
                              refine xr_icmp_ne (tgt := 2971) hx hb dL_law_2763 (by decide) (by omega) (by omega) (fun yy71 => ?_) (fun yy71 => ?_)
                              · skip
                                exact law_pass (vx := vx) (what := what) (k := k) (who := who) (w := w) E0 I0 h7 hcl hsl (by omega) (by omega) (by omega) (lv_sub hl [6, 7, 8, 9, 10, 11, 12, 13, 14, 15, 16, 17, 18, 19, 20, 21, 22, 23, 24, 25, 26, 27, 28, 5, 4, 3, 2, 1, 0] rfl) kk
                              · skip
                                exact law_offer (vx := vx) (what := what) (k := k) (who := who) (w := w) E0 I0 h7 hcl hsl (by omega) (by omega) (by omega) (lv_sub hl [6, 7, 8, 9, 10, 11, 12, 13, 14, 15, 16, 17, 18, 19, 20, 21, 22, 23, 24, 25, 26, 27, 28, 5, 4, 3, 2, 1, 0] rfl) kk
                            · skip
                              exact law_settle (vx := vx) (what := what) (k := k) (who := who) (w := w) E0 I0 h7 hcl hsl (by omega) (by omega) (by omega) (by omega) (lv_sub hl [6, 7, 8, 9, 10, 11, 12, 13, 14, 15, 16, 17, 18, 19, 20, 21, 22, 23, 24, 25, 26, 27, 28, 5, 4, 3, 2, 1, 0] rfl) kk
                        · skip
                          exact law_advance (vx := vx) (what := what) (k := k) (who := who) (w := w) E0 I0 h7 hcl hsl (by omega) (by omega) (by omega) (by omega) (lv_sub hl [6, 7, 8, 9, 10, 11, 12, 13, 14, 15, 16, 17, 18, 19, 20, 21, 22, 23, 24, 25, 26, 27, 28, 5, 4, 3, 2, 1, 0] rfl) kk
                    · skip
                      refine lv_iload hx hb dL_law_2078 (lv_at hl 5 rfl) ?_
                      refine lv_sipush (v := iI (512)) hx hb dL_law_2080 (by decide) ?_
                      refine lw_idiv hx hb (by decide) dL_law_2083 ?_
                      refine lv_iconst (v := iI (3)) hx hb dL_law_2084 rfl ?_
                      refine lw_up (n := 3) hx hb hml hown hts hK hl.1 ⟨by omega, by omega⟩ (by decide) (lv_room (Nat.le_of_ble_eq_true rfl)) dL_law_2085 (fun dd dda ddb => ?_)
                      refine xr_if_ne (tgt := 2341) hx hb dL_law_2088 (by decide) (by omega) (fun yy72 => ?_) (fun yy72 => ?_)
                      · skip
                        refine lv_iload hx hb dL_law_2341 (lv_at hl 4 rfl) ?_
                        refine lv_bipush (v := iI (19)) hx hb dL_law_2343 (by decide) ?_
                        refine xr_icmp_ne (tgt := 2519) hx hb dL_law_2345 (by decide) (by omega) (by omega) (fun yy73 => ?_) (fun yy73 => ?_)
                        · skip
                          refine lv_iload hx hb dL_law_2519 (lv_at hl 4 rfl) ?_
                          refine lv_bipush (v := iI (20)) hx hb dL_law_2521 (by decide) ?_
                          refine xr_icmp_ne (tgt := 2759) hx hb dL_law_2523 (by decide) (by omega) (by omega) (fun yy74 => ?_) (fun yy74 => ?_)
                          · skip
                            refine lv_iload hx hb dL_law_2759 (lv_at hl 4 rfl) ?_
                            refine lv_bipush (v := iI (21)) hx hb dL_law_2761 (by decide) ?_
                            refine xr_icmp_ne (tgt := 2971) hx hb dL_law_2763 (by decide) (by omega) (by omega) (fun yy75 => ?_) (fun yy75 => ?_)
                            · skip
                              exact law_pass (vx := vx) (what := what) (k := k) (who := who) (w := w) E0 I0 h7 hcl hsl (by omega) (by omega) (by omega) (lv_sub hl [6, 7, 8, 9, 10, 11, 12, 13, 14, 15, 16, 17, 18, 19, 20, 21, 22, 23, 24, 25, 26, 27, 28, 5, 4, 3, 2, 1, 0] rfl) kk
                            · skip
                              exact law_offer (vx := vx) (what := what) (k := k) (who := who) (w := w) E0 I0 h7 hcl hsl (by omega) (by omega) (by omega) (lv_sub hl [6, 7, 8, 9, 10, 11, 12, 13, 14, 15, 16, 17, 18, 19, 20, 21, 22, 23, 24, 25, 26, 27, 28, 5, 4, 3, 2, 1, 0] rfl) kk
                          · skip
                            refine lv_iload hx hb dL_law_2526 (lv_at hl 7 rfl) ?_
                            refine xr_if_le (tgt := 2759) hx hb dL_law_2528 (by decide) (by omega) (fun yy76 => ?_) (fun yy76 => ?_)
                            · skip
                              refine lv_iload hx hb dL_law_2759 (lv_at hl 4 rfl) ?_
                              refine lv_bipush (v := iI (21)) hx hb dL_law_2761 (by decide) ?_
                              refine xr_icmp_ne (tgt := 2971) hx hb dL_law_2763 (by decide) (by omega) (by omega) (fun yy77 => ?_) (fun yy77 => ?_)
                              · skip
                                exact law_pass (vx := vx) (what := what) (k := k) (who := who) (w := w) E0 I0 h7 hcl hsl (by omega) (by omega) (by omega) (lv_sub hl [6, 7, 8, 9, 10, 11, 12, 13, 14, 15, 16, 17, 18, 19, 20, 21, 22, 23, 24, 25, 26, 27, 28, 5, 4, 3, 2, 1, 0] rfl) kk
                              · skip
                                exact law_offer (vx := vx) (what := what) (k := k) (who := who) (w := w) E0 I0 h7 hcl hsl (by omega) (by omega) (by omega) (lv_sub hl [6, 7, 8, 9, 10, 11, 12, 13, 14, 15, 16, 17, 18, 19, 20, 21, 22, 23, 24, 25, 26, 27, 28, 5, 4, 3, 2, 1, 0] rfl) kk
                            · skip
                              exact law_settle (vx := vx) (what := what) (k := k) (who := who) (w := w) E0 I0 h7 hcl hsl (by omega) (by omega) (by omega) (by omega) (lv_sub hl [6, 7, 8, 9, 10, 11, 12, 13, 14, 15, 16, 17, 18, 19, 20, 21, 22, 23, 24, 25, 26, 27, 28, 5, 4, 3, 2, 1, 0] rfl) kk
                        · skip
                          refine lv_iload hx hb dL_law_2348 (lv_at hl 7 rfl) ?_
                          refine xr_if_le (tgt := 2519) hx hb dL_law_2350 (by decide) (by omega) (fun yy78 => ?_) (fun yy78 => ?_)
                          · skip
                            refine lv_iload hx hb dL_law_2519 (lv_at hl 4 rfl) ?_
                            refine lv_bipush (v := iI (20)) hx hb dL_law_2521 (by decide) ?_
                            refine xr_icmp_ne (tgt := 2759) hx hb dL_law_2523 (by decide) (by omega) (by omega) (fun yy79 => ?_) (fun yy79 => ?_)
                            · skip
                              refine lv_iload hx hb dL_law_2759 (lv_at hl 4 rfl) ?_
                              refine lv_bipush (v := iI (21)) hx hb dL_law_2761 (by decide) ?_
                              refine xr_icmp_ne (tgt := 2971) hx hb dL_law_2763 (by decide) (by omega) (by omega) (fun yy80 => ?_) (fun yy80 => ?_)
                              · skip
                                exact law_pass (vx := vx) (what := what) (k := k) (who := who) (w := w) E0 I0 h7 hcl hsl (by omega) (by omega) (by omega) (lv_sub hl [6, 7, 8, 9, 10, 11, 12, 13, 14, 15, 16, 17, 18, 19, 20, 21, 22, 23, 24, 25, 26, 27, 28, 5, 4, 3, 2, 1, 0] rfl) kk
                              · skip
                                exact law_offer (vx := vx) (what := what) (k := k) (who := who) (w := w) E0 I0 h7 hcl hsl (by omega) (by omega) (by omega) (lv_sub hl [6, 7, 8, 9, 10, 11, 12, 13, 14, 15, 16, 17, 18, 19, 20, 21, 22, 23, 24, 25, 26, 27, 28, 5, 4, 3, 2, 1, 0] rfl) kk
                            · skip
                              refine lv_iload hx hb dL_law_2526 (lv_at hl 7 rfl) ?_
                              refine xr_if_le (tgt := 2759) hx hb dL_law_2528 (by decide) (by omega) (fun yy81 => ?_) (fun yy81 => ?_)
                              · skip
                                refine lv_iload hx hb dL_law_2759 (lv_at hl 4 rfl) ?_
                                refine lv_bipush (v := iI (21)) hx hb dL_law_2761 (by decide) ?_
                                refine xr_icmp_ne (tgt := 2971) hx hb dL_law_2763 (by decide) (by omega) (by omega) (fun yy82 => ?_) (fun yy82 => ?_)
                                · skip
                                  exact law_pass (vx := vx) (what := what) (k := k) (who := who) (w := w) E0 I0 h7 hcl hsl (by omega) (by omega) (by omega) (lv_sub hl [6, 7, 8, 9, 10, 11, 12, 13, 14, 15, 16, 17, 18, 19, 20, 21, 22, 23, 24, 25, 26, 27, 28, 5, 4, 3, 2, 1, 0] rfl) kk
                                · skip
                                  exact law_offer (vx := vx) (what := what) (k := k) (who := who) (w := w) E0 I0 h7 hcl hsl (by omega) (by omega) (by omega) (lv_sub hl [6, 7, 8, 9, 10, 11, 12, 13, 14, 15, 16, 17, 18, 19, 20, 21, 22, 23, 24, 25, 26, 27, 28, 5, 4, 3, 2, 1, 0] rfl) kk
                              · skip
                                exact law_settle (vx := vx) (what := what) (k := k) (who := who) (w := w) E0 I0 h7 hcl hsl (by omega) (by omega) (by omega) (by omega) (lv_sub hl [6, 7, 8, 9, 10, 11, 12, 13, 14, 15, 16, 17, 18, 19, 20, 21, 22, 23, 24, 25, 26, 27, 28, 5, 4, 3, 2, 1, 0] rfl) kk
                          · skip
                            exact law_advance (vx := vx) (what := what) (k := k) (who := who) (w := w) E0 I0 h7 hcl hsl (by omega) (by omega) (by omega) (by omega) (lv_sub hl [6, 7, 8, 9, 10, 11, 12, 13, 14, 15, 16, 17, 18, 19, 20, 21, 22, 23, 24, 25, 26, 27, 28, 5, 4, 3, 2, 1, 0] rfl) kk
                      · skip
                        exact law_drop (vx := vx) (what := what) (k := k) (who := who) (w := w) E0 I0 h7 hcl hsl (by omega) (by omega) (by omega) (lv_sub hl [6, 7, 8, 9, 10, 11, 12, 13, 14, 15, 16, 17, 18, 19, 20, 21, 22, 23, 24, 25, 26, 27, 28, 5, 4, 3, 2, 1, 0] rfl) kk
                  · skip
                    exact law_works (vx := vx) (what := what) (k := k) (who := who) (w := w) E0 I0 h7 hcl hsl (by omega) (by omega) (by omega) (lv_sub hl [6, 7, 8, 9, 10, 11, 12, 13, 14, 15, 16, 17, 18, 19, 20, 21, 22, 23, 24, 25, 26, 27, 28, 5, 4, 3, 2, 1, 0] rfl) kk
                · skip
                  refine lv_iload hx hb dL_law_1768 (lv_at hl 7 rfl) ?_
                  refine xr_if_le (tgt := 1946) hx hb dL_law_1770 (by decide) (by omega) (fun yy83 => ?_) (fun yy83 => ?_)
                  · skip
                    refine lv_iload hx hb dL_law_1946 (lv_at hl 4 rfl) ?_
                    refine lv_bipush (v := iI (17)) hx hb dL_law_1948 (by decide) ?_
                    refine xr_icmp_ne (tgt := 2071) hx hb dL_law_1950 (by decide) (by omega) (by omega) (fun yy84 => ?_) (fun yy84 => ?_)
                    · skip
                      refine lv_iload hx hb dL_law_2071 (lv_at hl 4 rfl) ?_
                      refine lv_bipush (v := iI (18)) hx hb dL_law_2073 (by decide) ?_
                      refine xr_icmp_ne (tgt := 2341) hx hb dL_law_2075 (by decide) (by omega) (by omega) (fun yy85 => ?_) (fun yy85 => ?_)
                      · skip
                        refine lv_iload hx hb dL_law_2341 (lv_at hl 4 rfl) ?_
                        refine lv_bipush (v := iI (19)) hx hb dL_law_2343 (by decide) ?_
                        refine xr_icmp_ne (tgt := 2519) hx hb dL_law_2345 (by decide) (by omega) (by omega) (fun yy86 => ?_) (fun yy86 => ?_)
                        · skip
                          refine lv_iload hx hb dL_law_2519 (lv_at hl 4 rfl) ?_
                          refine lv_bipush (v := iI (20)) hx hb dL_law_2521 (by decide) ?_
                          refine xr_icmp_ne (tgt := 2759) hx hb dL_law_2523 (by decide) (by omega) (by omega) (fun yy87 => ?_) (fun yy87 => ?_)
                          · skip
                            refine lv_iload hx hb dL_law_2759 (lv_at hl 4 rfl) ?_
                            refine lv_bipush (v := iI (21)) hx hb dL_law_2761 (by decide) ?_
                            refine xr_icmp_ne (tgt := 2971) hx hb dL_law_2763 (by decide) (by omega) (by omega) (fun yy88 => ?_) (fun yy88 => ?_)
                            · skip
                              exact law_pass (vx := vx) (what := what) (k := k) (who := who) (w := w) E0 I0 h7 hcl hsl (by omega) (by omega) (by omega) (lv_sub hl [6, 7, 8, 9, 10, 11, 12, 13, 14, 15, 16, 17, 18, 19, 20, 21, 22, 23, 24, 25, 26, 27, 28, 5, 4, 3, 2, 1, 0] rfl) kk
                            · skip
                              exact law_offer (vx := vx) (what := what) (k := k) (who := who) (w := w) E0 I0 h7 hcl hsl (by omega) (by omega) (by omega) (lv_sub hl [6, 7, 8, 9, 10, 11, 12, 13, 14, 15, 16, 17, 18, 19, 20, 21, 22, 23, 24, 25, 26, 27, 28, 5, 4, 3, 2, 1, 0] rfl) kk
                          · skip
                            refine lv_iload hx hb dL_law_2526 (lv_at hl 7 rfl) ?_
                            refine xr_if_le (tgt := 2759) hx hb dL_law_2528 (by decide) (by omega) (fun yy89 => ?_) (fun yy89 => ?_)
                            · skip
                              refine lv_iload hx hb dL_law_2759 (lv_at hl 4 rfl) ?_
                              refine lv_bipush (v := iI (21)) hx hb dL_law_2761 (by decide) ?_
                              refine xr_icmp_ne (tgt := 2971) hx hb dL_law_2763 (by decide) (by omega) (by omega) (fun yy90 => ?_) (fun yy90 => ?_)
                              · skip
                                exact law_pass (vx := vx) (what := what) (k := k) (who := who) (w := w) E0 I0 h7 hcl hsl (by omega) (by omega) (by omega) (lv_sub hl [6, 7, 8, 9, 10, 11, 12, 13, 14, 15, 16, 17, 18, 19, 20, 21, 22, 23, 24, 25, 26, 27, 28, 5, 4, 3, 2, 1, 0] rfl) kk
                              · skip
                                exact law_offer (vx := vx) (what := what) (k := k) (who := who) (w := w) E0 I0 h7 hcl hsl (by omega) (by omega) (by omega) (lv_sub hl [6, 7, 8, 9, 10, 11, 12, 13, 14, 15, 16, 17, 18, 19, 20, 21, 22, 23, 24, 25, 26, 27, 28, 5, 4, 3, 2, 1, 0] rfl) kk
                            · skip
                              exact law_settle (vx := vx) (what := what) (k := k) (who := who) (w := w) E0 I0 h7 hcl hsl (by omega) (by omega) (by omega) (by omega) (lv_sub hl [6, 7, 8, 9, 10, 11, 12, 13, 14, 15, 16, 17, 18, 19, 20, 21, 22, 23, 24, 25, 26, 27, 28, 5, 4, 3, 2, 1, 0] rfl) kk
                        · skip
                          refine lv_iload hx hb dL_law_2348 (lv_at hl 7 rfl) ?_
                          refine xr_if_le (tgt := 2519) hx hb dL_law_2350 (by decide) (by omega) (fun yy91 => ?_) (fun yy91 => ?_)
                          · skip
                            refine lv_iload hx hb dL_law_2519 (lv_at hl 4 rfl) ?_
                            refine lv_bipush (v := iI (20)) hx hb dL_law_2521 (by decide) ?_
                            refine xr_icmp_ne (tgt := 2759) hx hb dL_law_2523 (by decide) (by omega) (by omega) (fun yy92 => ?_) (fun yy92 => ?_)
                            · skip
                              refine lv_iload hx hb dL_law_2759 (lv_at hl 4 rfl) ?_
                              refine lv_bipush (v := iI (21)) hx hb dL_law_2761 (by decide) ?_
                              refine xr_icmp_ne (tgt := 2971) hx hb dL_law_2763 (by decide) (by omega) (by omega) (fun yy93 => ?_) (fun yy93 => ?_)
                              · skip
                                exact law_pass (vx := vx) (what := what) (k := k) (who := who) (w := w) E0 I0 h7 hcl hsl (by omega) (by omega) (by omega) (lv_sub hl [6, 7, 8, 9, 10, 11, 12, 13, 14, 15, 16, 17, 18, 19, 20, 21, 22, 23, 24, 25, 26, 27, 28, 5, 4, 3, 2, 1, 0] rfl) kk
                              · skip
                                exact law_offer (vx := vx) (what := what) (k := k) (who := who) (w := w) E0 I0 h7 hcl hsl (by omega) (by omega) (by omega) (lv_sub hl [6, 7, 8, 9, 10, 11, 12, 13, 14, 15, 16, 17, 18, 19, 20, 21, 22, 23, 24, 25, 26, 27, 28, 5, 4, 3, 2, 1, 0] rfl) kk
                            · skip
                              refine lv_iload hx hb dL_law_2526 (lv_at hl 7 rfl) ?_
                              refine xr_if_le (tgt := 2759) hx hb dL_law_2528 (by decide) (by omega) (fun yy94 => ?_) (fun yy94 => ?_)
                              · skip
                                refine lv_iload hx hb dL_law_2759 (lv_at hl 4 rfl) ?_
                                refine lv_bipush (v := iI (21)) hx hb dL_law_2761 (by decide) ?_
                                refine xr_icmp_ne (tgt := 2971) hx hb dL_law_2763 (by decide) (by omega) (by omega) (fun yy95 => ?_) (fun yy95 => ?_)
                                · skip
                                  exact law_pass (vx := vx) (what := what) (k := k) (who := who) (w := w) E0 I0 h7 hcl hsl (by omega) (by omega) (by omega) (lv_sub hl [6, 7, 8, 9, 10, 11, 12, 13, 14, 15, 16, 17, 18, 19, 20, 21, 22, 23, 24, 25, 26, 27, 28, 5, 4, 3, 2, 1, 0] rfl) kk
                                · skip
                                  exact law_offer (vx := vx) (what := what) (k := k) (who := who) (w := w) E0 I0 h7 hcl hsl (by omega) (by omega) (by omega) (lv_sub hl [6, 7, 8, 9, 10, 11, 12, 13, 14, 15, 16, 17, 18, 19, 20, 21, 22, 23, 24, 25, 26, 27, 28, 5, 4, 3, 2, 1, 0] rfl) kk
                              · skip
                                exact law_settle (vx := vx) (what := what) (k := k) (who := who) (w := w) E0 I0 h7 hcl hsl (by omega) (by omega) (by omega) (by omega) (lv_sub hl [6, 7, 8, 9, 10, 11, 12, 13, 14, 15, 16, 17, 18, 19, 20, 21, 22, 23, 24, 25, 26, 27, 28, 5, 4, 3, 2, 1, 0] rfl) kk
                          · skip
                            exact law_advance (vx := vx) (what := what) (k := k) (who := who) (w := w) E0 I0 h7 hcl hsl (by omega) (by omega) (by omega) (by omega) (lv_sub hl [6, 7, 8, 9, 10, 11, 12, 13, 14, 15, 16, 17, 18, 19, 20, 21, 22, 23, 24, 25, 26, 27, 28, 5, 4, 3, 2, 1, 0] rfl) kk
                      · skip
                        refine lv_iload hx hb dL_law_2078 (lv_at hl 5 rfl) ?_
                        refine lv_sipush (v := iI (512)) hx hb dL_law_2080 (by decide) ?_
                        refine lw_idiv hx hb (by decide) dL_law_2083 ?_
                        refine lv_iconst (v := iI (3)) hx hb dL_law_2084 rfl ?_
                        refine lw_up (n := 3) hx hb hml hown hts hK hl.1 ⟨by omega, by omega⟩ (by decide) (lv_room (Nat.le_of_ble_eq_true rfl)) dL_law_2085 (fun dd dda ddb => ?_)
                        refine xr_if_ne (tgt := 2341) hx hb dL_law_2088 (by decide) (by omega) (fun yy96 => ?_) (fun yy96 => ?_)
                        · skip
                          refine lv_iload hx hb dL_law_2341 (lv_at hl 4 rfl) ?_
                          refine lv_bipush (v := iI (19)) hx hb dL_law_2343 (by decide) ?_
                          refine xr_icmp_ne (tgt := 2519) hx hb dL_law_2345 (by decide) (by omega) (by omega) (fun yy97 => ?_) (fun yy97 => ?_)
                          · skip
                            refine lv_iload hx hb dL_law_2519 (lv_at hl 4 rfl) ?_
                            refine lv_bipush (v := iI (20)) hx hb dL_law_2521 (by decide) ?_
                            refine xr_icmp_ne (tgt := 2759) hx hb dL_law_2523 (by decide) (by omega) (by omega) (fun yy98 => ?_) (fun yy98 => ?_)
                            · skip
                              refine lv_iload hx hb dL_law_2759 (lv_at hl 4 rfl) ?_
                              refine lv_bipush (v := iI (21)) hx hb dL_law_2761 (by decide) ?_
                              refine xr_icmp_ne (tgt := 2971) hx hb dL_law_2763 (by decide) (by omega) (by omega) (fun yy99 => ?_) (fun yy99 => ?_)
                              · skip
                                exact law_pass (vx := vx) (what := what) (k := k) (who := who) (w := w) E0 I0 h7 hcl hsl (by omega) (by omega) (by omega) (lv_sub hl [6, 7, 8, 9, 10, 11, 12, 13, 14, 15, 16, 17, 18, 19, 20, 21, 22, 23, 24, 25, 26, 27, 28, 5, 4, 3, 2, 1, 0] rfl) kk
                              · skip
                                exact law_offer (vx := vx) (what := what) (k := k) (who := who) (w := w) E0 I0 h7 hcl hsl (by omega) (by omega) (by omega) (lv_sub hl [6, 7, 8, 9, 10, 11, 12, 13, 14, 15, 16, 17, 18, 19, 20, 21, 22, 23, 24, 25, 26, 27, 28, 5, 4, 3, 2, 1, 0] rfl) kk
                            · skip
                              refine lv_iload hx hb dL_law_2526 (lv_at hl 7 rfl) ?_
                              refine xr_if_le (tgt := 2759) hx hb dL_law_2528 (by decide) (by omega) (fun yy100 => ?_) (fun yy100 => ?_)
                              · skip
                                refine lv_iload hx hb dL_law_2759 (lv_at hl 4 rfl) ?_
                                refine lv_bipush (v := iI (21)) hx hb dL_law_2761 (by decide) ?_
                                refine xr_icmp_ne (tgt := 2971) hx hb dL_law_2763 (by decide) (by omega) (by omega) (fun yy101 => ?_) (fun yy101 => ?_)
                                · skip
                                  exact law_pass (vx := vx) (what := what) (k := k) (who := who) (w := w) E0 I0 h7 hcl hsl (by omega) (by omega) (by omega) (lv_sub hl [6, 7, 8, 9, 10, 11, 12, 13, 14, 15, 16, 17, 18, 19, 20, 21, 22, 23, 24, 25, 26, 27, 28, 5, 4, 3, 2, 1, 0] rfl) kk
                                · skip
                                  exact law_offer (vx := vx) (what := what) (k := k) (who := who) (w := w) E0 I0 h7 hcl hsl (by omega) (by omega) (by omega) (lv_sub hl [6, 7, 8, 9, 10, 11, 12, 13, 14, 15, 16, 17, 18, 19, 20, 21, 22, 23, 24, 25, 26, 27, 28, 5, 4, 3, 2, 1, 0] rfl) kk
                              · skip
                                exact law_settle (vx := vx) (what := what) (k := k) (who := who) (w := w) E0 I0 h7 hcl hsl (by omega) (by omega) (by omega) (by omega) (lv_sub hl [6, 7, 8, 9, 10, 11, 12, 13, 14, 15, 16, 17, 18, 19, 20, 21, 22, 23, 24, 25, 26, 27, 28, 5, 4, 3, 2, 1, 0] rfl) kk
                          · skip
                            refine lv_iload hx hb dL_law_2348 (lv_at hl 7 rfl) ?_
                            refine xr_if_le (tgt := 2519) hx hb dL_law_2350 (by decide) (by omega) (fun yy102 => ?_) (fun yy102 => ?_)
                            · skip
                              refine lv_iload hx hb dL_law_2519 (lv_at hl 4 rfl) ?_
                              refine lv_bipush (v := iI (20)) hx hb dL_law_2521 (by decide) ?_
                              refine xr_icmp_ne (tgt := 2759) hx hb dL_law_2523 (by decide) (by omega) (by omega) (fun yy103 => ?_) (fun yy103 => ?_)
                              · skip
                                refine lv_iload hx hb dL_law_2759 (lv_at hl 4 rfl) ?_
                                refine lv_bipush (v := iI (21)) hx hb dL_law_2761 (by decide) ?_
                                refine xr_icmp_ne (tgt := 2971) hx hb dL_law_2763 (by decide) (by omega) (by omega) (fun yy104 => ?_) (fun yy104 => ?_)
                                · skip
                                  exact law_pass (vx := vx) (what := what) (k := k) (who := who) (w := w) E0 I0 h7 hcl hsl (by omega) (by omega) (by omega) (lv_sub hl [6, 7, 8, 9, 10, 11, 12, 13, 14, 15, 16, 17, 18, 19, 20, 21, 22, 23, 24, 25, 26, 27, 28, 5, 4, 3, 2, 1, 0] rfl) kk
                                · skip
                                  exact law_offer (vx := vx) (what := what) (k := k) (who := who) (w := w) E0 I0 h7 hcl hsl (by omega) (by omega) (by omega) (lv_sub hl [6, 7, 8, 9, 10, 11, 12, 13, 14, 15, 16, 17, 18, 19, 20, 21, 22, 23, 24, 25, 26, 27, 28, 5, 4, 3, 2, 1, 0] rfl) kk
                              · skip
                                refine lv_iload hx hb dL_law_2526 (lv_at hl 7 rfl) ?_
                                refine xr_if_le (tgt := 2759) hx hb dL_law_2528 (by decide) (by omega) (fun yy105 => ?_) (fun yy105 => ?_)
                                · skip
                                  refine lv_iload hx hb dL_law_2759 (lv_at hl 4 rfl) ?_
                                  refine lv_bipush (v := iI (21)) hx hb dL_law_2761 (by decide) ?_
                                  refine xr_icmp_ne (tgt := 2971) hx hb dL_law_2763 (by decide) (by omega) (by omega) (fun yy106 => ?_) (fun yy106 => ?_)
                                  · skip
                                    exact law_pass (vx := vx) (what := what) (k := k) (who := who) (w := w) E0 I0 h7 hcl hsl (by omega) (by omega) (by omega) (lv_sub hl [6, 7, 8, 9, 10, 11, 12, 13, 14, 15, 16, 17, 18, 19, 20, 21, 22, 23, 24, 25, 26, 27, 28, 5, 4, 3, 2, 1, 0] rfl) kk
                                  · skip
                                    exact law_offer (vx := vx) (what := what) (k := k) (who := who) (w := w) E0 I0 h7 hcl hsl (by omega) (by omega) (by omega) (lv_sub hl [6, 7, 8, 9, 10, 11, 12, 13, 14, 15, 16, 17, 18, 19, 20, 21, 22, 23, 24, 25, 26, 27, 28, 5, 4, 3, 2, 1, 0] rfl) kk
                                · skip
                                  exact law_settle (vx := vx) (what := what) (k := k) (who := who) (w := w) E0 I0 h7 hcl hsl (by omega) (by omega) (by omega) (by omega) (lv_sub hl [6, 7, 8, 9, 10, 11, 12, 13, 14, 15, 16, 17, 18, 19, 20, 21, 22, 23, 24, 25, 26, 27, 28, 5, 4, 3, 2, 1, 0] rfl) kk
                            · skip
                              exact law_advance (vx := vx) (what := what) (k := k) (who := who) (w := w) E0 I0 h7 hcl hsl (by omega) (by omega) (by omega) (by omega) (lv_sub hl [6, 7, 8, 9, 10, 11, 12, 13, 14, 15, 16, 17, 18, 19, 20, 21, 22, 23, 24, 25, 26, 27, 28, 5, 4, 3, 2, 1, 0] rfl) kk
                        · skip
                          exact law_drop (vx := vx) (what := what) (k := k) (who := who) (w := w) E0 I0 h7 hcl hsl (by omega) (by omega) (by omega) (lv_sub hl [6, 7, 8, 9, 10, 11, 12, 13, 14, 15, 16, 17, 18, 19, 20, 21, 22, 23, 24, 25, 26, 27, 28, 5, 4, 3, 2, 1, 0] rfl) kk
                    · skip
                      exact law_works (vx := vx) (what := what) (k := k) (who := who) (w := w) E0 I0 h7 hcl hsl (by omega) (by omega) (by omega) (lv_sub hl [6, 7, 8, 9, 10, 11, 12, 13, 14, 15, 16, 17, 18, 19, 20, 21, 22, 23, 24, 25, 26, 27, 28, 5, 4, 3, 2, 1, 0] rfl) kk
                  · skip
                    exact law_blight (vx := vx) (what := what) (k := k) (who := who) (w := w) E0 I0 h7 hcl hsl (by omega) (by omega) (by omega) (by omega) (lv_sub hl [6, 7, 8, 9, 10, 11, 12, 13, 14, 15, 16, 17, 18, 19, 20, 21, 22, 23, 24, 25, 26, 27, 28, 5, 4, 3, 2, 1, 0] rfl) kk
              · skip
                exact law_enter (vx := vx) (what := what) (k := k) (who := who) (w := w) E0 I0 h7 hcl hsl (by omega) (by omega) (by omega) (lv_sub hl [6, 7, 8, 9, 10, 11, 12, 13, 14, 15, 16, 17, 18, 19, 20, 21, 22, 23, 24, 25, 26, 27, 28, 5, 4, 3, 2, 1, 0] rfl) kk
            · skip
              exact law_confirm (vx := vx) (what := what) (k := k) (who := who) (w := w) E0 I0 h7 hcl hsl (by omega) (by omega) (by omega) (lv_sub hl [6, 7, 8, 9, 10, 11, 12, 13, 14, 15, 16, 17, 18, 19, 20, 21, 22, 23, 24, 25, 26, 27, 28, 5, 4, 3, 2, 1, 0] rfl) kk
          · skip
            rcases (show (7 ≤ what ∧ what < 10) ∨ (10 ≤ what ∧ what < 12) ∨ (12 ≤ what ∧ what < 14) by omega) with hz | hz | hz
            · skip
              exact law_notice (vx := vx) (what := what) (k := k) (who := who) (w := w) E0 I0 h7 hcl hsl (by omega) (by omega) (by omega) (by omega) (lv_sub hl [6, 7, 8, 9, 10, 11, 12, 13, 14, 15, 16, 17, 18, 19, 20, 21, 22, 23, 24, 25, 26, 27, 28, 5, 4, 3, 2, 1, 0] rfl) kk
            · skip
              exact law_object (vx := vx) (what := what) (k := k) (who := who) (w := w) E0 I0 h7 hcl hsl (by omega) (by omega) (by omega) (by omega) (lv_sub hl [6, 7, 8, 9, 10, 11, 12, 13, 14, 15, 16, 17, 18, 19, 20, 21, 22, 23, 24, 25, 26, 27, 28, 5, 4, 3, 2, 1, 0] rfl) kk
            · skip
              exact law_hear (vx := vx) (what := what) (k := k) (who := who) (w := w) E0 I0 h7 hcl hsl (by omega) (by omega) (by omega) (by omega) (lv_sub hl [6, 7, 8, 9, 10, 11, 12, 13, 14, 15, 16, 17, 18, 19, 20, 21, 22, 23, 24, 25, 26, 27, 28, 5, 4, 3, 2, 1, 0] rfl) kk
      · skip
        exact law_draw (vx := vx) (what := what) (k := k) (who := who) (w := w) E0 I0 h7 hcl hsl (by omega) (by omega) (by omega) (lv_sub hl [6, 7, 8, 9, 10, 11, 12, 13, 14, 15, 16, 17, 18, 19, 20, 21, 22, 23, 24, 25, 26, 27, 28, 5, 4, 3, 2, 1, 0] rfl) kk
    · skip
      refine lv_iload hx hb dL_law_536 (lv_at hl 4 rfl) ?_
      refine lv_iconst (v := iI (3)) hx hb dL_law_538 rfl ?_
      refine xr_icmp_ge (tgt := 546) hx hb dL_law_539 (by decide) (by omega) (by omega) (fun yy107 => ?_) (fun yy107 => ?_)
      · skip
        refine lv_iload hx hb dL_law_546 (lv_at hl 4 rfl) ?_
        refine lv_iconst (v := iI (2)) hx hb dL_law_548 rfl ?_
        refine xr_isub hx hb dL_law_549 ?_
        refine lv_istore (i := 31) (lv' := [(31, .int (iI (what - 2))), (30, .int (iI (w))), (29, .int (iI (who))), (28, .int (iI (8 * k))), (27, .int (iI (k))), (26, .int (iI (what))), (25, .int (vx)), (23, .int (iI (1))), (18, .int (iI (sg 503 0))), (19, .int (iI (sg 506 0))), (20, .long (lI (sg 510 0))), (24, .int (iI (turn))), (0, .ref b), (1, .ref hh), (2, .ref (adM 20 0)), (3, .ref (adM 21 0)), (4, .ref (adM 22 0)), (5, .ref (adM 23 0)), (6, .ref (adM 24 0)), (7, .ref (adM 25 0)), (8, .ref (adM 26 0)), (9, .ref (adM 27 0)), (10, .ref (adM 28 0)), (11, .ref (adM 29 0)), (12, .ref (adM 30 0)), (13, .ref (adM 31 0)), (14, .ref (adM 32 0)), (15, .ref (adM 33 0)), (16, .ref (adM 34 0)), (17, .ref (adM 35 0))]) hx hb dL_law_550 hl (by decide) rfl (fun ls hl => ?_)
        rcases (show what = 3 ∨ what = 4 by omega) with hz | hz
        · have e31 : what - 2 = 1 := by omega
          rw [e31] at hl
          exact law_t1 (vx := vx) (what := what) (k := k) (who := who) (w := w) E0 I0 h7 hcl hsl (by omega) (by omega) (by omega) (lv_sub hl [7, 8, 9, 10, 11, 12, 13, 14, 15, 16, 17, 18, 19, 20, 21, 22, 23, 24, 25, 26, 27, 28, 29, 6, 5, 4, 3, 2, 1, 0] rfl) kk
        · have e31 : what - 2 = 2 := by omega
          rw [e31] at hl
          exact law_t2 (vx := vx) (what := what) (k := k) (who := who) (w := w) E0 I0 h7 hcl hsl (by omega) (by omega) (by omega) (lv_sub hl [7, 8, 9, 10, 11, 12, 13, 14, 15, 16, 17, 18, 19, 20, 21, 22, 23, 24, 25, 26, 27, 28, 29, 6, 5, 4, 3, 2, 1, 0] rfl) kk
      · skip
        refine lv_iconst (v := iI (0)) hx hb dL_law_542 rfl ?_
        refine lv_goto (tgt := 550) hx hb dL_law_543 (by decide) ?_
        refine lv_istore (i := 31) (lv' := [(31, .int (iI (0))), (30, .int (iI (w))), (29, .int (iI (who))), (28, .int (iI (8 * k))), (27, .int (iI (k))), (26, .int (iI (what))), (25, .int (vx)), (23, .int (iI (1))), (18, .int (iI (sg 503 0))), (19, .int (iI (sg 506 0))), (20, .long (lI (sg 510 0))), (24, .int (iI (turn))), (0, .ref b), (1, .ref hh), (2, .ref (adM 20 0)), (3, .ref (adM 21 0)), (4, .ref (adM 22 0)), (5, .ref (adM 23 0)), (6, .ref (adM 24 0)), (7, .ref (adM 25 0)), (8, .ref (adM 26 0)), (9, .ref (adM 27 0)), (10, .ref (adM 28 0)), (11, .ref (adM 29 0)), (12, .ref (adM 30 0)), (13, .ref (adM 31 0)), (14, .ref (adM 32 0)), (15, .ref (adM 33 0)), (16, .ref (adM 34 0)), (17, .ref (adM 35 0))]) hx hb dL_law_550 hl (by decide) rfl (fun ls hl => ?_)
        exact law_t0 (vx := vx) (what := what) (k := k) (who := who) (w := w) E0 I0 h7 hcl hsl (by omega) (by omega) (by omega) (lv_sub hl [7, 8, 9, 10, 11, 12, 13, 14, 15, 16, 17, 18, 19, 20, 21, 22, 23, 24, 25, 26, 27, 28, 29, 6, 5, 4, 3, 2, 1, 0] rfl) kk
  refine lv_iload hx hb dL_law_497 (lv_at hl 5 rfl) ?_
  refine xr_if_ne (tgt := 506) hx hb dL_law_499 (by decide) (by omega) (fun yy108 => ?_) (fun yy108 => ?_)
  · skip
    refine lv_iload hx hb dL_law_506 (lv_at hl 3 rfl) ?_
    refine lv_sipush (v := iI (128)) hx hb dL_law_508 (by decide) ?_
    refine lw_idiv hx hb (by decide) dL_law_511 ?_
    refine lv_iload hx hb dL_law_512 (lv_at hl 5 rfl) ?_
    refine lw_up (n := sg 503 0) hx hb hml hown hts hK hl.1 ⟨by omega, by omega⟩ (by omega) (lv_room (Nat.le_of_ble_eq_true rfl)) dL_law_514 (fun wq wqa wqb => ?_)
    exact J517 (wq) (by omega)
  · skip
    refine lv_iconst (v := iI (0)) hx hb dL_law_502 rfl ?_
    refine lv_goto (tgt := 517) hx hb dL_law_503 (by decide) ?_
    exact J517 (0) (by omega)
set_option maxRecDepth 100000 in
set_option maxHeartbeats 8000000 in
theorem law_loop {p : Program} {l : Launch} {e : Env} {s : State} {m : MethodId} {below : List Frame} {meth : Method} {c : Code} {D : va_G} {cy : Nat → ClassId} {A A2 : Nat → Prop} {b L hh : Nat} {xs : Nat → Int32} {adM : Nat → Int → Nat} (E : LE p l s m meth c b L xs D cy A A2 adM) :
    ∀ (n : Nat) (turn : Int), 0 ≤ turn ∧ turn ≤ 90 → (90 - turn).toNat < n → ∀ (ad : Nat → Int → Nat) (sg mu : Nat → Int → Int) (H : Heap) (locs : List Loc) (cells slots : Nat) (ls : Array Slot), LI D cy A A2 s hh ad adM sg mu H locs → sg 702 0 ≤ 100 + turn → cells ≤ 10000 + 263 * turn.toNat → slots ≤ 1000000 + 1445 * turn.toNat → lv_has ls 37 (LB b hh adM (sg 503 0) (sg 506 0) (sg 510 0) turn) → W p l e room_1 s m #[Value.ref b] below meth c H locs cells slots (lw_Z below #[Value.ref b] s) (F0 m 450 ls []) := by
  intro n
  induction n with
  | zero => intro turn h1 h2; exact absurd h2 (Nat.not_lt_zero _)
  | succ n ih =>
    intro turn ht hn ad sg mu H locs cells slots ls I h7 hcl hsl hl
    by_cases e90 : turn = 90
    · obtain ⟨⟨hx, hb, hr, hml, hown, hts0, hX, hbl, hlocks, -⟩, hl0, hK, hXS, hXN, hA, hA1, hA2, hN12, hL⟩ := E
      obtain ⟨hC, hR, h4, hLR, hV, hG, hM, hS⟩ := I
      refine lv_iload hx hb dL_law_450 (lv_at hl 4 rfl) ?_
      refine lv_bipush (v := iI (90)) hx hb dL_law_452 (by decide) ?_
      refine xr_icmp_ge (tgt := 3568) hx hb dL_law_454 (by decide) (by omega) (by omega) (fun _ => ?_) (fun h => absurd h (by omega))
      refine lv_iload hx hb dL_law_3568 (lv_at hl 0 rfl) ?_
      refine va_forget (fun q hq => hS.2.2 q hq) ?_
      refine W.widen (k := 600104) (n := 7301314) (by omega) (by omega) ?_
      exact lw_ret hx hb hr hlocks dL_law_3570
    · refine law_case E I (by omega) (by omega) (by omega) (by omega) hl ?_
      intro ad' sg' mu' H' locs' ls' many today back I' h7' e1 e2 e3 hl'
      subst e1 e2 e3
      refine law_tail E I' (by omega) (by omega) (by omega) hl' ?_
      intro H2 locs2 ls2 hC2 hR2 hS2 hl2
      obtain ⟨hC, hR, h4, hLR, hV, hG, hM, hS⟩ := I'
      exact ih (turn + 1) (by omega) (by omega) ad' sg' mu' H2 locs2 _ _ ls2 ⟨hC2, hR2, h4, hLR, hV, hG, hM, hS2⟩ (by omega) (by omega) (by omega) hl2
