set_option maxRecDepth 100000 in
set_option maxHeartbeats 8000000 in
theorem law_t0 {p : Program} {l : Launch} {e : Env} {s : State} {m : MethodId} {below : List Frame} {meth : Method} {c : Code} {D : va_G} {cy : Nat → ClassId} {A A2 : Nat → Prop} {b L hh : Nat} {xs : Nat → Int32} {ad adM : Nat → Int → Nat} {sg mu : Nat → Int → Int} {H : Heap} {locs : List Loc} {cells slots : Nat} {Q : State → Prop} {ls : Array Slot} {turn : Int} {vx : Int32} {what k who w : Int} (E : LE p l s m meth c b L xs D cy A A2 adM) (I : LI D cy A A2 s hh ad adM sg mu H locs) (h7 : sg 702 0 ≤ 1000000) (hcl : cells + 1000 ≤ 600104) (hsl : slots + 20000 ≤ 7301314) (hwhat : what < 5) (hk : 0 ≤ k ∧ k ≤ 3) (hw : 0 ≤ w ∧ w ≤ 1) (hl : lv_has ls 37 [(23, .int (iI (1))), (18, .int (iI (sg 503 0))), (19, .int (iI (sg 506 0))), (20, .long (lI (sg 510 0))), (24, .int (iI (turn))), (0, .ref b), (1, .ref hh), (2, .ref (adM 20 0)), (3, .ref (adM 21 0)), (4, .ref (adM 22 0)), (5, .ref (adM 23 0)), (6, .ref (adM 24 0)), (7, .ref (adM 25 0)), (8, .ref (adM 26 0)), (9, .ref (adM 27 0)), (10, .ref (adM 28 0)), (11, .ref (adM 29 0)), (12, .ref (adM 30 0)), (13, .ref (adM 31 0)), (14, .ref (adM 32 0)), (15, .ref (adM 33 0)), (16, .ref (adM 34 0)), (17, .ref (adM 35 0)), (25, .int (vx)), (26, .int (iI (what))), (27, .int (iI (k))), (28, .int (iI (8 * k))), (29, .int (iI (who))), (30, .int (iI (w))), (31, .int (iI (0)))]) (kk : LK p l e s m below meth c b D cy A A2 hh adM cells slots Q sg turn) : W p l e room_1 s m #[Value.ref b] below meth c H locs cells slots Q (F0 m 552 ls []) := by
  obtain ⟨⟨hx, hb, hr, hml, hown, hts0, hX, hbl, hlocks, -⟩, hl0, hK, hXS, hXN, hA, hA1, hA2, hN12, hL⟩ := E
  obtain ⟨hC, hR, h4, hLR, hV, hG, hM, hS⟩ := I
  have hM0 := hM
  have hts : ∀ w ∈ wG, w.before #[Value.ref b] s = true := fun w hw => hts0 w (List.mem_filter.mp hw).1
  have hown : s.vm.findClass "TakinghallLaw" = some m.cls := hown
  have g503 := gr_503 hG 0
  have g506 := gr_506 hG 0
  obtain ⟨mm, hRel, hGM⟩ := id hV
  have hpl := pl_rng k
  refine lv_iload hx hb dL_law_552 (lv_at hl 29 rfl) ?_
  refine xr_if_ne (tgt := 573) hx hb dL_law_554 (by decide) (by decide) (fun yy1 => absurd yy1 (by decide)) (fun _ => ?_)
  refine lv_iconst (v := iI (1)) hx hb dL_law_557 rfl ?_
  refine lv_iload hx hb dL_law_558 (lv_at hl 23 rfl) ?_
  refine lv_sipush (v := iI (256)) hx hb dL_law_560 (by decide) ?_
  refine lw_idiv hx hb (by decide) dL_law_563 ?_
  refine lv_bipush (v := iI (60)) hx hb dL_law_564 (by decide) ?_
  refine lw_up (n := 60) hx hb hml hown hts hK hl.1 ⟨by omega, by omega⟩ (by decide) (lv_room (Nat.le_of_ble_eq_true rfl)) dL_law_566 (fun u1 u1a u1b => ?_)
  refine xr_iadd hx hb dL_law_569 ?_
  refine lv_goto (tgt := 613) hx hb dL_law_570 (by decide) ?_
  refine lv_istore (i := 32) (lv' := [(32, .int (iI (1 + u1))), (23, .int (iI (1))), (18, .int (iI (sg 503 0))), (19, .int (iI (sg 506 0))), (20, .long (lI (sg 510 0))), (24, .int (iI (turn))), (0, .ref b), (1, .ref hh), (2, .ref (adM 20 0)), (3, .ref (adM 21 0)), (4, .ref (adM 22 0)), (5, .ref (adM 23 0)), (6, .ref (adM 24 0)), (7, .ref (adM 25 0)), (8, .ref (adM 26 0)), (9, .ref (adM 27 0)), (10, .ref (adM 28 0)), (11, .ref (adM 29 0)), (12, .ref (adM 30 0)), (13, .ref (adM 31 0)), (14, .ref (adM 32 0)), (15, .ref (adM 33 0)), (16, .ref (adM 34 0)), (17, .ref (adM 35 0)), (25, .int (vx)), (26, .int (iI (what))), (27, .int (iI (k))), (28, .int (iI (8 * k))), (29, .int (iI (who))), (30, .int (iI (w))), (31, .int (iI (0)))]) hx hb dL_law_613 hl (by decide) rfl (fun ls hl => ?_)
  refine lv_iload hx hb dL_law_615 (lv_at hl 0 rfl) ?_
  refine lv_istore (i := 33) (lv' := [(33, .int (iI (1 + u1))), (32, .int (iI (1 + u1))), (23, .int (iI (1))), (18, .int (iI (sg 503 0))), (19, .int (iI (sg 506 0))), (20, .long (lI (sg 510 0))), (24, .int (iI (turn))), (0, .ref b), (1, .ref hh), (2, .ref (adM 20 0)), (3, .ref (adM 21 0)), (4, .ref (adM 22 0)), (5, .ref (adM 23 0)), (6, .ref (adM 24 0)), (7, .ref (adM 25 0)), (8, .ref (adM 26 0)), (9, .ref (adM 27 0)), (10, .ref (adM 28 0)), (11, .ref (adM 29 0)), (12, .ref (adM 30 0)), (13, .ref (adM 31 0)), (14, .ref (adM 32 0)), (15, .ref (adM 33 0)), (16, .ref (adM 34 0)), (17, .ref (adM 35 0)), (25, .int (vx)), (26, .int (iI (what))), (27, .int (iI (k))), (28, .int (iI (8 * k))), (29, .int (iI (who))), (30, .int (iI (w))), (31, .int (iI (0)))]) hx hb dL_law_617 hl (by decide) rfl (fun ls hl => ?_)
  refine lv_iconst (v := iI (0)) hx hb dL_law_619 rfl ?_
  refine lv_istore (i := 34) (lv' := [(34, .int (iI (0))), (33, .int (iI (1 + u1))), (32, .int (iI (1 + u1))), (23, .int (iI (1))), (18, .int (iI (sg 503 0))), (19, .int (iI (sg 506 0))), (20, .long (lI (sg 510 0))), (24, .int (iI (turn))), (0, .ref b), (1, .ref hh), (2, .ref (adM 20 0)), (3, .ref (adM 21 0)), (4, .ref (adM 22 0)), (5, .ref (adM 23 0)), (6, .ref (adM 24 0)), (7, .ref (adM 25 0)), (8, .ref (adM 26 0)), (9, .ref (adM 27 0)), (10, .ref (adM 28 0)), (11, .ref (adM 29 0)), (12, .ref (adM 30 0)), (13, .ref (adM 31 0)), (14, .ref (adM 32 0)), (15, .ref (adM 33 0)), (16, .ref (adM 34 0)), (17, .ref (adM 35 0)), (25, .int (vx)), (26, .int (iI (what))), (27, .int (iI (k))), (28, .int (iI (8 * k))), (29, .int (iI (who))), (30, .int (iI (w))), (31, .int (iI (0)))]) hx hb dL_law_620 hl (by decide) rfl (fun ls hl => ?_)
  have loop622 : ∀ (n : Nat) (j : Int) (sh : Int), 0 ≤ j ∧ j ≤ sg 503 0 → sh = 1 + u1 + sumN (fun q => if mu 1001 q = 0 ∧ mu 1001 (24 + q) = k then mu 1002 q else 0) j.toNat → (sg 503 0 - j).toNat < n → ∀ ls : Array Slot, lv_has ls 37 [(23, .int (iI (1))), (18, .int (iI (sg 503 0))), (19, .int (iI (sg 506 0))), (20, .long (lI (sg 510 0))), (24, .int (iI (turn))), (0, .ref b), (1, .ref hh), (2, .ref (adM 20 0)), (3, .ref (adM 21 0)), (4, .ref (adM 22 0)), (5, .ref (adM 23 0)), (6, .ref (adM 24 0)), (7, .ref (adM 25 0)), (8, .ref (adM 26 0)), (9, .ref (adM 27 0)), (10, .ref (adM 28 0)), (11, .ref (adM 29 0)), (12, .ref (adM 30 0)), (13, .ref (adM 31 0)), (14, .ref (adM 32 0)), (15, .ref (adM 33 0)), (16, .ref (adM 34 0)), (17, .ref (adM 35 0)), (25, .int (vx)), (26, .int (iI (what))), (27, .int (iI (k))), (28, .int (iI (8 * k))), (29, .int (iI (who))), (30, .int (iI (w))), (31, .int (iI (0))), (32, .int (iI (1 + u1))), (33, .int (iI (sh))), (34, .int (iI (j)))] → W p l e room_1 s m #[Value.ref b] below meth c H locs cells slots Q (F0 m 622 ls []) := by
    intro n622
    induction n622 with
    | zero =>
      intro j sh hj hsh hn622 ls hl
      exact absurd hn622 (Nat.not_lt_zero _)
    | succ n622 ih622 =>
      intro j sh hj hsh hn622 ls hl
      refine lv_iload hx hb dL_law_622 (lv_at hl 32 rfl) ?_
      refine lv_iload hx hb dL_law_624 (lv_at hl 1 rfl) ?_
      refine xr_icmp_ge (tgt := 668) hx hb dL_law_626 (by decide) (by omega) (by omega) (fun yy2 => ?_) (fun yy2 => ?_)
      · skip
        have hje : j = sg 503 0 := by omega
        rw [hje] at hsh
        rw [l_shares hG hM hLR.2.2.2.2.2.1 hk] at hsh
        have hsr := shares_rng hG (pl k)
        refine lv_iload hx hb dL_law_668 (lv_at hl 23 rfl) ?_
        refine lv_sipush (v := iI (512)) hx hb dL_law_670 (by decide) ?_
        refine lw_idiv hx hb (by decide) dL_law_673 ?_
        refine lv_bipush (v := iI (101)) hx hb dL_law_674 (by decide) ?_
        refine lw_up (n := 101) hx hb hml hown hts hK hl.1 ⟨by omega, by omega⟩ (by decide) (lv_room (Nat.le_of_ble_eq_true rfl)) dL_law_676 (fun u2 u2a u2b => ?_)
        refine lv_istore (i := 34) (lv' := [(34, .int (iI (u2))), (23, .int (iI (1))), (18, .int (iI (sg 503 0))), (19, .int (iI (sg 506 0))), (20, .long (lI (sg 510 0))), (24, .int (iI (turn))), (0, .ref b), (1, .ref hh), (2, .ref (adM 20 0)), (3, .ref (adM 21 0)), (4, .ref (adM 22 0)), (5, .ref (adM 23 0)), (6, .ref (adM 24 0)), (7, .ref (adM 25 0)), (8, .ref (adM 26 0)), (9, .ref (adM 27 0)), (10, .ref (adM 28 0)), (11, .ref (adM 29 0)), (12, .ref (adM 30 0)), (13, .ref (adM 31 0)), (14, .ref (adM 32 0)), (15, .ref (adM 33 0)), (16, .ref (adM 34 0)), (17, .ref (adM 35 0)), (25, .int (vx)), (26, .int (iI (what))), (27, .int (iI (k))), (28, .int (iI (8 * k))), (29, .int (iI (who))), (30, .int (iI (w))), (31, .int (iI (0))), (32, .int (iI (1 + u1))), (33, .int (iI (sh)))]) hx hb dL_law_679 hl (by decide) rfl (fun ls hl => ?_)
        have J723 : W p l e room_1 s m #[Value.ref b] below meth c H locs cells slots Q (F0 m 723 ls [.int (iI (if 100 < sh then -1002 else if sg 503 0 = 24 ∨ mu 1000 (8 * k + 2) ≠ 0 then -1003 else sg 503 0))]) := by
          rcases (show (100 < sh) ∨ (¬ 100 < sh ∧ (sg 503 0 = 24 ∨ mu 1000 (8 * k + 2) ≠ 0)) ∨ (¬ 100 < sh ∧ ¬ (sg 503 0 = 24 ∨ mu 1000 (8 * k + 2) ≠ 0)) by omega) with cc3 | cc3 | cc3
          · skip
            rw [if_pos cc3]
            refine lv_istore (i := 35) (lv' := [(35, .int (iI (-1002))), (34, .int (iI (u2))), (23, .int (iI (1))), (18, .int (iI (sg 503 0))), (19, .int (iI (sg 506 0))), (20, .long (lI (sg 510 0))), (24, .int (iI (turn))), (0, .ref b), (1, .ref hh), (2, .ref (adM 20 0)), (3, .ref (adM 21 0)), (4, .ref (adM 22 0)), (5, .ref (adM 23 0)), (6, .ref (adM 24 0)), (7, .ref (adM 25 0)), (8, .ref (adM 26 0)), (9, .ref (adM 27 0)), (10, .ref (adM 28 0)), (11, .ref (adM 29 0)), (12, .ref (adM 30 0)), (13, .ref (adM 31 0)), (14, .ref (adM 32 0)), (15, .ref (adM 33 0)), (16, .ref (adM 34 0)), (17, .ref (adM 35 0)), (25, .int (vx)), (26, .int (iI (what))), (27, .int (iI (k))), (28, .int (iI (8 * k))), (29, .int (iI (who))), (30, .int (iI (w))), (31, .int (iI (0))), (32, .int (iI (1 + u1))), (33, .int (iI (sh)))]) hx hb dL_law_723 hl (by decide) rfl (fun ls hl => ?_)
            refine lv_aload_n hx hb dL_law_725 rfl (lv_at hl 8 rfl) ?_
            refine lv_iload hx hb dL_law_726 (lv_at hl 31 rfl) ?_
            refine lv_iload hx hb dL_law_728 (lv_at hl 27 rfl) ?_
            refine lw_plot hx hb hml hown hts hK hl.1 ⟨by omega, by omega⟩ (by omega) (lv_room (Nat.le_of_ble_eq_true rfl)) dL_law_730 ?_
            refine lv_iload hx hb dL_law_733 (lv_at hl 25 rfl) ?_
            refine lv_sipush (v := iI (1024)) hx hb dL_law_735 (by decide) ?_
            refine lw_idiv hx hb (by decide) dL_law_738 ?_
            refine lv_bipush (v := iI (10)) hx hb dL_law_739 (by decide) ?_
            refine lw_up (n := 10) hx hb hml hown hts hK hl.1 ⟨by omega, by omega⟩ (by decide) (lv_room (Nat.le_of_ble_eq_true rfl)) dL_law_741 (fun u3 u3a u3b => ?_)
            refine lv_iload hx hb dL_law_744 (lv_at hl 32 rfl) ?_
            refine lv_iload hx hb dL_law_746 (lv_at hl 1 rfl) ?_
            have hE := a_own hLR hG (k := k) (u := u3) (ms := 1 + u1) hk (by omega) (by omega)
            rw [if_pos (by omega)] at hE
            refine lw_act (f := 8) (lo := 142) (mc := 1) (ms := 15) (E := ownE sg (pl k) u3 (1 + u1)) (T := (tellT sg 0 (pAt (pl k)) u3 (1 + u1) 0)) hx hb hml hown hts hK hXS hXN hS hA1 hN12 hG hR h4 (c_act_0 hC hG hl0 (lw_hA hA hR) (pl k) u3 (1 + u1) u2 (by omega) (by omega) (by omega)) ⟨by decide, by decide⟩ ⟨by omega, by omega⟩ hl.1 (Nat.le_of_ble_eq_true rfl) dL_law_748 (fun ad H locs h4 hC hR hS => ?_)
            rw [if_neg (by rw [hE]; decide)] at hC
            rw [aR_n (by rw [hE]; decide), hE]
            refine lv_iload hx hb dL_law_751 (lv_at hl 0 rfl) ?_
            refine xr_i2l hx hb dL_law_753 (by omega) ?_
            refine lw_leq hx hb dL_law_754 (by first | rfl | omega | (rfl)) ?_
            refine xr_if_ne (tgt := 762) hx hb dL_law_755 (by decide) (by decide) (fun yy4 => absurd yy4 (by decide)) (fun _ => ?_)
            refine lv_iconst (v := iI (1)) hx hb dL_law_758 rfl ?_
            refine lv_goto (tgt := 763) hx hb dL_law_759 (by decide) ?_
            refine lv_istore (i := 23) (lv' := [(23, .int (iI (1))), (35, .int (iI (-1002))), (34, .int (iI (u2))), (18, .int (iI (sg 503 0))), (19, .int (iI (sg 506 0))), (20, .long (lI (sg 510 0))), (24, .int (iI (turn))), (0, .ref b), (1, .ref hh), (2, .ref (adM 20 0)), (3, .ref (adM 21 0)), (4, .ref (adM 22 0)), (5, .ref (adM 23 0)), (6, .ref (adM 24 0)), (7, .ref (adM 25 0)), (8, .ref (adM 26 0)), (9, .ref (adM 27 0)), (10, .ref (adM 28 0)), (11, .ref (adM 29 0)), (12, .ref (adM 30 0)), (13, .ref (adM 31 0)), (14, .ref (adM 32 0)), (15, .ref (adM 33 0)), (16, .ref (adM 34 0)), (17, .ref (adM 35 0)), (25, .int (vx)), (26, .int (iI (what))), (27, .int (iI (k))), (28, .int (iI (8 * k))), (29, .int (iI (who))), (30, .int (iI (w))), (31, .int (iI (0))), (32, .int (iI (1 + u1))), (33, .int (iI (sh)))]) hx hb dL_law_763 hl (by decide) rfl (fun ls hl => ?_)
            refine lv_iload hx hb dL_law_765 (lv_at hl 1 rfl) ?_
            refine xr_if_lt (tgt := 821) hx hb dL_law_767 (by decide) (by decide) (fun _ => ?_) (fun yy5 => absurd yy5 (by decide))
            refine lv_goto (tgt := 3115) hx hb dL_law_821 (by decide) ?_
            refine W.widen (k := cells + 3) (n := slots + 45) (by omega) (by omega) ?_
            exact kk ad sg mu H locs ls _ _ _ ⟨hC, hR, h4, hLR, hV, hG, hM, hS⟩ (by omega) rfl rfl rfl (lv_sub hl [0, 3, 4, 5, 6, 7, 8, 9, 10, 11, 12, 13, 14, 15, 16, 17, 18, 19, 20, 21, 22, 23, 24] rfl)
          · skip
            rw [if_neg (by omega), if_pos (by omega)]
            refine lv_istore (i := 35) (lv' := [(35, .int (iI (-1003))), (34, .int (iI (u2))), (23, .int (iI (1))), (18, .int (iI (sg 503 0))), (19, .int (iI (sg 506 0))), (20, .long (lI (sg 510 0))), (24, .int (iI (turn))), (0, .ref b), (1, .ref hh), (2, .ref (adM 20 0)), (3, .ref (adM 21 0)), (4, .ref (adM 22 0)), (5, .ref (adM 23 0)), (6, .ref (adM 24 0)), (7, .ref (adM 25 0)), (8, .ref (adM 26 0)), (9, .ref (adM 27 0)), (10, .ref (adM 28 0)), (11, .ref (adM 29 0)), (12, .ref (adM 30 0)), (13, .ref (adM 31 0)), (14, .ref (adM 32 0)), (15, .ref (adM 33 0)), (16, .ref (adM 34 0)), (17, .ref (adM 35 0)), (25, .int (vx)), (26, .int (iI (what))), (27, .int (iI (k))), (28, .int (iI (8 * k))), (29, .int (iI (who))), (30, .int (iI (w))), (31, .int (iI (0))), (32, .int (iI (1 + u1))), (33, .int (iI (sh)))]) hx hb dL_law_723 hl (by decide) rfl (fun ls hl => ?_)
            refine lv_aload_n hx hb dL_law_725 rfl (lv_at hl 8 rfl) ?_
            refine lv_iload hx hb dL_law_726 (lv_at hl 31 rfl) ?_
            refine lv_iload hx hb dL_law_728 (lv_at hl 27 rfl) ?_
            refine lw_plot hx hb hml hown hts hK hl.1 ⟨by omega, by omega⟩ (by omega) (lv_room (Nat.le_of_ble_eq_true rfl)) dL_law_730 ?_
            refine lv_iload hx hb dL_law_733 (lv_at hl 25 rfl) ?_
            refine lv_sipush (v := iI (1024)) hx hb dL_law_735 (by decide) ?_
            refine lw_idiv hx hb (by decide) dL_law_738 ?_
            refine lv_bipush (v := iI (10)) hx hb dL_law_739 (by decide) ?_
            refine lw_up (n := 10) hx hb hml hown hts hK hl.1 ⟨by omega, by omega⟩ (by decide) (lv_room (Nat.le_of_ble_eq_true rfl)) dL_law_741 (fun u3 u3a u3b => ?_)
            refine lv_iload hx hb dL_law_744 (lv_at hl 32 rfl) ?_
            refine lv_iload hx hb dL_law_746 (lv_at hl 1 rfl) ?_
            have hE := a_own hLR hG (k := k) (u := u3) (ms := 1 + u1) hk (by omega) (by omega)
            rw [if_neg (by omega), if_pos (by omega)] at hE
            refine lw_act (f := 8) (lo := 142) (mc := 1) (ms := 15) (E := ownE sg (pl k) u3 (1 + u1)) (T := (tellT sg 0 (pAt (pl k)) u3 (1 + u1) 0)) hx hb hml hown hts hK hXS hXN hS hA1 hN12 hG hR h4 (c_act_0 hC hG hl0 (lw_hA hA hR) (pl k) u3 (1 + u1) u2 (by omega) (by omega) (by omega)) ⟨by decide, by decide⟩ ⟨by omega, by omega⟩ hl.1 (Nat.le_of_ble_eq_true rfl) dL_law_748 (fun ad H locs h4 hC hR hS => ?_)
            rw [if_neg (by rw [hE]; decide)] at hC
            rw [aR_n (by rw [hE]; decide), hE]
            refine lv_iload hx hb dL_law_751 (lv_at hl 0 rfl) ?_
            refine xr_i2l hx hb dL_law_753 (by omega) ?_
            refine lw_leq hx hb dL_law_754 (by first | rfl | omega | (rfl)) ?_
            refine xr_if_ne (tgt := 762) hx hb dL_law_755 (by decide) (by decide) (fun yy6 => absurd yy6 (by decide)) (fun _ => ?_)
            refine lv_iconst (v := iI (1)) hx hb dL_law_758 rfl ?_
            refine lv_goto (tgt := 763) hx hb dL_law_759 (by decide) ?_
            refine lv_istore (i := 23) (lv' := [(23, .int (iI (1))), (35, .int (iI (-1003))), (34, .int (iI (u2))), (18, .int (iI (sg 503 0))), (19, .int (iI (sg 506 0))), (20, .long (lI (sg 510 0))), (24, .int (iI (turn))), (0, .ref b), (1, .ref hh), (2, .ref (adM 20 0)), (3, .ref (adM 21 0)), (4, .ref (adM 22 0)), (5, .ref (adM 23 0)), (6, .ref (adM 24 0)), (7, .ref (adM 25 0)), (8, .ref (adM 26 0)), (9, .ref (adM 27 0)), (10, .ref (adM 28 0)), (11, .ref (adM 29 0)), (12, .ref (adM 30 0)), (13, .ref (adM 31 0)), (14, .ref (adM 32 0)), (15, .ref (adM 33 0)), (16, .ref (adM 34 0)), (17, .ref (adM 35 0)), (25, .int (vx)), (26, .int (iI (what))), (27, .int (iI (k))), (28, .int (iI (8 * k))), (29, .int (iI (who))), (30, .int (iI (w))), (31, .int (iI (0))), (32, .int (iI (1 + u1))), (33, .int (iI (sh)))]) hx hb dL_law_763 hl (by decide) rfl (fun ls hl => ?_)
            refine lv_iload hx hb dL_law_765 (lv_at hl 1 rfl) ?_
            refine xr_if_lt (tgt := 821) hx hb dL_law_767 (by decide) (by decide) (fun _ => ?_) (fun yy7 => absurd yy7 (by decide))
            refine lv_goto (tgt := 3115) hx hb dL_law_821 (by decide) ?_
            refine W.widen (k := cells + 3) (n := slots + 45) (by omega) (by omega) ?_
            exact kk ad sg mu H locs ls _ _ _ ⟨hC, hR, h4, hLR, hV, hG, hM, hS⟩ (by omega) rfl rfl rfl (lv_sub hl [0, 3, 4, 5, 6, 7, 8, 9, 10, 11, 12, 13, 14, 15, 16, 17, 18, 19, 20, 21, 22, 23, 24] rfl)
          · skip
            rw [if_neg (by omega), if_neg (by omega)]
            refine lv_istore (i := 35) (lv' := [(35, .int (iI (sg 503 0))), (34, .int (iI (u2))), (23, .int (iI (1))), (18, .int (iI (sg 503 0))), (19, .int (iI (sg 506 0))), (20, .long (lI (sg 510 0))), (24, .int (iI (turn))), (0, .ref b), (1, .ref hh), (2, .ref (adM 20 0)), (3, .ref (adM 21 0)), (4, .ref (adM 22 0)), (5, .ref (adM 23 0)), (6, .ref (adM 24 0)), (7, .ref (adM 25 0)), (8, .ref (adM 26 0)), (9, .ref (adM 27 0)), (10, .ref (adM 28 0)), (11, .ref (adM 29 0)), (12, .ref (adM 30 0)), (13, .ref (adM 31 0)), (14, .ref (adM 32 0)), (15, .ref (adM 33 0)), (16, .ref (adM 34 0)), (17, .ref (adM 35 0)), (25, .int (vx)), (26, .int (iI (what))), (27, .int (iI (k))), (28, .int (iI (8 * k))), (29, .int (iI (who))), (30, .int (iI (w))), (31, .int (iI (0))), (32, .int (iI (1 + u1))), (33, .int (iI (sh)))]) hx hb dL_law_723 hl (by decide) rfl (fun ls hl => ?_)
            refine lv_aload_n hx hb dL_law_725 rfl (lv_at hl 8 rfl) ?_
            refine lv_iload hx hb dL_law_726 (lv_at hl 31 rfl) ?_
            refine lv_iload hx hb dL_law_728 (lv_at hl 27 rfl) ?_
            refine lw_plot hx hb hml hown hts hK hl.1 ⟨by omega, by omega⟩ (by omega) (lv_room (Nat.le_of_ble_eq_true rfl)) dL_law_730 ?_
            refine lv_iload hx hb dL_law_733 (lv_at hl 25 rfl) ?_
            refine lv_sipush (v := iI (1024)) hx hb dL_law_735 (by decide) ?_
            refine lw_idiv hx hb (by decide) dL_law_738 ?_
            refine lv_bipush (v := iI (10)) hx hb dL_law_739 (by decide) ?_
            refine lw_up (n := 10) hx hb hml hown hts hK hl.1 ⟨by omega, by omega⟩ (by decide) (lv_room (Nat.le_of_ble_eq_true rfl)) dL_law_741 (fun u3 u3a u3b => ?_)
            refine lv_iload hx hb dL_law_744 (lv_at hl 32 rfl) ?_
            refine lv_iload hx hb dL_law_746 (lv_at hl 1 rfl) ?_
            have hE := a_own hLR hG (k := k) (u := u3) (ms := 1 + u1) hk (by omega) (by omega)
            rw [if_neg (by omega), if_neg (by omega)] at hE
            have h203 : sg 203 (pl k) = 0 := by have z := (hLR.2.1 k hk.1 hk.2).1; omega
            refine lw_act (f := 8) (lo := 142) (mc := 1) (ms := 15) (E := ownE sg (pl k) u3 (1 + u1)) (T := (tellT sg 0 (pAt (pl k)) u3 (1 + u1) 0)) hx hb hml hown hts hK hXS hXN hS hA1 hN12 hG hR h4 (c_act_0 hC hG hl0 (lw_hA hA hR) (pl k) u3 (1 + u1) u2 (by omega) (by omega) (by omega)) ⟨by decide, by decide⟩ ⟨by omega, by omega⟩ hl.1 (Nat.le_of_ble_eq_true rfl) dL_law_748 (fun ad H locs h4 hC hR hS => ?_)
            rw [if_pos hE] at hC
            rw [aR_0 hE]
            rw [pl_pAt] at hC
            have hz := inv_of (s_own hRel hG hGM (pl k) u3 (1 + u1)) hE
            rw [pl_pAt] at hz
            have hLR := o_tell (kd := 0) (u := u3) (ms := 1 + u1) (pr := u2) (pr' := 0) hLR hG hV hM0 hk h203 (by omega) (fun _ => by omega) (fun z => absurd z (by decide))
            refine lv_iload hx hb dL_law_751 (lv_at hl 0 rfl) ?_
            refine xr_i2l hx hb dL_law_753 (by omega) ?_
            refine lw_leq hx hb dL_law_754 (by first | rfl | omega | (rfl)) ?_
            refine xr_if_ne (tgt := 762) hx hb dL_law_755 (by decide) (by decide) (fun yy8 => absurd yy8 (by decide)) (fun _ => ?_)
            refine lv_iconst (v := iI (1)) hx hb dL_law_758 rfl ?_
            refine lv_goto (tgt := 763) hx hb dL_law_759 (by decide) ?_
            refine lv_istore (i := 23) (lv' := [(23, .int (iI (1))), (35, .int (iI (sg 503 0))), (34, .int (iI (u2))), (18, .int (iI (sg 503 0))), (19, .int (iI (sg 506 0))), (20, .long (lI (sg 510 0))), (24, .int (iI (turn))), (0, .ref b), (1, .ref hh), (2, .ref (adM 20 0)), (3, .ref (adM 21 0)), (4, .ref (adM 22 0)), (5, .ref (adM 23 0)), (6, .ref (adM 24 0)), (7, .ref (adM 25 0)), (8, .ref (adM 26 0)), (9, .ref (adM 27 0)), (10, .ref (adM 28 0)), (11, .ref (adM 29 0)), (12, .ref (adM 30 0)), (13, .ref (adM 31 0)), (14, .ref (adM 32 0)), (15, .ref (adM 33 0)), (16, .ref (adM 34 0)), (17, .ref (adM 35 0)), (25, .int (vx)), (26, .int (iI (what))), (27, .int (iI (k))), (28, .int (iI (8 * k))), (29, .int (iI (who))), (30, .int (iI (w))), (31, .int (iI (0))), (32, .int (iI (1 + u1))), (33, .int (iI (sh)))]) hx hb dL_law_763 hl (by decide) rfl (fun ls hl => ?_)
            refine lv_iload hx hb dL_law_765 (lv_at hl 1 rfl) ?_
            refine xr_if_lt (tgt := 821) hx hb dL_law_767 (by decide) (by omega) (fun yy9 => absurd yy9 (by omega)) (fun yy9 => ?_)
            refine lv_aload_n hx hb dL_law_770 rfl (lv_at hl 10 rfl) ?_
            refine lv_iload hx hb dL_law_771 (lv_at hl 3 rfl) ?_
            refine lv_iload hx hb dL_law_773 (lv_at hl 31 rfl) ?_
            refine ys_1001 (v := 0) hx hb hK hC hR hA2 hA1 hN12 hS (by omega) dL_law_775 (fun H locs hC hR hS => ?_)
            have hM := gl_1001 hM (sg 503 0) (v := 0) (by omega)
            refine lv_aload_n hx hb dL_law_776 rfl (lv_at hl 10 rfl) ?_
            refine lv_bipush (v := iI (24)) hx hb dL_law_777 (by decide) ?_
            refine lv_iload hx hb dL_law_779 (lv_at hl 3 rfl) ?_
            refine xr_iadd hx hb dL_law_781 ?_
            refine lv_iload hx hb dL_law_782 (lv_at hl 27 rfl) ?_
            refine ys_1001 (v := k) hx hb hK hC hR hA2 hA1 hN12 hS (by omega) dL_law_784 (fun H locs hC hR hS => ?_)
            have hM := gl_1001 hM (24 + (sg 503 0)) (v := k) (by omega)
            refine lv_aload hx hb dL_law_785 (lv_at hl 11 rfl) ?_
            refine lv_iload hx hb dL_law_787 (lv_at hl 3 rfl) ?_
            refine lv_iload hx hb dL_law_789 (lv_at hl 32 rfl) ?_
            refine ys_1002 (v := 1 + u1) hx hb hK hC hR hA2 hA1 hN12 hS (by omega) dL_law_791 (fun H locs hC hR hS => ?_)
            have hM := gl_1002 hM (sg 503 0) (v := 1 + u1) (by omega)
            refine lv_aload hx hb dL_law_792 (lv_at hl 12 rfl) ?_
            refine lv_iload hx hb dL_law_794 (lv_at hl 3 rfl) ?_
            refine lv_iload hx hb dL_law_796 (lv_at hl 4 rfl) ?_
            refine ys_1003 (v := sg 506 0) hx hb hK hC hR hA2 hA1 hN12 hS (by omega) dL_law_798 (fun H locs hC hR hS => ?_)
            have hM := gl_1003 hM (sg 503 0) (v := sg 506 0) (by omega)
            refine lv_aload hx hb dL_law_799 (lv_at hl 13 rfl) ?_
            refine lv_iload hx hb dL_law_801 (lv_at hl 3 rfl) ?_
            refine lv_iconst (v := iI (-1)) hx hb dL_law_803 rfl ?_
            refine ys_1004 (v := -1) hx hb hK hC hR hA2 hA1 hN12 hS (by omega) dL_law_804 (fun H locs hC hR hS => ?_)
            have hM := gl_1004 hM (sg 503 0) (v := -1) (by omega)
            refine lv_aload hx hb dL_law_805 (lv_at hl 15 rfl) ?_
            refine lv_iload hx hb dL_law_807 (lv_at hl 3 rfl) ?_
            refine lv_iload hx hb dL_law_809 (lv_at hl 2 rfl) ?_
            refine ys_1006 (v := u2) hx hb hK hC hR hA2 hA1 hN12 hS (by omega) dL_law_811 (fun H locs hC hR hS => ?_)
            have hM := gl_1006 hM (sg 503 0) (v := u2) (by omega)
            refine lv_aload hx hb dL_law_812 (lv_at hl 18 rfl) ?_
            refine lv_iload hx hb dL_law_814 (lv_at hl 3 rfl) ?_
            refine lv_iconst (v := iI (-1)) hx hb dL_law_816 rfl ?_
            refine ys_1009 (v := -1) hx hb hK hC hR hA2 hA1 hN12 hS (by omega) dL_law_817 (fun H locs hC hR hS => ?_)
            have hM := gl_1009 hM (sg 503 0) (v := -1) (by omega)
            refine lv_iinc (v := iI ((sg 503 0) + 1)) (lv' := [(18, .int (iI ((sg 503 0) + 1))), (23, .int (iI (1))), (35, .int (iI (sg 503 0))), (34, .int (iI (u2))), (19, .int (iI (sg 506 0))), (20, .long (lI (sg 510 0))), (24, .int (iI (turn))), (0, .ref b), (1, .ref hh), (2, .ref (adM 20 0)), (3, .ref (adM 21 0)), (4, .ref (adM 22 0)), (5, .ref (adM 23 0)), (6, .ref (adM 24 0)), (7, .ref (adM 25 0)), (8, .ref (adM 26 0)), (9, .ref (adM 27 0)), (10, .ref (adM 28 0)), (11, .ref (adM 29 0)), (12, .ref (adM 30 0)), (13, .ref (adM 31 0)), (14, .ref (adM 32 0)), (15, .ref (adM 33 0)), (16, .ref (adM 34 0)), (17, .ref (adM 35 0)), (25, .int (vx)), (26, .int (iI (what))), (27, .int (iI (k))), (28, .int (iI (8 * k))), (29, .int (iI (who))), (30, .int (iI (w))), (31, .int (iI (0))), (32, .int (iI (1 + u1))), (33, .int (iI (sh)))]) hx hb dL_law_818 hl (k := 3) rfl (iI_add _ _) (by decide) rfl (fun ls hl => ?_)
            refine lv_goto (tgt := 3115) hx hb dL_law_821 (by decide) ?_
            refine W.widen (k := cells + 3) (n := slots + 45) (by omega) (by omega) ?_
            exact kk ad ((tellT sg 0 (pl k) u3 (1 + u1) 0)) (st (st (st (st (st (st (st mu 1001 (sg 503 0) (0)) 1001 (24 + (sg 503 0)) (k)) 1002 (sg 503 0) (1 + u1)) 1003 (sg 503 0) (sg 506 0)) 1004 (sg 503 0) (-1)) 1006 (sg 503 0) (u2)) 1009 (sg 503 0) (-1)) H locs ls _ _ _ ⟨hC, hR, h4, hLR, hz.1, hz.2, hM, hS⟩ (by rw [te_f (by decide) (by decide) (by decide) (by decide)]; omega) te_503 (congrFun (te_f (by decide) (by decide) (by decide) (by decide)) 0) (congrFun (te_f (by decide) (by decide) (by decide) (by decide)) 0) (lv_sub hl [1, 0, 4, 5, 6, 7, 8, 9, 10, 11, 12, 13, 14, 15, 16, 17, 18, 19, 20, 21, 22, 23, 24] rfl)
        refine lv_iload hx hb dL_law_681 (lv_at hl 30 rfl) ?_
        refine xr_if_ne (tgt := 699) hx hb dL_law_683 (by decide) (by decide) (fun yy10 => absurd yy10 (by decide)) (fun _ => ?_)
        refine lv_iload hx hb dL_law_686 (lv_at hl 32 rfl) ?_
        refine lv_bipush (v := iI (100)) hx hb dL_law_688 (by decide) ?_
        refine xr_icmp_le (tgt := 699) hx hb dL_law_690 (by decide) (by omega) (by omega) (fun yy11 => ?_) (fun yy11 => ?_)
        · skip
          refine lv_iload hx hb dL_law_699 (lv_at hl 2 rfl) ?_
          refine lv_bipush (v := iI (24)) hx hb dL_law_701 (by decide) ?_
          refine xr_icmp_eq (tgt := 715) hx hb dL_law_703 (by decide) (by omega) (by omega) (fun yy12 => ?_) (fun yy12 => ?_)
          · skip
            refine lv_sipush (v := iI (-1003)) hx hb dL_law_715 (by decide) ?_
            refine lv_goto (tgt := 723) hx hb dL_law_718 (by decide) ?_
            exact w_topI (by first | exact (if_pos (by omega)).symm | exact (if_neg (by omega)).symm | (rw [if_neg (by omega)]; first | exact (if_pos (by omega)).symm | exact (if_neg (by omega)).symm)) J723
          · skip
            refine lv_aload_n hx hb dL_law_706 rfl (lv_at hl 8 rfl) ?_
            refine lv_iload hx hb dL_law_707 (lv_at hl 27 rfl) ?_
            refine lv_iconst (v := iI (2)) hx hb dL_law_709 rfl ?_
            refine xr_iadd hx hb dL_law_710 ?_
            refine xa_1000 (v := mu 1000 ((8 * k) + 2)) hx hb hK hR (by omega) rfl dL_law_711 ?_
            have g13 := ml_1000 hM0 ((8 * k) + 2)
            refine xr_if_eq (tgt := 721) hx hb dL_law_712 (by decide) (by omega) (fun yy14 => ?_) (fun yy14 => ?_)
            · skip
              refine lv_iload hx hb dL_law_721 (lv_at hl 2 rfl) ?_
              exact w_topI (by first | exact (if_pos (by omega)).symm | exact (if_neg (by omega)).symm | (rw [if_neg (by omega)]; first | exact (if_pos (by omega)).symm | exact (if_neg (by omega)).symm)) J723
            · skip
              refine lv_sipush (v := iI (-1003)) hx hb dL_law_715 (by decide) ?_
              refine lv_goto (tgt := 723) hx hb dL_law_718 (by decide) ?_
              exact w_topI (by first | exact (if_pos (by omega)).symm | exact (if_neg (by omega)).symm | (rw [if_neg (by omega)]; first | exact (if_pos (by omega)).symm | exact (if_neg (by omega)).symm)) J723
        · skip
          refine lv_sipush (v := iI (-1002)) hx hb dL_law_693 (by decide) ?_
          refine lv_goto (tgt := 723) hx hb dL_law_696 (by decide) ?_
          exact w_topI (by first | exact (if_pos (by omega)).symm | exact (if_neg (by omega)).symm | (rw [if_neg (by omega)]; first | exact (if_pos (by omega)).symm | exact (if_neg (by omega)).symm)) J723
      · skip
        refine lv_iload hx hb dL_law_629 (lv_at hl 31 rfl) ?_
        have J659 : W p l e room_1 s m #[Value.ref b] below meth c H locs cells slots Q (F0 m 659 ls [.int (iI (if mu 1001 j = 0 ∧ mu 1001 (24 + j) = k then mu 1002 j else 0)), .int (iI (sh))]) := by
          refine xr_iadd hx hb dL_law_659 ?_
          refine lv_istore (i := 33) (lv' := [(33, .int (iI (sh + (if mu 1001 j = 0 ∧ mu 1001 (24 + j) = k then mu 1002 j else 0)))), (23, .int (iI (1))), (18, .int (iI (sg 503 0))), (19, .int (iI (sg 506 0))), (20, .long (lI (sg 510 0))), (24, .int (iI (turn))), (0, .ref b), (1, .ref hh), (2, .ref (adM 20 0)), (3, .ref (adM 21 0)), (4, .ref (adM 22 0)), (5, .ref (adM 23 0)), (6, .ref (adM 24 0)), (7, .ref (adM 25 0)), (8, .ref (adM 26 0)), (9, .ref (adM 27 0)), (10, .ref (adM 28 0)), (11, .ref (adM 29 0)), (12, .ref (adM 30 0)), (13, .ref (adM 31 0)), (14, .ref (adM 32 0)), (15, .ref (adM 33 0)), (16, .ref (adM 34 0)), (17, .ref (adM 35 0)), (25, .int (vx)), (26, .int (iI (what))), (27, .int (iI (k))), (28, .int (iI (8 * k))), (29, .int (iI (who))), (30, .int (iI (w))), (31, .int (iI (0))), (32, .int (iI (1 + u1))), (34, .int (iI (j)))]) hx hb dL_law_660 hl (by decide) rfl (fun ls hl => ?_)
          refine lv_iinc (v := iI (j + 1)) (lv' := [(34, .int (iI (j + 1))), (33, .int (iI (sh + (if mu 1001 j = 0 ∧ mu 1001 (24 + j) = k then mu 1002 j else 0)))), (23, .int (iI (1))), (18, .int (iI (sg 503 0))), (19, .int (iI (sg 506 0))), (20, .long (lI (sg 510 0))), (24, .int (iI (turn))), (0, .ref b), (1, .ref hh), (2, .ref (adM 20 0)), (3, .ref (adM 21 0)), (4, .ref (adM 22 0)), (5, .ref (adM 23 0)), (6, .ref (adM 24 0)), (7, .ref (adM 25 0)), (8, .ref (adM 26 0)), (9, .ref (adM 27 0)), (10, .ref (adM 28 0)), (11, .ref (adM 29 0)), (12, .ref (adM 30 0)), (13, .ref (adM 31 0)), (14, .ref (adM 32 0)), (15, .ref (adM 33 0)), (16, .ref (adM 34 0)), (17, .ref (adM 35 0)), (25, .int (vx)), (26, .int (iI (what))), (27, .int (iI (k))), (28, .int (iI (8 * k))), (29, .int (iI (who))), (30, .int (iI (w))), (31, .int (iI (0))), (32, .int (iI (1 + u1)))]) hx hb dL_law_662 hl (k := 32) rfl (iI_add _ _) (by decide) rfl (fun ls hl => ?_)
          refine lv_goto (tgt := 622) hx hb dL_law_665 (by decide) ?_
          exact ih622 (j + 1) (sh + (if mu 1001 j = 0 ∧ mu 1001 (24 + j) = k then mu 1002 j else 0)) (by omega) (by rw [hsh, Int.add_assoc]; exact congrArg (fun y => 1 + u1 + y) (sum_t (f := (fun q => if mu 1001 q = 0 ∧ mu 1001 (24 + q) = k then mu 1002 q else 0)) (i := j) (x := if mu 1001 j = 0 ∧ mu 1001 (24 + j) = k then mu 1002 j else 0) hj.1 rfl rfl)) (by omega) ls (lv_sub hl [2, 3, 4, 5, 6, 7, 8, 9, 10, 11, 12, 13, 14, 15, 16, 17, 18, 19, 20, 21, 22, 23, 24, 25, 26, 27, 28, 29, 30, 31, 32, 1, 0] rfl)
        refine lv_aload_n hx hb dL_law_631 rfl (lv_at hl 8 rfl) ?_
        refine lv_iload hx hb dL_law_632 (lv_at hl 32 rfl) ?_
        refine xa_1001 (v := mu 1001 j) hx hb hK hR (by omega) rfl dL_law_634 ?_
        have g15 := ml_1001 hM0 (j)
        refine xr_if_ne (tgt := 658) hx hb dL_law_635 (by decide) (by omega) (fun yy16 => ?_) (fun yy16 => ?_)
        · skip
          refine lv_iconst (v := iI (0)) hx hb dL_law_658 rfl ?_
          exact w_topI (by first | exact (if_pos (by omega)).symm | exact (if_neg (by omega)).symm) J659
        · skip
          refine lv_aload_n hx hb dL_law_638 rfl (lv_at hl 8 rfl) ?_
          refine lv_bipush (v := iI (24)) hx hb dL_law_639 (by decide) ?_
          refine lv_iload hx hb dL_law_641 (lv_at hl 32 rfl) ?_
          refine xr_iadd hx hb dL_law_643 ?_
          refine xa_1001 (v := mu 1001 (24 + j)) hx hb hK hR (by omega) rfl dL_law_644 ?_
          have g17 := ml_1001 hM0 (24 + j)
          refine lv_iload hx hb dL_law_645 (lv_at hl 25 rfl) ?_
          refine xr_icmp_ne (tgt := 658) hx hb dL_law_647 (by decide) (by omega) (by omega) (fun yy18 => ?_) (fun yy18 => ?_)
          · skip
            refine lv_iconst (v := iI (0)) hx hb dL_law_658 rfl ?_
            exact w_topI (by first | exact (if_pos (by omega)).symm | exact (if_neg (by omega)).symm) J659
          · skip
            refine lv_aload hx hb dL_law_650 (lv_at hl 9 rfl) ?_
            refine lv_iload hx hb dL_law_652 (lv_at hl 32 rfl) ?_
            refine xa_1002 (v := mu 1002 j) hx hb hK hR (by omega) rfl dL_law_654 ?_
            have g19 := ml_1002 hM0 (j)
            refine lv_goto (tgt := 659) hx hb dL_law_655 (by decide) ?_
            exact w_topI (by first | exact (if_pos (by omega)).symm | exact (if_neg (by omega)).symm) J659
  exact loop622 _ 0 (1 + u1) (by omega) (Int.add_zero _).symm (Nat.lt_succ_self _) ls (lv_sub hl [3, 4, 5, 6, 7, 8, 9, 10, 11, 12, 13, 14, 15, 16, 17, 18, 19, 20, 21, 22, 23, 24, 25, 26, 27, 28, 29, 30, 31, 32, 2, 1, 0] rfl)
set_option maxRecDepth 100000 in
set_option maxHeartbeats 8000000 in
theorem law_t1 {p : Program} {l : Launch} {e : Env} {s : State} {m : MethodId} {below : List Frame} {meth : Method} {c : Code} {D : va_G} {cy : Nat → ClassId} {A A2 : Nat → Prop} {b L hh : Nat} {xs : Nat → Int32} {ad adM : Nat → Int → Nat} {sg mu : Nat → Int → Int} {H : Heap} {locs : List Loc} {cells slots : Nat} {Q : State → Prop} {ls : Array Slot} {turn : Int} {vx : Int32} {what k who w : Int} (E : LE p l s m meth c b L xs D cy A A2 adM) (I : LI D cy A A2 s hh ad adM sg mu H locs) (h7 : sg 702 0 ≤ 1000000) (hcl : cells + 1000 ≤ 600104) (hsl : slots + 20000 ≤ 7301314) (hwhat : what < 5) (hk : 0 ≤ k ∧ k ≤ 3) (hw : 0 ≤ w ∧ w ≤ 1) (hl : lv_has ls 37 [(23, .int (iI (1))), (18, .int (iI (sg 503 0))), (19, .int (iI (sg 506 0))), (20, .long (lI (sg 510 0))), (24, .int (iI (turn))), (0, .ref b), (1, .ref hh), (2, .ref (adM 20 0)), (3, .ref (adM 21 0)), (4, .ref (adM 22 0)), (5, .ref (adM 23 0)), (6, .ref (adM 24 0)), (7, .ref (adM 25 0)), (8, .ref (adM 26 0)), (9, .ref (adM 27 0)), (10, .ref (adM 28 0)), (11, .ref (adM 29 0)), (12, .ref (adM 30 0)), (13, .ref (adM 31 0)), (14, .ref (adM 32 0)), (15, .ref (adM 33 0)), (16, .ref (adM 34 0)), (17, .ref (adM 35 0)), (25, .int (vx)), (26, .int (iI (what))), (27, .int (iI (k))), (28, .int (iI (8 * k))), (29, .int (iI (who))), (30, .int (iI (w))), (31, .int (iI (1)))]) (kk : LK p l e s m below meth c b D cy A A2 hh adM cells slots Q sg turn) : W p l e room_1 s m #[Value.ref b] below meth c H locs cells slots Q (F0 m 552 ls []) := by
  obtain ⟨⟨hx, hb, hr, hml, hown, hts0, hX, hbl, hlocks, -⟩, hl0, hK, hXS, hXN, hA, hA1, hA2, hN12, hL⟩ := E
  obtain ⟨hC, hR, h4, hLR, hV, hG, hM, hS⟩ := I
  have hM0 := hM
  have hts : ∀ w ∈ wG, w.before #[Value.ref b] s = true := fun w hw => hts0 w (List.mem_filter.mp hw).1
  have hown : s.vm.findClass "TakinghallLaw" = some m.cls := hown
  have g503 := gr_503 hG 0
  have g506 := gr_506 hG 0
  obtain ⟨mm, hRel, hGM⟩ := id hV
  have hpl := pl_rng k
  refine lv_iload hx hb dL_law_552 (lv_at hl 29 rfl) ?_
  refine xr_if_ne (tgt := 573) hx hb dL_law_554 (by decide) (by decide) (fun _ => ?_) (fun yy1 => absurd yy1 (by decide))
  refine lv_iload hx hb dL_law_573 (lv_at hl 29 rfl) ?_
  refine lv_iconst (v := iI (1)) hx hb dL_law_575 rfl ?_
  refine xr_icmp_ne (tgt := 599) hx hb dL_law_576 (by decide) (by decide) (by decide) (fun yy2 => absurd yy2 (by decide)) (fun _ => ?_)
  refine lv_iload hx hb dL_law_579 (lv_at hl 2 rfl) ?_
  refine lv_iconst (v := iI (1)) hx hb dL_law_581 rfl ?_
  refine xr_iadd hx hb dL_law_582 ?_
  refine lv_iload hx hb dL_law_583 (lv_at hl 23 rfl) ?_
  refine lv_sipush (v := iI (256)) hx hb dL_law_585 (by decide) ?_
  refine lw_idiv hx hb (by decide) dL_law_588 ?_
  refine lv_sipush (v := iI (1200)) hx hb dL_law_589 (by decide) ?_
  refine lw_up (n := 1200) hx hb hml hown hts hK hl.1 ⟨by omega, by omega⟩ (by decide) (lv_room (Nat.le_of_ble_eq_true rfl)) dL_law_592 (fun u1 u1a u1b => ?_)
  refine xr_iadd hx hb dL_law_595 ?_
  refine lv_goto (tgt := 613) hx hb dL_law_596 (by decide) ?_
  refine lv_istore (i := 32) (lv' := [(32, .int (iI (((sg 506 0) + 1) + u1))), (23, .int (iI (1))), (18, .int (iI (sg 503 0))), (19, .int (iI (sg 506 0))), (20, .long (lI (sg 510 0))), (24, .int (iI (turn))), (0, .ref b), (1, .ref hh), (2, .ref (adM 20 0)), (3, .ref (adM 21 0)), (4, .ref (adM 22 0)), (5, .ref (adM 23 0)), (6, .ref (adM 24 0)), (7, .ref (adM 25 0)), (8, .ref (adM 26 0)), (9, .ref (adM 27 0)), (10, .ref (adM 28 0)), (11, .ref (adM 29 0)), (12, .ref (adM 30 0)), (13, .ref (adM 31 0)), (14, .ref (adM 32 0)), (15, .ref (adM 33 0)), (16, .ref (adM 34 0)), (17, .ref (adM 35 0)), (25, .int (vx)), (26, .int (iI (what))), (27, .int (iI (k))), (28, .int (iI (8 * k))), (29, .int (iI (who))), (30, .int (iI (w))), (31, .int (iI (1)))]) hx hb dL_law_613 hl (by decide) rfl (fun ls hl => ?_)
  refine lv_iload hx hb dL_law_615 (lv_at hl 0 rfl) ?_
  refine lv_istore (i := 33) (lv' := [(33, .int (iI (((sg 506 0) + 1) + u1))), (32, .int (iI (((sg 506 0) + 1) + u1))), (23, .int (iI (1))), (18, .int (iI (sg 503 0))), (19, .int (iI (sg 506 0))), (20, .long (lI (sg 510 0))), (24, .int (iI (turn))), (0, .ref b), (1, .ref hh), (2, .ref (adM 20 0)), (3, .ref (adM 21 0)), (4, .ref (adM 22 0)), (5, .ref (adM 23 0)), (6, .ref (adM 24 0)), (7, .ref (adM 25 0)), (8, .ref (adM 26 0)), (9, .ref (adM 27 0)), (10, .ref (adM 28 0)), (11, .ref (adM 29 0)), (12, .ref (adM 30 0)), (13, .ref (adM 31 0)), (14, .ref (adM 32 0)), (15, .ref (adM 33 0)), (16, .ref (adM 34 0)), (17, .ref (adM 35 0)), (25, .int (vx)), (26, .int (iI (what))), (27, .int (iI (k))), (28, .int (iI (8 * k))), (29, .int (iI (who))), (30, .int (iI (w))), (31, .int (iI (1)))]) hx hb dL_law_617 hl (by decide) rfl (fun ls hl => ?_)
  refine lv_iconst (v := iI (0)) hx hb dL_law_619 rfl ?_
  refine lv_istore (i := 34) (lv' := [(34, .int (iI (0))), (33, .int (iI (((sg 506 0) + 1) + u1))), (32, .int (iI (((sg 506 0) + 1) + u1))), (23, .int (iI (1))), (18, .int (iI (sg 503 0))), (19, .int (iI (sg 506 0))), (20, .long (lI (sg 510 0))), (24, .int (iI (turn))), (0, .ref b), (1, .ref hh), (2, .ref (adM 20 0)), (3, .ref (adM 21 0)), (4, .ref (adM 22 0)), (5, .ref (adM 23 0)), (6, .ref (adM 24 0)), (7, .ref (adM 25 0)), (8, .ref (adM 26 0)), (9, .ref (adM 27 0)), (10, .ref (adM 28 0)), (11, .ref (adM 29 0)), (12, .ref (adM 30 0)), (13, .ref (adM 31 0)), (14, .ref (adM 32 0)), (15, .ref (adM 33 0)), (16, .ref (adM 34 0)), (17, .ref (adM 35 0)), (25, .int (vx)), (26, .int (iI (what))), (27, .int (iI (k))), (28, .int (iI (8 * k))), (29, .int (iI (who))), (30, .int (iI (w))), (31, .int (iI (1)))]) hx hb dL_law_620 hl (by decide) rfl (fun ls hl => ?_)
  have loop622 : ∀ (n : Nat) (j : Int) (sh : Int), 0 ≤ j ∧ j ≤ sg 503 0 → sh = sg 506 0 + 1 + u1 + sumN (fun q => if mu 1001 q = 0 ∧ mu 1001 (24 + q) = k then mu 1002 q else 0) j.toNat → (sg 503 0 - j).toNat < n → ∀ ls : Array Slot, lv_has ls 37 [(23, .int (iI (1))), (18, .int (iI (sg 503 0))), (19, .int (iI (sg 506 0))), (20, .long (lI (sg 510 0))), (24, .int (iI (turn))), (0, .ref b), (1, .ref hh), (2, .ref (adM 20 0)), (3, .ref (adM 21 0)), (4, .ref (adM 22 0)), (5, .ref (adM 23 0)), (6, .ref (adM 24 0)), (7, .ref (adM 25 0)), (8, .ref (adM 26 0)), (9, .ref (adM 27 0)), (10, .ref (adM 28 0)), (11, .ref (adM 29 0)), (12, .ref (adM 30 0)), (13, .ref (adM 31 0)), (14, .ref (adM 32 0)), (15, .ref (adM 33 0)), (16, .ref (adM 34 0)), (17, .ref (adM 35 0)), (25, .int (vx)), (26, .int (iI (what))), (27, .int (iI (k))), (28, .int (iI (8 * k))), (29, .int (iI (who))), (30, .int (iI (w))), (31, .int (iI (1))), (32, .int (iI (sg 506 0 + 1 + u1))), (33, .int (iI (sh))), (34, .int (iI (j)))] → W p l e room_1 s m #[Value.ref b] below meth c H locs cells slots Q (F0 m 622 ls []) := by
    intro n622
    induction n622 with
    | zero =>
      intro j sh hj hsh hn622 ls hl
      exact absurd hn622 (Nat.not_lt_zero _)
    | succ n622 ih622 =>
      intro j sh hj hsh hn622 ls hl
      refine lv_iload hx hb dL_law_622 (lv_at hl 32 rfl) ?_
      refine lv_iload hx hb dL_law_624 (lv_at hl 1 rfl) ?_
      refine xr_icmp_ge (tgt := 668) hx hb dL_law_626 (by decide) (by omega) (by omega) (fun yy3 => ?_) (fun yy3 => ?_)
      · skip
        have hje : j = sg 503 0 := by omega
        rw [hje] at hsh
        rw [l_shares hG hM hLR.2.2.2.2.2.1 hk] at hsh
        have hsr := shares_rng hG (pl k)
        refine lv_iload hx hb dL_law_668 (lv_at hl 23 rfl) ?_
        refine lv_sipush (v := iI (512)) hx hb dL_law_670 (by decide) ?_
        refine lw_idiv hx hb (by decide) dL_law_673 ?_
        refine lv_bipush (v := iI (101)) hx hb dL_law_674 (by decide) ?_
        refine lw_up (n := 101) hx hb hml hown hts hK hl.1 ⟨by omega, by omega⟩ (by decide) (lv_room (Nat.le_of_ble_eq_true rfl)) dL_law_676 (fun u2 u2a u2b => ?_)
        refine lv_istore (i := 34) (lv' := [(34, .int (iI (u2))), (23, .int (iI (1))), (18, .int (iI (sg 503 0))), (19, .int (iI (sg 506 0))), (20, .long (lI (sg 510 0))), (24, .int (iI (turn))), (0, .ref b), (1, .ref hh), (2, .ref (adM 20 0)), (3, .ref (adM 21 0)), (4, .ref (adM 22 0)), (5, .ref (adM 23 0)), (6, .ref (adM 24 0)), (7, .ref (adM 25 0)), (8, .ref (adM 26 0)), (9, .ref (adM 27 0)), (10, .ref (adM 28 0)), (11, .ref (adM 29 0)), (12, .ref (adM 30 0)), (13, .ref (adM 31 0)), (14, .ref (adM 32 0)), (15, .ref (adM 33 0)), (16, .ref (adM 34 0)), (17, .ref (adM 35 0)), (25, .int (vx)), (26, .int (iI (what))), (27, .int (iI (k))), (28, .int (iI (8 * k))), (29, .int (iI (who))), (30, .int (iI (w))), (31, .int (iI (1))), (32, .int (iI (sg 506 0 + 1 + u1))), (33, .int (iI (sh)))]) hx hb dL_law_679 hl (by decide) rfl (fun ls hl => ?_)
        have J723 : W p l e room_1 s m #[Value.ref b] below meth c H locs cells slots Q (F0 m 723 ls [.int (iI (if sg 503 0 = 24 ∨ mu 1000 (8 * k + 2) ≠ 0 then -1003 else sg 503 0))]) := by
          rcases (show ((sg 503 0 = 24 ∨ mu 1000 (8 * k + 2) ≠ 0)) ∨ (¬ (sg 503 0 = 24 ∨ mu 1000 (8 * k + 2) ≠ 0)) by omega) with cc4 | cc4
          · skip
            rw [if_pos (by omega)]
            refine lv_istore (i := 35) (lv' := [(35, .int (iI (-1003))), (34, .int (iI (u2))), (23, .int (iI (1))), (18, .int (iI (sg 503 0))), (19, .int (iI (sg 506 0))), (20, .long (lI (sg 510 0))), (24, .int (iI (turn))), (0, .ref b), (1, .ref hh), (2, .ref (adM 20 0)), (3, .ref (adM 21 0)), (4, .ref (adM 22 0)), (5, .ref (adM 23 0)), (6, .ref (adM 24 0)), (7, .ref (adM 25 0)), (8, .ref (adM 26 0)), (9, .ref (adM 27 0)), (10, .ref (adM 28 0)), (11, .ref (adM 29 0)), (12, .ref (adM 30 0)), (13, .ref (adM 31 0)), (14, .ref (adM 32 0)), (15, .ref (adM 33 0)), (16, .ref (adM 34 0)), (17, .ref (adM 35 0)), (25, .int (vx)), (26, .int (iI (what))), (27, .int (iI (k))), (28, .int (iI (8 * k))), (29, .int (iI (who))), (30, .int (iI (w))), (31, .int (iI (1))), (32, .int (iI (sg 506 0 + 1 + u1))), (33, .int (iI (sh)))]) hx hb dL_law_723 hl (by decide) rfl (fun ls hl => ?_)
            refine lv_aload_n hx hb dL_law_725 rfl (lv_at hl 8 rfl) ?_
            refine lv_iload hx hb dL_law_726 (lv_at hl 31 rfl) ?_
            refine lv_iload hx hb dL_law_728 (lv_at hl 27 rfl) ?_
            refine lw_plot hx hb hml hown hts hK hl.1 ⟨by omega, by omega⟩ (by omega) (lv_room (Nat.le_of_ble_eq_true rfl)) dL_law_730 ?_
            refine lv_iload hx hb dL_law_733 (lv_at hl 25 rfl) ?_
            refine lv_sipush (v := iI (1024)) hx hb dL_law_735 (by decide) ?_
            refine lw_idiv hx hb (by decide) dL_law_738 ?_
            refine lv_bipush (v := iI (10)) hx hb dL_law_739 (by decide) ?_
            refine lw_up (n := 10) hx hb hml hown hts hK hl.1 ⟨by omega, by omega⟩ (by decide) (lv_room (Nat.le_of_ble_eq_true rfl)) dL_law_741 (fun u3 u3a u3b => ?_)
            refine lv_iload hx hb dL_law_744 (lv_at hl 32 rfl) ?_
            refine lv_iload hx hb dL_law_746 (lv_at hl 1 rfl) ?_
            have hE := a_lease hLR hG (k := k) (u := u3) (ms := sg 506 0 + 1 + u1) (pr := u2) hk (by omega) (by omega) (by omega)
            rw [if_pos (by omega)] at hE
            refine lw_act (f := 8) (lo := 143) (mc := 1) (ms := 15) (E := leaseE sg (pl k) u3 (sg 506 0 + 1 + u1) u2) (T := (tellT sg 1 (pAt (pl k)) u3 (sg 506 0 + 1 + u1) u2)) hx hb hml hown hts hK hXS hXN hS hA1 hN12 hG hR h4 (c_act_1 hC hG hl0 (lw_hA hA hR) (pl k) u3 (sg 506 0 + 1 + u1) u2 (by omega) (by omega) (by omega) (by omega)) ⟨by decide, by decide⟩ ⟨by omega, by omega⟩ hl.1 (Nat.le_of_ble_eq_true rfl) dL_law_748 (fun ad H locs h4 hC hR hS => ?_)
            rw [if_neg (by rw [hE]; decide)] at hC
            rw [aR_n (by rw [hE]; decide), hE]
            refine lv_iload hx hb dL_law_751 (lv_at hl 0 rfl) ?_
            refine xr_i2l hx hb dL_law_753 (by omega) ?_
            refine lw_leq hx hb dL_law_754 (by first | rfl | omega | (rfl)) ?_
            refine xr_if_ne (tgt := 762) hx hb dL_law_755 (by decide) (by decide) (fun yy5 => absurd yy5 (by decide)) (fun _ => ?_)
            refine lv_iconst (v := iI (1)) hx hb dL_law_758 rfl ?_
            refine lv_goto (tgt := 763) hx hb dL_law_759 (by decide) ?_
            refine lv_istore (i := 23) (lv' := [(23, .int (iI (1))), (35, .int (iI (-1003))), (34, .int (iI (u2))), (18, .int (iI (sg 503 0))), (19, .int (iI (sg 506 0))), (20, .long (lI (sg 510 0))), (24, .int (iI (turn))), (0, .ref b), (1, .ref hh), (2, .ref (adM 20 0)), (3, .ref (adM 21 0)), (4, .ref (adM 22 0)), (5, .ref (adM 23 0)), (6, .ref (adM 24 0)), (7, .ref (adM 25 0)), (8, .ref (adM 26 0)), (9, .ref (adM 27 0)), (10, .ref (adM 28 0)), (11, .ref (adM 29 0)), (12, .ref (adM 30 0)), (13, .ref (adM 31 0)), (14, .ref (adM 32 0)), (15, .ref (adM 33 0)), (16, .ref (adM 34 0)), (17, .ref (adM 35 0)), (25, .int (vx)), (26, .int (iI (what))), (27, .int (iI (k))), (28, .int (iI (8 * k))), (29, .int (iI (who))), (30, .int (iI (w))), (31, .int (iI (1))), (32, .int (iI (sg 506 0 + 1 + u1))), (33, .int (iI (sh)))]) hx hb dL_law_763 hl (by decide) rfl (fun ls hl => ?_)
            refine lv_iload hx hb dL_law_765 (lv_at hl 1 rfl) ?_
            refine xr_if_lt (tgt := 821) hx hb dL_law_767 (by decide) (by decide) (fun _ => ?_) (fun yy6 => absurd yy6 (by decide))
            refine lv_goto (tgt := 3115) hx hb dL_law_821 (by decide) ?_
            refine W.widen (k := cells + 3) (n := slots + 45) (by omega) (by omega) ?_
            exact kk ad sg mu H locs ls _ _ _ ⟨hC, hR, h4, hLR, hV, hG, hM, hS⟩ (by omega) rfl rfl rfl (lv_sub hl [0, 3, 4, 5, 6, 7, 8, 9, 10, 11, 12, 13, 14, 15, 16, 17, 18, 19, 20, 21, 22, 23, 24] rfl)
          · skip
            rw [if_neg (by omega)]
            refine lv_istore (i := 35) (lv' := [(35, .int (iI (sg 503 0))), (34, .int (iI (u2))), (23, .int (iI (1))), (18, .int (iI (sg 503 0))), (19, .int (iI (sg 506 0))), (20, .long (lI (sg 510 0))), (24, .int (iI (turn))), (0, .ref b), (1, .ref hh), (2, .ref (adM 20 0)), (3, .ref (adM 21 0)), (4, .ref (adM 22 0)), (5, .ref (adM 23 0)), (6, .ref (adM 24 0)), (7, .ref (adM 25 0)), (8, .ref (adM 26 0)), (9, .ref (adM 27 0)), (10, .ref (adM 28 0)), (11, .ref (adM 29 0)), (12, .ref (adM 30 0)), (13, .ref (adM 31 0)), (14, .ref (adM 32 0)), (15, .ref (adM 33 0)), (16, .ref (adM 34 0)), (17, .ref (adM 35 0)), (25, .int (vx)), (26, .int (iI (what))), (27, .int (iI (k))), (28, .int (iI (8 * k))), (29, .int (iI (who))), (30, .int (iI (w))), (31, .int (iI (1))), (32, .int (iI (sg 506 0 + 1 + u1))), (33, .int (iI (sh)))]) hx hb dL_law_723 hl (by decide) rfl (fun ls hl => ?_)
            refine lv_aload_n hx hb dL_law_725 rfl (lv_at hl 8 rfl) ?_
            refine lv_iload hx hb dL_law_726 (lv_at hl 31 rfl) ?_
            refine lv_iload hx hb dL_law_728 (lv_at hl 27 rfl) ?_
            refine lw_plot hx hb hml hown hts hK hl.1 ⟨by omega, by omega⟩ (by omega) (lv_room (Nat.le_of_ble_eq_true rfl)) dL_law_730 ?_
            refine lv_iload hx hb dL_law_733 (lv_at hl 25 rfl) ?_
            refine lv_sipush (v := iI (1024)) hx hb dL_law_735 (by decide) ?_
            refine lw_idiv hx hb (by decide) dL_law_738 ?_
            refine lv_bipush (v := iI (10)) hx hb dL_law_739 (by decide) ?_
            refine lw_up (n := 10) hx hb hml hown hts hK hl.1 ⟨by omega, by omega⟩ (by decide) (lv_room (Nat.le_of_ble_eq_true rfl)) dL_law_741 (fun u3 u3a u3b => ?_)
            refine lv_iload hx hb dL_law_744 (lv_at hl 32 rfl) ?_
            refine lv_iload hx hb dL_law_746 (lv_at hl 1 rfl) ?_
            have hE := a_lease hLR hG (k := k) (u := u3) (ms := sg 506 0 + 1 + u1) (pr := u2) hk (by omega) (by omega) (by omega)
            rw [if_neg (by omega)] at hE
            have h203 : sg 203 (pl k) = 0 := by have z := (hLR.2.1 k hk.1 hk.2).1; omega
            refine lw_act (f := 8) (lo := 143) (mc := 1) (ms := 15) (E := leaseE sg (pl k) u3 (sg 506 0 + 1 + u1) u2) (T := (tellT sg 1 (pAt (pl k)) u3 (sg 506 0 + 1 + u1) u2)) hx hb hml hown hts hK hXS hXN hS hA1 hN12 hG hR h4 (c_act_1 hC hG hl0 (lw_hA hA hR) (pl k) u3 (sg 506 0 + 1 + u1) u2 (by omega) (by omega) (by omega) (by omega)) ⟨by decide, by decide⟩ ⟨by omega, by omega⟩ hl.1 (Nat.le_of_ble_eq_true rfl) dL_law_748 (fun ad H locs h4 hC hR hS => ?_)
            rw [if_pos hE] at hC
            rw [aR_0 hE]
            rw [pl_pAt] at hC
            have hz := inv_of (s_lease hRel hG hGM (pl k) u3 (sg 506 0 + 1 + u1) u2) hE
            rw [pl_pAt] at hz
            have hLR := o_tell (kd := 1) (u := u3) (ms := sg 506 0 + 1 + u1) (pr := u2) (pr' := u2) hLR hG hV hM0 hk h203 (by omega) (fun z => absurd z (by decide)) (fun _ => rfl)
            refine lv_iload hx hb dL_law_751 (lv_at hl 0 rfl) ?_
            refine xr_i2l hx hb dL_law_753 (by omega) ?_
            refine lw_leq hx hb dL_law_754 (by first | rfl | omega | (rfl)) ?_
            refine xr_if_ne (tgt := 762) hx hb dL_law_755 (by decide) (by decide) (fun yy7 => absurd yy7 (by decide)) (fun _ => ?_)
            refine lv_iconst (v := iI (1)) hx hb dL_law_758 rfl ?_
            refine lv_goto (tgt := 763) hx hb dL_law_759 (by decide) ?_
            refine lv_istore (i := 23) (lv' := [(23, .int (iI (1))), (35, .int (iI (sg 503 0))), (34, .int (iI (u2))), (18, .int (iI (sg 503 0))), (19, .int (iI (sg 506 0))), (20, .long (lI (sg 510 0))), (24, .int (iI (turn))), (0, .ref b), (1, .ref hh), (2, .ref (adM 20 0)), (3, .ref (adM 21 0)), (4, .ref (adM 22 0)), (5, .ref (adM 23 0)), (6, .ref (adM 24 0)), (7, .ref (adM 25 0)), (8, .ref (adM 26 0)), (9, .ref (adM 27 0)), (10, .ref (adM 28 0)), (11, .ref (adM 29 0)), (12, .ref (adM 30 0)), (13, .ref (adM 31 0)), (14, .ref (adM 32 0)), (15, .ref (adM 33 0)), (16, .ref (adM 34 0)), (17, .ref (adM 35 0)), (25, .int (vx)), (26, .int (iI (what))), (27, .int (iI (k))), (28, .int (iI (8 * k))), (29, .int (iI (who))), (30, .int (iI (w))), (31, .int (iI (1))), (32, .int (iI (sg 506 0 + 1 + u1))), (33, .int (iI (sh)))]) hx hb dL_law_763 hl (by decide) rfl (fun ls hl => ?_)
            refine lv_iload hx hb dL_law_765 (lv_at hl 1 rfl) ?_
            refine xr_if_lt (tgt := 821) hx hb dL_law_767 (by decide) (by omega) (fun yy8 => absurd yy8 (by omega)) (fun yy8 => ?_)
            refine lv_aload_n hx hb dL_law_770 rfl (lv_at hl 10 rfl) ?_
            refine lv_iload hx hb dL_law_771 (lv_at hl 3 rfl) ?_
            refine lv_iload hx hb dL_law_773 (lv_at hl 31 rfl) ?_
            refine ys_1001 (v := 1) hx hb hK hC hR hA2 hA1 hN12 hS (by omega) dL_law_775 (fun H locs hC hR hS => ?_)
            have hM := gl_1001 hM (sg 503 0) (v := 1) (by omega)
            refine lv_aload_n hx hb dL_law_776 rfl (lv_at hl 10 rfl) ?_
            refine lv_bipush (v := iI (24)) hx hb dL_law_777 (by decide) ?_
            refine lv_iload hx hb dL_law_779 (lv_at hl 3 rfl) ?_
            refine xr_iadd hx hb dL_law_781 ?_
            refine lv_iload hx hb dL_law_782 (lv_at hl 27 rfl) ?_
            refine ys_1001 (v := k) hx hb hK hC hR hA2 hA1 hN12 hS (by omega) dL_law_784 (fun H locs hC hR hS => ?_)
            have hM := gl_1001 hM (24 + (sg 503 0)) (v := k) (by omega)
            refine lv_aload hx hb dL_law_785 (lv_at hl 11 rfl) ?_
            refine lv_iload hx hb dL_law_787 (lv_at hl 3 rfl) ?_
            refine lv_iload hx hb dL_law_789 (lv_at hl 32 rfl) ?_
            refine ys_1002 (v := sg 506 0 + 1 + u1) hx hb hK hC hR hA2 hA1 hN12 hS (by omega) dL_law_791 (fun H locs hC hR hS => ?_)
            have hM := gl_1002 hM (sg 503 0) (v := sg 506 0 + 1 + u1) (by omega)
            refine lv_aload hx hb dL_law_792 (lv_at hl 12 rfl) ?_
            refine lv_iload hx hb dL_law_794 (lv_at hl 3 rfl) ?_
            refine lv_iload hx hb dL_law_796 (lv_at hl 4 rfl) ?_
            refine ys_1003 (v := sg 506 0) hx hb hK hC hR hA2 hA1 hN12 hS (by omega) dL_law_798 (fun H locs hC hR hS => ?_)
            have hM := gl_1003 hM (sg 503 0) (v := sg 506 0) (by omega)
            refine lv_aload hx hb dL_law_799 (lv_at hl 13 rfl) ?_
            refine lv_iload hx hb dL_law_801 (lv_at hl 3 rfl) ?_
            refine lv_iconst (v := iI (-1)) hx hb dL_law_803 rfl ?_
            refine ys_1004 (v := -1) hx hb hK hC hR hA2 hA1 hN12 hS (by omega) dL_law_804 (fun H locs hC hR hS => ?_)
            have hM := gl_1004 hM (sg 503 0) (v := -1) (by omega)
            refine lv_aload hx hb dL_law_805 (lv_at hl 15 rfl) ?_
            refine lv_iload hx hb dL_law_807 (lv_at hl 3 rfl) ?_
            refine lv_iload hx hb dL_law_809 (lv_at hl 2 rfl) ?_
            refine ys_1006 (v := u2) hx hb hK hC hR hA2 hA1 hN12 hS (by omega) dL_law_811 (fun H locs hC hR hS => ?_)
            have hM := gl_1006 hM (sg 503 0) (v := u2) (by omega)
            refine lv_aload hx hb dL_law_812 (lv_at hl 18 rfl) ?_
            refine lv_iload hx hb dL_law_814 (lv_at hl 3 rfl) ?_
            refine lv_iconst (v := iI (-1)) hx hb dL_law_816 rfl ?_
            refine ys_1009 (v := -1) hx hb hK hC hR hA2 hA1 hN12 hS (by omega) dL_law_817 (fun H locs hC hR hS => ?_)
            have hM := gl_1009 hM (sg 503 0) (v := -1) (by omega)
            refine lv_iinc (v := iI ((sg 503 0) + 1)) (lv' := [(18, .int (iI ((sg 503 0) + 1))), (23, .int (iI (1))), (35, .int (iI (sg 503 0))), (34, .int (iI (u2))), (19, .int (iI (sg 506 0))), (20, .long (lI (sg 510 0))), (24, .int (iI (turn))), (0, .ref b), (1, .ref hh), (2, .ref (adM 20 0)), (3, .ref (adM 21 0)), (4, .ref (adM 22 0)), (5, .ref (adM 23 0)), (6, .ref (adM 24 0)), (7, .ref (adM 25 0)), (8, .ref (adM 26 0)), (9, .ref (adM 27 0)), (10, .ref (adM 28 0)), (11, .ref (adM 29 0)), (12, .ref (adM 30 0)), (13, .ref (adM 31 0)), (14, .ref (adM 32 0)), (15, .ref (adM 33 0)), (16, .ref (adM 34 0)), (17, .ref (adM 35 0)), (25, .int (vx)), (26, .int (iI (what))), (27, .int (iI (k))), (28, .int (iI (8 * k))), (29, .int (iI (who))), (30, .int (iI (w))), (31, .int (iI (1))), (32, .int (iI (sg 506 0 + 1 + u1))), (33, .int (iI (sh)))]) hx hb dL_law_818 hl (k := 3) rfl (iI_add _ _) (by decide) rfl (fun ls hl => ?_)
            refine lv_goto (tgt := 3115) hx hb dL_law_821 (by decide) ?_
            refine W.widen (k := cells + 3) (n := slots + 45) (by omega) (by omega) ?_
            exact kk ad ((tellT sg 1 (pl k) u3 (sg 506 0 + 1 + u1) u2)) (st (st (st (st (st (st (st mu 1001 (sg 503 0) (1)) 1001 (24 + (sg 503 0)) (k)) 1002 (sg 503 0) (sg 506 0 + 1 + u1)) 1003 (sg 503 0) (sg 506 0)) 1004 (sg 503 0) (-1)) 1006 (sg 503 0) (u2)) 1009 (sg 503 0) (-1)) H locs ls _ _ _ ⟨hC, hR, h4, hLR, hz.1, hz.2, hM, hS⟩ (by rw [te_f (by decide) (by decide) (by decide) (by decide)]; omega) te_503 (congrFun (te_f (by decide) (by decide) (by decide) (by decide)) 0) (congrFun (te_f (by decide) (by decide) (by decide) (by decide)) 0) (lv_sub hl [1, 0, 4, 5, 6, 7, 8, 9, 10, 11, 12, 13, 14, 15, 16, 17, 18, 19, 20, 21, 22, 23, 24] rfl)
        refine lv_iload hx hb dL_law_681 (lv_at hl 30 rfl) ?_
        refine xr_if_ne (tgt := 699) hx hb dL_law_683 (by decide) (by decide) (fun _ => ?_) (fun yy9 => absurd yy9 (by decide))
        refine lv_iload hx hb dL_law_699 (lv_at hl 2 rfl) ?_
        refine lv_bipush (v := iI (24)) hx hb dL_law_701 (by decide) ?_
        refine xr_icmp_eq (tgt := 715) hx hb dL_law_703 (by decide) (by omega) (by omega) (fun yy10 => ?_) (fun yy10 => ?_)
        · skip
          refine lv_sipush (v := iI (-1003)) hx hb dL_law_715 (by decide) ?_
          refine lv_goto (tgt := 723) hx hb dL_law_718 (by decide) ?_
          exact w_topI (by first | exact (if_pos (by omega)).symm | exact (if_neg (by omega)).symm | (rw [if_neg (by omega)]; first | exact (if_pos (by omega)).symm | exact (if_neg (by omega)).symm)) J723
        · skip
          refine lv_aload_n hx hb dL_law_706 rfl (lv_at hl 8 rfl) ?_
          refine lv_iload hx hb dL_law_707 (lv_at hl 27 rfl) ?_
          refine lv_iconst (v := iI (2)) hx hb dL_law_709 rfl ?_
          refine xr_iadd hx hb dL_law_710 ?_
          refine xa_1000 (v := mu 1000 ((8 * k) + 2)) hx hb hK hR (by omega) rfl dL_law_711 ?_
          have g11 := ml_1000 hM0 ((8 * k) + 2)
          refine xr_if_eq (tgt := 721) hx hb dL_law_712 (by decide) (by omega) (fun yy12 => ?_) (fun yy12 => ?_)
          · skip
            refine lv_iload hx hb dL_law_721 (lv_at hl 2 rfl) ?_
            exact w_topI (by first | exact (if_pos (by omega)).symm | exact (if_neg (by omega)).symm | (rw [if_neg (by omega)]; first | exact (if_pos (by omega)).symm | exact (if_neg (by omega)).symm)) J723
          · skip
            refine lv_sipush (v := iI (-1003)) hx hb dL_law_715 (by decide) ?_
            refine lv_goto (tgt := 723) hx hb dL_law_718 (by decide) ?_
            exact w_topI (by first | exact (if_pos (by omega)).symm | exact (if_neg (by omega)).symm | (rw [if_neg (by omega)]; first | exact (if_pos (by omega)).symm | exact (if_neg (by omega)).symm)) J723
      · skip
        refine lv_iload hx hb dL_law_629 (lv_at hl 31 rfl) ?_
        have J659 : W p l e room_1 s m #[Value.ref b] below meth c H locs cells slots Q (F0 m 659 ls [.int (iI (if mu 1001 j = 0 ∧ mu 1001 (24 + j) = k then mu 1002 j else 0)), .int (iI (sh))]) := by
          refine xr_iadd hx hb dL_law_659 ?_
          refine lv_istore (i := 33) (lv' := [(33, .int (iI (sh + (if mu 1001 j = 0 ∧ mu 1001 (24 + j) = k then mu 1002 j else 0)))), (23, .int (iI (1))), (18, .int (iI (sg 503 0))), (19, .int (iI (sg 506 0))), (20, .long (lI (sg 510 0))), (24, .int (iI (turn))), (0, .ref b), (1, .ref hh), (2, .ref (adM 20 0)), (3, .ref (adM 21 0)), (4, .ref (adM 22 0)), (5, .ref (adM 23 0)), (6, .ref (adM 24 0)), (7, .ref (adM 25 0)), (8, .ref (adM 26 0)), (9, .ref (adM 27 0)), (10, .ref (adM 28 0)), (11, .ref (adM 29 0)), (12, .ref (adM 30 0)), (13, .ref (adM 31 0)), (14, .ref (adM 32 0)), (15, .ref (adM 33 0)), (16, .ref (adM 34 0)), (17, .ref (adM 35 0)), (25, .int (vx)), (26, .int (iI (what))), (27, .int (iI (k))), (28, .int (iI (8 * k))), (29, .int (iI (who))), (30, .int (iI (w))), (31, .int (iI (1))), (32, .int (iI (sg 506 0 + 1 + u1))), (34, .int (iI (j)))]) hx hb dL_law_660 hl (by decide) rfl (fun ls hl => ?_)
          refine lv_iinc (v := iI (j + 1)) (lv' := [(34, .int (iI (j + 1))), (33, .int (iI (sh + (if mu 1001 j = 0 ∧ mu 1001 (24 + j) = k then mu 1002 j else 0)))), (23, .int (iI (1))), (18, .int (iI (sg 503 0))), (19, .int (iI (sg 506 0))), (20, .long (lI (sg 510 0))), (24, .int (iI (turn))), (0, .ref b), (1, .ref hh), (2, .ref (adM 20 0)), (3, .ref (adM 21 0)), (4, .ref (adM 22 0)), (5, .ref (adM 23 0)), (6, .ref (adM 24 0)), (7, .ref (adM 25 0)), (8, .ref (adM 26 0)), (9, .ref (adM 27 0)), (10, .ref (adM 28 0)), (11, .ref (adM 29 0)), (12, .ref (adM 30 0)), (13, .ref (adM 31 0)), (14, .ref (adM 32 0)), (15, .ref (adM 33 0)), (16, .ref (adM 34 0)), (17, .ref (adM 35 0)), (25, .int (vx)), (26, .int (iI (what))), (27, .int (iI (k))), (28, .int (iI (8 * k))), (29, .int (iI (who))), (30, .int (iI (w))), (31, .int (iI (1))), (32, .int (iI (sg 506 0 + 1 + u1)))]) hx hb dL_law_662 hl (k := 32) rfl (iI_add _ _) (by decide) rfl (fun ls hl => ?_)
          refine lv_goto (tgt := 622) hx hb dL_law_665 (by decide) ?_
          exact ih622 (j + 1) (sh + (if mu 1001 j = 0 ∧ mu 1001 (24 + j) = k then mu 1002 j else 0)) (by omega) (by rw [hsh, Int.add_assoc]; exact congrArg (fun y => sg 506 0 + 1 + u1 + y) (sum_t (f := (fun q => if mu 1001 q = 0 ∧ mu 1001 (24 + q) = k then mu 1002 q else 0)) (i := j) (x := if mu 1001 j = 0 ∧ mu 1001 (24 + j) = k then mu 1002 j else 0) hj.1 rfl rfl)) (by omega) ls (lv_sub hl [2, 3, 4, 5, 6, 7, 8, 9, 10, 11, 12, 13, 14, 15, 16, 17, 18, 19, 20, 21, 22, 23, 24, 25, 26, 27, 28, 29, 30, 31, 32, 1, 0] rfl)
        refine lv_aload_n hx hb dL_law_631 rfl (lv_at hl 8 rfl) ?_
        refine lv_iload hx hb dL_law_632 (lv_at hl 32 rfl) ?_
        refine xa_1001 (v := mu 1001 j) hx hb hK hR (by omega) rfl dL_law_634 ?_
        have g13 := ml_1001 hM0 (j)
        refine xr_if_ne (tgt := 658) hx hb dL_law_635 (by decide) (by omega) (fun yy14 => ?_) (fun yy14 => ?_)
        · skip
          refine lv_iconst (v := iI (0)) hx hb dL_law_658 rfl ?_
          exact w_topI (by first | exact (if_pos (by omega)).symm | exact (if_neg (by omega)).symm) J659
        · skip
          refine lv_aload_n hx hb dL_law_638 rfl (lv_at hl 8 rfl) ?_
          refine lv_bipush (v := iI (24)) hx hb dL_law_639 (by decide) ?_
          refine lv_iload hx hb dL_law_641 (lv_at hl 32 rfl) ?_
          refine xr_iadd hx hb dL_law_643 ?_
          refine xa_1001 (v := mu 1001 (24 + j)) hx hb hK hR (by omega) rfl dL_law_644 ?_
          have g15 := ml_1001 hM0 (24 + j)
          refine lv_iload hx hb dL_law_645 (lv_at hl 25 rfl) ?_
          refine xr_icmp_ne (tgt := 658) hx hb dL_law_647 (by decide) (by omega) (by omega) (fun yy16 => ?_) (fun yy16 => ?_)
          · skip
            refine lv_iconst (v := iI (0)) hx hb dL_law_658 rfl ?_
            exact w_topI (by first | exact (if_pos (by omega)).symm | exact (if_neg (by omega)).symm) J659
          · skip
            refine lv_aload hx hb dL_law_650 (lv_at hl 9 rfl) ?_
            refine lv_iload hx hb dL_law_652 (lv_at hl 32 rfl) ?_
            refine xa_1002 (v := mu 1002 j) hx hb hK hR (by omega) rfl dL_law_654 ?_
            have g17 := ml_1002 hM0 (j)
            refine lv_goto (tgt := 659) hx hb dL_law_655 (by decide) ?_
            exact w_topI (by first | exact (if_pos (by omega)).symm | exact (if_neg (by omega)).symm) J659
  exact loop622 _ 0 (sg 506 0 + 1 + u1) (by omega) (Int.add_zero _).symm (Nat.lt_succ_self _) ls (lv_sub hl [3, 4, 5, 6, 7, 8, 9, 10, 11, 12, 13, 14, 15, 16, 17, 18, 19, 20, 21, 22, 23, 24, 25, 26, 27, 28, 29, 30, 31, 32, 2, 1, 0] rfl)
set_option maxRecDepth 100000 in
set_option maxHeartbeats 8000000 in
theorem law_t2 {p : Program} {l : Launch} {e : Env} {s : State} {m : MethodId} {below : List Frame} {meth : Method} {c : Code} {D : va_G} {cy : Nat → ClassId} {A A2 : Nat → Prop} {b L hh : Nat} {xs : Nat → Int32} {ad adM : Nat → Int → Nat} {sg mu : Nat → Int → Int} {H : Heap} {locs : List Loc} {cells slots : Nat} {Q : State → Prop} {ls : Array Slot} {turn : Int} {vx : Int32} {what k who w : Int} (E : LE p l s m meth c b L xs D cy A A2 adM) (I : LI D cy A A2 s hh ad adM sg mu H locs) (h7 : sg 702 0 ≤ 1000000) (hcl : cells + 1000 ≤ 600104) (hsl : slots + 20000 ≤ 7301314) (hwhat : what < 5) (hk : 0 ≤ k ∧ k ≤ 3) (hw : 0 ≤ w ∧ w ≤ 1) (hl : lv_has ls 37 [(23, .int (iI (1))), (18, .int (iI (sg 503 0))), (19, .int (iI (sg 506 0))), (20, .long (lI (sg 510 0))), (24, .int (iI (turn))), (0, .ref b), (1, .ref hh), (2, .ref (adM 20 0)), (3, .ref (adM 21 0)), (4, .ref (adM 22 0)), (5, .ref (adM 23 0)), (6, .ref (adM 24 0)), (7, .ref (adM 25 0)), (8, .ref (adM 26 0)), (9, .ref (adM 27 0)), (10, .ref (adM 28 0)), (11, .ref (adM 29 0)), (12, .ref (adM 30 0)), (13, .ref (adM 31 0)), (14, .ref (adM 32 0)), (15, .ref (adM 33 0)), (16, .ref (adM 34 0)), (17, .ref (adM 35 0)), (25, .int (vx)), (26, .int (iI (what))), (27, .int (iI (k))), (28, .int (iI (8 * k))), (29, .int (iI (who))), (30, .int (iI (w))), (31, .int (iI (2)))]) (kk : LK p l e s m below meth c b D cy A A2 hh adM cells slots Q sg turn) : W p l e room_1 s m #[Value.ref b] below meth c H locs cells slots Q (F0 m 552 ls []) := by
  obtain ⟨⟨hx, hb, hr, hml, hown, hts0, hX, hbl, hlocks, -⟩, hl0, hK, hXS, hXN, hA, hA1, hA2, hN12, hL⟩ := E
  obtain ⟨hC, hR, h4, hLR, hV, hG, hM, hS⟩ := I
  have hM0 := hM
  have hts : ∀ w ∈ wG, w.before #[Value.ref b] s = true := fun w hw => hts0 w (List.mem_filter.mp hw).1
  have hown : s.vm.findClass "TakinghallLaw" = some m.cls := hown
  have g503 := gr_503 hG 0
  have g506 := gr_506 hG 0
  obtain ⟨mm, hRel, hGM⟩ := id hV
  have hpl := pl_rng k
  refine lv_iload hx hb dL_law_552 (lv_at hl 29 rfl) ?_
  refine xr_if_ne (tgt := 573) hx hb dL_law_554 (by decide) (by decide) (fun _ => ?_) (fun yy1 => absurd yy1 (by decide))
  refine lv_iload hx hb dL_law_573 (lv_at hl 29 rfl) ?_
  refine lv_iconst (v := iI (1)) hx hb dL_law_575 rfl ?_
  refine xr_icmp_ne (tgt := 599) hx hb dL_law_576 (by decide) (by decide) (by decide) (fun _ => ?_) (fun yy2 => absurd yy2 (by decide))
  refine lv_iconst (v := iI (1)) hx hb dL_law_599 rfl ?_
  refine lv_iload hx hb dL_law_600 (lv_at hl 23 rfl) ?_
  refine lv_sipush (v := iI (256)) hx hb dL_law_602 (by decide) ?_
  refine lw_idiv hx hb (by decide) dL_law_605 ?_
  refine lv_sipush (v := iI (20000)) hx hb dL_law_606 (by decide) ?_
  refine lw_up (n := 20000) hx hb hml hown hts hK hl.1 ⟨by omega, by omega⟩ (by decide) (lv_room (Nat.le_of_ble_eq_true rfl)) dL_law_609 (fun u1 u1a u1b => ?_)
  refine xr_iadd hx hb dL_law_612 ?_
  refine lv_istore (i := 32) (lv' := [(32, .int (iI (1 + u1))), (23, .int (iI (1))), (18, .int (iI (sg 503 0))), (19, .int (iI (sg 506 0))), (20, .long (lI (sg 510 0))), (24, .int (iI (turn))), (0, .ref b), (1, .ref hh), (2, .ref (adM 20 0)), (3, .ref (adM 21 0)), (4, .ref (adM 22 0)), (5, .ref (adM 23 0)), (6, .ref (adM 24 0)), (7, .ref (adM 25 0)), (8, .ref (adM 26 0)), (9, .ref (adM 27 0)), (10, .ref (adM 28 0)), (11, .ref (adM 29 0)), (12, .ref (adM 30 0)), (13, .ref (adM 31 0)), (14, .ref (adM 32 0)), (15, .ref (adM 33 0)), (16, .ref (adM 34 0)), (17, .ref (adM 35 0)), (25, .int (vx)), (26, .int (iI (what))), (27, .int (iI (k))), (28, .int (iI (8 * k))), (29, .int (iI (who))), (30, .int (iI (w))), (31, .int (iI (2)))]) hx hb dL_law_613 hl (by decide) rfl (fun ls hl => ?_)
  refine lv_iload hx hb dL_law_615 (lv_at hl 0 rfl) ?_
  refine lv_istore (i := 33) (lv' := [(33, .int (iI (1 + u1))), (32, .int (iI (1 + u1))), (23, .int (iI (1))), (18, .int (iI (sg 503 0))), (19, .int (iI (sg 506 0))), (20, .long (lI (sg 510 0))), (24, .int (iI (turn))), (0, .ref b), (1, .ref hh), (2, .ref (adM 20 0)), (3, .ref (adM 21 0)), (4, .ref (adM 22 0)), (5, .ref (adM 23 0)), (6, .ref (adM 24 0)), (7, .ref (adM 25 0)), (8, .ref (adM 26 0)), (9, .ref (adM 27 0)), (10, .ref (adM 28 0)), (11, .ref (adM 29 0)), (12, .ref (adM 30 0)), (13, .ref (adM 31 0)), (14, .ref (adM 32 0)), (15, .ref (adM 33 0)), (16, .ref (adM 34 0)), (17, .ref (adM 35 0)), (25, .int (vx)), (26, .int (iI (what))), (27, .int (iI (k))), (28, .int (iI (8 * k))), (29, .int (iI (who))), (30, .int (iI (w))), (31, .int (iI (2)))]) hx hb dL_law_617 hl (by decide) rfl (fun ls hl => ?_)
  refine lv_iconst (v := iI (0)) hx hb dL_law_619 rfl ?_
  refine lv_istore (i := 34) (lv' := [(34, .int (iI (0))), (33, .int (iI (1 + u1))), (32, .int (iI (1 + u1))), (23, .int (iI (1))), (18, .int (iI (sg 503 0))), (19, .int (iI (sg 506 0))), (20, .long (lI (sg 510 0))), (24, .int (iI (turn))), (0, .ref b), (1, .ref hh), (2, .ref (adM 20 0)), (3, .ref (adM 21 0)), (4, .ref (adM 22 0)), (5, .ref (adM 23 0)), (6, .ref (adM 24 0)), (7, .ref (adM 25 0)), (8, .ref (adM 26 0)), (9, .ref (adM 27 0)), (10, .ref (adM 28 0)), (11, .ref (adM 29 0)), (12, .ref (adM 30 0)), (13, .ref (adM 31 0)), (14, .ref (adM 32 0)), (15, .ref (adM 33 0)), (16, .ref (adM 34 0)), (17, .ref (adM 35 0)), (25, .int (vx)), (26, .int (iI (what))), (27, .int (iI (k))), (28, .int (iI (8 * k))), (29, .int (iI (who))), (30, .int (iI (w))), (31, .int (iI (2)))]) hx hb dL_law_620 hl (by decide) rfl (fun ls hl => ?_)
  have loop622 : ∀ (n : Nat) (j : Int) (sh : Int), 0 ≤ j ∧ j ≤ sg 503 0 → sh = 1 + u1 + sumN (fun q => if mu 1001 q = 0 ∧ mu 1001 (24 + q) = k then mu 1002 q else 0) j.toNat → (sg 503 0 - j).toNat < n → ∀ ls : Array Slot, lv_has ls 37 [(23, .int (iI (1))), (18, .int (iI (sg 503 0))), (19, .int (iI (sg 506 0))), (20, .long (lI (sg 510 0))), (24, .int (iI (turn))), (0, .ref b), (1, .ref hh), (2, .ref (adM 20 0)), (3, .ref (adM 21 0)), (4, .ref (adM 22 0)), (5, .ref (adM 23 0)), (6, .ref (adM 24 0)), (7, .ref (adM 25 0)), (8, .ref (adM 26 0)), (9, .ref (adM 27 0)), (10, .ref (adM 28 0)), (11, .ref (adM 29 0)), (12, .ref (adM 30 0)), (13, .ref (adM 31 0)), (14, .ref (adM 32 0)), (15, .ref (adM 33 0)), (16, .ref (adM 34 0)), (17, .ref (adM 35 0)), (25, .int (vx)), (26, .int (iI (what))), (27, .int (iI (k))), (28, .int (iI (8 * k))), (29, .int (iI (who))), (30, .int (iI (w))), (31, .int (iI (2))), (32, .int (iI (1 + u1))), (33, .int (iI (sh))), (34, .int (iI (j)))] → W p l e room_1 s m #[Value.ref b] below meth c H locs cells slots Q (F0 m 622 ls []) := by
    intro n622
    induction n622 with
    | zero =>
      intro j sh hj hsh hn622 ls hl
      exact absurd hn622 (Nat.not_lt_zero _)
    | succ n622 ih622 =>
      intro j sh hj hsh hn622 ls hl
      refine lv_iload hx hb dL_law_622 (lv_at hl 32 rfl) ?_
      refine lv_iload hx hb dL_law_624 (lv_at hl 1 rfl) ?_
      refine xr_icmp_ge (tgt := 668) hx hb dL_law_626 (by decide) (by omega) (by omega) (fun yy3 => ?_) (fun yy3 => ?_)
      · skip
        have hje : j = sg 503 0 := by omega
        rw [hje] at hsh
        rw [l_shares hG hM hLR.2.2.2.2.2.1 hk] at hsh
        have hsr := shares_rng hG (pl k)
        refine lv_iload hx hb dL_law_668 (lv_at hl 23 rfl) ?_
        refine lv_sipush (v := iI (512)) hx hb dL_law_670 (by decide) ?_
        refine lw_idiv hx hb (by decide) dL_law_673 ?_
        refine lv_bipush (v := iI (101)) hx hb dL_law_674 (by decide) ?_
        refine lw_up (n := 101) hx hb hml hown hts hK hl.1 ⟨by omega, by omega⟩ (by decide) (lv_room (Nat.le_of_ble_eq_true rfl)) dL_law_676 (fun u2 u2a u2b => ?_)
        refine lv_istore (i := 34) (lv' := [(34, .int (iI (u2))), (23, .int (iI (1))), (18, .int (iI (sg 503 0))), (19, .int (iI (sg 506 0))), (20, .long (lI (sg 510 0))), (24, .int (iI (turn))), (0, .ref b), (1, .ref hh), (2, .ref (adM 20 0)), (3, .ref (adM 21 0)), (4, .ref (adM 22 0)), (5, .ref (adM 23 0)), (6, .ref (adM 24 0)), (7, .ref (adM 25 0)), (8, .ref (adM 26 0)), (9, .ref (adM 27 0)), (10, .ref (adM 28 0)), (11, .ref (adM 29 0)), (12, .ref (adM 30 0)), (13, .ref (adM 31 0)), (14, .ref (adM 32 0)), (15, .ref (adM 33 0)), (16, .ref (adM 34 0)), (17, .ref (adM 35 0)), (25, .int (vx)), (26, .int (iI (what))), (27, .int (iI (k))), (28, .int (iI (8 * k))), (29, .int (iI (who))), (30, .int (iI (w))), (31, .int (iI (2))), (32, .int (iI (1 + u1))), (33, .int (iI (sh)))]) hx hb dL_law_679 hl (by decide) rfl (fun ls hl => ?_)
        have J723 : W p l e room_1 s m #[Value.ref b] below meth c H locs cells slots Q (F0 m 723 ls [.int (iI (if sg 503 0 = 24 ∨ mu 1000 (8 * k + 2) ≠ 0 then -1003 else sg 503 0))]) := by
          rcases (show ((sg 503 0 = 24 ∨ mu 1000 (8 * k + 2) ≠ 0)) ∨ (¬ (sg 503 0 = 24 ∨ mu 1000 (8 * k + 2) ≠ 0)) by omega) with cc4 | cc4
          · skip
            rw [if_pos (by omega)]
            refine lv_istore (i := 35) (lv' := [(35, .int (iI (-1003))), (34, .int (iI (u2))), (23, .int (iI (1))), (18, .int (iI (sg 503 0))), (19, .int (iI (sg 506 0))), (20, .long (lI (sg 510 0))), (24, .int (iI (turn))), (0, .ref b), (1, .ref hh), (2, .ref (adM 20 0)), (3, .ref (adM 21 0)), (4, .ref (adM 22 0)), (5, .ref (adM 23 0)), (6, .ref (adM 24 0)), (7, .ref (adM 25 0)), (8, .ref (adM 26 0)), (9, .ref (adM 27 0)), (10, .ref (adM 28 0)), (11, .ref (adM 29 0)), (12, .ref (adM 30 0)), (13, .ref (adM 31 0)), (14, .ref (adM 32 0)), (15, .ref (adM 33 0)), (16, .ref (adM 34 0)), (17, .ref (adM 35 0)), (25, .int (vx)), (26, .int (iI (what))), (27, .int (iI (k))), (28, .int (iI (8 * k))), (29, .int (iI (who))), (30, .int (iI (w))), (31, .int (iI (2))), (32, .int (iI (1 + u1))), (33, .int (iI (sh)))]) hx hb dL_law_723 hl (by decide) rfl (fun ls hl => ?_)
            refine lv_aload_n hx hb dL_law_725 rfl (lv_at hl 8 rfl) ?_
            refine lv_iload hx hb dL_law_726 (lv_at hl 31 rfl) ?_
            refine lv_iload hx hb dL_law_728 (lv_at hl 27 rfl) ?_
            refine lw_plot hx hb hml hown hts hK hl.1 ⟨by omega, by omega⟩ (by omega) (lv_room (Nat.le_of_ble_eq_true rfl)) dL_law_730 ?_
            refine lv_iload hx hb dL_law_733 (lv_at hl 25 rfl) ?_
            refine lv_sipush (v := iI (1024)) hx hb dL_law_735 (by decide) ?_
            refine lw_idiv hx hb (by decide) dL_law_738 ?_
            refine lv_bipush (v := iI (10)) hx hb dL_law_739 (by decide) ?_
            refine lw_up (n := 10) hx hb hml hown hts hK hl.1 ⟨by omega, by omega⟩ (by decide) (lv_room (Nat.le_of_ble_eq_true rfl)) dL_law_741 (fun u3 u3a u3b => ?_)
            refine lv_iload hx hb dL_law_744 (lv_at hl 32 rfl) ?_
            refine lv_iload hx hb dL_law_746 (lv_at hl 1 rfl) ?_
            have hE := a_charge hLR hG (k := k) (u := u3) (ms := 1 + u1) hk (by omega) (by omega)
            rw [if_pos (by omega)] at hE
            refine lw_act (f := 8) (lo := 142) (mc := 1) (ms := 15) (E := chargeE sg (pl k) u3 (1 + u1)) (T := (tellT sg 2 (pAt (pl k)) u3 (1 + u1) 0)) hx hb hml hown hts hK hXS hXN hS hA1 hN12 hG hR h4 (c_act_2 hC hG hl0 (lw_hA hA hR) (pl k) u3 (1 + u1) u2 (by omega) (by omega) (by omega)) ⟨by decide, by decide⟩ ⟨by omega, by omega⟩ hl.1 (Nat.le_of_ble_eq_true rfl) dL_law_748 (fun ad H locs h4 hC hR hS => ?_)
            rw [if_neg (by rw [hE]; decide)] at hC
            rw [aR_n (by rw [hE]; decide), hE]
            refine lv_iload hx hb dL_law_751 (lv_at hl 0 rfl) ?_
            refine xr_i2l hx hb dL_law_753 (by omega) ?_
            refine lw_leq hx hb dL_law_754 (by first | rfl | omega | (rfl)) ?_
            refine xr_if_ne (tgt := 762) hx hb dL_law_755 (by decide) (by decide) (fun yy5 => absurd yy5 (by decide)) (fun _ => ?_)
            refine lv_iconst (v := iI (1)) hx hb dL_law_758 rfl ?_
            refine lv_goto (tgt := 763) hx hb dL_law_759 (by decide) ?_
            refine lv_istore (i := 23) (lv' := [(23, .int (iI (1))), (35, .int (iI (-1003))), (34, .int (iI (u2))), (18, .int (iI (sg 503 0))), (19, .int (iI (sg 506 0))), (20, .long (lI (sg 510 0))), (24, .int (iI (turn))), (0, .ref b), (1, .ref hh), (2, .ref (adM 20 0)), (3, .ref (adM 21 0)), (4, .ref (adM 22 0)), (5, .ref (adM 23 0)), (6, .ref (adM 24 0)), (7, .ref (adM 25 0)), (8, .ref (adM 26 0)), (9, .ref (adM 27 0)), (10, .ref (adM 28 0)), (11, .ref (adM 29 0)), (12, .ref (adM 30 0)), (13, .ref (adM 31 0)), (14, .ref (adM 32 0)), (15, .ref (adM 33 0)), (16, .ref (adM 34 0)), (17, .ref (adM 35 0)), (25, .int (vx)), (26, .int (iI (what))), (27, .int (iI (k))), (28, .int (iI (8 * k))), (29, .int (iI (who))), (30, .int (iI (w))), (31, .int (iI (2))), (32, .int (iI (1 + u1))), (33, .int (iI (sh)))]) hx hb dL_law_763 hl (by decide) rfl (fun ls hl => ?_)
            refine lv_iload hx hb dL_law_765 (lv_at hl 1 rfl) ?_
            refine xr_if_lt (tgt := 821) hx hb dL_law_767 (by decide) (by decide) (fun _ => ?_) (fun yy6 => absurd yy6 (by decide))
            refine lv_goto (tgt := 3115) hx hb dL_law_821 (by decide) ?_
            refine W.widen (k := cells + 3) (n := slots + 45) (by omega) (by omega) ?_
            exact kk ad sg mu H locs ls _ _ _ ⟨hC, hR, h4, hLR, hV, hG, hM, hS⟩ (by omega) rfl rfl rfl (lv_sub hl [0, 3, 4, 5, 6, 7, 8, 9, 10, 11, 12, 13, 14, 15, 16, 17, 18, 19, 20, 21, 22, 23, 24] rfl)
          · skip
            rw [if_neg (by omega)]
            refine lv_istore (i := 35) (lv' := [(35, .int (iI (sg 503 0))), (34, .int (iI (u2))), (23, .int (iI (1))), (18, .int (iI (sg 503 0))), (19, .int (iI (sg 506 0))), (20, .long (lI (sg 510 0))), (24, .int (iI (turn))), (0, .ref b), (1, .ref hh), (2, .ref (adM 20 0)), (3, .ref (adM 21 0)), (4, .ref (adM 22 0)), (5, .ref (adM 23 0)), (6, .ref (adM 24 0)), (7, .ref (adM 25 0)), (8, .ref (adM 26 0)), (9, .ref (adM 27 0)), (10, .ref (adM 28 0)), (11, .ref (adM 29 0)), (12, .ref (adM 30 0)), (13, .ref (adM 31 0)), (14, .ref (adM 32 0)), (15, .ref (adM 33 0)), (16, .ref (adM 34 0)), (17, .ref (adM 35 0)), (25, .int (vx)), (26, .int (iI (what))), (27, .int (iI (k))), (28, .int (iI (8 * k))), (29, .int (iI (who))), (30, .int (iI (w))), (31, .int (iI (2))), (32, .int (iI (1 + u1))), (33, .int (iI (sh)))]) hx hb dL_law_723 hl (by decide) rfl (fun ls hl => ?_)
            refine lv_aload_n hx hb dL_law_725 rfl (lv_at hl 8 rfl) ?_
            refine lv_iload hx hb dL_law_726 (lv_at hl 31 rfl) ?_
            refine lv_iload hx hb dL_law_728 (lv_at hl 27 rfl) ?_
            refine lw_plot hx hb hml hown hts hK hl.1 ⟨by omega, by omega⟩ (by omega) (lv_room (Nat.le_of_ble_eq_true rfl)) dL_law_730 ?_
            refine lv_iload hx hb dL_law_733 (lv_at hl 25 rfl) ?_
            refine lv_sipush (v := iI (1024)) hx hb dL_law_735 (by decide) ?_
            refine lw_idiv hx hb (by decide) dL_law_738 ?_
            refine lv_bipush (v := iI (10)) hx hb dL_law_739 (by decide) ?_
            refine lw_up (n := 10) hx hb hml hown hts hK hl.1 ⟨by omega, by omega⟩ (by decide) (lv_room (Nat.le_of_ble_eq_true rfl)) dL_law_741 (fun u3 u3a u3b => ?_)
            refine lv_iload hx hb dL_law_744 (lv_at hl 32 rfl) ?_
            refine lv_iload hx hb dL_law_746 (lv_at hl 1 rfl) ?_
            have hE := a_charge hLR hG (k := k) (u := u3) (ms := 1 + u1) hk (by omega) (by omega)
            rw [if_neg (by omega)] at hE
            have h203 : sg 203 (pl k) = 0 := by have z := (hLR.2.1 k hk.1 hk.2).1; omega
            refine lw_act (f := 8) (lo := 142) (mc := 1) (ms := 15) (E := chargeE sg (pl k) u3 (1 + u1)) (T := (tellT sg 2 (pAt (pl k)) u3 (1 + u1) 0)) hx hb hml hown hts hK hXS hXN hS hA1 hN12 hG hR h4 (c_act_2 hC hG hl0 (lw_hA hA hR) (pl k) u3 (1 + u1) u2 (by omega) (by omega) (by omega)) ⟨by decide, by decide⟩ ⟨by omega, by omega⟩ hl.1 (Nat.le_of_ble_eq_true rfl) dL_law_748 (fun ad H locs h4 hC hR hS => ?_)
            rw [if_pos hE] at hC
            rw [aR_0 hE]
            rw [pl_pAt] at hC
            have hz := inv_of (s_charge hRel hG hGM (pl k) u3 (1 + u1)) hE
            rw [pl_pAt] at hz
            have hLR := o_tell (kd := 2) (u := u3) (ms := 1 + u1) (pr := u2) (pr' := 0) hLR hG hV hM0 hk h203 (by omega) (fun z => absurd z (by decide)) (fun z => absurd z (by decide))
            refine lv_iload hx hb dL_law_751 (lv_at hl 0 rfl) ?_
            refine xr_i2l hx hb dL_law_753 (by omega) ?_
            refine lw_leq hx hb dL_law_754 (by first | rfl | omega | (rfl)) ?_
            refine xr_if_ne (tgt := 762) hx hb dL_law_755 (by decide) (by decide) (fun yy7 => absurd yy7 (by decide)) (fun _ => ?_)
            refine lv_iconst (v := iI (1)) hx hb dL_law_758 rfl ?_
            refine lv_goto (tgt := 763) hx hb dL_law_759 (by decide) ?_
            refine lv_istore (i := 23) (lv' := [(23, .int (iI (1))), (35, .int (iI (sg 503 0))), (34, .int (iI (u2))), (18, .int (iI (sg 503 0))), (19, .int (iI (sg 506 0))), (20, .long (lI (sg 510 0))), (24, .int (iI (turn))), (0, .ref b), (1, .ref hh), (2, .ref (adM 20 0)), (3, .ref (adM 21 0)), (4, .ref (adM 22 0)), (5, .ref (adM 23 0)), (6, .ref (adM 24 0)), (7, .ref (adM 25 0)), (8, .ref (adM 26 0)), (9, .ref (adM 27 0)), (10, .ref (adM 28 0)), (11, .ref (adM 29 0)), (12, .ref (adM 30 0)), (13, .ref (adM 31 0)), (14, .ref (adM 32 0)), (15, .ref (adM 33 0)), (16, .ref (adM 34 0)), (17, .ref (adM 35 0)), (25, .int (vx)), (26, .int (iI (what))), (27, .int (iI (k))), (28, .int (iI (8 * k))), (29, .int (iI (who))), (30, .int (iI (w))), (31, .int (iI (2))), (32, .int (iI (1 + u1))), (33, .int (iI (sh)))]) hx hb dL_law_763 hl (by decide) rfl (fun ls hl => ?_)
            refine lv_iload hx hb dL_law_765 (lv_at hl 1 rfl) ?_
            refine xr_if_lt (tgt := 821) hx hb dL_law_767 (by decide) (by omega) (fun yy8 => absurd yy8 (by omega)) (fun yy8 => ?_)
            refine lv_aload_n hx hb dL_law_770 rfl (lv_at hl 10 rfl) ?_
            refine lv_iload hx hb dL_law_771 (lv_at hl 3 rfl) ?_
            refine lv_iload hx hb dL_law_773 (lv_at hl 31 rfl) ?_
            refine ys_1001 (v := 2) hx hb hK hC hR hA2 hA1 hN12 hS (by omega) dL_law_775 (fun H locs hC hR hS => ?_)
            have hM := gl_1001 hM (sg 503 0) (v := 2) (by omega)
            refine lv_aload_n hx hb dL_law_776 rfl (lv_at hl 10 rfl) ?_
            refine lv_bipush (v := iI (24)) hx hb dL_law_777 (by decide) ?_
            refine lv_iload hx hb dL_law_779 (lv_at hl 3 rfl) ?_
            refine xr_iadd hx hb dL_law_781 ?_
            refine lv_iload hx hb dL_law_782 (lv_at hl 27 rfl) ?_
            refine ys_1001 (v := k) hx hb hK hC hR hA2 hA1 hN12 hS (by omega) dL_law_784 (fun H locs hC hR hS => ?_)
            have hM := gl_1001 hM (24 + (sg 503 0)) (v := k) (by omega)
            refine lv_aload hx hb dL_law_785 (lv_at hl 11 rfl) ?_
            refine lv_iload hx hb dL_law_787 (lv_at hl 3 rfl) ?_
            refine lv_iload hx hb dL_law_789 (lv_at hl 32 rfl) ?_
            refine ys_1002 (v := 1 + u1) hx hb hK hC hR hA2 hA1 hN12 hS (by omega) dL_law_791 (fun H locs hC hR hS => ?_)
            have hM := gl_1002 hM (sg 503 0) (v := 1 + u1) (by omega)
            refine lv_aload hx hb dL_law_792 (lv_at hl 12 rfl) ?_
            refine lv_iload hx hb dL_law_794 (lv_at hl 3 rfl) ?_
            refine lv_iload hx hb dL_law_796 (lv_at hl 4 rfl) ?_
            refine ys_1003 (v := sg 506 0) hx hb hK hC hR hA2 hA1 hN12 hS (by omega) dL_law_798 (fun H locs hC hR hS => ?_)
            have hM := gl_1003 hM (sg 503 0) (v := sg 506 0) (by omega)
            refine lv_aload hx hb dL_law_799 (lv_at hl 13 rfl) ?_
            refine lv_iload hx hb dL_law_801 (lv_at hl 3 rfl) ?_
            refine lv_iconst (v := iI (-1)) hx hb dL_law_803 rfl ?_
            refine ys_1004 (v := -1) hx hb hK hC hR hA2 hA1 hN12 hS (by omega) dL_law_804 (fun H locs hC hR hS => ?_)
            have hM := gl_1004 hM (sg 503 0) (v := -1) (by omega)
            refine lv_aload hx hb dL_law_805 (lv_at hl 15 rfl) ?_
            refine lv_iload hx hb dL_law_807 (lv_at hl 3 rfl) ?_
            refine lv_iload hx hb dL_law_809 (lv_at hl 2 rfl) ?_
            refine ys_1006 (v := u2) hx hb hK hC hR hA2 hA1 hN12 hS (by omega) dL_law_811 (fun H locs hC hR hS => ?_)
            have hM := gl_1006 hM (sg 503 0) (v := u2) (by omega)
            refine lv_aload hx hb dL_law_812 (lv_at hl 18 rfl) ?_
            refine lv_iload hx hb dL_law_814 (lv_at hl 3 rfl) ?_
            refine lv_iconst (v := iI (-1)) hx hb dL_law_816 rfl ?_
            refine ys_1009 (v := -1) hx hb hK hC hR hA2 hA1 hN12 hS (by omega) dL_law_817 (fun H locs hC hR hS => ?_)
            have hM := gl_1009 hM (sg 503 0) (v := -1) (by omega)
            refine lv_iinc (v := iI ((sg 503 0) + 1)) (lv' := [(18, .int (iI ((sg 503 0) + 1))), (23, .int (iI (1))), (35, .int (iI (sg 503 0))), (34, .int (iI (u2))), (19, .int (iI (sg 506 0))), (20, .long (lI (sg 510 0))), (24, .int (iI (turn))), (0, .ref b), (1, .ref hh), (2, .ref (adM 20 0)), (3, .ref (adM 21 0)), (4, .ref (adM 22 0)), (5, .ref (adM 23 0)), (6, .ref (adM 24 0)), (7, .ref (adM 25 0)), (8, .ref (adM 26 0)), (9, .ref (adM 27 0)), (10, .ref (adM 28 0)), (11, .ref (adM 29 0)), (12, .ref (adM 30 0)), (13, .ref (adM 31 0)), (14, .ref (adM 32 0)), (15, .ref (adM 33 0)), (16, .ref (adM 34 0)), (17, .ref (adM 35 0)), (25, .int (vx)), (26, .int (iI (what))), (27, .int (iI (k))), (28, .int (iI (8 * k))), (29, .int (iI (who))), (30, .int (iI (w))), (31, .int (iI (2))), (32, .int (iI (1 + u1))), (33, .int (iI (sh)))]) hx hb dL_law_818 hl (k := 3) rfl (iI_add _ _) (by decide) rfl (fun ls hl => ?_)
            refine lv_goto (tgt := 3115) hx hb dL_law_821 (by decide) ?_
            refine W.widen (k := cells + 3) (n := slots + 45) (by omega) (by omega) ?_
            exact kk ad ((tellT sg 2 (pl k) u3 (1 + u1) 0)) (st (st (st (st (st (st (st mu 1001 (sg 503 0) (2)) 1001 (24 + (sg 503 0)) (k)) 1002 (sg 503 0) (1 + u1)) 1003 (sg 503 0) (sg 506 0)) 1004 (sg 503 0) (-1)) 1006 (sg 503 0) (u2)) 1009 (sg 503 0) (-1)) H locs ls _ _ _ ⟨hC, hR, h4, hLR, hz.1, hz.2, hM, hS⟩ (by rw [te_f (by decide) (by decide) (by decide) (by decide)]; omega) te_503 (congrFun (te_f (by decide) (by decide) (by decide) (by decide)) 0) (congrFun (te_f (by decide) (by decide) (by decide) (by decide)) 0) (lv_sub hl [1, 0, 4, 5, 6, 7, 8, 9, 10, 11, 12, 13, 14, 15, 16, 17, 18, 19, 20, 21, 22, 23, 24] rfl)
        refine lv_iload hx hb dL_law_681 (lv_at hl 30 rfl) ?_
        refine xr_if_ne (tgt := 699) hx hb dL_law_683 (by decide) (by decide) (fun _ => ?_) (fun yy9 => absurd yy9 (by decide))
        refine lv_iload hx hb dL_law_699 (lv_at hl 2 rfl) ?_
        refine lv_bipush (v := iI (24)) hx hb dL_law_701 (by decide) ?_
        refine xr_icmp_eq (tgt := 715) hx hb dL_law_703 (by decide) (by omega) (by omega) (fun yy10 => ?_) (fun yy10 => ?_)
        · skip
          refine lv_sipush (v := iI (-1003)) hx hb dL_law_715 (by decide) ?_
          refine lv_goto (tgt := 723) hx hb dL_law_718 (by decide) ?_
          exact w_topI (by first | exact (if_pos (by omega)).symm | exact (if_neg (by omega)).symm | (rw [if_neg (by omega)]; first | exact (if_pos (by omega)).symm | exact (if_neg (by omega)).symm)) J723
        · skip
          refine lv_aload_n hx hb dL_law_706 rfl (lv_at hl 8 rfl) ?_
          refine lv_iload hx hb dL_law_707 (lv_at hl 27 rfl) ?_
          refine lv_iconst (v := iI (2)) hx hb dL_law_709 rfl ?_
          refine xr_iadd hx hb dL_law_710 ?_
          refine xa_1000 (v := mu 1000 ((8 * k) + 2)) hx hb hK hR (by omega) rfl dL_law_711 ?_
          have g11 := ml_1000 hM0 ((8 * k) + 2)
          refine xr_if_eq (tgt := 721) hx hb dL_law_712 (by decide) (by omega) (fun yy12 => ?_) (fun yy12 => ?_)
          · skip
            refine lv_iload hx hb dL_law_721 (lv_at hl 2 rfl) ?_
            exact w_topI (by first | exact (if_pos (by omega)).symm | exact (if_neg (by omega)).symm | (rw [if_neg (by omega)]; first | exact (if_pos (by omega)).symm | exact (if_neg (by omega)).symm)) J723
          · skip
            refine lv_sipush (v := iI (-1003)) hx hb dL_law_715 (by decide) ?_
            refine lv_goto (tgt := 723) hx hb dL_law_718 (by decide) ?_
            exact w_topI (by first | exact (if_pos (by omega)).symm | exact (if_neg (by omega)).symm | (rw [if_neg (by omega)]; first | exact (if_pos (by omega)).symm | exact (if_neg (by omega)).symm)) J723
      · skip
        refine lv_iload hx hb dL_law_629 (lv_at hl 31 rfl) ?_
        have J659 : W p l e room_1 s m #[Value.ref b] below meth c H locs cells slots Q (F0 m 659 ls [.int (iI (if mu 1001 j = 0 ∧ mu 1001 (24 + j) = k then mu 1002 j else 0)), .int (iI (sh))]) := by
          refine xr_iadd hx hb dL_law_659 ?_
          refine lv_istore (i := 33) (lv' := [(33, .int (iI (sh + (if mu 1001 j = 0 ∧ mu 1001 (24 + j) = k then mu 1002 j else 0)))), (23, .int (iI (1))), (18, .int (iI (sg 503 0))), (19, .int (iI (sg 506 0))), (20, .long (lI (sg 510 0))), (24, .int (iI (turn))), (0, .ref b), (1, .ref hh), (2, .ref (adM 20 0)), (3, .ref (adM 21 0)), (4, .ref (adM 22 0)), (5, .ref (adM 23 0)), (6, .ref (adM 24 0)), (7, .ref (adM 25 0)), (8, .ref (adM 26 0)), (9, .ref (adM 27 0)), (10, .ref (adM 28 0)), (11, .ref (adM 29 0)), (12, .ref (adM 30 0)), (13, .ref (adM 31 0)), (14, .ref (adM 32 0)), (15, .ref (adM 33 0)), (16, .ref (adM 34 0)), (17, .ref (adM 35 0)), (25, .int (vx)), (26, .int (iI (what))), (27, .int (iI (k))), (28, .int (iI (8 * k))), (29, .int (iI (who))), (30, .int (iI (w))), (31, .int (iI (2))), (32, .int (iI (1 + u1))), (34, .int (iI (j)))]) hx hb dL_law_660 hl (by decide) rfl (fun ls hl => ?_)
          refine lv_iinc (v := iI (j + 1)) (lv' := [(34, .int (iI (j + 1))), (33, .int (iI (sh + (if mu 1001 j = 0 ∧ mu 1001 (24 + j) = k then mu 1002 j else 0)))), (23, .int (iI (1))), (18, .int (iI (sg 503 0))), (19, .int (iI (sg 506 0))), (20, .long (lI (sg 510 0))), (24, .int (iI (turn))), (0, .ref b), (1, .ref hh), (2, .ref (adM 20 0)), (3, .ref (adM 21 0)), (4, .ref (adM 22 0)), (5, .ref (adM 23 0)), (6, .ref (adM 24 0)), (7, .ref (adM 25 0)), (8, .ref (adM 26 0)), (9, .ref (adM 27 0)), (10, .ref (adM 28 0)), (11, .ref (adM 29 0)), (12, .ref (adM 30 0)), (13, .ref (adM 31 0)), (14, .ref (adM 32 0)), (15, .ref (adM 33 0)), (16, .ref (adM 34 0)), (17, .ref (adM 35 0)), (25, .int (vx)), (26, .int (iI (what))), (27, .int (iI (k))), (28, .int (iI (8 * k))), (29, .int (iI (who))), (30, .int (iI (w))), (31, .int (iI (2))), (32, .int (iI (1 + u1)))]) hx hb dL_law_662 hl (k := 32) rfl (iI_add _ _) (by decide) rfl (fun ls hl => ?_)
          refine lv_goto (tgt := 622) hx hb dL_law_665 (by decide) ?_
          exact ih622 (j + 1) (sh + (if mu 1001 j = 0 ∧ mu 1001 (24 + j) = k then mu 1002 j else 0)) (by omega) (by rw [hsh, Int.add_assoc]; exact congrArg (fun y => 1 + u1 + y) (sum_t (f := (fun q => if mu 1001 q = 0 ∧ mu 1001 (24 + q) = k then mu 1002 q else 0)) (i := j) (x := if mu 1001 j = 0 ∧ mu 1001 (24 + j) = k then mu 1002 j else 0) hj.1 rfl rfl)) (by omega) ls (lv_sub hl [2, 3, 4, 5, 6, 7, 8, 9, 10, 11, 12, 13, 14, 15, 16, 17, 18, 19, 20, 21, 22, 23, 24, 25, 26, 27, 28, 29, 30, 31, 32, 1, 0] rfl)
        refine lv_aload_n hx hb dL_law_631 rfl (lv_at hl 8 rfl) ?_
        refine lv_iload hx hb dL_law_632 (lv_at hl 32 rfl) ?_
        refine xa_1001 (v := mu 1001 j) hx hb hK hR (by omega) rfl dL_law_634 ?_
        have g13 := ml_1001 hM0 (j)
        refine xr_if_ne (tgt := 658) hx hb dL_law_635 (by decide) (by omega) (fun yy14 => ?_) (fun yy14 => ?_)
        · skip
          refine lv_iconst (v := iI (0)) hx hb dL_law_658 rfl ?_
          exact w_topI (by first | exact (if_pos (by omega)).symm | exact (if_neg (by omega)).symm) J659
        · skip
          refine lv_aload_n hx hb dL_law_638 rfl (lv_at hl 8 rfl) ?_
          refine lv_bipush (v := iI (24)) hx hb dL_law_639 (by decide) ?_
          refine lv_iload hx hb dL_law_641 (lv_at hl 32 rfl) ?_
          refine xr_iadd hx hb dL_law_643 ?_
          refine xa_1001 (v := mu 1001 (24 + j)) hx hb hK hR (by omega) rfl dL_law_644 ?_
          have g15 := ml_1001 hM0 (24 + j)
          refine lv_iload hx hb dL_law_645 (lv_at hl 25 rfl) ?_
          refine xr_icmp_ne (tgt := 658) hx hb dL_law_647 (by decide) (by omega) (by omega) (fun yy16 => ?_) (fun yy16 => ?_)
          · skip
            refine lv_iconst (v := iI (0)) hx hb dL_law_658 rfl ?_
            exact w_topI (by first | exact (if_pos (by omega)).symm | exact (if_neg (by omega)).symm) J659
          · skip
            refine lv_aload hx hb dL_law_650 (lv_at hl 9 rfl) ?_
            refine lv_iload hx hb dL_law_652 (lv_at hl 32 rfl) ?_
            refine xa_1002 (v := mu 1002 j) hx hb hK hR (by omega) rfl dL_law_654 ?_
            have g17 := ml_1002 hM0 (j)
            refine lv_goto (tgt := 659) hx hb dL_law_655 (by decide) ?_
            exact w_topI (by first | exact (if_pos (by omega)).symm | exact (if_neg (by omega)).symm) J659
  exact loop622 _ 0 (1 + u1) (by omega) (Int.add_zero _).symm (Nat.lt_succ_self _) ls (lv_sub hl [3, 4, 5, 6, 7, 8, 9, 10, 11, 12, 13, 14, 15, 16, 17, 18, 19, 20, 21, 22, 23, 24, 25, 26, 27, 28, 29, 30, 31, 32, 2, 1, 0] rfl)
