set_option maxRecDepth 100000 in
set_option maxHeartbeats 8000000 in
theorem law_drop {p : Program} {l : Launch} {e : Env} {s : State} {m : MethodId} {below : List Frame} {meth : Method} {c : Code} {D : va_G} {cy : Nat → ClassId} {A A2 : Nat → Prop} {b L hh : Nat} {xs : Nat → Int32} {ad adM : Nat → Int → Nat} {sg mu : Nat → Int → Int} {H : Heap} {locs : List Loc} {cells slots : Nat} {Q : State → Prop} {ls : Array Slot} {turn : Int} {vx : Int32} {what k who w : Int} (E : LE p l s m meth c b L xs D cy A A2 adM) (I : LI D cy A A2 s hh ad adM sg mu H locs) (h7 : sg 702 0 ≤ 1000000) (hcl : cells + 1000 ≤ 600104) (hsl : slots + 20000 ≤ 7301314) (hwhat : what = 18) (hk : 0 ≤ k ∧ k ≤ 3) (hw : 0 ≤ w ∧ w ≤ 1) (hl : lv_has ls 37 [(23, .int (iI (1))), (18, .int (iI (sg 503 0))), (19, .int (iI (sg 506 0))), (20, .long (lI (sg 510 0))), (24, .int (iI (turn))), (0, .ref b), (1, .ref hh), (2, .ref (adM 20 0)), (3, .ref (adM 21 0)), (4, .ref (adM 22 0)), (5, .ref (adM 23 0)), (6, .ref (adM 24 0)), (7, .ref (adM 25 0)), (8, .ref (adM 26 0)), (9, .ref (adM 27 0)), (10, .ref (adM 28 0)), (11, .ref (adM 29 0)), (12, .ref (adM 30 0)), (13, .ref (adM 31 0)), (14, .ref (adM 32 0)), (15, .ref (adM 33 0)), (16, .ref (adM 34 0)), (17, .ref (adM 35 0)), (25, .int (vx)), (26, .int (iI (what))), (27, .int (iI (k))), (28, .int (iI (8 * k))), (29, .int (iI (who))), (30, .int (iI (w)))]) (kk : LK p l e s m below meth c b D cy A A2 hh adM cells slots Q sg turn) : W p l e room_1 s m #[Value.ref b] below meth c H locs cells slots Q (F0 m 2091 ls []) := by
  obtain ⟨⟨hx, hb, hr, hml, hown, hts0, hX, hbl, hlocks, -⟩, hl0, hK, hXS, hXN, hA, hA1, hA2, hN12, hL⟩ := E
  obtain ⟨hC, hR, h4, hLR, hV, hG, hM, hS⟩ := I
  have hM0 := hM
  have hts : ∀ w ∈ wG, w.before #[Value.ref b] s = true := fun w hw => hts0 w (List.mem_filter.mp hw).1
  have hown : s.vm.findClass "TakinghallLaw" = some m.cls := hown
  have g503 := gr_503 hG 0
  have g506 := gr_506 hG 0
  obtain ⟨hd1, hd0, hes, hd4⟩ := a_drop hLR hw
  obtain ⟨mm, hRel, hGM⟩ := id hV
  have g403 := gr_403 hG w
  refine lv_iconst (v := iI (0)) hx hb dL_law_2091 rfl ?_
  refine lv_istore (i := 31) (lv' := [(31, .int (iI (0))), (23, .int (iI (1))), (18, .int (iI (sg 503 0))), (19, .int (iI (sg 506 0))), (20, .long (lI (sg 510 0))), (24, .int (iI (turn))), (0, .ref b), (1, .ref hh), (2, .ref (adM 20 0)), (3, .ref (adM 21 0)), (4, .ref (adM 22 0)), (5, .ref (adM 23 0)), (6, .ref (adM 24 0)), (7, .ref (adM 25 0)), (8, .ref (adM 26 0)), (9, .ref (adM 27 0)), (10, .ref (adM 28 0)), (11, .ref (adM 29 0)), (12, .ref (adM 30 0)), (13, .ref (adM 31 0)), (14, .ref (adM 32 0)), (15, .ref (adM 33 0)), (16, .ref (adM 34 0)), (17, .ref (adM 35 0)), (25, .int (vx)), (26, .int (iI (what))), (27, .int (iI (k))), (28, .int (iI (8 * k))), (29, .int (iI (who))), (30, .int (iI (w)))]) hx hb dL_law_2092 hl (by decide) rfl (fun ls hl => ?_)
  refine lv_aload hx hb dL_law_2094 (lv_at hl 19 rfl) ?_
  refine lv_iload hx hb dL_law_2096 (lv_at hl 29 rfl) ?_
  refine xa_1011 (v := mu 1011 w) hx hb hK hR (by omega) rfl dL_law_2098 ?_
  have g1 := ml_1011 hM0 (w)
  refine lv_iconst (v := iI (2)) hx hb dL_law_2099 rfl ?_
  refine xr_icmp_ge (tgt := 2107) hx hb dL_law_2100 (by decide) (by omega) (by omega) (fun yy2 => ?_) (fun yy2 => ?_)
  · skip
    have h2 : mu 1011 w = 2 := by omega
    have hE : dropE sg w = 3 := (hd0 (by omega)).resolve_right (by omega)
    refine lv_iconst (v := iI (0)) hx hb dL_law_2107 rfl ?_
    refine lv_istore (i := 32) (lv' := [(32, .int (iI (0))), (31, .int (iI (0))), (23, .int (iI (1))), (18, .int (iI (sg 503 0))), (19, .int (iI (sg 506 0))), (20, .long (lI (sg 510 0))), (24, .int (iI (turn))), (0, .ref b), (1, .ref hh), (2, .ref (adM 20 0)), (3, .ref (adM 21 0)), (4, .ref (adM 22 0)), (5, .ref (adM 23 0)), (6, .ref (adM 24 0)), (7, .ref (adM 25 0)), (8, .ref (adM 26 0)), (9, .ref (adM 27 0)), (10, .ref (adM 28 0)), (11, .ref (adM 29 0)), (12, .ref (adM 30 0)), (13, .ref (adM 31 0)), (14, .ref (adM 32 0)), (15, .ref (adM 33 0)), (16, .ref (adM 34 0)), (17, .ref (adM 35 0)), (25, .int (vx)), (26, .int (iI (what))), (27, .int (iI (k))), (28, .int (iI (8 * k))), (29, .int (iI (who))), (30, .int (iI (w)))]) hx hb dL_law_2108 hl (by decide) rfl (fun ls hl => ?_)
    refine lv_iconst (v := iI (0)) hx hb dL_law_2110 rfl ?_
    refine lv_istore (i := 33) (lv' := [(33, .int (iI (0))), (32, .int (iI (0))), (31, .int (iI (0))), (23, .int (iI (1))), (18, .int (iI (sg 503 0))), (19, .int (iI (sg 506 0))), (20, .long (lI (sg 510 0))), (24, .int (iI (turn))), (0, .ref b), (1, .ref hh), (2, .ref (adM 20 0)), (3, .ref (adM 21 0)), (4, .ref (adM 22 0)), (5, .ref (adM 23 0)), (6, .ref (adM 24 0)), (7, .ref (adM 25 0)), (8, .ref (adM 26 0)), (9, .ref (adM 27 0)), (10, .ref (adM 28 0)), (11, .ref (adM 29 0)), (12, .ref (adM 30 0)), (13, .ref (adM 31 0)), (14, .ref (adM 32 0)), (15, .ref (adM 33 0)), (16, .ref (adM 34 0)), (17, .ref (adM 35 0)), (25, .int (vx)), (26, .int (iI (what))), (27, .int (iI (k))), (28, .int (iI (8 * k))), (29, .int (iI (who))), (30, .int (iI (w)))]) hx hb dL_law_2111 hl (by decide) rfl (fun ls hl => ?_)
    refine lv_iload hx hb dL_law_2113 (lv_at hl 0 rfl) ?_
    refine lv_iconst (v := iI (4)) hx hb dL_law_2115 rfl ?_
    refine xr_icmp_ge (tgt := 2296) hx hb dL_law_2116 (by decide) (by decide) (by decide) (fun yy3 => absurd yy3 (by decide)) (fun _ => ?_)
    refine lv_iload hx hb dL_law_2119 (lv_at hl 1 rfl) ?_
    refine xr_if_eq (tgt := 2296) hx hb dL_law_2121 (by decide) (by decide) (fun _ => ?_) (fun yy4 => absurd yy4 (by decide))
    refine lv_aload hx hb dL_law_2296 (lv_at hl 21 rfl) ?_
    refine lv_iload hx hb dL_law_2298 (lv_at hl 31 rfl) ?_
    refine lv_iconst (v := iI (2)) hx hb dL_law_2300 rfl ?_
    refine ys_1011 (v := 2) hx hb hK hC hR hA2 hA1 hN12 hS (by omega) dL_law_2301 (fun H locs hC hR hS => ?_)
    have hM := gl_1011 hM (w) (v := 2) (by omega)
    refine lv_aload_n hx hb dL_law_2302 rfl (lv_at hl 9 rfl) ?_
    refine lv_bipush (v := iI (11)) hx hb dL_law_2303 (by decide) ?_
    refine lv_iload hx hb dL_law_2305 (lv_at hl 31 rfl) ?_
    refine lv_iconst (v := iI (0)) hx hb dL_law_2307 rfl ?_
    refine lv_iconst (v := iI (0)) hx hb dL_law_2308 rfl ?_
    refine lv_iconst (v := iI (0)) hx hb dL_law_2309 rfl ?_
    refine lw_act (f := 8) (lo := 135) (mc := 1) (ms := 6) (E := dropE sg w) (T := (dropT sg (sAt sg w))) hx hb hml hown hts hK hXS hXN hS hA1 hN12 hG hR h4 (c_act_11 hC hG hl0 (lw_hA hA hR) w 0 0 0 (by omega)) ⟨by decide, by decide⟩ ⟨by omega, by omega⟩ hl.1 (Nat.le_of_ble_eq_true rfl) dL_law_2310 (fun ad H locs h4 hC hR hS => ?_)
    rw [if_neg (by rw [hE]; decide)] at hC
    rw [aR_n (by rw [hE]; decide), hE]
    refine lv_iload hx hb dL_law_2313 (lv_at hl 1 rfl) ?_
    refine xr_if_eq (tgt := 2323) hx hb dL_law_2315 (by decide) (by decide) (fun _ => ?_) (fun yy5 => absurd yy5 (by decide))
    refine lv_sipush (v := iI (-1003)) hx hb dL_law_2323 (by decide) ?_
    refine xr_i2l hx hb dL_law_2326 (by omega) ?_
    refine lw_leq hx hb dL_law_2327 (by first | omega | rfl) ?_
    refine xr_if_ne (tgt := 2335) hx hb dL_law_2328 (by decide) (by decide) (fun yy6 => absurd yy6 (by decide)) (fun _ => ?_)
    refine lv_iconst (v := iI (1)) hx hb dL_law_2331 rfl ?_
    refine lv_goto (tgt := 2336) hx hb dL_law_2332 (by decide) ?_
    refine lv_istore (i := 23) (lv' := [(23, .int (iI (1))), (33, .int (iI (0))), (32, .int (iI (0))), (31, .int (iI (0))), (18, .int (iI (sg 503 0))), (19, .int (iI (sg 506 0))), (20, .long (lI (sg 510 0))), (24, .int (iI (turn))), (0, .ref b), (1, .ref hh), (2, .ref (adM 20 0)), (3, .ref (adM 21 0)), (4, .ref (adM 22 0)), (5, .ref (adM 23 0)), (6, .ref (adM 24 0)), (7, .ref (adM 25 0)), (8, .ref (adM 26 0)), (9, .ref (adM 27 0)), (10, .ref (adM 28 0)), (11, .ref (adM 29 0)), (12, .ref (adM 30 0)), (13, .ref (adM 31 0)), (14, .ref (adM 32 0)), (15, .ref (adM 33 0)), (16, .ref (adM 34 0)), (17, .ref (adM 35 0)), (25, .int (vx)), (26, .int (iI (what))), (27, .int (iI (k))), (28, .int (iI (8 * k))), (29, .int (iI (who))), (30, .int (iI (w)))]) hx hb dL_law_2336 hl (by decide) rfl (fun ls hl => ?_)
    refine lv_goto (tgt := 3115) hx hb dL_law_2338 (by decide) ?_
    refine W.widen (k := cells + 3) (n := slots + 45) (by omega) (by omega) ?_
    exact kk ad sg (st mu 1011 (w) (2)) H locs ls _ _ _ ⟨hC, hR, h4, (by rw [st_id h2]; exact hLR), hV, hG, hM, hS⟩ (by omega) rfl rfl rfl (lv_sub hl [0, 4, 5, 6, 7, 8, 9, 10, 11, 12, 13, 14, 15, 16, 17, 18, 19, 20, 21, 22, 23, 24, 25] rfl)
  · skip
    refine lv_iconst (v := iI (1)) hx hb dL_law_2103 rfl ?_
    refine lv_goto (tgt := 2108) hx hb dL_law_2104 (by decide) ?_
    refine lv_istore (i := 32) (lv' := [(32, .int (iI (1))), (31, .int (iI (0))), (23, .int (iI (1))), (18, .int (iI (sg 503 0))), (19, .int (iI (sg 506 0))), (20, .long (lI (sg 510 0))), (24, .int (iI (turn))), (0, .ref b), (1, .ref hh), (2, .ref (adM 20 0)), (3, .ref (adM 21 0)), (4, .ref (adM 22 0)), (5, .ref (adM 23 0)), (6, .ref (adM 24 0)), (7, .ref (adM 25 0)), (8, .ref (adM 26 0)), (9, .ref (adM 27 0)), (10, .ref (adM 28 0)), (11, .ref (adM 29 0)), (12, .ref (adM 30 0)), (13, .ref (adM 31 0)), (14, .ref (adM 32 0)), (15, .ref (adM 33 0)), (16, .ref (adM 34 0)), (17, .ref (adM 35 0)), (25, .int (vx)), (26, .int (iI (what))), (27, .int (iI (k))), (28, .int (iI (8 * k))), (29, .int (iI (who))), (30, .int (iI (w)))]) hx hb dL_law_2108 hl (by decide) rfl (fun ls hl => ?_)
    refine lv_iconst (v := iI (0)) hx hb dL_law_2110 rfl ?_
    refine lv_istore (i := 33) (lv' := [(33, .int (iI (0))), (32, .int (iI (1))), (31, .int (iI (0))), (23, .int (iI (1))), (18, .int (iI (sg 503 0))), (19, .int (iI (sg 506 0))), (20, .long (lI (sg 510 0))), (24, .int (iI (turn))), (0, .ref b), (1, .ref hh), (2, .ref (adM 20 0)), (3, .ref (adM 21 0)), (4, .ref (adM 22 0)), (5, .ref (adM 23 0)), (6, .ref (adM 24 0)), (7, .ref (adM 25 0)), (8, .ref (adM 26 0)), (9, .ref (adM 27 0)), (10, .ref (adM 28 0)), (11, .ref (adM 29 0)), (12, .ref (adM 30 0)), (13, .ref (adM 31 0)), (14, .ref (adM 32 0)), (15, .ref (adM 33 0)), (16, .ref (adM 34 0)), (17, .ref (adM 35 0)), (25, .int (vx)), (26, .int (iI (what))), (27, .int (iI (k))), (28, .int (iI (8 * k))), (29, .int (iI (who))), (30, .int (iI (w)))]) hx hb dL_law_2111 hl (by decide) rfl (fun ls hl => ?_)
    have loop2113 : ∀ (n : Nat) (q : Int) (off : Int), 0 ≤ q ∧ q ≤ 4 → off = ldC mu (sg 503 0) w q.toNat → DJ sg mu w q → (4 - q).toNat < n → ∀ (H : Heap) (locs : List Loc), RC D cy A ad sg H → RM D cy A2 adM (ldN mu (sg 503 0) w q.toNat) H → va_S (fun q : Nat => s.heap.size ≤ q) s.heap H locs → ∀ ls : Array Slot, lv_has ls 37 [(23, .int (iI (1))), (18, .int (iI (sg 503 0))), (19, .int (iI (sg 506 0))), (20, .long (lI (sg 510 0))), (24, .int (iI (turn))), (0, .ref b), (1, .ref hh), (2, .ref (adM 20 0)), (3, .ref (adM 21 0)), (4, .ref (adM 22 0)), (5, .ref (adM 23 0)), (6, .ref (adM 24 0)), (7, .ref (adM 25 0)), (8, .ref (adM 26 0)), (9, .ref (adM 27 0)), (10, .ref (adM 28 0)), (11, .ref (adM 29 0)), (12, .ref (adM 30 0)), (13, .ref (adM 31 0)), (14, .ref (adM 32 0)), (15, .ref (adM 33 0)), (16, .ref (adM 34 0)), (17, .ref (adM 35 0)), (25, .int (vx)), (26, .int (iI (what))), (27, .int (iI (k))), (28, .int (iI (8 * k))), (29, .int (iI (who))), (30, .int (iI (w))), (31, .int (iI (off))), (32, .int (iI (1))), (33, .int (iI (q)))] → W p l e room_1 s m #[Value.ref b] below meth c H locs cells slots Q (F0 m 2113 ls []) := by
      intro n2113
      induction n2113 with
      | zero =>
        intro q off hq hoff hD hn2113 H locs hC hR hS ls hl
        exact absurd hn2113 (Nat.not_lt_zero _)
      | succ n2113 ih2113 =>
        intro q off hq hoff hD hn2113 H locs hC hR hS ls hl
        have hM := hD.2.1
        refine lv_iload hx hb dL_law_2113 (lv_at hl 31 rfl) ?_
        refine lv_iconst (v := iI (4)) hx hb dL_law_2115 rfl ?_
        refine xr_icmp_ge (tgt := 2296) hx hb dL_law_2116 (by decide) (by omega) (by omega) (fun yy7 => ?_) (fun yy7 => ?_)
        · skip
          have hq4 : q = 4 := by omega
          have hD4 : DJ sg mu w 4 := by rw [hq4] at hD; exact hD
          have hR : RM D cy A2 adM (ldN mu (sg 503 0) w 4) H := by rw [hq4] at hR; exact hR
          have hM : GL (ldN mu (sg 503 0) w 4) := hD4.2.1
          have hoff4 : off = drC sg w 36 := by rw [hoff, hq4]; exact hD4.2.2.2.2.2
          have hE := hd1 (by omega)
          have hcr := drC_rng (sg := sg) (w := w) 36
          refine lv_aload hx hb dL_law_2296 (lv_at hl 18 rfl) ?_
          refine lv_iload hx hb dL_law_2298 (lv_at hl 28 rfl) ?_
          refine lv_iconst (v := iI (2)) hx hb dL_law_2300 rfl ?_
          refine ys_1011 (v := 2) hx hb hK hC hR hA2 hA1 hN12 hS (by omega) dL_law_2301 (fun H locs hC hR hS => ?_)
          have hM := gl_1011 hM (w) (v := 2) (by omega)
          refine lv_aload_n hx hb dL_law_2302 rfl (lv_at hl 6 rfl) ?_
          refine lv_bipush (v := iI (11)) hx hb dL_law_2303 (by decide) ?_
          refine lv_iload hx hb dL_law_2305 (lv_at hl 28 rfl) ?_
          refine lv_iconst (v := iI (0)) hx hb dL_law_2307 rfl ?_
          refine lv_iconst (v := iI (0)) hx hb dL_law_2308 rfl ?_
          refine lv_iconst (v := iI (0)) hx hb dL_law_2309 rfl ?_
          refine lw_act (f := 8) (lo := 135) (mc := 1) (ms := 6) (E := dropE sg w) (T := (dropT sg (sAt sg w))) hx hb hml hown hts hK hXS hXN hS hA1 hN12 hG hR h4 (c_act_11 hC hG hl0 (lw_hA hA hR) w 0 0 0 (by omega)) ⟨by decide, by decide⟩ ⟨by omega, by omega⟩ hl.1 (Nat.le_of_ble_eq_true rfl) dL_law_2310 (fun ad H locs h4 hC hR hS => ?_)
          rw [if_pos hE] at hC
          rw [aR_0 hE]
          have hz := inv_of (s_drop hRel hG hGM w) hE
          rw [hes] at hC hz
          rw [hes]
          refine lv_iload hx hb dL_law_2313 (lv_at hl 30 rfl) ?_
          refine xr_if_eq (tgt := 2323) hx hb dL_law_2315 (by decide) (by decide) (fun yy8 => absurd yy8 (by decide)) (fun _ => ?_)
          refine lv_iload hx hb dL_law_2318 (lv_at hl 29 rfl) ?_
          refine lv_goto (tgt := 2326) hx hb dL_law_2320 (by decide) ?_
          refine xr_i2l hx hb dL_law_2326 (by omega) ?_
          refine lw_leq hx hb dL_law_2327 (by first | omega | rfl) ?_
          refine xr_if_ne (tgt := 2335) hx hb dL_law_2328 (by decide) (by decide) (fun yy9 => absurd yy9 (by decide)) (fun _ => ?_)
          refine lv_iconst (v := iI (1)) hx hb dL_law_2331 rfl ?_
          refine lv_goto (tgt := 2336) hx hb dL_law_2332 (by decide) ?_
          refine lv_istore (i := 23) (lv' := [(23, .int (iI (1))), (18, .int (iI (sg 503 0))), (19, .int (iI (sg 506 0))), (20, .long (lI (sg 510 0))), (24, .int (iI (turn))), (0, .ref b), (1, .ref hh), (2, .ref (adM 20 0)), (3, .ref (adM 21 0)), (4, .ref (adM 22 0)), (5, .ref (adM 23 0)), (6, .ref (adM 24 0)), (7, .ref (adM 25 0)), (8, .ref (adM 26 0)), (9, .ref (adM 27 0)), (10, .ref (adM 28 0)), (11, .ref (adM 29 0)), (12, .ref (adM 30 0)), (13, .ref (adM 31 0)), (14, .ref (adM 32 0)), (15, .ref (adM 33 0)), (16, .ref (adM 34 0)), (17, .ref (adM 35 0)), (25, .int (vx)), (26, .int (iI (what))), (27, .int (iI (k))), (28, .int (iI (8 * k))), (29, .int (iI (who))), (30, .int (iI (w))), (31, .int (iI (off))), (32, .int (iI (1))), (33, .int (iI (q)))]) hx hb dL_law_2336 hl (by decide) rfl (fun ls hl => ?_)
          refine lv_goto (tgt := 3115) hx hb dL_law_2338 (by decide) ?_
          refine W.widen (k := cells + 3) (n := slots + 45) (by omega) (by omega) ?_
          exact kk ad (dropT sg w) (st (ldN mu (sg 503 0) w 4) 1011 (w) (2)) H locs ls _ _ _ ⟨hC, hR, h4, (o_drop hG hw hD4), hz.1, hz.2, hM, hS⟩ (by rw [(dropT_f (by decide) (by decide) (by decide) (by decide) (by decide) (by decide) (by decide) (by decide) (by decide))]; omega) (dropT_f (by decide) (by decide) (by decide) (by decide) (by decide) (by decide) (by decide) (by decide) (by decide)) (dropT_f (by decide) (by decide) (by decide) (by decide) (by decide) (by decide) (by decide) (by decide) (by decide)) (dropT_f (by decide) (by decide) (by decide) (by decide) (by decide) (by decide) (by decide) (by decide) (by decide)) (lv_sub hl [0, 1, 2, 3, 4, 5, 6, 7, 8, 9, 10, 11, 12, 13, 14, 15, 16, 17, 18, 19, 20, 21, 22] rfl)
        · skip
          have hr3 := dj_r hG hD (k := q) (by omega)
          have hM6 := ml_1000 hM (8 * q + 6)
          have hM8 := ml_1008 hM ((ldN mu (sg 503 0) w q.toNat) 1000 (8 * q + 1))
          have hxr := ldX_rng (M := (ldN mu (sg 503 0) w q.toNat)) (many := sg 503 0) (q := q) (by omega)
          have hm1 := mul_rng hr3.1 hM8
          have hm2 := mul_rng hr3.2.2 hm1
          refine lv_iload hx hb dL_law_2119 (lv_at hl 30 rfl) ?_
          refine xr_if_eq (tgt := 2296) hx hb dL_law_2121 (by decide) (by decide) (fun yy10 => absurd yy10 (by decide)) (fun _ => ?_)
          refine lv_aload_n hx hb dL_law_2124 rfl (lv_at hl 7 rfl) ?_
          refine lv_bipush (v := iI (8)) hx hb dL_law_2125 (by decide) ?_
          refine lv_iload hx hb dL_law_2127 (lv_at hl 31 rfl) ?_
          refine xr_imul hx hb dL_law_2129 ?_
          refine lv_iconst (v := iI (3)) hx hb dL_law_2130 rfl ?_
          refine xr_iadd hx hb dL_law_2131 ?_
          refine xa_1000 (v := (ldN mu (sg 503 0) w q.toNat) 1000 ((8 * q) + 3)) hx hb hK hR (by omega) rfl dL_law_2132 ?_
          have g11 := ml_1000 hM ((8 * q) + 3)
          refine lv_iload hx hb dL_law_2133 (lv_at hl 28 rfl) ?_
          refine xr_icmp_ne (tgt := 2166) hx hb dL_law_2135 (by decide) (by omega) (by omega) (fun yy12 => ?_) (fun yy12 => ?_)
          · skip
            refine lv_aload_n hx hb dL_law_2166 rfl (lv_at hl 7 rfl) ?_
            refine lv_bipush (v := iI (8)) hx hb dL_law_2167 (by decide) ?_
            refine lv_iload hx hb dL_law_2169 (lv_at hl 31 rfl) ?_
            refine xr_imul hx hb dL_law_2171 ?_
            refine lv_iconst (v := iI (3)) hx hb dL_law_2172 rfl ?_
            refine xr_iadd hx hb dL_law_2173 ?_
            refine xa_1000 (v := (ldN mu (sg 503 0) w q.toNat) 1000 ((8 * q) + 3)) hx hb hK hR (by omega) rfl dL_law_2174 ?_
            refine lv_iload hx hb dL_law_2175 (lv_at hl 28 rfl) ?_
            refine xr_icmp_ne (tgt := 2290) hx hb dL_law_2177 (by decide) (by omega) (by omega) (fun yy13 => ?_) (fun yy13 => absurd yy13 (by omega))
            refine lv_iinc (v := iI (q + 1)) (lv' := [(33, .int (iI (q + 1))), (23, .int (iI (1))), (18, .int (iI (sg 503 0))), (19, .int (iI (sg 506 0))), (20, .long (lI (sg 510 0))), (24, .int (iI (turn))), (0, .ref b), (1, .ref hh), (2, .ref (adM 20 0)), (3, .ref (adM 21 0)), (4, .ref (adM 22 0)), (5, .ref (adM 23 0)), (6, .ref (adM 24 0)), (7, .ref (adM 25 0)), (8, .ref (adM 26 0)), (9, .ref (adM 27 0)), (10, .ref (adM 28 0)), (11, .ref (adM 29 0)), (12, .ref (adM 30 0)), (13, .ref (adM 31 0)), (14, .ref (adM 32 0)), (15, .ref (adM 33 0)), (16, .ref (adM 34 0)), (17, .ref (adM 35 0)), (25, .int (vx)), (26, .int (iI (what))), (27, .int (iI (k))), (28, .int (iI (8 * k))), (29, .int (iI (who))), (30, .int (iI (w))), (31, .int (iI (off))), (32, .int (iI (1)))]) hx hb dL_law_2290 hl (k := 31) rfl (iI_add _ _) (by decide) rfl (fun ls hl => ?_)
            refine lv_goto (tgt := 2113) hx hb dL_law_2293 (by decide) ?_
            have eT := ldN_s (mu := mu) (many := sg 503 0) (w := w) (i := q) hq.1
            have eC := ldC_s (mu := mu) (many := sg 503 0) (w := w) (i := q) hq.1
            rw [if_neg (by omega)] at eT eC
            have hD2 := dj_s hG hV hw.1 (by omega) hD
            have hR2 : RM D cy A2 adM (ldN mu (sg 503 0) w (q + 1).toNat) H := by rw [eT]; exact hR
            exact ih2113 (q + 1) off (by omega) (by rw [eC, hoff]) hD2 (by omega) _ _ hC hR2 hS ls (lv_sub hl [1, 2, 3, 4, 5, 6, 7, 8, 9, 10, 11, 12, 13, 14, 15, 16, 17, 18, 19, 20, 21, 22, 23, 24, 25, 26, 27, 28, 29, 30, 31, 0] rfl)
          · skip
            refine lv_aload_n hx hb dL_law_2138 rfl (lv_at hl 7 rfl) ?_
            refine lv_bipush (v := iI (8)) hx hb dL_law_2139 (by decide) ?_
            refine lv_iload hx hb dL_law_2141 (lv_at hl 31 rfl) ?_
            refine xr_imul hx hb dL_law_2143 ?_
            refine lv_iconst (v := iI (2)) hx hb dL_law_2144 rfl ?_
            refine xr_iadd hx hb dL_law_2145 ?_
            refine xa_1000 (v := (ldN mu (sg 503 0) w q.toNat) 1000 ((8 * q) + 2)) hx hb hK hR (by omega) rfl dL_law_2146 ?_
            have g14 := ml_1000 hM ((8 * q) + 2)
            refine xr_if_ne (tgt := 2166) hx hb dL_law_2147 (by decide) (by omega) (fun yy15 => ?_) (fun yy15 => ?_)
            · skip
              refine lv_aload_n hx hb dL_law_2166 rfl (lv_at hl 7 rfl) ?_
              refine lv_bipush (v := iI (8)) hx hb dL_law_2167 (by decide) ?_
              refine lv_iload hx hb dL_law_2169 (lv_at hl 31 rfl) ?_
              refine xr_imul hx hb dL_law_2171 ?_
              refine lv_iconst (v := iI (3)) hx hb dL_law_2172 rfl ?_
              refine xr_iadd hx hb dL_law_2173 ?_
              refine xa_1000 (v := (ldN mu (sg 503 0) w q.toNat) 1000 ((8 * q) + 3)) hx hb hK hR (by omega) rfl dL_law_2174 ?_
              refine lv_iload hx hb dL_law_2175 (lv_at hl 28 rfl) ?_
              refine xr_icmp_ne (tgt := 2290) hx hb dL_law_2177 (by decide) (by omega) (by omega) (fun yy16 => absurd yy16 (by omega)) (fun yy16 => ?_)
              refine lv_aload_n hx hb dL_law_2180 rfl (lv_at hl 7 rfl) ?_
              refine lv_bipush (v := iI (8)) hx hb dL_law_2181 (by decide) ?_
              refine lv_iload hx hb dL_law_2183 (lv_at hl 31 rfl) ?_
              refine xr_imul hx hb dL_law_2185 ?_
              refine lv_iconst (v := iI (3)) hx hb dL_law_2186 rfl ?_
              refine xr_iadd hx hb dL_law_2187 ?_
              refine lv_iconst (v := iI (-1)) hx hb dL_law_2188 rfl ?_
              refine ys_1000 (v := -1) hx hb hK hC hR hA2 hA1 hN12 hS (by omega) dL_law_2189 (fun H locs hC hR hS => ?_)
              have hM := gl_1000 hM ((8 * q) + 3) (v := -1) (by omega)
              refine lv_aload_n hx hb dL_law_2190 rfl (lv_at hl 7 rfl) ?_
              refine lv_bipush (v := iI (8)) hx hb dL_law_2191 (by decide) ?_
              refine lv_iload hx hb dL_law_2193 (lv_at hl 31 rfl) ?_
              refine xr_imul hx hb dL_law_2195 ?_
              refine lv_bipush (v := iI (7)) hx hb dL_law_2196 (by decide) ?_
              refine xr_iadd hx hb dL_law_2198 ?_
              have J2228 : W p l e room_1 s m #[Value.ref b] below meth c H locs cells slots Q (F0 m 2228 ls [.int (iI (ldX (ldN mu (sg 503 0) w q.toNat) (sg 503 0) q)), .int (iI ((8 * q) + 7)), .ref (adM 20 0)]) := by
                refine ys_1000 (v := ldX (ldN mu (sg 503 0) w q.toNat) (sg 503 0) q) hx hb hK hC hR hA2 hA1 hN12 hS (by omega) dL_law_2228 (fun H locs hC hR hS => ?_)
                have hM := gl_1000 hM ((8 * q) + 7) (v := ldX (ldN mu (sg 503 0) w q.toNat) (sg 503 0) q) (by omega)
                refine lv_aload hx hb dL_law_2229 (lv_at hl 19 rfl) ?_
                refine lv_iload hx hb dL_law_2231 (lv_at hl 31 rfl) ?_
                refine lv_aload_n hx hb dL_law_2233 rfl (lv_at hl 7 rfl) ?_
                refine lv_bipush (v := iI (8)) hx hb dL_law_2234 (by decide) ?_
                refine lv_iload hx hb dL_law_2236 (lv_at hl 31 rfl) ?_
                refine xr_imul hx hb dL_law_2238 ?_
                refine lv_iconst (v := iI (4)) hx hb dL_law_2239 rfl ?_
                refine xr_iadd hx hb dL_law_2240 ?_
                refine xa_1000 (v := (ldN mu (sg 503 0) w q.toNat) 1000 ((8 * q) + 4)) hx hb hK hR (by omega) ((st_j (by omega)).trans ((st_j (by omega)).trans rfl)) dL_law_2241 ?_
                refine lv_aload_n hx hb dL_law_2242 rfl (lv_at hl 7 rfl) ?_
                refine lv_bipush (v := iI (8)) hx hb dL_law_2243 (by decide) ?_
                refine lv_iload hx hb dL_law_2245 (lv_at hl 31 rfl) ?_
                refine xr_imul hx hb dL_law_2247 ?_
                refine xa_1000 (v := (ldN mu (sg 503 0) w q.toNat) 1000 (8 * q)) hx hb hK hR (by omega) ((st_j (by omega)).trans ((st_j (by omega)).trans rfl)) dL_law_2248 ?_
                refine lv_aload hx hb dL_law_2249 (lv_at hl 15 rfl) ?_
                refine lv_aload_n hx hb dL_law_2251 rfl (lv_at hl 7 rfl) ?_
                refine lv_bipush (v := iI (8)) hx hb dL_law_2252 (by decide) ?_
                refine lv_iload hx hb dL_law_2254 (lv_at hl 31 rfl) ?_
                refine xr_imul hx hb dL_law_2256 ?_
                refine lv_iconst (v := iI (1)) hx hb dL_law_2257 rfl ?_
                refine xr_iadd hx hb dL_law_2258 ?_
                refine xa_1000 (v := (ldN mu (sg 503 0) w q.toNat) 1000 ((8 * q) + 1)) hx hb hK hR (by omega) ((st_j (by omega)).trans ((st_j (by omega)).trans rfl)) dL_law_2259 ?_
                refine xa_1008 (v := (ldN mu (sg 503 0) w q.toNat) 1008 ((ldN mu (sg 503 0) w q.toNat) 1000 ((8 * q) + 1))) hx hb hK hR (by omega) ((st_f (by decide)).trans ((st_f (by decide)).trans rfl)) dL_law_2260 ?_
                refine xr_imul hx hb dL_law_2261 ?_
                refine xr_imul hx hb dL_law_2262 ?_
                refine lv_bipush (v := iI (100)) hx hb dL_law_2263 (by decide) ?_
                refine xr_idiv hx hb dL_law_2265 (by omega) (by omega) ?_
                refine ys_1012 (v := (((ldN mu (sg 503 0) w q.toNat) 1000 ((8 * q) + 4)) * (((ldN mu (sg 503 0) w q.toNat) 1000 (8 * q)) * ((ldN mu (sg 503 0) w q.toNat) 1008 ((ldN mu (sg 503 0) w q.toNat) 1000 ((8 * q) + 1))))) / 100) hx hb hK hC hR hA2 hA1 hN12 hS (by omega) dL_law_2266 (fun H locs hC hR hS => ?_)
                have hM := gl_1012 hM (q) (v := (((ldN mu (sg 503 0) w q.toNat) 1000 ((8 * q) + 4)) * (((ldN mu (sg 503 0) w q.toNat) 1000 (8 * q)) * ((ldN mu (sg 503 0) w q.toNat) 1008 ((ldN mu (sg 503 0) w q.toNat) 1000 ((8 * q) + 1))))) / 100) (by omega)
                refine lv_iload hx hb dL_law_2267 (lv_at hl 29 rfl) ?_
                have J2287 : W p l e room_1 s m #[Value.ref b] below meth c H locs cells slots Q (F0 m 2287 ls [.int (iI (if ldX (ldN mu (sg 503 0) w q.toNat) (sg 503 0) q < 0 then 0 else 1)), .int (iI (off))]) := by
                  refine xr_iadd hx hb dL_law_2287 ?_
                  refine lv_istore (i := 31) (lv' := [(31, .int (iI (off + (if ldX (ldN mu (sg 503 0) w q.toNat) (sg 503 0) q < 0 then 0 else 1)))), (23, .int (iI (1))), (18, .int (iI (sg 503 0))), (19, .int (iI (sg 506 0))), (20, .long (lI (sg 510 0))), (24, .int (iI (turn))), (0, .ref b), (1, .ref hh), (2, .ref (adM 20 0)), (3, .ref (adM 21 0)), (4, .ref (adM 22 0)), (5, .ref (adM 23 0)), (6, .ref (adM 24 0)), (7, .ref (adM 25 0)), (8, .ref (adM 26 0)), (9, .ref (adM 27 0)), (10, .ref (adM 28 0)), (11, .ref (adM 29 0)), (12, .ref (adM 30 0)), (13, .ref (adM 31 0)), (14, .ref (adM 32 0)), (15, .ref (adM 33 0)), (16, .ref (adM 34 0)), (17, .ref (adM 35 0)), (25, .int (vx)), (26, .int (iI (what))), (27, .int (iI (k))), (28, .int (iI (8 * k))), (29, .int (iI (who))), (30, .int (iI (w))), (32, .int (iI (1))), (33, .int (iI (q)))]) hx hb dL_law_2288 hl (by decide) rfl (fun ls hl => ?_)
                  refine lv_iinc (v := iI (q + 1)) (lv' := [(33, .int (iI (q + 1))), (31, .int (iI (off + (if ldX (ldN mu (sg 503 0) w q.toNat) (sg 503 0) q < 0 then 0 else 1)))), (23, .int (iI (1))), (18, .int (iI (sg 503 0))), (19, .int (iI (sg 506 0))), (20, .long (lI (sg 510 0))), (24, .int (iI (turn))), (0, .ref b), (1, .ref hh), (2, .ref (adM 20 0)), (3, .ref (adM 21 0)), (4, .ref (adM 22 0)), (5, .ref (adM 23 0)), (6, .ref (adM 24 0)), (7, .ref (adM 25 0)), (8, .ref (adM 26 0)), (9, .ref (adM 27 0)), (10, .ref (adM 28 0)), (11, .ref (adM 29 0)), (12, .ref (adM 30 0)), (13, .ref (adM 31 0)), (14, .ref (adM 32 0)), (15, .ref (adM 33 0)), (16, .ref (adM 34 0)), (17, .ref (adM 35 0)), (25, .int (vx)), (26, .int (iI (what))), (27, .int (iI (k))), (28, .int (iI (8 * k))), (29, .int (iI (who))), (30, .int (iI (w))), (32, .int (iI (1)))]) hx hb dL_law_2290 hl (k := 31) rfl (iI_add _ _) (by decide) rfl (fun ls hl => ?_)
                  refine lv_goto (tgt := 2113) hx hb dL_law_2293 (by decide) ?_
                  have eT := ldN_s (mu := mu) (many := sg 503 0) (w := w) (i := q) hq.1
                  have eC := ldC_s (mu := mu) (many := sg 503 0) (w := w) (i := q) hq.1
                  rw [if_pos (by omega), if_neg (by omega)] at eT eC
                  have hD2 := dj_s hG hV hw.1 (by omega) hD
                  have hR2 : RM D cy A2 adM (ldN mu (sg 503 0) w (q + 1).toNat) H := by rw [eT]; exact hR
                  exact ih2113 (q + 1) (off + (if ldX (ldN mu (sg 503 0) w q.toNat) (sg 503 0) q < 0 then 0 else 1)) (by omega) (by rw [eC, hoff]) hD2 (by omega) _ _ hC hR2 hS ls (lv_sub hl [2, 3, 4, 5, 6, 7, 8, 9, 10, 11, 12, 13, 14, 15, 16, 17, 18, 19, 20, 21, 22, 23, 24, 25, 26, 27, 28, 29, 30, 1, 31, 0] rfl)
                refine lv_aload_n hx hb dL_law_2269 rfl (lv_at hl 7 rfl) ?_
                refine lv_bipush (v := iI (8)) hx hb dL_law_2270 (by decide) ?_
                refine lv_iload hx hb dL_law_2272 (lv_at hl 31 rfl) ?_
                refine xr_imul hx hb dL_law_2274 ?_
                refine lv_bipush (v := iI (7)) hx hb dL_law_2275 (by decide) ?_
                refine xr_iadd hx hb dL_law_2277 ?_
                refine xa_1000 (v := ldX (ldN mu (sg 503 0) w q.toNat) (sg 503 0) q) hx hb hK hR (by omega) ((st_f (by decide)).trans (st_s)) dL_law_2278 ?_
                refine xr_if_ge (tgt := 2286) hx hb dL_law_2279 (by decide) (by omega) (fun yy17 => ?_) (fun yy17 => ?_)
                · skip
                  refine lv_iconst (v := iI (1)) hx hb dL_law_2286 rfl ?_
                  exact w_topI (by first | exact (if_pos (by omega)).symm | exact (if_neg (by omega)).symm) J2287
                · skip
                  refine lv_iconst (v := iI (0)) hx hb dL_law_2282 rfl ?_
                  refine lv_goto (tgt := 2287) hx hb dL_law_2283 (by decide) ?_
                  exact w_topI (by first | exact (if_pos (by omega)).symm | exact (if_neg (by omega)).symm) J2287
              refine lv_aload_n hx hb dL_law_2199 rfl (lv_at hl 7 rfl) ?_
              refine lv_bipush (v := iI (8)) hx hb dL_law_2200 (by decide) ?_
              refine lv_iload hx hb dL_law_2202 (lv_at hl 31 rfl) ?_
              refine xr_imul hx hb dL_law_2204 ?_
              refine lv_bipush (v := iI (6)) hx hb dL_law_2205 (by decide) ?_
              refine xr_iadd hx hb dL_law_2207 ?_
              refine xa_1000 (v := (ldN mu (sg 503 0) w q.toNat) 1000 ((8 * q) + 6)) hx hb hK hR (by omega) ((st_j (by omega)).trans rfl) dL_law_2208 ?_
              refine lv_iconst (v := iI (1)) hx hb dL_law_2209 rfl ?_
              refine xr_icmp_ne (tgt := 2217) hx hb dL_law_2210 (by decide) (by omega) (by omega) (fun yy18 => ?_) (fun yy18 => ?_)
              · skip
                refine lv_aload_n hx hb dL_law_2217 rfl (lv_at hl 8 rfl) ?_
                refine lv_aload hx hb dL_law_2218 (lv_at hl 9 rfl) ?_
                refine lv_iload hx hb dL_law_2220 (lv_at hl 1 rfl) ?_
                refine lv_iload hx hb dL_law_2222 (lv_at hl 31 rfl) ?_
                refine lv_iconst (v := iI (-1)) hx hb dL_law_2224 rfl ?_
                refine xk_pF (xr_S (As := [.ref (adM 21 0), .ref (adM 22 0), .int (iI (sg 503 0)), .int (iI (q)), .int (iI (-1))]) (rest := [.int (iI ((8 * q) + 7)), .ref (adM 20 0)]) hx hb hml hown hts hK (c_L_next hR hM (sg 503 0) q (-1) (by omega) (by omega) (by omega)) ms_L_next kw_667 ⟨by decide, by decide⟩ ⟨by show _ ≤ 600104; omega, by show _ ≤ 7301314; omega⟩ rfl rfl hl.1 rfl (lv_room (Nat.le_of_ble_eq_true rfl)) dL_law_2225) ?_
                exact w_topI (by unfold ldX; first | exact (if_pos (by omega)).symm | (rw [if_neg (by omega)]; exact lNx_ext (funext fun _ => st_f (by decide)) (funext fun _ => st_f (by decide)) 100)) J2228
              · skip
                refine lv_iconst (v := iI (-1)) hx hb dL_law_2213 rfl ?_
                refine lv_goto (tgt := 2228) hx hb dL_law_2214 (by decide) ?_
                exact w_topI (by unfold ldX; first | exact (if_pos (by omega)).symm | (rw [if_neg (by omega)]; exact lNx_ext (funext fun _ => st_f (by decide)) (funext fun _ => st_f (by decide)) 100)) J2228
            · skip
              refine lv_aload_n hx hb dL_law_2150 rfl (lv_at hl 7 rfl) ?_
              refine lv_aload_n hx hb dL_law_2151 rfl (lv_at hl 8 rfl) ?_
              refine lv_aload hx hb dL_law_2152 (lv_at hl 11 rfl) ?_
              refine lv_aload hx hb dL_law_2154 (lv_at hl 12 rfl) ?_
              refine lv_iload hx hb dL_law_2156 (lv_at hl 1 rfl) ?_
              refine lv_iload hx hb dL_law_2158 (lv_at hl 31 rfl) ?_
              refine lw_mut (xr_S (As := [.ref (adM 20 0), .ref (adM 21 0), .ref (adM 24 0), .ref (adM 25 0), .int (iI (sg 503 0)), .int (iI (q))]) (rest := []) hx hb hml hown hts hK (c_L_forget hR hM (sg 503 0) q (by omega) (by omega)) ms_L_forget kw_664 ⟨by decide, by decide⟩ ⟨by show _ ≤ 600104; omega, by show _ ≤ 7301314; omega⟩ rfl rfl hl.1 rfl (lv_room (Nat.le_of_ble_eq_true rfl)) dL_law_2160) hS hA2 hN12 hC (fun H locs hR hC hS => ?_)
              have hM := gl_lfN hM q (sg 503 0)
              show W p l e room_1 s m #[Value.ref b] below meth c H locs (cells + 0) (slots + 0) Q (F0 m 2163 ls [])
              refine lv_goto (tgt := 2290) hx hb dL_law_2163 (by decide) ?_
              refine lv_iinc (v := iI (q + 1)) (lv' := [(33, .int (iI (q + 1))), (23, .int (iI (1))), (18, .int (iI (sg 503 0))), (19, .int (iI (sg 506 0))), (20, .long (lI (sg 510 0))), (24, .int (iI (turn))), (0, .ref b), (1, .ref hh), (2, .ref (adM 20 0)), (3, .ref (adM 21 0)), (4, .ref (adM 22 0)), (5, .ref (adM 23 0)), (6, .ref (adM 24 0)), (7, .ref (adM 25 0)), (8, .ref (adM 26 0)), (9, .ref (adM 27 0)), (10, .ref (adM 28 0)), (11, .ref (adM 29 0)), (12, .ref (adM 30 0)), (13, .ref (adM 31 0)), (14, .ref (adM 32 0)), (15, .ref (adM 33 0)), (16, .ref (adM 34 0)), (17, .ref (adM 35 0)), (25, .int (vx)), (26, .int (iI (what))), (27, .int (iI (k))), (28, .int (iI (8 * k))), (29, .int (iI (who))), (30, .int (iI (w))), (31, .int (iI (off))), (32, .int (iI (1)))]) hx hb dL_law_2290 hl (k := 31) rfl (iI_add _ _) (by decide) rfl (fun ls hl => ?_)
              refine lv_goto (tgt := 2113) hx hb dL_law_2293 (by decide) ?_
              have eT := ldN_s (mu := mu) (many := sg 503 0) (w := w) (i := q) hq.1
              have eC := ldC_s (mu := mu) (many := sg 503 0) (w := w) (i := q) hq.1
              rw [if_pos (by omega), if_pos (by omega)] at eT eC
              have hD2 := dj_s hG hV hw.1 (by omega) hD
              have hR2 : RM D cy A2 adM (ldN mu (sg 503 0) w (q + 1).toNat) H := by rw [eT]; exact hR
              exact ih2113 (q + 1) off (by omega) (by rw [eC, hoff]) hD2 (by omega) _ _ hC hR2 hS ls (lv_sub hl [1, 2, 3, 4, 5, 6, 7, 8, 9, 10, 11, 12, 13, 14, 15, 16, 17, 18, 19, 20, 21, 22, 23, 24, 25, 26, 27, 28, 29, 30, 31, 0] rfl)
    exact loop2113 _ 0 0 (by omega) rfl (dj_0 hLR hM) (Nat.lt_succ_self _) _ _ hC hR hS ls (lv_sub hl [3, 4, 5, 6, 7, 8, 9, 10, 11, 12, 13, 14, 15, 16, 17, 18, 19, 20, 21, 22, 23, 24, 25, 26, 27, 28, 29, 30, 31, 2, 1, 0] rfl)
set_option maxRecDepth 100000 in
set_option maxHeartbeats 8000000 in
theorem law_pass {p : Program} {l : Launch} {e : Env} {s : State} {m : MethodId} {below : List Frame} {meth : Method} {c : Code} {D : va_G} {cy : Nat → ClassId} {A A2 : Nat → Prop} {b L hh : Nat} {xs : Nat → Int32} {ad adM : Nat → Int → Nat} {sg mu : Nat → Int → Int} {H : Heap} {locs : List Loc} {cells slots : Nat} {Q : State → Prop} {ls : Array Slot} {turn : Int} {vx : Int32} {what k who w : Int} (E : LE p l s m meth c b L xs D cy A A2 adM) (I : LI D cy A A2 s hh ad adM sg mu H locs) (h7 : sg 702 0 ≤ 1000000) (hcl : cells + 1000 ≤ 600104) (hsl : slots + 20000 ≤ 7301314) (hwhat : 0 ≤ what ∧ what < 24) (hk : 0 ≤ k ∧ k ≤ 3) (hw : 0 ≤ w ∧ w ≤ 1) (hl : lv_has ls 37 [(23, .int (iI (1))), (18, .int (iI (sg 503 0))), (19, .int (iI (sg 506 0))), (20, .long (lI (sg 510 0))), (24, .int (iI (turn))), (0, .ref b), (1, .ref hh), (2, .ref (adM 20 0)), (3, .ref (adM 21 0)), (4, .ref (adM 22 0)), (5, .ref (adM 23 0)), (6, .ref (adM 24 0)), (7, .ref (adM 25 0)), (8, .ref (adM 26 0)), (9, .ref (adM 27 0)), (10, .ref (adM 28 0)), (11, .ref (adM 29 0)), (12, .ref (adM 30 0)), (13, .ref (adM 31 0)), (14, .ref (adM 32 0)), (15, .ref (adM 33 0)), (16, .ref (adM 34 0)), (17, .ref (adM 35 0)), (25, .int (vx)), (26, .int (iI (what))), (27, .int (iI (k))), (28, .int (iI (8 * k))), (29, .int (iI (who))), (30, .int (iI (w)))]) (kk : LK p l e s m below meth c b D cy A A2 hh adM cells slots Q sg turn) : W p l e room_1 s m #[Value.ref b] below meth c H locs cells slots Q (F0 m 2971 ls []) := by
  obtain ⟨⟨hx, hb, hr, hml, hown, hts0, hX, hbl, hlocks, -⟩, hl0, hK, hXS, hXN, hA, hA1, hA2, hN12, hL⟩ := E
  obtain ⟨hC, hR, h4, hLR, hV, hG, hM, hS⟩ := I
  have hM0 := hM
  have hts : ∀ w ∈ wG, w.before #[Value.ref b] s = true := fun w hw => hts0 w (List.mem_filter.mp hw).1
  have hown : s.vm.findClass "TakinghallLaw" = some m.cls := hown
  have g503 := gr_503 hG 0
  have g506 := gr_506 hG 0
  obtain ⟨mm, hRel, hGM⟩ := id hV
  have hV0 := hV
  have hG0 := hG
  refine lv_iconst (v := iI (1)) hx hb dL_law_2971 rfl ?_
  refine lv_iload hx hb dL_law_2972 (lv_at hl 23 rfl) ?_
  refine lv_bipush (v := iI (32)) hx hb dL_law_2974 (by decide) ?_
  refine lw_idiv hx hb (by decide) dL_law_2976 ?_
  have J3006 : ∀ bd : Int, (25 ≤ bd ∧ bd ≤ 400) → W p l e room_1 s m #[Value.ref b] below meth c H locs cells slots Q (F0 m 3006 ls [.int (iI (bd)), .int (vx / iI (32)), .int (iI (1))]) := by
    intro bd hbd
    refine lw_up (n := bd) hx hb hml hown hts hK hl.1 ⟨by omega, by omega⟩ (by omega) (lv_room (Nat.le_of_ble_eq_true rfl)) dL_law_3006 (fun d0 d0a d0b => ?_)
    refine xr_iadd hx hb dL_law_3009 ?_
    refine lv_istore (i := 31) (lv' := [(31, .int (iI (1 + d0))), (23, .int (iI (1))), (18, .int (iI (sg 503 0))), (19, .int (iI (sg 506 0))), (20, .long (lI (sg 510 0))), (24, .int (iI (turn))), (0, .ref b), (1, .ref hh), (2, .ref (adM 20 0)), (3, .ref (adM 21 0)), (4, .ref (adM 22 0)), (5, .ref (adM 23 0)), (6, .ref (adM 24 0)), (7, .ref (adM 25 0)), (8, .ref (adM 26 0)), (9, .ref (adM 27 0)), (10, .ref (adM 28 0)), (11, .ref (adM 29 0)), (12, .ref (adM 30 0)), (13, .ref (adM 31 0)), (14, .ref (adM 32 0)), (15, .ref (adM 33 0)), (16, .ref (adM 34 0)), (17, .ref (adM 35 0)), (25, .int (vx)), (26, .int (iI (what))), (27, .int (iI (k))), (28, .int (iI (8 * k))), (29, .int (iI (who))), (30, .int (iI (w)))]) hx hb dL_law_3010 hl (by decide) rfl (fun ls hl => ?_)
    refine lv_iload hx hb dL_law_3012 (lv_at hl 3 rfl) ?_
    refine lv_iload hx hb dL_law_3014 (lv_at hl 0 rfl) ?_
    refine xr_iadd hx hb dL_law_3016 ?_
    refine lv_sipush (v := iI (20000)) hx hb dL_law_3017 (by decide) ?_
    refine xr_icmp_gt (tgt := 3048) hx hb dL_law_3020 (by decide) (by omega) (by omega) (fun yy1 => ?_) (fun yy1 => ?_)
    · skip
      refine lv_iload hx hb dL_law_3048 (lv_at hl 24 rfl) ?_
      refine lv_bipush (v := iI (64)) hx hb dL_law_3050 (by decide) ?_
      refine lw_idiv hx hb (by decide) dL_law_3052 ?_
      refine lv_iconst (v := iI (3)) hx hb dL_law_3053 rfl ?_
      refine lw_up (n := 3) hx hb hml hown hts hK hl.1 ⟨by omega, by omega⟩ (by decide) (lv_room (Nat.le_of_ble_eq_true rfl)) dL_law_3054 (fun ut uta utb => ?_)
      refine lv_istore (i := 32) (lv' := [(32, .int (iI (ut))), (31, .int (iI (1 + d0))), (23, .int (iI (1))), (18, .int (iI (sg 503 0))), (19, .int (iI (sg 506 0))), (20, .long (lI (sg 510 0))), (24, .int (iI (turn))), (0, .ref b), (1, .ref hh), (2, .ref (adM 20 0)), (3, .ref (adM 21 0)), (4, .ref (adM 22 0)), (5, .ref (adM 23 0)), (6, .ref (adM 24 0)), (7, .ref (adM 25 0)), (8, .ref (adM 26 0)), (9, .ref (adM 27 0)), (10, .ref (adM 28 0)), (11, .ref (adM 29 0)), (12, .ref (adM 30 0)), (13, .ref (adM 31 0)), (14, .ref (adM 32 0)), (15, .ref (adM 33 0)), (16, .ref (adM 34 0)), (17, .ref (adM 35 0)), (25, .int (vx)), (26, .int (iI (what))), (27, .int (iI (k))), (28, .int (iI (8 * k))), (29, .int (iI (who))), (30, .int (iI (w)))]) hx hb dL_law_3057 hl (by decide) rfl (fun ls hl => ?_)
      refine lv_iload hx hb dL_law_3059 (lv_at hl 26 rfl) ?_
      refine lv_bipush (v := iI (22)) hx hb dL_law_3061 (by decide) ?_
      refine xr_icmp_ne (tgt := 3115) hx hb dL_law_3063 (by decide) (by omega) (by omega) (fun yy2 => ?_) (fun yy2 => ?_)
      · skip
        refine W.widen (k := cells + 3) (n := slots + 45) (by omega) (by omega) ?_
        exact kk ad sg mu H locs ls _ _ _ ⟨hC, hR, h4, hLR, hV, hG, hM, hS⟩ (by omega) rfl rfl rfl (lv_sub hl [2, 3, 4, 5, 6, 7, 8, 9, 10, 11, 12, 13, 14, 15, 16, 17, 18, 19, 20, 21, 22, 23, 24] rfl)
      · skip
        refine lv_iload hx hb dL_law_3066 (lv_at hl 25 rfl) ?_
        refine lv_sipush (v := iI (128)) hx hb dL_law_3068 (by decide) ?_
        refine lw_idiv hx hb (by decide) dL_law_3071 ?_
        refine lv_sipush (v := iI (1001)) hx hb dL_law_3072 (by decide) ?_
        refine lw_up (n := 1001) hx hb hml hown hts hK hl.1 ⟨by omega, by omega⟩ (by decide) (lv_room (Nat.le_of_ble_eq_true rfl)) dL_law_3075 (fun ce cea ceb => ?_)
        refine lv_istore (i := 33) (lv' := [(33, .int (iI (ce))), (32, .int (iI (ut))), (31, .int (iI (1 + d0))), (23, .int (iI (1))), (18, .int (iI (sg 503 0))), (19, .int (iI (sg 506 0))), (20, .long (lI (sg 510 0))), (24, .int (iI (turn))), (0, .ref b), (1, .ref hh), (2, .ref (adM 20 0)), (3, .ref (adM 21 0)), (4, .ref (adM 22 0)), (5, .ref (adM 23 0)), (6, .ref (adM 24 0)), (7, .ref (adM 25 0)), (8, .ref (adM 26 0)), (9, .ref (adM 27 0)), (10, .ref (adM 28 0)), (11, .ref (adM 29 0)), (12, .ref (adM 30 0)), (13, .ref (adM 31 0)), (14, .ref (adM 32 0)), (15, .ref (adM 33 0)), (16, .ref (adM 34 0)), (17, .ref (adM 35 0)), (25, .int (vx)), (26, .int (iI (what))), (27, .int (iI (k))), (28, .int (iI (8 * k))), (29, .int (iI (who))), (30, .int (iI (w)))]) hx hb dL_law_3078 hl (by decide) rfl (fun ls hl => ?_)
        refine lv_iload hx hb dL_law_3080 (lv_at hl 3 rfl) ?_
        refine xr_if_eq (tgt := 3105) hx hb dL_law_3082 (by decide) (by decide) (fun yy3 => absurd yy3 (by decide)) (fun _ => ?_)
        refine lv_aload_n hx hb dL_law_3085 rfl (lv_at hl 9 rfl) ?_
        refine lv_iload hx hb dL_law_3086 (lv_at hl 1 rfl) ?_
        refine lv_iload hx hb dL_law_3088 (lv_at hl 0 rfl) ?_
        have hQ := hLR.2.2.2.2.2.2.2.2.2.2.1 ut (by omega) (by omega)
        have hQ8 := ml_1008 hM0 ut
        have hE2 : priceE ut ce = 0 := if_neg (by omega)
        rw [← h4]
        refine lw_back (lw_run (As := [.int (iI (ut)), .int (iI (ce))]) (rest := []) hx hb hml hown hts hK hXS hS hA1 hC hG (c_X4_price hC hG hl0 (lw_hA hA hR) ut ce (by omega) (by omega)) ms_X4_price kw_248 ⟨by decide, by decide⟩ ⟨by omega, by omega⟩ rfl hl.1 (Nat.le_of_ble_eq_true rfl) dL_law_3090) (by exact hE2) hS hA1 hN12 hR (fun H locs hC hR hS => ?_)
        obtain ⟨ad, ho, hC⟩ := hC
        have h4 := (ho 4 0 (gd_4 hG)).trans h4
        have hz := inv_of (s_price hRel hG hGM h7 ut ce) hE2
        have hLR := o_price hLR hG (u := ut) (ce := ce) (by omega) (by omega) h7
        rw [← hQ]
        refine lv_aload hx hb dL_law_3093 (lv_at hl 18 rfl) ?_
        refine lv_iload hx hb dL_law_3095 (lv_at hl 1 rfl) ?_
        refine xa_1008 (v := mu 1008 ut) hx hb hK hR (by omega) rfl dL_law_3097 ?_
        have g4 := ml_1008 hM0 (ut)
        refine xr_icmp_ne (tgt := 3105) hx hb dL_law_3098 (by decide) (by omega) (by omega) (fun yy5 => absurd yy5 (by omega)) (fun yy5 => ?_)
        refine lv_iconst (v := iI (1)) hx hb dL_law_3101 rfl ?_
        refine lv_goto (tgt := 3106) hx hb dL_law_3102 (by decide) ?_
        refine lv_istore (i := 23) (lv' := [(23, .int (iI (1))), (33, .int (iI (ce))), (32, .int (iI (ut))), (31, .int (iI (1 + d0))), (18, .int (iI (sg 503 0))), (19, .int (iI (sg 506 0))), (20, .long (lI (sg 510 0))), (24, .int (iI (turn))), (0, .ref b), (1, .ref hh), (2, .ref (adM 20 0)), (3, .ref (adM 21 0)), (4, .ref (adM 22 0)), (5, .ref (adM 23 0)), (6, .ref (adM 24 0)), (7, .ref (adM 25 0)), (8, .ref (adM 26 0)), (9, .ref (adM 27 0)), (10, .ref (adM 28 0)), (11, .ref (adM 29 0)), (12, .ref (adM 30 0)), (13, .ref (adM 31 0)), (14, .ref (adM 32 0)), (15, .ref (adM 33 0)), (16, .ref (adM 34 0)), (17, .ref (adM 35 0)), (25, .int (vx)), (26, .int (iI (what))), (27, .int (iI (k))), (28, .int (iI (8 * k))), (29, .int (iI (who))), (30, .int (iI (w)))]) hx hb dL_law_3106 hl (by decide) rfl (fun ls hl => ?_)
        refine lv_aload hx hb dL_law_3108 (lv_at hl 18 rfl) ?_
        refine lv_iload hx hb dL_law_3110 (lv_at hl 2 rfl) ?_
        refine lv_iload hx hb dL_law_3112 (lv_at hl 1 rfl) ?_
        refine ys_1008 (v := ce) hx hb hK hC hR hA2 hA1 hN12 hS (by omega) dL_law_3114 (fun H locs hC hR hS => ?_)
        have hM := gl_1008 hM (ut) (v := ce) (by omega)
        refine W.widen (k := cells + 3) (n := slots + 45) (by omega) (by omega) ?_
        exact kk ad (priceT sg ut ce) (st mu 1008 (ut) (ce)) H locs ls _ _ _ ⟨hC, hR, h4, hLR, hz.1, hz.2, hM, hS⟩ (by rw [pr_702]; show sg 702 0 + 1 ≤ sg 702 0 + 1; omega) (congrFun (pr_f (by decide) (by decide) (by decide)) 0) (congrFun (pr_f (by decide) (by decide) (by decide)) 0) (congrFun (pr_f (by decide) (by decide) (by decide)) 0) (lv_sub hl [0, 4, 5, 6, 7, 8, 9, 10, 11, 12, 13, 14, 15, 16, 17, 18, 19, 20, 21, 22, 23, 24, 25] rfl)
    · skip
      refine lv_iload hx hb dL_law_3023 (lv_at hl 3 rfl) ?_
      refine lv_iload hx hb dL_law_3025 (lv_at hl 0 rfl) ?_
      refine xr_iadd hx hb dL_law_3027 ?_
      refine lv_istore (i := 19) (lv' := [(19, .int (iI ((sg 506 0) + (1 + d0)))), (31, .int (iI (1 + d0))), (23, .int (iI (1))), (18, .int (iI (sg 503 0))), (20, .long (lI (sg 510 0))), (24, .int (iI (turn))), (0, .ref b), (1, .ref hh), (2, .ref (adM 20 0)), (3, .ref (adM 21 0)), (4, .ref (adM 22 0)), (5, .ref (adM 23 0)), (6, .ref (adM 24 0)), (7, .ref (adM 25 0)), (8, .ref (adM 26 0)), (9, .ref (adM 27 0)), (10, .ref (adM 28 0)), (11, .ref (adM 29 0)), (12, .ref (adM 30 0)), (13, .ref (adM 31 0)), (14, .ref (adM 32 0)), (15, .ref (adM 33 0)), (16, .ref (adM 34 0)), (17, .ref (adM 35 0)), (25, .int (vx)), (26, .int (iI (what))), (27, .int (iI (k))), (28, .int (iI (8 * k))), (29, .int (iI (who))), (30, .int (iI (w)))]) hx hb dL_law_3028 hl (by decide) rfl (fun ls hl => ?_)
      refine lv_aload_n hx hb dL_law_3030 rfl (lv_at hl 7 rfl) ?_
      refine lv_iload hx hb dL_law_3031 (lv_at hl 1 rfl) ?_
      have hE : passE sg (1 + d0) = 0 := by unfold passE; rw [if_neg (by omega), if_neg (by omega)]
      rw [← h4]
      refine lw_back (lw_run (As := [.int (iI (1 + d0))]) (rest := []) hx hb hml hown hts hK hXS hS hA1 hC hG (c_X4_pass hC hG hl0 (lw_hA hA hR) (1 + d0) (by omega)) ms_X4_pass kw_416 ⟨by decide, by decide⟩ ⟨by omega, by omega⟩ rfl hl.1 (Nat.le_of_ble_eq_true rfl) dL_law_3033) (by exact hE) hS hA1 hN12 hR (fun H locs hC hR hS => ?_)
      obtain ⟨hV, hG⟩ := inv_of (s_pass hRel hG hGM (1 + d0)) hE
      obtain ⟨mm2, hRel, hGM⟩ := id hV
      have hLR := o_pass hLR hG0 hV0 (d := 1 + d0) (by omega)
      refine lv_iload hx hb dL_law_3036 (lv_at hl 0 rfl) ?_
      refine xr_icmp_ne (tgt := 3045) hx hb dL_law_3038 (by decide) (by omega) (by omega) (fun yy6 => absurd yy6 (by omega)) (fun yy6 => ?_)
      refine lv_iconst (v := iI (1)) hx hb dL_law_3041 rfl ?_
      refine lv_goto (tgt := 3046) hx hb dL_law_3042 (by decide) ?_
      refine lv_istore (i := 23) (lv' := [(23, .int (iI (1))), (19, .int (iI ((sg 506 0) + (1 + d0)))), (31, .int (iI (1 + d0))), (18, .int (iI (sg 503 0))), (20, .long (lI (sg 510 0))), (24, .int (iI (turn))), (0, .ref b), (1, .ref hh), (2, .ref (adM 20 0)), (3, .ref (adM 21 0)), (4, .ref (adM 22 0)), (5, .ref (adM 23 0)), (6, .ref (adM 24 0)), (7, .ref (adM 25 0)), (8, .ref (adM 26 0)), (9, .ref (adM 27 0)), (10, .ref (adM 28 0)), (11, .ref (adM 29 0)), (12, .ref (adM 30 0)), (13, .ref (adM 31 0)), (14, .ref (adM 32 0)), (15, .ref (adM 33 0)), (16, .ref (adM 34 0)), (17, .ref (adM 35 0)), (25, .int (vx)), (26, .int (iI (what))), (27, .int (iI (k))), (28, .int (iI (8 * k))), (29, .int (iI (who))), (30, .int (iI (w)))]) hx hb dL_law_3046 hl (by decide) rfl (fun ls hl => ?_)
      refine lv_iload hx hb dL_law_3048 (lv_at hl 24 rfl) ?_
      refine lv_bipush (v := iI (64)) hx hb dL_law_3050 (by decide) ?_
      refine lw_idiv hx hb (by decide) dL_law_3052 ?_
      refine lv_iconst (v := iI (3)) hx hb dL_law_3053 rfl ?_
      refine lw_up (n := 3) hx hb hml hown hts hK hl.1 ⟨by omega, by omega⟩ (by decide) (lv_room (Nat.le_of_ble_eq_true rfl)) dL_law_3054 (fun ut uta utb => ?_)
      refine lv_istore (i := 32) (lv' := [(32, .int (iI (ut))), (23, .int (iI (1))), (19, .int (iI ((sg 506 0) + (1 + d0)))), (31, .int (iI (1 + d0))), (18, .int (iI (sg 503 0))), (20, .long (lI (sg 510 0))), (24, .int (iI (turn))), (0, .ref b), (1, .ref hh), (2, .ref (adM 20 0)), (3, .ref (adM 21 0)), (4, .ref (adM 22 0)), (5, .ref (adM 23 0)), (6, .ref (adM 24 0)), (7, .ref (adM 25 0)), (8, .ref (adM 26 0)), (9, .ref (adM 27 0)), (10, .ref (adM 28 0)), (11, .ref (adM 29 0)), (12, .ref (adM 30 0)), (13, .ref (adM 31 0)), (14, .ref (adM 32 0)), (15, .ref (adM 33 0)), (16, .ref (adM 34 0)), (17, .ref (adM 35 0)), (25, .int (vx)), (26, .int (iI (what))), (27, .int (iI (k))), (28, .int (iI (8 * k))), (29, .int (iI (who))), (30, .int (iI (w)))]) hx hb dL_law_3057 hl (by decide) rfl (fun ls hl => ?_)
      refine lv_iload hx hb dL_law_3059 (lv_at hl 26 rfl) ?_
      refine lv_bipush (v := iI (22)) hx hb dL_law_3061 (by decide) ?_
      refine xr_icmp_ne (tgt := 3115) hx hb dL_law_3063 (by decide) (by omega) (by omega) (fun yy7 => ?_) (fun yy7 => ?_)
      · skip
        refine W.widen (k := cells + 3) (n := slots + 45) (by omega) (by omega) ?_
        exact kk ad ((st sg 506 0 (sg 506 0 + (1 + d0)))) mu H locs ls _ _ _ ⟨hC, hR, h4, hLR, hV, hG, hM, hS⟩ (by show sg 702 0 ≤ sg 702 0 + 1; omega) rfl st_s rfl (lv_sub hl [1, 4, 2, 5, 6, 7, 8, 9, 10, 11, 12, 13, 14, 15, 16, 17, 18, 19, 20, 21, 22, 23, 24] rfl)
      · skip
        refine lv_iload hx hb dL_law_3066 (lv_at hl 25 rfl) ?_
        refine lv_sipush (v := iI (128)) hx hb dL_law_3068 (by decide) ?_
        refine lw_idiv hx hb (by decide) dL_law_3071 ?_
        refine lv_sipush (v := iI (1001)) hx hb dL_law_3072 (by decide) ?_
        refine lw_up (n := 1001) hx hb hml hown hts hK hl.1 ⟨by omega, by omega⟩ (by decide) (lv_room (Nat.le_of_ble_eq_true rfl)) dL_law_3075 (fun ce cea ceb => ?_)
        refine lv_istore (i := 33) (lv' := [(33, .int (iI (ce))), (32, .int (iI (ut))), (23, .int (iI (1))), (19, .int (iI ((sg 506 0) + (1 + d0)))), (31, .int (iI (1 + d0))), (18, .int (iI (sg 503 0))), (20, .long (lI (sg 510 0))), (24, .int (iI (turn))), (0, .ref b), (1, .ref hh), (2, .ref (adM 20 0)), (3, .ref (adM 21 0)), (4, .ref (adM 22 0)), (5, .ref (adM 23 0)), (6, .ref (adM 24 0)), (7, .ref (adM 25 0)), (8, .ref (adM 26 0)), (9, .ref (adM 27 0)), (10, .ref (adM 28 0)), (11, .ref (adM 29 0)), (12, .ref (adM 30 0)), (13, .ref (adM 31 0)), (14, .ref (adM 32 0)), (15, .ref (adM 33 0)), (16, .ref (adM 34 0)), (17, .ref (adM 35 0)), (25, .int (vx)), (26, .int (iI (what))), (27, .int (iI (k))), (28, .int (iI (8 * k))), (29, .int (iI (who))), (30, .int (iI (w)))]) hx hb dL_law_3078 hl (by decide) rfl (fun ls hl => ?_)
        refine lv_iload hx hb dL_law_3080 (lv_at hl 2 rfl) ?_
        refine xr_if_eq (tgt := 3105) hx hb dL_law_3082 (by decide) (by decide) (fun yy8 => absurd yy8 (by decide)) (fun _ => ?_)
        refine lv_aload_n hx hb dL_law_3085 rfl (lv_at hl 9 rfl) ?_
        refine lv_iload hx hb dL_law_3086 (lv_at hl 1 rfl) ?_
        refine lv_iload hx hb dL_law_3088 (lv_at hl 0 rfl) ?_
        have hQ := hLR.2.2.2.2.2.2.2.2.2.2.1 ut (by omega) (by omega)
        have hQ8 := ml_1008 hM0 ut
        have hE2 : priceE ut ce = 0 := if_neg (by omega)
        rw [← h4]
        refine lw_back (lw_run (As := [.int (iI (ut)), .int (iI (ce))]) (rest := []) hx hb hml hown hts hK hXS hS hA1 hC hG (c_X4_price hC hG hl0 (lw_hA hA hR) ut ce (by omega) (by omega)) ms_X4_price kw_248 ⟨by decide, by decide⟩ ⟨by omega, by omega⟩ rfl hl.1 (Nat.le_of_ble_eq_true rfl) dL_law_3090) (by exact hE2) hS hA1 hN12 hR (fun H locs hC hR hS => ?_)
        obtain ⟨ad, ho, hC⟩ := hC
        have h4 := (ho 4 0 (gd_4 hG)).trans h4
        have hz := inv_of (s_price hRel hG hGM (by show sg 702 0 ≤ 1000000; exact h7) ut ce) hE2
        have hLR := o_price hLR hG (u := ut) (ce := ce) (by omega) (by omega) (by show sg 702 0 ≤ 1000000; exact h7)
        rw [← hQ]
        refine lv_aload hx hb dL_law_3093 (lv_at hl 18 rfl) ?_
        refine lv_iload hx hb dL_law_3095 (lv_at hl 1 rfl) ?_
        refine xa_1008 (v := mu 1008 ut) hx hb hK hR (by omega) rfl dL_law_3097 ?_
        have g9 := ml_1008 hM0 (ut)
        refine xr_icmp_ne (tgt := 3105) hx hb dL_law_3098 (by decide) (by omega) (by omega) (fun yy10 => absurd yy10 (by omega)) (fun yy10 => ?_)
        refine lv_iconst (v := iI (1)) hx hb dL_law_3101 rfl ?_
        refine lv_goto (tgt := 3106) hx hb dL_law_3102 (by decide) ?_
        refine lv_istore (i := 23) (lv' := [(23, .int (iI (1))), (33, .int (iI (ce))), (32, .int (iI (ut))), (19, .int (iI ((sg 506 0) + (1 + d0)))), (31, .int (iI (1 + d0))), (18, .int (iI (sg 503 0))), (20, .long (lI (sg 510 0))), (24, .int (iI (turn))), (0, .ref b), (1, .ref hh), (2, .ref (adM 20 0)), (3, .ref (adM 21 0)), (4, .ref (adM 22 0)), (5, .ref (adM 23 0)), (6, .ref (adM 24 0)), (7, .ref (adM 25 0)), (8, .ref (adM 26 0)), (9, .ref (adM 27 0)), (10, .ref (adM 28 0)), (11, .ref (adM 29 0)), (12, .ref (adM 30 0)), (13, .ref (adM 31 0)), (14, .ref (adM 32 0)), (15, .ref (adM 33 0)), (16, .ref (adM 34 0)), (17, .ref (adM 35 0)), (25, .int (vx)), (26, .int (iI (what))), (27, .int (iI (k))), (28, .int (iI (8 * k))), (29, .int (iI (who))), (30, .int (iI (w)))]) hx hb dL_law_3106 hl (by decide) rfl (fun ls hl => ?_)
        refine lv_aload hx hb dL_law_3108 (lv_at hl 18 rfl) ?_
        refine lv_iload hx hb dL_law_3110 (lv_at hl 2 rfl) ?_
        refine lv_iload hx hb dL_law_3112 (lv_at hl 1 rfl) ?_
        refine ys_1008 (v := ce) hx hb hK hC hR hA2 hA1 hN12 hS (by omega) dL_law_3114 (fun H locs hC hR hS => ?_)
        have hM := gl_1008 hM (ut) (v := ce) (by omega)
        refine W.widen (k := cells + 3) (n := slots + 45) (by omega) (by omega) ?_
        exact kk ad (((priceT ((st sg 506 0 (sg 506 0 + (1 + d0)))) ut ce))) (st mu 1008 (ut) (ce)) H locs ls _ _ _ ⟨hC, hR, h4, hLR, hz.1, hz.2, hM, hS⟩ (by rw [pr_702]; show sg 702 0 + 1 ≤ sg 702 0 + 1; omega) (congrFun (pr_f (by decide) (by decide) (by decide)) 0) ((congrFun (pr_f (by decide) (by decide) (by decide)) 0).trans st_s) (congrFun (pr_f (by decide) (by decide) (by decide)) 0) (lv_sub hl [0, 5, 3, 6, 7, 8, 9, 10, 11, 12, 13, 14, 15, 16, 17, 18, 19, 20, 21, 22, 23, 24, 25] rfl)
  refine lv_iload hx hb dL_law_2977 (lv_at hl 23 rfl) ?_
  refine lv_sipush (v := iI (4096)) hx hb dL_law_2979 (by decide) ?_
  refine lw_idiv hx hb (by decide) dL_law_2982 ?_
  refine lv_iconst (v := iI (3)) hx hb dL_law_2983 rfl ?_
  refine lw_up (n := 3) hx hb hml hown hts hK hl.1 ⟨by omega, by omega⟩ (by decide) (lv_room (Nat.le_of_ble_eq_true rfl)) dL_law_2984 (fun u11 u11a u11b => ?_)
  refine xr_if_ne (tgt := 3004) hx hb dL_law_2987 (by decide) (by omega) (fun yy12 => ?_) (fun yy12 => ?_)
  · skip
    refine lv_bipush (v := iI (25)) hx hb dL_law_3004 (by decide) ?_
    exact J3006 (25) (by omega)
  · skip
    refine lv_iload hx hb dL_law_2990 (lv_at hl 2 rfl) ?_
    refine lv_sipush (v := iI (19000)) hx hb dL_law_2992 (by decide) ?_
    refine xr_icmp_ge (tgt := 3004) hx hb dL_law_2995 (by decide) (by omega) (by omega) (fun yy13 => ?_) (fun yy13 => ?_)
    · skip
      refine lv_bipush (v := iI (25)) hx hb dL_law_3004 (by decide) ?_
      exact J3006 (25) (by omega)
    · skip
      refine lv_sipush (v := iI (400)) hx hb dL_law_2998 (by decide) ?_
      refine lv_goto (tgt := 3006) hx hb dL_law_3001 (by decide) ?_
      exact J3006 (400) (by omega)
