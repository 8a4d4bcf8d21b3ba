set_option maxRecDepth 100000 in
set_option maxHeartbeats 8000000 in
theorem law_init {p : Program} {l : Launch} {e : Env} {s : State} {m : MethodId} {below : List Frame} {meth : Method} {c : Code} {D : va_G} {cy : Nat → ClassId} {A A2 : Nat → Prop} {b L hh : Nat} {xs : Nat → Int32} {ad adM : Nat → Int → Nat} {sg mu : Nat → Int → Int} {H : Heap} {locs : List Loc} {cells slots : Nat} {Q : State → Prop} {ls : Array Slot} (E : LE p l s m meth c b L xs D cy A A2 adM) (hIZ : IZ sg mu 0 0 0) (hC : RC D cy A ad sg H) (hR : RM D cy A2 adM mu H) (h4 : ad 4 0 = hh) (hS : va_S (fun q : Nat => s.heap.size ≤ q) s.heap H locs) (hcl : cells ≤ 200) (hsl : slots ≤ 5000) (hQ : Q = lw_Z below #[Value.ref b] s) (hl : lv_has ls 37 [(0, .ref b), (1, .ref hh), (2, .ref (adM 20 0)), (3, .ref (adM 21 0)), (4, .ref (adM 22 0)), (5, .ref (adM 23 0)), (6, .ref (adM 24 0)), (7, .ref (adM 25 0)), (8, .ref (adM 26 0)), (9, .ref (adM 27 0)), (10, .ref (adM 28 0)), (11, .ref (adM 29 0)), (12, .ref (adM 30 0)), (13, .ref (adM 31 0)), (14, .ref (adM 32 0)), (15, .ref (adM 33 0)), (16, .ref (adM 34 0)), (17, .ref (adM 35 0))]) : W p l e room_1 s m #[Value.ref b] below meth c H locs cells slots Q (F0 m 99 ls []) := by
  have E0 := E
  obtain ⟨⟨hx, hb, hr, hml, hown, hts0, hX, hbl, hlocks, -⟩, hl0, hK, hXS, hXN, hA, hA1, hA2, hN12, hL⟩ := E
  have hts : ∀ w ∈ wG, w.before #[Value.ref b] s = true := fun w hw => hts0 w (List.mem_filter.mp hw).1
  have hown : s.vm.findClass "TakinghallLaw" = some m.cls := hown
  obtain ⟨c0, hc0⟩ : ∃ c0, c0 = cells := ⟨_, rfl⟩
  obtain ⟨s0, hs0⟩ : ∃ s0, s0 = slots := ⟨_, rfl⟩
  refine lv_iconst (v := iI (0)) hx hb dL_law_99 rfl ?_
  refine lv_istore (i := 18) (lv' := [(18, .int (iI (0))), (0, .ref b), (1, .ref hh), (2, .ref (adM 20 0)), (3, .ref (adM 21 0)), (4, .ref (adM 22 0)), (5, .ref (adM 23 0)), (6, .ref (adM 24 0)), (7, .ref (adM 25 0)), (8, .ref (adM 26 0)), (9, .ref (adM 27 0)), (10, .ref (adM 28 0)), (11, .ref (adM 29 0)), (12, .ref (adM 30 0)), (13, .ref (adM 31 0)), (14, .ref (adM 32 0)), (15, .ref (adM 33 0)), (16, .ref (adM 34 0)), (17, .ref (adM 35 0))]) hx hb dL_law_100 hl (by decide) rfl (fun ls hl => ?_)
  refine lv_iconst (v := iI (0)) hx hb dL_law_102 rfl ?_
  refine lv_istore (i := 19) (lv' := [(19, .int (iI (0))), (18, .int (iI (0))), (0, .ref b), (1, .ref hh), (2, .ref (adM 20 0)), (3, .ref (adM 21 0)), (4, .ref (adM 22 0)), (5, .ref (adM 23 0)), (6, .ref (adM 24 0)), (7, .ref (adM 25 0)), (8, .ref (adM 26 0)), (9, .ref (adM 27 0)), (10, .ref (adM 28 0)), (11, .ref (adM 29 0)), (12, .ref (adM 30 0)), (13, .ref (adM 31 0)), (14, .ref (adM 32 0)), (15, .ref (adM 33 0)), (16, .ref (adM 34 0)), (17, .ref (adM 35 0))]) hx hb dL_law_103 hl (by decide) rfl (fun ls hl => ?_)
  refine lv_lconst (v := lI (0)) hx hb dL_law_105 (by decide) ?_
  refine lv_lstore (i := 20) (lv' := [(20, .long (lI (0))), (19, .int (iI (0))), (18, .int (iI (0))), (0, .ref b), (1, .ref hh), (2, .ref (adM 20 0)), (3, .ref (adM 21 0)), (4, .ref (adM 22 0)), (5, .ref (adM 23 0)), (6, .ref (adM 24 0)), (7, .ref (adM 25 0)), (8, .ref (adM 26 0)), (9, .ref (adM 27 0)), (10, .ref (adM 28 0)), (11, .ref (adM 29 0)), (12, .ref (adM 30 0)), (13, .ref (adM 31 0)), (14, .ref (adM 32 0)), (15, .ref (adM 33 0)), (16, .ref (adM 34 0)), (17, .ref (adM 35 0))]) hx hb dL_law_106 hl (by decide) rfl (fun ls hl => ?_)
  refine lv_aload_n hx hb dL_law_108 rfl (lv_at hl 3 rfl) ?_
  refine lv_iconst (v := iI (0)) hx hb dL_law_109 rfl ?_
  refine lw_cell hx hb hml hown hts hK hX hbl hL hS hl.1 ⟨by omega, by omega⟩ (by omega) (lv_room (Nat.le_of_ble_eq_true rfl)) dL_law_110 (fun vx => ?_)
  refine lv_istore (i := 22) (lv' := [(22, .int (vx)), (20, .long (lI (0))), (19, .int (iI (0))), (18, .int (iI (0))), (0, .ref b), (1, .ref hh), (2, .ref (adM 20 0)), (3, .ref (adM 21 0)), (4, .ref (adM 22 0)), (5, .ref (adM 23 0)), (6, .ref (adM 24 0)), (7, .ref (adM 25 0)), (8, .ref (adM 26 0)), (9, .ref (adM 27 0)), (10, .ref (adM 28 0)), (11, .ref (adM 29 0)), (12, .ref (adM 30 0)), (13, .ref (adM 31 0)), (14, .ref (adM 32 0)), (15, .ref (adM 33 0)), (16, .ref (adM 34 0)), (17, .ref (adM 35 0))]) hx hb dL_law_113 hl (by decide) rfl (fun ls hl => ?_)
  refine lv_iconst (v := iI (1)) hx hb dL_law_115 rfl ?_
  refine lv_istore (i := 23) (lv' := [(23, .int (iI (1))), (22, .int (vx)), (20, .long (lI (0))), (19, .int (iI (0))), (18, .int (iI (0))), (0, .ref b), (1, .ref hh), (2, .ref (adM 20 0)), (3, .ref (adM 21 0)), (4, .ref (adM 22 0)), (5, .ref (adM 23 0)), (6, .ref (adM 24 0)), (7, .ref (adM 25 0)), (8, .ref (adM 26 0)), (9, .ref (adM 27 0)), (10, .ref (adM 28 0)), (11, .ref (adM 29 0)), (12, .ref (adM 30 0)), (13, .ref (adM 31 0)), (14, .ref (adM 32 0)), (15, .ref (adM 33 0)), (16, .ref (adM 34 0)), (17, .ref (adM 35 0))]) hx hb dL_law_116 hl (by decide) rfl (fun ls hl => ?_)
  refine lv_iconst (v := iI (0)) hx hb dL_law_118 rfl ?_
  refine lv_istore (i := 24) (lv' := [(24, .int (iI (0))), (23, .int (iI (1))), (22, .int (vx)), (20, .long (lI (0))), (19, .int (iI (0))), (18, .int (iI (0))), (0, .ref b), (1, .ref hh), (2, .ref (adM 20 0)), (3, .ref (adM 21 0)), (4, .ref (adM 22 0)), (5, .ref (adM 23 0)), (6, .ref (adM 24 0)), (7, .ref (adM 25 0)), (8, .ref (adM 26 0)), (9, .ref (adM 27 0)), (10, .ref (adM 28 0)), (11, .ref (adM 29 0)), (12, .ref (adM 30 0)), (13, .ref (adM 31 0)), (14, .ref (adM 32 0)), (15, .ref (adM 33 0)), (16, .ref (adM 34 0)), (17, .ref (adM 35 0))]) hx hb dL_law_119 hl (by decide) rfl (fun ls hl => ?_)
  have loop121 : ∀ (n : Nat) (i : Int), 0 ≤ i ∧ i ≤ 4 → (4 - i).toNat < n → ∀ (ad : Nat → Int → Nat) (sg mu : Nat → Int → Int) (cells slots : Nat) (H : Heap) (locs : List Loc), IZ sg mu i 0 0 → RC D cy A ad sg H → RM D cy A2 adM mu H → ad 4 0 = hh → va_S (fun q : Nat => s.heap.size ≤ q) s.heap H locs → cells ≤ c0 + 2 * i.toNat → slots ≤ s0 + 12 * i.toNat → ∀ ls : Array Slot, lv_has ls 37 [(22, .int (vx)), (23, .int (iI (1))), (18, .int (iI (0))), (19, .int (iI (0))), (20, .long (lI (0))), (0, .ref b), (1, .ref hh), (2, .ref (adM 20 0)), (3, .ref (adM 21 0)), (4, .ref (adM 22 0)), (5, .ref (adM 23 0)), (6, .ref (adM 24 0)), (7, .ref (adM 25 0)), (8, .ref (adM 26 0)), (9, .ref (adM 27 0)), (10, .ref (adM 28 0)), (11, .ref (adM 29 0)), (12, .ref (adM 30 0)), (13, .ref (adM 31 0)), (14, .ref (adM 32 0)), (15, .ref (adM 33 0)), (16, .ref (adM 34 0)), (17, .ref (adM 35 0)), (24, .int (iI (i)))] → W p l e room_1 s m #[Value.ref b] below meth c H locs cells slots Q (F0 m 121 ls []) := by
    intro n121
    induction n121 with
    | zero =>
      intro i hi hn121 ad sg mu cells slots H locs hIZ hC hR h4 hS hcc hss ls hl
      exact absurd hn121 (Nat.not_lt_zero _)
    | succ n121 ih121 =>
      intro i hi hn121 ad sg mu cells slots H locs hIZ hC hR h4 hS hcc hss ls hl
      obtain ⟨hV, hG, hM, hFR, hPP, hRQ, hKK, hI7⟩ := id hIZ
      obtain ⟨mm, hRel, hGM⟩ := id hV
      have hM0 := hM
      refine lv_iload hx hb dL_law_121 (lv_at hl 23 rfl) ?_
      refine lv_iconst (v := iI (4)) hx hb dL_law_123 rfl ?_
      refine xr_icmp_ge (tgt := 264) hx hb dL_law_124 (by decide) (by omega) (by omega) (fun yy1 => ?_) (fun yy1 => ?_)
      · skip
        have hIZ1 : IZ sg mu 4 0 0 := by rw [show (4 : Int) = i by omega]; exact hIZ
        refine lv_iconst (v := iI (0)) hx hb dL_law_264 rfl ?_
        refine lv_istore (i := 24) (lv' := [(24, .int (iI (0))), (22, .int (vx)), (23, .int (iI (1))), (18, .int (iI (0))), (19, .int (iI (0))), (20, .long (lI (0))), (0, .ref b), (1, .ref hh), (2, .ref (adM 20 0)), (3, .ref (adM 21 0)), (4, .ref (adM 22 0)), (5, .ref (adM 23 0)), (6, .ref (adM 24 0)), (7, .ref (adM 25 0)), (8, .ref (adM 26 0)), (9, .ref (adM 27 0)), (10, .ref (adM 28 0)), (11, .ref (adM 29 0)), (12, .ref (adM 30 0)), (13, .ref (adM 31 0)), (14, .ref (adM 32 0)), (15, .ref (adM 33 0)), (16, .ref (adM 34 0)), (17, .ref (adM 35 0))]) hx hb dL_law_265 hl (by decide) rfl (fun ls hl => ?_)
        have loop267 : ∀ (n : Nat) (i : Int), 0 ≤ i ∧ i ≤ 3 → (3 - i).toNat < n → ∀ (ad : Nat → Int → Nat) (sg mu : Nat → Int → Int) (cells slots : Nat) (H : Heap) (locs : List Loc), IZ sg mu 4 i 0 → RC D cy A ad sg H → RM D cy A2 adM mu H → ad 4 0 = hh → va_S (fun q : Nat => s.heap.size ≤ q) s.heap H locs → cells ≤ c0 + 20 + 2 * i.toNat → slots ≤ s0 + 100 + 12 * i.toNat → ∀ ls : Array Slot, lv_has ls 37 [(22, .int (vx)), (23, .int (iI (1))), (18, .int (iI (0))), (19, .int (iI (0))), (20, .long (lI (0))), (0, .ref b), (1, .ref hh), (2, .ref (adM 20 0)), (3, .ref (adM 21 0)), (4, .ref (adM 22 0)), (5, .ref (adM 23 0)), (6, .ref (adM 24 0)), (7, .ref (adM 25 0)), (8, .ref (adM 26 0)), (9, .ref (adM 27 0)), (10, .ref (adM 28 0)), (11, .ref (adM 29 0)), (12, .ref (adM 30 0)), (13, .ref (adM 31 0)), (14, .ref (adM 32 0)), (15, .ref (adM 33 0)), (16, .ref (adM 34 0)), (17, .ref (adM 35 0)), (24, .int (iI (i)))] → W p l e room_1 s m #[Value.ref b] below meth c H locs cells slots Q (F0 m 267 ls []) := by
          intro n267
          induction n267 with
          | zero =>
            intro i hi hn267 ad sg mu cells slots H locs hIZ hC hR h4 hS hcc hss ls hl
            exact absurd hn267 (Nat.not_lt_zero _)
          | succ n267 ih267 =>
            intro i hi hn267 ad sg mu cells slots H locs hIZ hC hR h4 hS hcc hss ls hl
            obtain ⟨hV, hG, hM, hFR, hPP, hRQ, hKK, hI7⟩ := id hIZ
            obtain ⟨mm, hRel, hGM⟩ := id hV
            have hM0 := hM
            refine lv_iload hx hb dL_law_267 (lv_at hl 23 rfl) ?_
            refine lv_iconst (v := iI (3)) hx hb dL_law_269 rfl ?_
            refine xr_icmp_ge (tgt := 345) hx hb dL_law_270 (by decide) (by omega) (by omega) (fun yy2 => ?_) (fun yy2 => ?_)
            · skip
              have hIZ1 : IZ sg mu 4 3 0 := by rw [show (3 : Int) = i by omega]; exact hIZ
              refine lv_iconst (v := iI (0)) hx hb dL_law_345 rfl ?_
              refine lv_istore (i := 24) (lv' := [(24, .int (iI (0))), (22, .int (vx)), (23, .int (iI (1))), (18, .int (iI (0))), (19, .int (iI (0))), (20, .long (lI (0))), (0, .ref b), (1, .ref hh), (2, .ref (adM 20 0)), (3, .ref (adM 21 0)), (4, .ref (adM 22 0)), (5, .ref (adM 23 0)), (6, .ref (adM 24 0)), (7, .ref (adM 25 0)), (8, .ref (adM 26 0)), (9, .ref (adM 27 0)), (10, .ref (adM 28 0)), (11, .ref (adM 29 0)), (12, .ref (adM 30 0)), (13, .ref (adM 31 0)), (14, .ref (adM 32 0)), (15, .ref (adM 33 0)), (16, .ref (adM 34 0)), (17, .ref (adM 35 0))]) hx hb dL_law_346 hl (by decide) rfl (fun ls hl => ?_)
              have loop348 : ∀ (n : Nat) (i : Int), 0 ≤ i ∧ i ≤ 2 → (2 - i).toNat < n → ∀ (ad : Nat → Int → Nat) (sg mu : Nat → Int → Int) (cells slots : Nat) (H : Heap) (locs : List Loc), IZ sg mu 4 3 i → RC D cy A ad sg H → RM D cy A2 adM mu H → ad 4 0 = hh → va_S (fun q : Nat => s.heap.size ≤ q) s.heap H locs → cells ≤ c0 + 40 + 2 * i.toNat → slots ≤ s0 + 200 + 12 * i.toNat → ∀ ls : Array Slot, lv_has ls 37 [(22, .int (vx)), (23, .int (iI (1))), (18, .int (iI (0))), (19, .int (iI (0))), (20, .long (lI (0))), (0, .ref b), (1, .ref hh), (2, .ref (adM 20 0)), (3, .ref (adM 21 0)), (4, .ref (adM 22 0)), (5, .ref (adM 23 0)), (6, .ref (adM 24 0)), (7, .ref (adM 25 0)), (8, .ref (adM 26 0)), (9, .ref (adM 27 0)), (10, .ref (adM 28 0)), (11, .ref (adM 29 0)), (12, .ref (adM 30 0)), (13, .ref (adM 31 0)), (14, .ref (adM 32 0)), (15, .ref (adM 33 0)), (16, .ref (adM 34 0)), (17, .ref (adM 35 0)), (24, .int (iI (i)))] → W p l e room_1 s m #[Value.ref b] below meth c H locs cells slots Q (F0 m 348 ls []) := by
                intro n348
                induction n348 with
                | zero =>
                  intro i hi hn348 ad sg mu cells slots H locs hIZ hC hR h4 hS hcc hss ls hl
                  exact absurd hn348 (Nat.not_lt_zero _)
                | succ n348 ih348 =>
                  intro i hi hn348 ad sg mu cells slots H locs hIZ hC hR h4 hS hcc hss ls hl
                  obtain ⟨hV, hG, hM, hFR, hPP, hRQ, hKK, hI7⟩ := id hIZ
                  obtain ⟨mm, hRel, hGM⟩ := id hV
                  have hM0 := hM
                  refine lv_iload hx hb dL_law_348 (lv_at hl 23 rfl) ?_
                  refine lv_iconst (v := iI (2)) hx hb dL_law_350 rfl ?_
                  refine xr_icmp_ge (tgt := 447) hx hb dL_law_351 (by decide) (by omega) (by omega) (fun yy3 => ?_) (fun yy3 => ?_)
                  · skip
                    have hIZ2x : IZ sg mu 4 3 2 := by rw [show (2 : Int) = i by omega]; exact hIZ
                    refine lv_iconst (v := iI (1)) hx hb dL_law_447 rfl ?_
                    refine lv_istore (i := 24) (lv' := [(24, .int (iI (1))), (22, .int (vx)), (23, .int (iI (1))), (18, .int (iI (0))), (19, .int (iI (0))), (20, .long (lI (0))), (0, .ref b), (1, .ref hh), (2, .ref (adM 20 0)), (3, .ref (adM 21 0)), (4, .ref (adM 22 0)), (5, .ref (adM 23 0)), (6, .ref (adM 24 0)), (7, .ref (adM 25 0)), (8, .ref (adM 26 0)), (9, .ref (adM 27 0)), (10, .ref (adM 28 0)), (11, .ref (adM 29 0)), (12, .ref (adM 30 0)), (13, .ref (adM 31 0)), (14, .ref (adM 32 0)), (15, .ref (adM 33 0)), (16, .ref (adM 34 0)), (17, .ref (adM 35 0))]) hx hb dL_law_448 hl (by decide) rfl (fun ls hl => ?_)
                    obtain ⟨hLR, e503, e506, e510⟩ := iz_lr hIZ2x
                    have hl' : lv_has ls 37 (LB b hh adM (sg 503 0) (sg 506 0) (sg 510 0) 1) := by rw [e503, e506, e510]; exact lv_sub hl [2, 3, 4, 5, 0, 6, 7, 8, 9, 10, 11, 12, 13, 14, 15, 16, 17, 18, 19, 20, 21, 22, 23] rfl
                    rw [hQ]
                    exact law_loop E0 90 1 (by omega) (by omega) ad sg mu H locs _ _ ls ⟨hC, hR, h4, hLR, hV, hG, hM, hS⟩ (by omega) (by omega) (by omega) hl'
                  · skip
                    refine lv_aload hx hb dL_law_354 (lv_at hl 14 rfl) ?_
                    refine lv_iconst (v := iI (3)) hx hb dL_law_356 rfl ?_
                    refine lv_iload hx hb dL_law_357 (lv_at hl 23 rfl) ?_
                    refine xr_imul hx hb dL_law_359 ?_
                    refine lv_iload hx hb dL_law_360 (lv_at hl 0 rfl) ?_
                    refine lv_bipush (v := iI (16)) hx hb dL_law_362 (by decide) ?_
                    refine lv_iload hx hb dL_law_364 (lv_at hl 23 rfl) ?_
                    refine xr_iadd hx hb dL_law_366 ?_
                    refine lw_idiv hx hb (by omega) dL_law_367 ?_
                    refine lv_bipush (v := iI (51)) hx hb dL_law_368 (by decide) ?_
                    refine lw_up (n := 51) hx hb hml hown hts hK hl.1 ⟨by omega, by omega⟩ (by decide) (lv_room (Nat.le_of_ble_eq_true rfl)) dL_law_370 (fun x1 x1a x1b => ?_)
                    refine ys_1007 (v := x1) hx hb hK hC hR hA2 hA1 hN12 hS (by omega) dL_law_373 (fun H locs hC hR hS => ?_)
                    have hM := gl_1007 hM (3 * i) (v := x1) (by omega)
                    refine lv_aload hx hb dL_law_374 (lv_at hl 14 rfl) ?_
                    refine lv_iconst (v := iI (3)) hx hb dL_law_376 rfl ?_
                    refine lv_iload hx hb dL_law_377 (lv_at hl 23 rfl) ?_
                    refine xr_imul hx hb dL_law_379 ?_
                    refine lv_iconst (v := iI (1)) hx hb dL_law_380 rfl ?_
                    refine xr_iadd hx hb dL_law_381 ?_
                    refine lv_iload hx hb dL_law_382 (lv_at hl 0 rfl) ?_
                    refine lv_bipush (v := iI (64)) hx hb dL_law_384 (by decide) ?_
                    refine lv_iload hx hb dL_law_386 (lv_at hl 23 rfl) ?_
                    refine xr_iadd hx hb dL_law_388 ?_
                    refine lw_idiv hx hb (by omega) dL_law_389 ?_
                    refine lv_bipush (v := iI (51)) hx hb dL_law_390 (by decide) ?_
                    refine lw_up (n := 51) hx hb hml hown hts hK hl.1 ⟨by omega, by omega⟩ (by decide) (lv_room (Nat.le_of_ble_eq_true rfl)) dL_law_392 (fun x2 x2a x2b => ?_)
                    refine ys_1007 (v := x2) hx hb hK hC hR hA2 hA1 hN12 hS (by omega) dL_law_395 (fun H locs hC hR hS => ?_)
                    have hM := gl_1007 hM ((3 * i) + 1) (v := x2) (by omega)
                    refine lv_iload hx hb dL_law_396 (lv_at hl 1 rfl) ?_
                    refine xr_if_eq (tgt := 430) hx hb dL_law_398 (by decide) (by decide) (fun yy4 => absurd yy4 (by decide)) (fun _ => ?_)
                    refine lv_aload_n hx hb dL_law_401 rfl (lv_at hl 6 rfl) ?_
                    refine lv_aload hx hb dL_law_402 (lv_at hl 14 rfl) ?_
                    refine lv_iconst (v := iI (3)) hx hb dL_law_404 rfl ?_
                    refine lv_iload hx hb dL_law_405 (lv_at hl 23 rfl) ?_
                    refine xr_imul hx hb dL_law_407 ?_
                    refine xa_1007 (v := x1) hx hb hK hR (by omega) ((st_j (by omega)).trans (st_s)) dL_law_408 ?_
                    refine lv_aload hx hb dL_law_409 (lv_at hl 14 rfl) ?_
                    refine lv_iconst (v := iI (3)) hx hb dL_law_411 rfl ?_
                    refine lv_iload hx hb dL_law_412 (lv_at hl 23 rfl) ?_
                    refine xr_imul hx hb dL_law_414 ?_
                    refine lv_iconst (v := iI (1)) hx hb dL_law_415 rfl ?_
                    refine xr_iadd hx hb dL_law_416 ?_
                    refine xa_1007 (v := x2) hx hb hK hR (by omega) (st_s) dL_law_417 ?_
                    have h505 := hKK.1
                    have hE : schemeE sg x1 x2 = 0 := by unfold schemeE; rw [if_neg (by omega), if_neg (by omega)]
                    rw [← h4]
                    refine lw_back (lw_run (As := [.int (iI (x1)), .int (iI (x2))]) (rest := []) hx hb hml hown hts hK hXS hS hA1 hC hG (c_X4_scheme hC hG hl0 (lw_hA hA hR) x1 x2 (by omega) (by omega)) ms_X4_scheme kw_306 ⟨by decide, by decide⟩ ⟨by omega, by omega⟩ rfl hl.1 (Nat.le_of_ble_eq_true rfl) dL_law_418) (by exact hE) hS hA1 hN12 hR (fun H locs hC hR hS => ?_)
                    obtain ⟨ad, ho, hC⟩ := hC
                    have h4 := (ho 4 0 (gd_4 hG)).trans h4
                    have hz := inv_of (s_scheme hRel hG hGM x1 x2) hE
                    refine lv_iload hx hb dL_law_421 (lv_at hl 23 rfl) ?_
                    refine xr_icmp_ne (tgt := 430) hx hb dL_law_423 (by decide) (by omega) (by omega) (fun yy5 => absurd yy5 (by omega)) (fun yy5 => ?_)
                    refine lv_iconst (v := iI (1)) hx hb dL_law_426 rfl ?_
                    refine lv_goto (tgt := 431) hx hb dL_law_427 (by decide) ?_
                    refine lv_istore (i := 23) (lv' := [(23, .int (iI (1))), (22, .int (vx)), (18, .int (iI (0))), (19, .int (iI (0))), (20, .long (lI (0))), (0, .ref b), (1, .ref hh), (2, .ref (adM 20 0)), (3, .ref (adM 21 0)), (4, .ref (adM 22 0)), (5, .ref (adM 23 0)), (6, .ref (adM 24 0)), (7, .ref (adM 25 0)), (8, .ref (adM 26 0)), (9, .ref (adM 27 0)), (10, .ref (adM 28 0)), (11, .ref (adM 29 0)), (12, .ref (adM 30 0)), (13, .ref (adM 31 0)), (14, .ref (adM 32 0)), (15, .ref (adM 33 0)), (16, .ref (adM 34 0)), (17, .ref (adM 35 0)), (24, .int (iI (i)))]) hx hb dL_law_431 hl (by decide) rfl (fun ls hl => ?_)
                    refine lv_aload hx hb dL_law_433 (lv_at hl 18 rfl) ?_
                    refine lv_iconst (v := iI (2)) hx hb dL_law_435 rfl ?_
                    refine lv_iload hx hb dL_law_436 (lv_at hl 23 rfl) ?_
                    refine xr_iadd hx hb dL_law_438 ?_
                    refine lv_iconst (v := iI (-1)) hx hb dL_law_439 rfl ?_
                    refine ys_1011 (v := -1) hx hb hK hC hR hA2 hA1 hN12 hS (by omega) dL_law_440 (fun H locs hC hR hS => ?_)
                    have hM := gl_1011 hM (2 + i) (v := -1) (by omega)
                    refine lv_iinc (v := iI (i + 1)) (lv' := [(24, .int (iI (i + 1))), (23, .int (iI (1))), (22, .int (vx)), (18, .int (iI (0))), (19, .int (iI (0))), (20, .long (lI (0))), (0, .ref b), (1, .ref hh), (2, .ref (adM 20 0)), (3, .ref (adM 21 0)), (4, .ref (adM 22 0)), (5, .ref (adM 23 0)), (6, .ref (adM 24 0)), (7, .ref (adM 25 0)), (8, .ref (adM 26 0)), (9, .ref (adM 27 0)), (10, .ref (adM 28 0)), (11, .ref (adM 29 0)), (12, .ref (adM 30 0)), (13, .ref (adM 31 0)), (14, .ref (adM 32 0)), (15, .ref (adM 33 0)), (16, .ref (adM 34 0)), (17, .ref (adM 35 0))]) hx hb dL_law_441 hl (k := 23) rfl (iI_add _ _) (by decide) rfl (fun ls hl => ?_)
                    refine lv_goto (tgt := 348) hx hb dL_law_444 (by decide) ?_
                    have hIZ2 := iz_k hIZ (w := i) (a := x1) (b := x2) (by omega) (by omega) (by omega) hz
                    exact ih348 (i + 1) (by omega) (by omega) _ _ _ _ _ _ _ hIZ2 hC hR h4 hS (by omega) (by omega) ls (lv_sub hl [2, 1, 3, 4, 5, 6, 7, 8, 9, 10, 11, 12, 13, 14, 15, 16, 17, 18, 19, 20, 21, 22, 23, 0] rfl)
              exact loop348 _ 0 (by omega) (Nat.lt_succ_self _) _ _ _ _ _ _ _ hIZ1 hC hR h4 hS (by omega) (by omega) ls (lv_sub hl [1, 2, 3, 4, 5, 6, 7, 8, 9, 10, 11, 12, 13, 14, 15, 16, 17, 18, 19, 20, 21, 22, 23, 0] rfl)
            · skip
              refine lv_aload hx hb dL_law_273 (lv_at hl 15 rfl) ?_
              refine lv_iload hx hb dL_law_275 (lv_at hl 23 rfl) ?_
              refine lv_iload hx hb dL_law_277 (lv_at hl 0 rfl) ?_
              refine lv_iconst (v := iI (3)) hx hb dL_law_279 rfl ?_
              refine lv_iload hx hb dL_law_280 (lv_at hl 23 rfl) ?_
              refine xr_iadd hx hb dL_law_282 ?_
              refine lw_idiv hx hb (by omega) dL_law_283 ?_
              refine lv_sipush (v := iI (1001)) hx hb dL_law_284 (by decide) ?_
              refine lw_up (n := 1001) hx hb hml hown hts hK hl.1 ⟨by omega, by omega⟩ (by decide) (lv_room (Nat.le_of_ble_eq_true rfl)) dL_law_287 (fun ce cea ceb => ?_)
              refine ys_1008 (v := ce) hx hb hK hC hR hA2 hA1 hN12 hS (by omega) dL_law_290 (fun H locs hC hR hS => ?_)
              have hM := gl_1008 hM (i) (v := ce) (by omega)
              refine lv_iload hx hb dL_law_291 (lv_at hl 1 rfl) ?_
              refine xr_if_eq (tgt := 336) hx hb dL_law_293 (by decide) (by decide) (fun yy6 => absurd yy6 (by decide)) (fun _ => ?_)
              refine lv_aload_n hx hb dL_law_296 rfl (lv_at hl 6 rfl) ?_
              refine lv_iload hx hb dL_law_297 (lv_at hl 23 rfl) ?_
              refine lv_aload hx hb dL_law_299 (lv_at hl 15 rfl) ?_
              refine lv_iload hx hb dL_law_301 (lv_at hl 23 rfl) ?_
              refine xa_1008 (v := ce) hx hb hK hR (by omega) (st_s) dL_law_303 ?_
              have hE : priceE i ce = 0 := if_neg (by omega)
              obtain ⟨df, hdf⟩ : ∃ df : Int, df = if i = 0 then (5 : Int) else if i = 1 then 20 else 30 := ⟨_, rfl⟩
              have hdr : 0 ≤ df ∧ df ≤ 30 := by rw [hdf]; (repeat' split) <;> omega
              have hq : centsO sg (prOn sg i (sg 506 0)) = df := by rw [hdf, ← hRQ i (by omega) (by omega)]; exact if_pos ⟨rfl, Int.le_refl _⟩
              rw [← h4]
              refine lw_back (lw_run (As := [.int (iI (i)), .int (iI (ce))]) (rest := []) hx hb hml hown hts hK hXS hS hA1 hC hG (c_X4_price hC hG hl0 (lw_hA hA hR) i ce (by omega) (by omega)) ms_X4_price kw_248 ⟨by decide, by decide⟩ ⟨by omega, by omega⟩ rfl hl.1 (Nat.le_of_ble_eq_true rfl) dL_law_304) (by exact hE) hS hA1 hN12 hR (fun H locs hC hR hS => ?_)
              obtain ⟨ad, ho, hC⟩ := hC
              have h4 := (ho 4 0 (gd_4 hG)).trans h4
              have hz := inv_of (s_price hRel hG hGM (by omega) i ce) hE
              rw [hq]
              have J329 : W p l e room_1 s m #[Value.ref b] below meth c H locs (cells + 1) (slots + 6) Q (F0 m 329 ls [.int (iI (df)), .int (iI (df))]) := by
                refine xr_icmp_ne (tgt := 336) hx hb dL_law_329 (by decide) (by omega) (by omega) (fun yy7 => absurd yy7 (by omega)) (fun yy7 => ?_)
                refine lv_iconst (v := iI (1)) hx hb dL_law_332 rfl ?_
                refine lv_goto (tgt := 337) hx hb dL_law_333 (by decide) ?_
                refine lv_istore (i := 23) (lv' := [(23, .int (iI (1))), (22, .int (vx)), (18, .int (iI (0))), (19, .int (iI (0))), (20, .long (lI (0))), (0, .ref b), (1, .ref hh), (2, .ref (adM 20 0)), (3, .ref (adM 21 0)), (4, .ref (adM 22 0)), (5, .ref (adM 23 0)), (6, .ref (adM 24 0)), (7, .ref (adM 25 0)), (8, .ref (adM 26 0)), (9, .ref (adM 27 0)), (10, .ref (adM 28 0)), (11, .ref (adM 29 0)), (12, .ref (adM 30 0)), (13, .ref (adM 31 0)), (14, .ref (adM 32 0)), (15, .ref (adM 33 0)), (16, .ref (adM 34 0)), (17, .ref (adM 35 0)), (24, .int (iI (i)))]) hx hb dL_law_337 hl (by decide) rfl (fun ls hl => ?_)
                refine lv_iinc (v := iI (i + 1)) (lv' := [(24, .int (iI (i + 1))), (23, .int (iI (1))), (22, .int (vx)), (18, .int (iI (0))), (19, .int (iI (0))), (20, .long (lI (0))), (0, .ref b), (1, .ref hh), (2, .ref (adM 20 0)), (3, .ref (adM 21 0)), (4, .ref (adM 22 0)), (5, .ref (adM 23 0)), (6, .ref (adM 24 0)), (7, .ref (adM 25 0)), (8, .ref (adM 26 0)), (9, .ref (adM 27 0)), (10, .ref (adM 28 0)), (11, .ref (adM 29 0)), (12, .ref (adM 30 0)), (13, .ref (adM 31 0)), (14, .ref (adM 32 0)), (15, .ref (adM 33 0)), (16, .ref (adM 34 0)), (17, .ref (adM 35 0))]) hx hb dL_law_339 hl (k := 23) rfl (iI_add _ _) (by decide) rfl (fun ls hl => ?_)
                refine lv_goto (tgt := 267) hx hb dL_law_342 (by decide) ?_
                have hIZ2 := iz_q hIZ (u := i) (ce := ce) (by omega) (by omega) hz
                exact ih267 (i + 1) (by omega) (by omega) _ _ _ _ _ _ _ hIZ2 hC hR h4 hS (by omega) (by omega) ls (lv_sub hl [2, 1, 3, 4, 5, 6, 7, 8, 9, 10, 11, 12, 13, 14, 15, 16, 17, 18, 19, 20, 21, 22, 23, 0] rfl)
              refine lv_iload hx hb dL_law_307 (lv_at hl 23 rfl) ?_
              refine xr_if_ne (tgt := 316) hx hb dL_law_309 (by decide) (by omega) (fun yy8 => ?_) (fun yy8 => ?_)
              · skip
                refine lv_iload hx hb dL_law_316 (lv_at hl 23 rfl) ?_
                refine lv_iconst (v := iI (1)) hx hb dL_law_318 rfl ?_
                refine xr_icmp_ne (tgt := 327) hx hb dL_law_319 (by decide) (by omega) (by omega) (fun yy9 => ?_) (fun yy9 => ?_)
                · skip
                  refine lv_bipush (v := iI (30)) hx hb dL_law_327 (by decide) ?_
                  exact w_topI (by rw [hdf]; first | exact (if_pos (by omega)).symm | (rw [if_neg (by omega)]; first | exact (if_pos (by omega)).symm | exact (if_neg (by omega)).symm)) J329
                · skip
                  refine lv_bipush (v := iI (20)) hx hb dL_law_322 (by decide) ?_
                  refine lv_goto (tgt := 329) hx hb dL_law_324 (by decide) ?_
                  exact w_topI (by rw [hdf]; first | exact (if_pos (by omega)).symm | (rw [if_neg (by omega)]; first | exact (if_pos (by omega)).symm | exact (if_neg (by omega)).symm)) J329
              · skip
                refine lv_iconst (v := iI (5)) hx hb dL_law_312 rfl ?_
                refine lv_goto (tgt := 329) hx hb dL_law_313 (by decide) ?_
                exact w_topI (by rw [hdf]; first | exact (if_pos (by omega)).symm | (rw [if_neg (by omega)]; first | exact (if_pos (by omega)).symm | exact (if_neg (by omega)).symm)) J329
        exact loop267 _ 0 (by omega) (Nat.lt_succ_self _) _ _ _ _ _ _ _ hIZ1 hC hR h4 hS (by omega) (by omega) ls (lv_sub hl [1, 2, 3, 4, 5, 6, 7, 8, 9, 10, 11, 12, 13, 14, 15, 16, 17, 18, 19, 20, 21, 22, 23, 0] rfl)
      · skip
        refine lv_aload_n hx hb dL_law_127 rfl (lv_at hl 7 rfl) ?_
        refine lv_bipush (v := iI (8)) hx hb dL_law_128 (by decide) ?_
        refine lv_iload hx hb dL_law_130 (lv_at hl 23 rfl) ?_
        refine xr_imul hx hb dL_law_132 ?_
        refine lv_iconst (v := iI (1)) hx hb dL_law_133 rfl ?_
        refine lv_iload hx hb dL_law_134 (lv_at hl 0 rfl) ?_
        refine lv_iload hx hb dL_law_136 (lv_at hl 23 rfl) ?_
        refine lv_iconst (v := iI (1)) hx hb dL_law_138 rfl ?_
        refine xr_iadd hx hb dL_law_139 ?_
        refine lw_idiv hx hb (by omega) dL_law_140 ?_
        refine lv_bipush (v := iI (100)) hx hb dL_law_141 (by decide) ?_
        refine lw_up (n := 100) hx hb hml hown hts hK hl.1 ⟨by omega, by omega⟩ (by decide) (lv_room (Nat.le_of_ble_eq_true rfl)) dL_law_143 (fun a0 a0a a0b => ?_)
        refine xr_iadd hx hb dL_law_146 ?_
        refine ys_1000 (v := 1 + a0) hx hb hK hC hR hA2 hA1 hN12 hS (by omega) dL_law_147 (fun H locs hC hR hS => ?_)
        have hM := gl_1000 hM (8 * i) (v := 1 + a0) (by omega)
        refine lv_aload_n hx hb dL_law_148 rfl (lv_at hl 7 rfl) ?_
        refine lv_bipush (v := iI (8)) hx hb dL_law_149 (by decide) ?_
        refine lv_iload hx hb dL_law_151 (lv_at hl 23 rfl) ?_
        refine xr_imul hx hb dL_law_153 ?_
        refine lv_iconst (v := iI (1)) hx hb dL_law_154 rfl ?_
        refine xr_iadd hx hb dL_law_155 ?_
        have J184 : ∀ us : Int, (0 ≤ us ∧ us ≤ 2) → W p l e room_1 s m #[Value.ref b] below meth c H locs cells slots Q (F0 m 184 ls [.int (iI (us)), .int (iI ((8 * i) + 1)), .ref (adM 20 0)]) := by
          intro us hus
          refine ys_1000 (v := us) hx hb hK hC hR hA2 hA1 hN12 hS (by omega) dL_law_184 (fun H locs hC hR hS => ?_)
          have hM := gl_1000 hM ((8 * i) + 1) (v := us) (by omega)
          refine lv_aload_n hx hb dL_law_185 rfl (lv_at hl 7 rfl) ?_
          refine lv_bipush (v := iI (8)) hx hb dL_law_186 (by decide) ?_
          refine lv_iload hx hb dL_law_188 (lv_at hl 23 rfl) ?_
          refine xr_imul hx hb dL_law_190 ?_
          refine lv_iconst (v := iI (3)) hx hb dL_law_191 rfl ?_
          refine xr_iadd hx hb dL_law_192 ?_
          refine lv_iconst (v := iI (-1)) hx hb dL_law_193 rfl ?_
          refine ys_1000 (v := -1) hx hb hK hC hR hA2 hA1 hN12 hS (by omega) dL_law_194 (fun H locs hC hR hS => ?_)
          have hM := gl_1000 hM ((8 * i) + 3) (v := -1) (by omega)
          refine lv_aload_n hx hb dL_law_195 rfl (lv_at hl 7 rfl) ?_
          refine lv_bipush (v := iI (8)) hx hb dL_law_196 (by decide) ?_
          refine lv_iload hx hb dL_law_198 (lv_at hl 23 rfl) ?_
          refine xr_imul hx hb dL_law_200 ?_
          refine lv_iconst (v := iI (5)) hx hb dL_law_201 rfl ?_
          refine xr_iadd hx hb dL_law_202 ?_
          refine lv_iconst (v := iI (-1)) hx hb dL_law_203 rfl ?_
          refine ys_1000 (v := -1) hx hb hK hC hR hA2 hA1 hN12 hS (by omega) dL_law_204 (fun H locs hC hR hS => ?_)
          have hM := gl_1000 hM ((8 * i) + 5) (v := -1) (by omega)
          refine lv_aload_n hx hb dL_law_205 rfl (lv_at hl 7 rfl) ?_
          refine lv_bipush (v := iI (8)) hx hb dL_law_206 (by decide) ?_
          refine lv_iload hx hb dL_law_208 (lv_at hl 23 rfl) ?_
          refine xr_imul hx hb dL_law_210 ?_
          refine lv_bipush (v := iI (7)) hx hb dL_law_211 (by decide) ?_
          refine xr_iadd hx hb dL_law_213 ?_
          refine lv_iconst (v := iI (-1)) hx hb dL_law_214 rfl ?_
          refine ys_1000 (v := -1) hx hb hK hC hR hA2 hA1 hN12 hS (by omega) dL_law_215 (fun H locs hC hR hS => ?_)
          have hM := gl_1000 hM ((8 * i) + 7) (v := -1) (by omega)
          refine lv_iload hx hb dL_law_216 (lv_at hl 1 rfl) ?_
          refine xr_if_eq (tgt := 255) hx hb dL_law_218 (by decide) (by decide) (fun yy10 => absurd yy10 (by decide)) (fun _ => ?_)
          refine lv_aload_n hx hb dL_law_221 rfl (lv_at hl 6 rfl) ?_
          refine lv_iload hx hb dL_law_222 (lv_at hl 23 rfl) ?_
          refine lw_plot hx hb hml hown hts hK hl.1 ⟨by omega, by omega⟩ (by omega) (lv_room (Nat.le_of_ble_eq_true rfl)) dL_law_224 ?_
          refine lv_aload_n hx hb dL_law_227 rfl (lv_at hl 7 rfl) ?_
          refine lv_bipush (v := iI (8)) hx hb dL_law_228 (by decide) ?_
          refine lv_iload hx hb dL_law_230 (lv_at hl 23 rfl) ?_
          refine xr_imul hx hb dL_law_232 ?_
          refine xa_1000 (v := 1 + a0) hx hb hK hR (by omega) ((st_j (by omega)).trans ((st_j (by omega)).trans ((st_j (by omega)).trans ((st_j (by omega)).trans (st_s))))) dL_law_233 ?_
          refine lv_aload_n hx hb dL_law_234 rfl (lv_at hl 7 rfl) ?_
          refine lv_bipush (v := iI (8)) hx hb dL_law_235 (by decide) ?_
          refine lv_iload hx hb dL_law_237 (lv_at hl 23 rfl) ?_
          refine xr_imul hx hb dL_law_239 ?_
          refine lv_iconst (v := iI (1)) hx hb dL_law_240 rfl ?_
          refine xr_iadd hx hb dL_law_241 ?_
          refine xa_1000 (v := us) hx hb hK hR (by omega) ((st_j (by omega)).trans ((st_j (by omega)).trans ((st_j (by omega)).trans (st_s)))) dL_law_242 ?_
          have hpli := pl_rng i
          have hE : plotE sg (pl i) (1 + a0) us = 0 := iz_E hIZ (by omega) (by omega)
          rw [← h4]
          refine lw_back (lw_run (As := [.int (iI (pl i)), .int (iI (1 + a0)), .int (iI (us))]) (rest := []) hx hb hml hown hts hK hXS hS hA1 hC hG (c_X4_plot hC hG hl0 (lw_hA hA hR) (pl i) (1 + a0) us (by omega) (by omega) (by omega)) ms_X4_plot kw_128 ⟨by decide, by decide⟩ ⟨by omega, by omega⟩ rfl hl.1 (Nat.le_of_ble_eq_true rfl) dL_law_243) (by exact hE) hS hA1 hN12 hR (fun H locs hC hR hS => ?_)
          rw [pl_pAt] at hC
          have hz := inv_of (s_plot hRel hG hGM (pl i) (1 + a0) us) hE
          rw [pl_pAt] at hz
          rw [pl_pAt, hPP.2.2 i (by omega) (by omega) (by omega)]
          refine lv_bipush (v := iI (10)) hx hb dL_law_246 (by decide) ?_
          refine xr_icmp_ne (tgt := 255) hx hb dL_law_248 (by decide) (by decide) (by decide) (fun yy11 => absurd yy11 (by decide)) (fun _ => ?_)
          refine lv_iconst (v := iI (1)) hx hb dL_law_251 rfl ?_
          refine lv_goto (tgt := 256) hx hb dL_law_252 (by decide) ?_
          refine lv_istore (i := 23) (lv' := [(23, .int (iI (1))), (22, .int (vx)), (18, .int (iI (0))), (19, .int (iI (0))), (20, .long (lI (0))), (0, .ref b), (1, .ref hh), (2, .ref (adM 20 0)), (3, .ref (adM 21 0)), (4, .ref (adM 22 0)), (5, .ref (adM 23 0)), (6, .ref (adM 24 0)), (7, .ref (adM 25 0)), (8, .ref (adM 26 0)), (9, .ref (adM 27 0)), (10, .ref (adM 28 0)), (11, .ref (adM 29 0)), (12, .ref (adM 30 0)), (13, .ref (adM 31 0)), (14, .ref (adM 32 0)), (15, .ref (adM 33 0)), (16, .ref (adM 34 0)), (17, .ref (adM 35 0)), (24, .int (iI (i)))]) hx hb dL_law_256 hl (by decide) rfl (fun ls hl => ?_)
          refine lv_iinc (v := iI (i + 1)) (lv' := [(24, .int (iI (i + 1))), (23, .int (iI (1))), (22, .int (vx)), (18, .int (iI (0))), (19, .int (iI (0))), (20, .long (lI (0))), (0, .ref b), (1, .ref hh), (2, .ref (adM 20 0)), (3, .ref (adM 21 0)), (4, .ref (adM 22 0)), (5, .ref (adM 23 0)), (6, .ref (adM 24 0)), (7, .ref (adM 25 0)), (8, .ref (adM 26 0)), (9, .ref (adM 27 0)), (10, .ref (adM 28 0)), (11, .ref (adM 29 0)), (12, .ref (adM 30 0)), (13, .ref (adM 31 0)), (14, .ref (adM 32 0)), (15, .ref (adM 33 0)), (16, .ref (adM 34 0)), (17, .ref (adM 35 0))]) hx hb dL_law_258 hl (k := 23) rfl (iI_add _ _) (by decide) rfl (fun ls hl => ?_)
          refine lv_goto (tgt := 121) hx hb dL_law_261 (by decide) ?_
          have hIZ2 := iz_p hIZ (by omega) (a := 1 + a0) (v := us) (by omega) (by omega) hz
          exact ih121 (i + 1) (by omega) (by omega) _ _ _ _ _ _ _ hIZ2 hC hR h4 hS (by omega) (by omega) ls (lv_sub hl [2, 1, 3, 4, 5, 6, 7, 8, 9, 10, 11, 12, 13, 14, 15, 16, 17, 18, 19, 20, 21, 22, 23, 0] rfl)
        refine lv_iload hx hb dL_law_156 (lv_at hl 23 rfl) ?_
        refine lv_iconst (v := iI (3)) hx hb dL_law_158 rfl ?_
        refine xr_icmp_ne (tgt := 166) hx hb dL_law_159 (by decide) (by omega) (by omega) (fun yy12 => ?_) (fun yy12 => ?_)
        · skip
          refine lv_iload hx hb dL_law_166 (lv_at hl 23 rfl) ?_
          refine xr_if_ne (tgt := 183) hx hb dL_law_168 (by decide) (by omega) (fun yy13 => ?_) (fun yy13 => ?_)
          · skip
            refine lv_iconst (v := iI (1)) hx hb dL_law_183 rfl ?_
            exact J184 (1) (by omega)
          · skip
            refine lv_iload hx hb dL_law_171 (lv_at hl 0 rfl) ?_
            refine lv_bipush (v := iI (8)) hx hb dL_law_173 (by decide) ?_
            refine lw_idiv hx hb (by decide) dL_law_175 ?_
            refine lv_iconst (v := iI (2)) hx hb dL_law_176 rfl ?_
            refine lw_up (n := 2) hx hb hml hown hts hK hl.1 ⟨by omega, by omega⟩ (by decide) (lv_room (Nat.le_of_ble_eq_true rfl)) dL_law_177 (fun ub uba ubb => ?_)
            refine lv_goto (tgt := 184) hx hb dL_law_180 (by decide) ?_
            exact J184 (ub) (by omega)
        · skip
          refine lv_iconst (v := iI (2)) hx hb dL_law_162 rfl ?_
          refine lv_goto (tgt := 184) hx hb dL_law_163 (by decide) ?_
          exact J184 (2) (by omega)
  exact loop121 _ 0 (by omega) (Nat.lt_succ_self _) _ _ _ _ _ _ _ hIZ hC hR h4 hS (by omega) (by omega) ls (lv_sub hl [2, 1, 5, 4, 3, 6, 7, 8, 9, 10, 11, 12, 13, 14, 15, 16, 17, 18, 19, 20, 21, 22, 23, 0] rfl)
