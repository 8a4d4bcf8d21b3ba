set_option maxRecDepth 100000 in
set_option maxHeartbeats 8000000 in
theorem law_tail {p : Program} {l : Launch} {e : Env} {s : State} {m : MethodId} {below : List Frame} {meth : Method} {c : Code} {D : va_G} {cy : Nat → ClassId} {A A2 : Nat → Prop} {b L hh : Nat} {xs : Nat → Int32} {ad adM : Nat → Int → Nat} {sg mu : Nat → Int → Int} {H : Heap} {locs : List Loc} {cells slots : Nat} {Q : State → Prop} {ls : Array Slot} {turn : Int} (E : LE p l s m meth c b L xs D cy A A2 adM) (I : LI D cy A A2 s hh ad adM sg mu H locs) (h7 : sg 702 0 ≤ 1000000) (hcl : cells + 1000 ≤ 600104) (hsl : slots + 20000 ≤ 7301314) (hl : lv_has ls 37 [(23, .int (iI (1))), (18, .int (iI (sg 503 0))), (19, .int (iI (sg 506 0))), (20, .long (lI (sg 510 0))), (24, .int (iI (turn))), (0, .ref b), (1, .ref hh), (2, .ref (adM 20 0)), (3, .ref (adM 21 0)), (4, .ref (adM 22 0)), (5, .ref (adM 23 0)), (6, .ref (adM 24 0)), (7, .ref (adM 25 0)), (8, .ref (adM 26 0)), (9, .ref (adM 27 0)), (10, .ref (adM 28 0)), (11, .ref (adM 29 0)), (12, .ref (adM 30 0)), (13, .ref (adM 31 0)), (14, .ref (adM 32 0)), (15, .ref (adM 33 0)), (16, .ref (adM 34 0)), (17, .ref (adM 35 0))]) (kk : LK2 p l e s m below meth c b D cy A A2 hh adM cells slots Q ad sg mu turn) : W p l e room_1 s m #[Value.ref b] below meth c H locs cells slots Q (F0 m 3115 ls []) := by
  obtain ⟨⟨hx, hb, hr, hml, hown, hts0, hX, hbl, hlocks, -⟩, hl0, hK, hXS, hXN, hA, hA1, hA2, hN12, hL⟩ := E
  obtain ⟨hC, hR, h4, hLR, hV, hG, hM, hS⟩ := I
  have hM0 := hM
  have hts : ∀ w ∈ wG, w.before #[Value.ref b] s = true := fun w hw => hts0 w (List.mem_filter.mp hw).1
  have hown : s.vm.findClass "TakinghallLaw" = some m.cls := hown
  have g503 := gr_503 hG 0
  have g506 := gr_506 hG 0
  obtain ⟨c0, hc0⟩ : ∃ c0, c0 = cells := ⟨_, rfl⟩
  obtain ⟨s0, hs0⟩ : ∃ s0, s0 = slots := ⟨_, rfl⟩
  have htt := t_total hLR hV
  refine lv_lconst (v := lI (0)) hx hb dL_law_3115 (by decide) ?_
  refine lv_lstore (i := 31) (lv' := [(31, .long (lI (0))), (23, .int (iI (1))), (18, .int (iI (sg 503 0))), (19, .int (iI (sg 506 0))), (20, .long (lI (sg 510 0))), (24, .int (iI (turn))), (0, .ref b), (1, .ref hh), (2, .ref (adM 20 0)), (3, .ref (adM 21 0)), (4, .ref (adM 22 0)), (5, .ref (adM 23 0)), (6, .ref (adM 24 0)), (7, .ref (adM 25 0)), (8, .ref (adM 26 0)), (9, .ref (adM 27 0)), (10, .ref (adM 28 0)), (11, .ref (adM 29 0)), (12, .ref (adM 30 0)), (13, .ref (adM 31 0)), (14, .ref (adM 32 0)), (15, .ref (adM 33 0)), (16, .ref (adM 34 0)), (17, .ref (adM 35 0))]) hx hb dL_law_3116 hl (by decide) rfl (fun ls hl => ?_)
  refine lv_lconst (v := lI (0)) hx hb dL_law_3118 (by decide) ?_
  refine lv_lstore (i := 33) (lv' := [(33, .long (lI (0))), (31, .long (lI (0))), (23, .int (iI (1))), (18, .int (iI (sg 503 0))), (19, .int (iI (sg 506 0))), (20, .long (lI (sg 510 0))), (24, .int (iI (turn))), (0, .ref b), (1, .ref hh), (2, .ref (adM 20 0)), (3, .ref (adM 21 0)), (4, .ref (adM 22 0)), (5, .ref (adM 23 0)), (6, .ref (adM 24 0)), (7, .ref (adM 25 0)), (8, .ref (adM 26 0)), (9, .ref (adM 27 0)), (10, .ref (adM 28 0)), (11, .ref (adM 29 0)), (12, .ref (adM 30 0)), (13, .ref (adM 31 0)), (14, .ref (adM 32 0)), (15, .ref (adM 33 0)), (16, .ref (adM 34 0)), (17, .ref (adM 35 0))]) hx hb dL_law_3119 hl (by decide) rfl (fun ls hl => ?_)
  refine lv_iconst (v := iI (0)) hx hb dL_law_3121 rfl ?_
  refine lv_istore (i := 35) (lv' := [(35, .int (iI (0))), (33, .long (lI (0))), (31, .long (lI (0))), (23, .int (iI (1))), (18, .int (iI (sg 503 0))), (19, .int (iI (sg 506 0))), (20, .long (lI (sg 510 0))), (24, .int (iI (turn))), (0, .ref b), (1, .ref hh), (2, .ref (adM 20 0)), (3, .ref (adM 21 0)), (4, .ref (adM 22 0)), (5, .ref (adM 23 0)), (6, .ref (adM 24 0)), (7, .ref (adM 25 0)), (8, .ref (adM 26 0)), (9, .ref (adM 27 0)), (10, .ref (adM 28 0)), (11, .ref (adM 29 0)), (12, .ref (adM 30 0)), (13, .ref (adM 31 0)), (14, .ref (adM 32 0)), (15, .ref (adM 33 0)), (16, .ref (adM 34 0)), (17, .ref (adM 35 0))]) hx hb dL_law_3122 hl (by decide) rfl (fun ls hl => ?_)
  have loop3124 : ∀ (n : Nat) (j : Int) (all : Int) (gone : Int), 0 ≤ j ∧ j ≤ sg 503 0 → all = sumN (fun q => mu 1013 q) j.toNat → gone = sumN (fun q => mu 1015 q) j.toNat → (sg 503 0 - j).toNat < n → ∀ (cells slots : Nat) (H : Heap) (locs : List Loc), RC D cy A ad sg H → RM D cy A2 adM mu H → va_S (fun q : Nat => s.heap.size ≤ q) s.heap H locs → cells ≤ c0 + 5 * j.toNat → slots ≤ s0 + 30 * j.toNat → ∀ ls : Array Slot, lv_has ls 37 [(23, .int (iI (1))), (18, .int (iI (sg 503 0))), (19, .int (iI (sg 506 0))), (20, .long (lI (sg 510 0))), (24, .int (iI (turn))), (0, .ref b), (1, .ref hh), (2, .ref (adM 20 0)), (3, .ref (adM 21 0)), (4, .ref (adM 22 0)), (5, .ref (adM 23 0)), (6, .ref (adM 24 0)), (7, .ref (adM 25 0)), (8, .ref (adM 26 0)), (9, .ref (adM 27 0)), (10, .ref (adM 28 0)), (11, .ref (adM 29 0)), (12, .ref (adM 30 0)), (13, .ref (adM 31 0)), (14, .ref (adM 32 0)), (15, .ref (adM 33 0)), (16, .ref (adM 34 0)), (17, .ref (adM 35 0)), (31, .long (lI (all))), (33, .long (lI (gone))), (35, .int (iI (j)))] → W p l e room_1 s m #[Value.ref b] below meth c H locs cells slots Q (F0 m 3124 ls []) := by
    intro n3124
    induction n3124 with
    | zero =>
      intro j all gone hj hall hgone hn3124 cells slots H locs hC hR hS hcc hss ls hl
      exact absurd hn3124 (Nat.not_lt_zero _)
    | succ n3124 ih3124 =>
      intro j all gone hj hall hgone hn3124 cells slots H locs hC hR hS hcc hss ls hl
      refine lv_iload hx hb dL_law_3124 (lv_at hl 25 rfl) ?_
      refine lv_iload hx hb dL_law_3126 (lv_at hl 1 rfl) ?_
      refine xr_icmp_ge (tgt := 3262) hx hb dL_law_3128 (by decide) (by omega) (by omega) (fun yy1 => ?_) (fun yy1 => ?_)
      · skip
        have hje : j = sg 503 0 := by omega
        rw [hje] at hall hgone
        refine lv_iconst (v := iI (0)) hx hb dL_law_3262 rfl ?_
        refine lv_istore (i := 35) (lv' := [(35, .int (iI (0))), (23, .int (iI (1))), (18, .int (iI (sg 503 0))), (19, .int (iI (sg 506 0))), (20, .long (lI (sg 510 0))), (24, .int (iI (turn))), (0, .ref b), (1, .ref hh), (2, .ref (adM 20 0)), (3, .ref (adM 21 0)), (4, .ref (adM 22 0)), (5, .ref (adM 23 0)), (6, .ref (adM 24 0)), (7, .ref (adM 25 0)), (8, .ref (adM 26 0)), (9, .ref (adM 27 0)), (10, .ref (adM 28 0)), (11, .ref (adM 29 0)), (12, .ref (adM 30 0)), (13, .ref (adM 31 0)), (14, .ref (adM 32 0)), (15, .ref (adM 33 0)), (16, .ref (adM 34 0)), (17, .ref (adM 35 0)), (31, .long (lI (all))), (33, .long (lI (gone)))]) hx hb dL_law_3263 hl (by decide) rfl (fun ls hl => ?_)
        have loop3265 : ∀ (n : Nat) (k : Int), 0 ≤ k ∧ k ≤ 4 → (4 - k).toNat < n → ∀ (cells slots : Nat) (H : Heap) (locs : List Loc), RC D cy A ad sg H → RM D cy A2 adM mu H → va_S (fun q : Nat => s.heap.size ≤ q) s.heap H locs → cells ≤ c0 + 200 + 12 * k.toNat → slots ≤ s0 + 1000 + 72 * k.toNat → ∀ ls : Array Slot, lv_has ls 37 [(23, .int (iI (1))), (18, .int (iI (sg 503 0))), (19, .int (iI (sg 506 0))), (20, .long (lI (sg 510 0))), (24, .int (iI (turn))), (0, .ref b), (1, .ref hh), (2, .ref (adM 20 0)), (3, .ref (adM 21 0)), (4, .ref (adM 22 0)), (5, .ref (adM 23 0)), (6, .ref (adM 24 0)), (7, .ref (adM 25 0)), (8, .ref (adM 26 0)), (9, .ref (adM 27 0)), (10, .ref (adM 28 0)), (11, .ref (adM 29 0)), (12, .ref (adM 30 0)), (13, .ref (adM 31 0)), (14, .ref (adM 32 0)), (15, .ref (adM 33 0)), (16, .ref (adM 34 0)), (17, .ref (adM 35 0)), (31, .long (lI (all))), (33, .long (lI (gone))), (35, .int (iI (k)))] → W p l e room_1 s m #[Value.ref b] below meth c H locs cells slots Q (F0 m 3265 ls []) := by
          intro n3265
          induction n3265 with
          | zero =>
            intro k hk hn3265 cells slots H locs hC hR hS hcc hss ls hl
            exact absurd hn3265 (Nat.not_lt_zero _)
          | succ n3265 ih3265 =>
            intro k hk hn3265 cells slots H locs hC hR hS hcc hss ls hl
            refine lv_iload hx hb dL_law_3265 (lv_at hl 25 rfl) ?_
            refine lv_iconst (v := iI (4)) hx hb dL_law_3267 rfl ?_
            refine xr_icmp_ge (tgt := 3489) hx hb dL_law_3268 (by decide) (by omega) (by omega) (fun yy2 => ?_) (fun yy2 => ?_)
            · skip
              refine lv_iload hx hb dL_law_3489 (lv_at hl 0 rfl) ?_
              refine xr_if_eq (tgt := 3559) hx hb dL_law_3491 (by decide) (by decide) (fun yy3 => absurd yy3 (by decide)) (fun _ => ?_)
              refine lv_aload_n hx hb dL_law_3494 rfl (lv_at hl 6 rfl) ?_
              refine lv_iconst (v := iI (0)) hx hb dL_law_3495 rfl ?_
              rw [← h4]
              refine lw_back (lw_run (As := [.int (iI (0))]) (rest := []) hx hb hml hown hts hK hXS hS hA1 hC hG (c_X4_total hC hG hl0 (lw_hA hA hR) 0 (by omega)) ms_X4_total kw_422 ⟨by decide, by decide⟩ ⟨by omega, by omega⟩ rfl hl.1 (Nat.le_of_ble_eq_true rfl) dL_law_3496) (by unfold totalE; exact if_neg (by decide)) hS hA1 hN12 hR (fun H locs hC hR hS => ?_)
              refine lv_lload hx hb dL_law_3499 (lv_at hl 23 rfl) ?_
              refine lw_leq hx hb dL_law_3501 (by exact htt.1.trans hall.symm) ?_
              refine xr_if_ne (tgt := 3559) hx hb dL_law_3502 (by decide) (by decide) (fun yy4 => absurd yy4 (by decide)) (fun _ => ?_)
              refine lv_aload_n hx hb dL_law_3505 rfl (lv_at hl 6 rfl) ?_
              refine lv_iconst (v := iI (1)) hx hb dL_law_3506 rfl ?_
              rw [← h4]
              refine lw_back (lw_run (As := [.int (iI (1))]) (rest := []) hx hb hml hown hts hK hXS hS hA1 hC hG (c_X4_total hC hG hl0 (lw_hA hA hR) 1 (by omega)) ms_X4_total kw_422 ⟨by decide, by decide⟩ ⟨by omega, by omega⟩ rfl hl.1 (Nat.le_of_ble_eq_true rfl) dL_law_3507) (by unfold totalE; exact if_neg (by decide)) hS hA1 hN12 hR (fun H locs hC hR hS => ?_)
              refine lv_lload hx hb dL_law_3510 (lv_at hl 24 rfl) ?_
              refine lw_leq hx hb dL_law_3512 (by exact htt.2.1.trans hgone.symm) ?_
              refine xr_if_ne (tgt := 3559) hx hb dL_law_3513 (by decide) (by decide) (fun yy5 => absurd yy5 (by decide)) (fun _ => ?_)
              refine lv_aload_n hx hb dL_law_3516 rfl (lv_at hl 6 rfl) ?_
              refine lv_iconst (v := iI (2)) hx hb dL_law_3517 rfl ?_
              rw [← h4]
              refine lw_back (lw_run (As := [.int (iI (2))]) (rest := []) hx hb hml hown hts hK hXS hS hA1 hC hG (c_X4_total hC hG hl0 (lw_hA hA hR) 2 (by omega)) ms_X4_total kw_422 ⟨by decide, by decide⟩ ⟨by omega, by omega⟩ rfl hl.1 (Nat.le_of_ble_eq_true rfl) dL_law_3518) (by unfold totalE; exact if_neg (by decide)) hS hA1 hN12 hR (fun H locs hC hR hS => ?_)
              refine lv_aload hx hb dL_law_3521 (lv_at hl 20 rfl) ?_
              refine lv_bipush (v := iI (24)) hx hb dL_law_3523 (by decide) ?_
              refine xa_1013 (v := mu 1013 24) hx hb hK hR (by omega) rfl dL_law_3525 ?_
              refine lw_leq hx hb dL_law_3526 (by exact htt.2.2.1) ?_
              refine xr_if_ne (tgt := 3559) hx hb dL_law_3527 (by decide) (by decide) (fun yy6 => absurd yy6 (by decide)) (fun _ => ?_)
              refine lv_aload_n hx hb dL_law_3530 rfl (lv_at hl 6 rfl) ?_
              refine lv_iconst (v := iI (3)) hx hb dL_law_3531 rfl ?_
              rw [← h4]
              refine lw_back (lw_run (As := [.int (iI (3))]) (rest := []) hx hb hml hown hts hK hXS hS hA1 hC hG (c_X4_total hC hG hl0 (lw_hA hA hR) 3 (by omega)) ms_X4_total kw_422 ⟨by decide, by decide⟩ ⟨by omega, by omega⟩ rfl hl.1 (Nat.le_of_ble_eq_true rfl) dL_law_3532) (by unfold totalE; exact if_neg (by decide)) hS hA1 hN12 hR (fun H locs hC hR hS => ?_)
              refine lv_lload hx hb dL_law_3535 (lv_at hl 3 rfl) ?_
              refine lw_leq hx hb dL_law_3537 (by exact htt.2.2.2.1) ?_
              refine xr_if_ne (tgt := 3559) hx hb dL_law_3538 (by decide) (by decide) (fun yy7 => absurd yy7 (by decide)) (fun _ => ?_)
              refine lv_aload_n hx hb dL_law_3541 rfl (lv_at hl 6 rfl) ?_
              refine lv_iconst (v := iI (4)) hx hb dL_law_3542 rfl ?_
              rw [← h4]
              refine lw_back (lw_run (As := [.int (iI (4))]) (rest := []) hx hb hml hown hts hK hXS hS hA1 hC hG (c_X4_total hC hG hl0 (lw_hA hA hR) 4 (by omega)) ms_X4_total kw_422 ⟨by decide, by decide⟩ ⟨by omega, by omega⟩ rfl hl.1 (Nat.le_of_ble_eq_true rfl) dL_law_3543) (by unfold totalE; exact if_neg (by decide)) hS hA1 hN12 hR (fun H locs hC hR hS => ?_)
              refine lv_aload hx hb dL_law_3546 (lv_at hl 20 rfl) ?_
              refine lv_bipush (v := iI (25)) hx hb dL_law_3548 (by decide) ?_
              refine xa_1013 (v := mu 1013 25) hx hb hK hR (by omega) rfl dL_law_3550 ?_
              refine lw_leq hx hb dL_law_3551 (by exact htt.2.2.2.2) ?_
              refine xr_if_ne (tgt := 3559) hx hb dL_law_3552 (by decide) (by decide) (fun yy8 => absurd yy8 (by decide)) (fun _ => ?_)
              refine lv_iconst (v := iI (1)) hx hb dL_law_3555 rfl ?_
              refine lv_goto (tgt := 3560) hx hb dL_law_3556 (by decide) ?_
              refine lv_istore (i := 23) (lv' := [(23, .int (iI (1))), (18, .int (iI (sg 503 0))), (19, .int (iI (sg 506 0))), (20, .long (lI (sg 510 0))), (24, .int (iI (turn))), (0, .ref b), (1, .ref hh), (2, .ref (adM 20 0)), (3, .ref (adM 21 0)), (4, .ref (adM 22 0)), (5, .ref (adM 23 0)), (6, .ref (adM 24 0)), (7, .ref (adM 25 0)), (8, .ref (adM 26 0)), (9, .ref (adM 27 0)), (10, .ref (adM 28 0)), (11, .ref (adM 29 0)), (12, .ref (adM 30 0)), (13, .ref (adM 31 0)), (14, .ref (adM 32 0)), (15, .ref (adM 33 0)), (16, .ref (adM 34 0)), (17, .ref (adM 35 0)), (31, .long (lI (all))), (33, .long (lI (gone))), (35, .int (iI (k)))]) hx hb dL_law_3560 hl (by decide) rfl (fun ls hl => ?_)
              refine lv_iinc (v := iI (turn + 1)) (lv' := [(24, .int (iI (turn + 1))), (23, .int (iI (1))), (18, .int (iI (sg 503 0))), (19, .int (iI (sg 506 0))), (20, .long (lI (sg 510 0))), (0, .ref b), (1, .ref hh), (2, .ref (adM 20 0)), (3, .ref (adM 21 0)), (4, .ref (adM 22 0)), (5, .ref (adM 23 0)), (6, .ref (adM 24 0)), (7, .ref (adM 25 0)), (8, .ref (adM 26 0)), (9, .ref (adM 27 0)), (10, .ref (adM 28 0)), (11, .ref (adM 29 0)), (12, .ref (adM 30 0)), (13, .ref (adM 31 0)), (14, .ref (adM 32 0)), (15, .ref (adM 33 0)), (16, .ref (adM 34 0)), (17, .ref (adM 35 0)), (31, .long (lI (all))), (33, .long (lI (gone))), (35, .int (iI (k)))]) hx hb dL_law_3562 hl (k := 4) rfl (iI_add _ _) (by decide) rfl (fun ls hl => ?_)
              refine lv_goto (tgt := 450) hx hb dL_law_3565 (by decide) ?_
              refine W.widen (k := c0 + 260) (n := s0 + 1400) (by omega) (by omega) ?_
              rw [hc0, hs0]
              exact kk H locs ls hC hR hS (lv_sub hl [1, 2, 3, 4, 0, 5, 6, 7, 8, 9, 10, 11, 12, 13, 14, 15, 16, 17, 18, 19, 20, 21, 22] rfl)
            · skip
              refine lv_iconst (v := iI (2)) hx hb dL_law_3271 rfl ?_
              refine lv_istore (i := 36) (lv' := [(36, .int (iI (2))), (23, .int (iI (1))), (18, .int (iI (sg 503 0))), (19, .int (iI (sg 506 0))), (20, .long (lI (sg 510 0))), (24, .int (iI (turn))), (0, .ref b), (1, .ref hh), (2, .ref (adM 20 0)), (3, .ref (adM 21 0)), (4, .ref (adM 22 0)), (5, .ref (adM 23 0)), (6, .ref (adM 24 0)), (7, .ref (adM 25 0)), (8, .ref (adM 26 0)), (9, .ref (adM 27 0)), (10, .ref (adM 28 0)), (11, .ref (adM 29 0)), (12, .ref (adM 30 0)), (13, .ref (adM 31 0)), (14, .ref (adM 32 0)), (15, .ref (adM 33 0)), (16, .ref (adM 34 0)), (17, .ref (adM 35 0)), (31, .long (lI (all))), (33, .long (lI (gone))), (35, .int (iI (k)))]) hx hb dL_law_3272 hl (by decide) rfl (fun ls hl => ?_)
              have loop3274 : ∀ (n : Nat) (i : Int), 2 ≤ i ∧ i ≤ 8 → (8 - i).toNat < n → ∀ (cells slots : Nat) (H : Heap) (locs : List Loc), RC D cy A ad sg H → RM D cy A2 adM mu H → va_S (fun q : Nat => s.heap.size ≤ q) s.heap H locs → cells ≤ c0 + 200 + 12 * k.toNat + (i - 2).toNat → slots ≤ s0 + 1000 + 72 * k.toNat + 6 * (i - 2).toNat → ∀ ls : Array Slot, lv_has ls 37 [(23, .int (iI (1))), (18, .int (iI (sg 503 0))), (19, .int (iI (sg 506 0))), (20, .long (lI (sg 510 0))), (24, .int (iI (turn))), (0, .ref b), (1, .ref hh), (2, .ref (adM 20 0)), (3, .ref (adM 21 0)), (4, .ref (adM 22 0)), (5, .ref (adM 23 0)), (6, .ref (adM 24 0)), (7, .ref (adM 25 0)), (8, .ref (adM 26 0)), (9, .ref (adM 27 0)), (10, .ref (adM 28 0)), (11, .ref (adM 29 0)), (12, .ref (adM 30 0)), (13, .ref (adM 31 0)), (14, .ref (adM 32 0)), (15, .ref (adM 33 0)), (16, .ref (adM 34 0)), (17, .ref (adM 35 0)), (31, .long (lI (all))), (33, .long (lI (gone))), (35, .int (iI (k))), (36, .int (iI (i)))] → W p l e room_1 s m #[Value.ref b] below meth c H locs cells slots Q (F0 m 3274 ls []) := by
                intro n3274
                induction n3274 with
                | zero =>
                  intro i hi hn3274 cells slots H locs hC hR hS hcc hss ls hl
                  exact absurd hn3274 (Nat.not_lt_zero _)
                | succ n3274 ih3274 =>
                  intro i hi hn3274 cells slots H locs hC hR hS hcc hss ls hl
                  refine lv_iload hx hb dL_law_3274 (lv_at hl 26 rfl) ?_
                  refine lv_bipush (v := iI (8)) hx hb dL_law_3276 (by decide) ?_
                  refine xr_icmp_ge (tgt := 3323) hx hb dL_law_3278 (by decide) (by omega) (by omega) (fun yy9 => ?_) (fun yy9 => ?_)
                  · skip
                    have hplk := pl_rng k
                    obtain ⟨hpa, hpu, hpp4, hp7⟩ := a_plot hLR hG (k := k) (by omega)
                    refine lv_aload_n hx hb dL_law_3323 rfl (lv_at hl 7 rfl) ?_
                    refine lv_bipush (v := iI (8)) hx hb dL_law_3324 (by decide) ?_
                    refine lv_iload hx hb dL_law_3326 (lv_at hl 25 rfl) ?_
                    refine xr_imul hx hb dL_law_3328 ?_
                    refine xa_1000 (v := mu 1000 (8 * k)) hx hb hK hR (by omega) rfl dL_law_3329 ?_
                    have g10 := ml_1000 hM0 (8 * k)
                    refine lv_aload hx hb dL_law_3330 (lv_at hl 15 rfl) ?_
                    refine lv_aload_n hx hb dL_law_3332 rfl (lv_at hl 7 rfl) ?_
                    refine lv_bipush (v := iI (8)) hx hb dL_law_3333 (by decide) ?_
                    refine lv_iload hx hb dL_law_3335 (lv_at hl 25 rfl) ?_
                    refine xr_imul hx hb dL_law_3337 ?_
                    refine lv_iconst (v := iI (1)) hx hb dL_law_3338 rfl ?_
                    refine xr_iadd hx hb dL_law_3339 ?_
                    refine xa_1000 (v := mu 1000 ((8 * k) + 1)) hx hb hK hR (by omega) rfl dL_law_3340 ?_
                    have g11 := ml_1000 hM0 ((8 * k) + 1)
                    refine xa_1008 (v := mu 1008 (mu 1000 ((8 * k) + 1))) hx hb hK hR (by omega) rfl dL_law_3341 ?_
                    have g12 := ml_1008 hM0 (mu 1000 ((8 * k) + 1))
                    refine xr_imul hx hb dL_law_3342 ?_
                    obtain ⟨W0, hW0⟩ : ∃ W0, W0 = mu 1000 (8 * k) * mu 1008 (mu 1000 (8 * k + 1)) := ⟨_, rfl⟩
                    have hWr := mul_rng hpa (ml_1008 hM0 (mu 1000 (8 * k + 1)))
                    rw [← hW0] at hWr
                    rw [← hW0]
                    refine lv_istore (i := 36) (lv' := [(36, .int (iI (W0))), (23, .int (iI (1))), (18, .int (iI (sg 503 0))), (19, .int (iI (sg 506 0))), (20, .long (lI (sg 510 0))), (24, .int (iI (turn))), (0, .ref b), (1, .ref hh), (2, .ref (adM 20 0)), (3, .ref (adM 21 0)), (4, .ref (adM 22 0)), (5, .ref (adM 23 0)), (6, .ref (adM 24 0)), (7, .ref (adM 25 0)), (8, .ref (adM 26 0)), (9, .ref (adM 27 0)), (10, .ref (adM 28 0)), (11, .ref (adM 29 0)), (12, .ref (adM 30 0)), (13, .ref (adM 31 0)), (14, .ref (adM 32 0)), (15, .ref (adM 33 0)), (16, .ref (adM 34 0)), (17, .ref (adM 35 0)), (31, .long (lI (all))), (33, .long (lI (gone))), (35, .int (iI (k)))]) hx hb dL_law_3343 hl (by decide) rfl (fun ls hl => ?_)
                    refine lv_iload hx hb dL_law_3345 (lv_at hl 1 rfl) ?_
                    refine xr_if_eq (tgt := 3480) hx hb dL_law_3347 (by decide) (by decide) (fun yy13 => absurd yy13 (by decide)) (fun _ => ?_)
                    refine lv_aload_n hx hb dL_law_3350 rfl (lv_at hl 7 rfl) ?_
                    refine lv_iload hx hb dL_law_3351 (lv_at hl 26 rfl) ?_
                    refine lw_plot hx hb hml hown hts hK hl.1 ⟨by omega, by omega⟩ (by omega) (lv_room (Nat.le_of_ble_eq_true rfl)) dL_law_3353 ?_
                    refine lv_bipush (v := iI (8)) hx hb dL_law_3356 (by decide) ?_
                    have hto := t_off hLR hV hG (k := k) (by omega)
                    have hb12 := ml_1012 hM0 k
                    obtain ⟨v8, hv8⟩ : ∃ v8, v8 = if mu 1000 (8 * k + 7) < 0 then 0 else mu 1012 k := ⟨_, rfl⟩
                    rw [← hv8] at hto
                    have hv8r : 0 ≤ v8 ∧ v8 ≤ 100000 := by rw [hv8]; split <;> omega
                    rw [← h4]
                    refine lw_back (lw_run (As := [.int (iI (pl k)), .int (iI (8))]) (rest := []) hx hb hml hown hts hK hXS hS hA1 hC hG (c_X4_plotOf hC hG hl0 (lw_hA hA hR) (pl k) 8 (by omega) (by omega)) ms_X4_plotOf kw_283 ⟨by decide, by decide⟩ ⟨by omega, by omega⟩ rfl hl.1 (Nat.le_of_ble_eq_true rfl) dL_law_3358) (by exact hto.1) hS hA1 hN12 hR (fun H locs hC hR hS => ?_)
                    rw [hto.2]
                    have J3383 : W p l e room_1 s m #[Value.ref b] below meth c H locs (cells + 1) (slots + 6) Q (F0 m 3383 ls [.int (iI (v8)), .int (iI (v8))]) := by
                      refine xr_icmp_ne (tgt := 3480) hx hb dL_law_3383 (by decide) (by omega) (by omega) (fun yy14 => absurd yy14 (by omega)) (fun yy14 => ?_)
                      refine lv_aload_n hx hb dL_law_3386 rfl (lv_at hl 7 rfl) ?_
                      refine lv_iload hx hb dL_law_3387 (lv_at hl 26 rfl) ?_
                      refine lw_plot hx hb hml hown hts hK hl.1 ⟨by omega, by omega⟩ (by omega) (lv_room (Nat.le_of_ble_eq_true rfl)) dL_law_3389 ?_
                      refine lv_iload hx hb dL_law_3392 (lv_at hl 3 rfl) ?_
                      have htw := t_worth hLR hG (k := k) (W := W0) (by omega) hW0
                      rw [← h4]
                      refine lw_back (lw_run (As := [.int (iI (pl k)), .int (iI (sg 506 0))]) (rest := []) hx hb hml hown hts hK hXS hS hA1 hC hG (c_X4_worth hC hG hl0 (lw_hA hA hR) (pl k) (sg 506 0) (by omega) (by omega)) ms_X4_worth kw_260 ⟨by decide, by decide⟩ ⟨by omega, by omega⟩ rfl hl.1 (Nat.le_of_ble_eq_true rfl) dL_law_3394) (by exact htw.1) hS hA1 hN12 hR (fun H locs hC hR hS => ?_)
                      rw [htw.2]
                      refine lv_iload hx hb dL_law_3397 (lv_at hl 0 rfl) ?_
                      refine xr_icmp_ne (tgt := 3480) hx hb dL_law_3399 (by decide) (by omega) (by omega) (fun yy15 => absurd yy15 (by omega)) (fun yy15 => ?_)
                      refine lv_aload_n hx hb dL_law_3402 rfl (lv_at hl 7 rfl) ?_
                      refine lv_iload hx hb dL_law_3403 (lv_at hl 26 rfl) ?_
                      refine lw_plot hx hb hml hown hts hK hl.1 ⟨by omega, by omega⟩ (by omega) (lv_room (Nat.le_of_ble_eq_true rfl)) dL_law_3405 ?_
                      have htm := t_market hLR hG (k := k) (W := W0) (by omega) hW0
                      obtain ⟨v9, hv9⟩ : ∃ v9, v9 = if mu 1000 (8 * k + 2) ≠ 0 then W0 else if 0 ≤ mu 1000 (8 * k + 3) then W0 * 70 / 100 else if bI (lBes mu k) = 1 then W0 * 90 / 100 else W0 := ⟨_, rfl⟩
                      rw [← hv9] at htm
                      have hv9r : 0 ≤ v9 ∧ v9 ≤ 100000 := by rw [hv9]; (repeat' split) <;> omega
                      rw [← h4]
                      refine lw_back (lw_run (As := [.int (iI (pl k))]) (rest := []) hx hb hml hown hts hK hXS hS hA1 hC hG (c_X4_market hC hG hl0 (lw_hA hA hR) (pl k) (by omega)) ms_X4_market kw_268 ⟨by decide, by decide⟩ ⟨by omega, by omega⟩ rfl hl.1 (Nat.le_of_ble_eq_true rfl) dL_law_3408) (by exact htm.1) hS hA1 hN12 hR (fun H locs hC hR hS => ?_)
                      rw [htm.2]
                      have J3473 : W p l e room_1 s m #[Value.ref b] below meth c H locs (cells + 1 + 1 + 1) (slots + 6 + 6 + 6) Q (F0 m 3473 ls [.int (iI (v9)), .int (iI (v9))]) := by
                        refine xr_icmp_ne (tgt := 3480) hx hb dL_law_3473 (by decide) (by omega) (by omega) (fun yy16 => absurd yy16 (by omega)) (fun yy16 => ?_)
                        refine lv_iconst (v := iI (1)) hx hb dL_law_3476 rfl ?_
                        refine lv_goto (tgt := 3481) hx hb dL_law_3477 (by decide) ?_
                        refine lv_istore (i := 23) (lv' := [(23, .int (iI (1))), (36, .int (iI (W0))), (18, .int (iI (sg 503 0))), (19, .int (iI (sg 506 0))), (20, .long (lI (sg 510 0))), (24, .int (iI (turn))), (0, .ref b), (1, .ref hh), (2, .ref (adM 20 0)), (3, .ref (adM 21 0)), (4, .ref (adM 22 0)), (5, .ref (adM 23 0)), (6, .ref (adM 24 0)), (7, .ref (adM 25 0)), (8, .ref (adM 26 0)), (9, .ref (adM 27 0)), (10, .ref (adM 28 0)), (11, .ref (adM 29 0)), (12, .ref (adM 30 0)), (13, .ref (adM 31 0)), (14, .ref (adM 32 0)), (15, .ref (adM 33 0)), (16, .ref (adM 34 0)), (17, .ref (adM 35 0)), (31, .long (lI (all))), (33, .long (lI (gone))), (35, .int (iI (k)))]) hx hb dL_law_3481 hl (by decide) rfl (fun ls hl => ?_)
                        refine lv_iinc (v := iI (k + 1)) (lv' := [(35, .int (iI (k + 1))), (23, .int (iI (1))), (36, .int (iI (W0))), (18, .int (iI (sg 503 0))), (19, .int (iI (sg 506 0))), (20, .long (lI (sg 510 0))), (24, .int (iI (turn))), (0, .ref b), (1, .ref hh), (2, .ref (adM 20 0)), (3, .ref (adM 21 0)), (4, .ref (adM 22 0)), (5, .ref (adM 23 0)), (6, .ref (adM 24 0)), (7, .ref (adM 25 0)), (8, .ref (adM 26 0)), (9, .ref (adM 27 0)), (10, .ref (adM 28 0)), (11, .ref (adM 29 0)), (12, .ref (adM 30 0)), (13, .ref (adM 31 0)), (14, .ref (adM 32 0)), (15, .ref (adM 33 0)), (16, .ref (adM 34 0)), (17, .ref (adM 35 0)), (31, .long (lI (all))), (33, .long (lI (gone)))]) hx hb dL_law_3483 hl (k := 26) rfl (iI_add _ _) (by decide) rfl (fun ls hl => ?_)
                        refine lv_goto (tgt := 3265) hx hb dL_law_3486 (by decide) ?_
                        exact ih3265 (k + 1) (by omega) (by omega) _ _ _ _ hC hR hS (by omega) (by omega) ls (lv_sub hl [1, 3, 4, 5, 6, 7, 8, 9, 10, 11, 12, 13, 14, 15, 16, 17, 18, 19, 20, 21, 22, 23, 24, 25, 26, 0] rfl)
                      refine lv_aload_n hx hb dL_law_3411 rfl (lv_at hl 8 rfl) ?_
                      refine lv_bipush (v := iI (8)) hx hb dL_law_3412 (by decide) ?_
                      refine lv_iload hx hb dL_law_3414 (lv_at hl 26 rfl) ?_
                      refine xr_imul hx hb dL_law_3416 ?_
                      refine lv_iconst (v := iI (2)) hx hb dL_law_3417 rfl ?_
                      refine xr_iadd hx hb dL_law_3418 ?_
                      refine xa_1000 (v := mu 1000 ((8 * k) + 2)) hx hb hK hR (by omega) rfl dL_law_3419 ?_
                      have g17 := ml_1000 hM0 ((8 * k) + 2)
                      refine xr_if_eq (tgt := 3428) hx hb dL_law_3420 (by decide) (by omega) (fun yy18 => ?_) (fun yy18 => ?_)
                      · skip
                        refine lv_aload_n hx hb dL_law_3428 rfl (lv_at hl 8 rfl) ?_
                        refine lv_bipush (v := iI (8)) hx hb dL_law_3429 (by decide) ?_
                        refine lv_iload hx hb dL_law_3431 (lv_at hl 26 rfl) ?_
                        refine xr_imul hx hb dL_law_3433 ?_
                        refine lv_iconst (v := iI (3)) hx hb dL_law_3434 rfl ?_
                        refine xr_iadd hx hb dL_law_3435 ?_
                        refine xa_1000 (v := mu 1000 ((8 * k) + 3)) hx hb hK hR (by omega) rfl dL_law_3436 ?_
                        have g19 := ml_1000 hM0 ((8 * k) + 3)
                        refine xr_if_lt (tgt := 3451) hx hb dL_law_3437 (by decide) (by omega) (fun yy20 => ?_) (fun yy20 => ?_)
                        · skip
                          refine lv_aload_n hx hb dL_law_3451 rfl (lv_at hl 8 rfl) ?_
                          refine lv_iload hx hb dL_law_3452 (lv_at hl 26 rfl) ?_
                          refine xk_pF (xr_S (As := [.ref (adM 20 0), .int (iI (k))]) (rest := [.int (iI (v9))]) hx hb hml hown hts hK (c_L_beside hR hM k (by omega)) ms_L_beside kw_676 ⟨by decide, by decide⟩ ⟨by show _ ≤ 600104; omega, by show _ ≤ 7301314; omega⟩ rfl rfl hl.1 rfl (lv_room (Nat.le_of_ble_eq_true rfl)) dL_law_3454) ?_
                          refine xr_ifb_eq (tgt := 3471) hx hb dL_law_3457 (by decide) (fun yy21 => ?_) (fun yy21 => ?_)
                          · skip
                            refine lv_iload hx hb dL_law_3471 (lv_at hl 0 rfl) ?_
                            exact w_topI (by rw [hv9]; first | exact (if_pos (by omega)).symm | (rw [if_neg (by omega)]; first | exact (if_pos (by omega)).symm | (rw [if_neg (by omega)]; first | exact (if_pos (bI_t (by assumption))).symm | exact (if_neg (by rw [bI_f (by assumption)]; decide)).symm))) J3473
                          · skip
                            refine lv_iload hx hb dL_law_3460 (lv_at hl 0 rfl) ?_
                            refine lv_bipush (v := iI (90)) hx hb dL_law_3462 (by decide) ?_
                            refine xr_imul hx hb dL_law_3464 ?_
                            refine lv_bipush (v := iI (100)) hx hb dL_law_3465 (by decide) ?_
                            refine xr_idiv hx hb dL_law_3467 (by omega) (by omega) ?_
                            refine lv_goto (tgt := 3473) hx hb dL_law_3468 (by decide) ?_
                            exact w_topI (by rw [hv9]; first | exact (if_pos (by omega)).symm | (rw [if_neg (by omega)]; first | exact (if_pos (by omega)).symm | (rw [if_neg (by omega)]; first | exact (if_pos (bI_t (by assumption))).symm | exact (if_neg (by rw [bI_f (by assumption)]; decide)).symm))) J3473
                        · skip
                          refine lv_iload hx hb dL_law_3440 (lv_at hl 0 rfl) ?_
                          refine lv_bipush (v := iI (70)) hx hb dL_law_3442 (by decide) ?_
                          refine xr_imul hx hb dL_law_3444 ?_
                          refine lv_bipush (v := iI (100)) hx hb dL_law_3445 (by decide) ?_
                          refine xr_idiv hx hb dL_law_3447 (by omega) (by omega) ?_
                          refine lv_goto (tgt := 3473) hx hb dL_law_3448 (by decide) ?_
                          exact w_topI (by rw [hv9]; first | exact (if_pos (by omega)).symm | (rw [if_neg (by omega)]; first | exact (if_pos (by omega)).symm | (rw [if_neg (by omega)]; first | exact (if_pos (bI_t (by assumption))).symm | exact (if_neg (by rw [bI_f (by assumption)]; decide)).symm))) J3473
                      · skip
                        refine lv_iload hx hb dL_law_3423 (lv_at hl 0 rfl) ?_
                        refine lv_goto (tgt := 3473) hx hb dL_law_3425 (by decide) ?_
                        exact w_topI (by rw [hv9]; first | exact (if_pos (by omega)).symm | (rw [if_neg (by omega)]; first | exact (if_pos (by omega)).symm | (rw [if_neg (by omega)]; first | exact (if_pos (bI_t (by assumption))).symm | exact (if_neg (by rw [bI_f (by assumption)]; decide)).symm))) J3473
                    refine lv_aload_n hx hb dL_law_3361 rfl (lv_at hl 8 rfl) ?_
                    refine lv_bipush (v := iI (8)) hx hb dL_law_3362 (by decide) ?_
                    refine lv_iload hx hb dL_law_3364 (lv_at hl 26 rfl) ?_
                    refine xr_imul hx hb dL_law_3366 ?_
                    refine lv_bipush (v := iI (7)) hx hb dL_law_3367 (by decide) ?_
                    refine xr_iadd hx hb dL_law_3369 ?_
                    refine xa_1000 (v := mu 1000 ((8 * k) + 7)) hx hb hK hR (by omega) rfl dL_law_3370 ?_
                    have g22 := ml_1000 hM0 ((8 * k) + 7)
                    refine xr_if_ge (tgt := 3378) hx hb dL_law_3371 (by decide) (by omega) (fun yy23 => ?_) (fun yy23 => ?_)
                    · skip
                      refine lv_aload hx hb dL_law_3378 (lv_at hl 20 rfl) ?_
                      refine lv_iload hx hb dL_law_3380 (lv_at hl 26 rfl) ?_
                      refine xa_1012 (v := mu 1012 k) hx hb hK hR (by omega) rfl dL_law_3382 ?_
                      have g24 := ml_1012 hM0 (k)
                      exact w_topI (by rw [hv8]; first | exact (if_pos (by omega)).symm | exact (if_neg (by omega)).symm) J3383
                    · skip
                      refine lv_iconst (v := iI (0)) hx hb dL_law_3374 rfl ?_
                      refine lv_goto (tgt := 3383) hx hb dL_law_3375 (by decide) ?_
                      exact w_topI (by rw [hv8]; first | exact (if_pos (by omega)).symm | exact (if_neg (by omega)).symm) J3383
                  · skip
                    refine lv_iload hx hb dL_law_3281 (lv_at hl 0 rfl) ?_
                    refine xr_if_eq (tgt := 3314) hx hb dL_law_3283 (by decide) (by decide) (fun yy25 => absurd yy25 (by decide)) (fun _ => ?_)
                    refine lv_aload_n hx hb dL_law_3286 rfl (lv_at hl 6 rfl) ?_
                    refine lv_iload hx hb dL_law_3287 (lv_at hl 25 rfl) ?_
                    refine lw_plot hx hb hml hown hts hK hl.1 ⟨by omega, by omega⟩ (by omega) (lv_room (Nat.le_of_ble_eq_true rfl)) dL_law_3289 ?_
                    refine lv_iload hx hb dL_law_3292 (lv_at hl 26 rfl) ?_
                    have hplk := pl_rng k
                    have htp := t_plot hLR hG (k := k) (w := i) (by omega) (by omega)
                    rw [← h4]
                    refine lw_back (lw_run (As := [.int (iI (pl k)), .int (iI (i))]) (rest := []) hx hb hml hown hts hK hXS hS hA1 hC hG (c_X4_plotOf hC hG hl0 (lw_hA hA hR) (pl k) i (by omega) (by omega)) ms_X4_plotOf kw_283 ⟨by decide, by decide⟩ ⟨by omega, by omega⟩ rfl hl.1 (Nat.le_of_ble_eq_true rfl) dL_law_3294) (by exact htp.1) hS hA1 hN12 hR (fun H locs hC hR hS => ?_)
                    rw [htp.2]
                    refine lv_aload_n hx hb dL_law_3297 rfl (lv_at hl 7 rfl) ?_
                    refine lv_bipush (v := iI (8)) hx hb dL_law_3298 (by decide) ?_
                    refine lv_iload hx hb dL_law_3300 (lv_at hl 25 rfl) ?_
                    refine xr_imul hx hb dL_law_3302 ?_
                    refine lv_iload hx hb dL_law_3303 (lv_at hl 26 rfl) ?_
                    refine xr_iadd hx hb dL_law_3305 ?_
                    refine xa_1000 (v := mu 1000 ((8 * k) + i)) hx hb hK hR (by omega) rfl dL_law_3306 ?_
                    have g26 := ml_1000 hM0 ((8 * k) + i)
                    refine xr_icmp_ne (tgt := 3314) hx hb dL_law_3307 (by decide) (by omega) (by omega) (fun yy27 => absurd yy27 (by omega)) (fun yy27 => ?_)
                    refine lv_iconst (v := iI (1)) hx hb dL_law_3310 rfl ?_
                    refine lv_goto (tgt := 3315) hx hb dL_law_3311 (by decide) ?_
                    refine lv_istore (i := 23) (lv' := [(23, .int (iI (1))), (18, .int (iI (sg 503 0))), (19, .int (iI (sg 506 0))), (20, .long (lI (sg 510 0))), (24, .int (iI (turn))), (0, .ref b), (1, .ref hh), (2, .ref (adM 20 0)), (3, .ref (adM 21 0)), (4, .ref (adM 22 0)), (5, .ref (adM 23 0)), (6, .ref (adM 24 0)), (7, .ref (adM 25 0)), (8, .ref (adM 26 0)), (9, .ref (adM 27 0)), (10, .ref (adM 28 0)), (11, .ref (adM 29 0)), (12, .ref (adM 30 0)), (13, .ref (adM 31 0)), (14, .ref (adM 32 0)), (15, .ref (adM 33 0)), (16, .ref (adM 34 0)), (17, .ref (adM 35 0)), (31, .long (lI (all))), (33, .long (lI (gone))), (35, .int (iI (k))), (36, .int (iI (i)))]) hx hb dL_law_3315 hl (by decide) rfl (fun ls hl => ?_)
                    refine lv_iinc (v := iI (i + 1)) (lv' := [(36, .int (iI (i + 1))), (23, .int (iI (1))), (18, .int (iI (sg 503 0))), (19, .int (iI (sg 506 0))), (20, .long (lI (sg 510 0))), (24, .int (iI (turn))), (0, .ref b), (1, .ref hh), (2, .ref (adM 20 0)), (3, .ref (adM 21 0)), (4, .ref (adM 22 0)), (5, .ref (adM 23 0)), (6, .ref (adM 24 0)), (7, .ref (adM 25 0)), (8, .ref (adM 26 0)), (9, .ref (adM 27 0)), (10, .ref (adM 28 0)), (11, .ref (adM 29 0)), (12, .ref (adM 30 0)), (13, .ref (adM 31 0)), (14, .ref (adM 32 0)), (15, .ref (adM 33 0)), (16, .ref (adM 34 0)), (17, .ref (adM 35 0)), (31, .long (lI (all))), (33, .long (lI (gone))), (35, .int (iI (k)))]) hx hb dL_law_3317 hl (k := 26) rfl (iI_add _ _) (by decide) rfl (fun ls hl => ?_)
                    refine lv_goto (tgt := 3274) hx hb dL_law_3320 (by decide) ?_
                    exact ih3274 (i + 1) (by omega) (by omega) _ _ _ _ hC hR hS (by omega) (by omega) ls (lv_sub hl [1, 2, 3, 4, 5, 6, 7, 8, 9, 10, 11, 12, 13, 14, 15, 16, 17, 18, 19, 20, 21, 22, 23, 24, 25, 26, 0] rfl)
              exact loop3274 _ 2 (by omega) (Nat.lt_succ_self _) _ _ _ _ hC hR hS (by omega) (by omega) ls (lv_sub hl [1, 2, 3, 4, 5, 6, 7, 8, 9, 10, 11, 12, 13, 14, 15, 16, 17, 18, 19, 20, 21, 22, 23, 24, 25, 26, 0] rfl)
        exact loop3265 _ 0 (by omega) (Nat.lt_succ_self _) _ _ _ _ hC hR hS (by omega) (by omega) ls (lv_sub hl [1, 2, 3, 4, 5, 6, 7, 8, 9, 10, 11, 12, 13, 14, 15, 16, 17, 18, 19, 20, 21, 22, 23, 24, 25, 0] rfl)
      · skip
        obtain ⟨hiE, hiX, ht7, ht8, ht5, ht6⟩ := t_inter hLR (j := j) (by omega)
        have htA := t_anew hLR hV (j := j) (by omega)
        have hb6 := bI_in (mu 1005 j = 1)
        refine lv_lload hx hb dL_law_3131 (lv_at hl 23 rfl) ?_
        refine lv_aload hx hb dL_law_3133 (lv_at hl 20 rfl) ?_
        refine lv_iload hx hb dL_law_3135 (lv_at hl 25 rfl) ?_
        refine xa_1013 (v := mu 1013 j) hx hb hK hR (by omega) rfl dL_law_3137 ?_
        refine xr_ladd hx hb dL_law_3138 ?_
        refine lv_lstore (i := 31) (lv' := [(31, .long (lI (all + (mu 1013 j)))), (23, .int (iI (1))), (18, .int (iI (sg 503 0))), (19, .int (iI (sg 506 0))), (20, .long (lI (sg 510 0))), (24, .int (iI (turn))), (0, .ref b), (1, .ref hh), (2, .ref (adM 20 0)), (3, .ref (adM 21 0)), (4, .ref (adM 22 0)), (5, .ref (adM 23 0)), (6, .ref (adM 24 0)), (7, .ref (adM 25 0)), (8, .ref (adM 26 0)), (9, .ref (adM 27 0)), (10, .ref (adM 28 0)), (11, .ref (adM 29 0)), (12, .ref (adM 30 0)), (13, .ref (adM 31 0)), (14, .ref (adM 32 0)), (15, .ref (adM 33 0)), (16, .ref (adM 34 0)), (17, .ref (adM 35 0)), (33, .long (lI (gone))), (35, .int (iI (j)))]) hx hb dL_law_3139 hl (by decide) rfl (fun ls hl => ?_)
        refine lv_lload hx hb dL_law_3141 (lv_at hl 24 rfl) ?_
        refine lv_aload hx hb dL_law_3143 (lv_at hl 23 rfl) ?_
        refine lv_iload hx hb dL_law_3145 (lv_at hl 25 rfl) ?_
        refine xa_1015 (v := mu 1015 j) hx hb hK hR (by omega) rfl dL_law_3147 ?_
        refine xr_ladd hx hb dL_law_3148 ?_
        refine lv_lstore (i := 33) (lv' := [(33, .long (lI (gone + (mu 1015 j)))), (31, .long (lI (all + (mu 1013 j)))), (23, .int (iI (1))), (18, .int (iI (sg 503 0))), (19, .int (iI (sg 506 0))), (20, .long (lI (sg 510 0))), (24, .int (iI (turn))), (0, .ref b), (1, .ref hh), (2, .ref (adM 20 0)), (3, .ref (adM 21 0)), (4, .ref (adM 22 0)), (5, .ref (adM 23 0)), (6, .ref (adM 24 0)), (7, .ref (adM 25 0)), (8, .ref (adM 26 0)), (9, .ref (adM 27 0)), (10, .ref (adM 28 0)), (11, .ref (adM 29 0)), (12, .ref (adM 30 0)), (13, .ref (adM 31 0)), (14, .ref (adM 32 0)), (15, .ref (adM 33 0)), (16, .ref (adM 34 0)), (17, .ref (adM 35 0)), (35, .int (iI (j)))]) hx hb dL_law_3149 hl (by decide) rfl (fun ls hl => ?_)
        refine lv_iload hx hb dL_law_3151 (lv_at hl 2 rfl) ?_
        refine xr_if_eq (tgt := 3253) hx hb dL_law_3153 (by decide) (by decide) (fun yy28 => absurd yy28 (by decide)) (fun _ => ?_)
        refine lv_aload_n hx hb dL_law_3156 rfl (lv_at hl 8 rfl) ?_
        refine lv_iload hx hb dL_law_3157 (lv_at hl 25 rfl) ?_
        refine lv_bipush (v := iI (7)) hx hb dL_law_3159 (by decide) ?_
        rw [← h4]
        refine lw_back (lw_run (As := [.int (iI (j)), .int (iI (7))]) (rest := []) hx hb hml hown hts hK hXS hS hA1 hC hG (c_X4_interestOf hC hG hl0 (lw_hA hA hR) j 7 (by omega) (by omega)) ms_X4_interestOf kw_294 ⟨by decide, by decide⟩ ⟨by omega, by omega⟩ rfl hl.1 (Nat.le_of_ble_eq_true rfl) dL_law_3161) (by exact hiX 7 (by decide) (by decide)) hS hA1 hN12 hR (fun H locs hC hR hS => ?_)
        refine lv_aload hx hb dL_law_3164 (lv_at hl 22 rfl) ?_
        refine lv_iload hx hb dL_law_3166 (lv_at hl 25 rfl) ?_
        refine xa_1013 (v := mu 1013 j) hx hb hK hR (by omega) rfl dL_law_3168 ?_
        refine lw_leq hx hb dL_law_3169 (by exact ht7) ?_
        refine xr_if_ne (tgt := 3253) hx hb dL_law_3170 (by decide) (by decide) (fun yy29 => absurd yy29 (by decide)) (fun _ => ?_)
        refine lv_aload_n hx hb dL_law_3173 rfl (lv_at hl 8 rfl) ?_
        refine lv_iload hx hb dL_law_3174 (lv_at hl 25 rfl) ?_
        rw [← h4]
        refine lw_back (lw_run (As := [.int (iI (j))]) (rest := []) hx hb hml hown hts hK hXS hS hA1 hC hG (c_X4_sumAnew hC hG hl0 (lw_hA hA hR) j (by omega)) ms_X4_sumAnew kw_368 ⟨by decide, by decide⟩ ⟨by omega, by omega⟩ rfl hl.1 (Nat.le_of_ble_eq_true rfl) dL_law_3176) (by exact hiE) hS hA1 hN12 hR (fun H locs hC hR hS => ?_)
        refine lv_aload hx hb dL_law_3179 (lv_at hl 22 rfl) ?_
        refine lv_iload hx hb dL_law_3181 (lv_at hl 25 rfl) ?_
        refine xa_1013 (v := mu 1013 j) hx hb hK hR (by omega) rfl dL_law_3183 ?_
        refine lw_leq hx hb dL_law_3184 (by exact htA) ?_
        refine xr_if_ne (tgt := 3253) hx hb dL_law_3185 (by decide) (by decide) (fun yy30 => absurd yy30 (by decide)) (fun _ => ?_)
        refine lv_aload_n hx hb dL_law_3188 rfl (lv_at hl 8 rfl) ?_
        refine lv_iload hx hb dL_law_3189 (lv_at hl 25 rfl) ?_
        refine lv_bipush (v := iI (8)) hx hb dL_law_3191 (by decide) ?_
        rw [← h4]
        refine lw_back (lw_run (As := [.int (iI (j)), .int (iI (8))]) (rest := []) hx hb hml hown hts hK hXS hS hA1 hC hG (c_X4_interestOf hC hG hl0 (lw_hA hA hR) j 8 (by omega) (by omega)) ms_X4_interestOf kw_294 ⟨by decide, by decide⟩ ⟨by omega, by omega⟩ rfl hl.1 (Nat.le_of_ble_eq_true rfl) dL_law_3193) (by exact hiX 8 (by decide) (by decide)) hS hA1 hN12 hR (fun H locs hC hR hS => ?_)
        refine lv_aload hx hb dL_law_3196 (lv_at hl 24 rfl) ?_
        refine lv_iload hx hb dL_law_3198 (lv_at hl 25 rfl) ?_
        refine xa_1015 (v := mu 1015 j) hx hb hK hR (by omega) rfl dL_law_3200 ?_
        refine lw_leq hx hb dL_law_3201 (by exact ht8) ?_
        refine xr_if_ne (tgt := 3253) hx hb dL_law_3202 (by decide) (by decide) (fun yy31 => absurd yy31 (by decide)) (fun _ => ?_)
        refine lv_aload_n hx hb dL_law_3205 rfl (lv_at hl 8 rfl) ?_
        refine lv_iload hx hb dL_law_3206 (lv_at hl 25 rfl) ?_
        refine lv_iconst (v := iI (5)) hx hb dL_law_3208 rfl ?_
        rw [← h4]
        refine lw_back (lw_run (As := [.int (iI (j)), .int (iI (5))]) (rest := []) hx hb hml hown hts hK hXS hS hA1 hC hG (c_X4_interestOf hC hG hl0 (lw_hA hA hR) j 5 (by omega) (by omega)) ms_X4_interestOf kw_294 ⟨by decide, by decide⟩ ⟨by omega, by omega⟩ rfl hl.1 (Nat.le_of_ble_eq_true rfl) dL_law_3209) (by exact hiX 5 (by decide) (by decide)) hS hA1 hN12 hR (fun H locs hC hR hS => ?_)
        refine lv_aload hx hb dL_law_3212 (lv_at hl 13 rfl) ?_
        refine lv_iload hx hb dL_law_3214 (lv_at hl 25 rfl) ?_
        refine xa_1004 (v := mu 1004 j) hx hb hK hR (by omega) rfl dL_law_3216 ?_
        have g32 := ml_1004 hM0 (j)
        refine xr_i2l hx hb dL_law_3217 (by omega) ?_
        refine lw_leq hx hb dL_law_3218 (by exact ht5) ?_
        refine xr_if_ne (tgt := 3253) hx hb dL_law_3219 (by decide) (by decide) (fun yy33 => absurd yy33 (by decide)) (fun _ => ?_)
        refine lv_aload_n hx hb dL_law_3222 rfl (lv_at hl 8 rfl) ?_
        refine lv_iload hx hb dL_law_3223 (lv_at hl 25 rfl) ?_
        refine lv_bipush (v := iI (6)) hx hb dL_law_3225 (by decide) ?_
        rw [← h4]
        refine lw_back (lw_run (As := [.int (iI (j)), .int (iI (6))]) (rest := []) hx hb hml hown hts hK hXS hS hA1 hC hG (c_X4_interestOf hC hG hl0 (lw_hA hA hR) j 6 (by omega) (by omega)) ms_X4_interestOf kw_294 ⟨by decide, by decide⟩ ⟨by omega, by omega⟩ rfl hl.1 (Nat.le_of_ble_eq_true rfl) dL_law_3227) (by exact hiX 6 (by decide) (by decide)) hS hA1 hN12 hR (fun H locs hC hR hS => ?_)
        have J3244 : W p l e room_1 s m #[Value.ref b] below meth c H locs (cells + 1 + 1 + 1 + 1 + 1) (slots + 6 + 6 + 6 + 6 + 6) Q (F0 m 3244 ls [.int (iI (bI (mu 1005 j = 1))), .long (lI (interR sg (iAt sg j) 6))]) := by
          refine xr_i2l hx hb dL_law_3244 (by omega) ?_
          refine lw_leq hx hb dL_law_3245 (by exact ht6) ?_
          refine xr_if_ne (tgt := 3253) hx hb dL_law_3246 (by decide) (by decide) (fun yy34 => absurd yy34 (by decide)) (fun _ => ?_)
          refine lv_iconst (v := iI (1)) hx hb dL_law_3249 rfl ?_
          refine lv_goto (tgt := 3254) hx hb dL_law_3250 (by decide) ?_
          refine lv_istore (i := 23) (lv' := [(23, .int (iI (1))), (33, .long (lI (gone + (mu 1015 j)))), (31, .long (lI (all + (mu 1013 j)))), (18, .int (iI (sg 503 0))), (19, .int (iI (sg 506 0))), (20, .long (lI (sg 510 0))), (24, .int (iI (turn))), (0, .ref b), (1, .ref hh), (2, .ref (adM 20 0)), (3, .ref (adM 21 0)), (4, .ref (adM 22 0)), (5, .ref (adM 23 0)), (6, .ref (adM 24 0)), (7, .ref (adM 25 0)), (8, .ref (adM 26 0)), (9, .ref (adM 27 0)), (10, .ref (adM 28 0)), (11, .ref (adM 29 0)), (12, .ref (adM 30 0)), (13, .ref (adM 31 0)), (14, .ref (adM 32 0)), (15, .ref (adM 33 0)), (16, .ref (adM 34 0)), (17, .ref (adM 35 0)), (35, .int (iI (j)))]) hx hb dL_law_3254 hl (by decide) rfl (fun ls hl => ?_)
          refine lv_iinc (v := iI (j + 1)) (lv' := [(35, .int (iI (j + 1))), (23, .int (iI (1))), (33, .long (lI (gone + (mu 1015 j)))), (31, .long (lI (all + (mu 1013 j)))), (18, .int (iI (sg 503 0))), (19, .int (iI (sg 506 0))), (20, .long (lI (sg 510 0))), (24, .int (iI (turn))), (0, .ref b), (1, .ref hh), (2, .ref (adM 20 0)), (3, .ref (adM 21 0)), (4, .ref (adM 22 0)), (5, .ref (adM 23 0)), (6, .ref (adM 24 0)), (7, .ref (adM 25 0)), (8, .ref (adM 26 0)), (9, .ref (adM 27 0)), (10, .ref (adM 28 0)), (11, .ref (adM 29 0)), (12, .ref (adM 30 0)), (13, .ref (adM 31 0)), (14, .ref (adM 32 0)), (15, .ref (adM 33 0)), (16, .ref (adM 34 0)), (17, .ref (adM 35 0))]) hx hb dL_law_3256 hl (k := 25) rfl (iI_add _ _) (by decide) rfl (fun ls hl => ?_)
          refine lv_goto (tgt := 3124) hx hb dL_law_3259 (by decide) ?_
          exact ih3124 (j + 1) (all + (mu 1013 j)) (gone + (mu 1015 j)) (by omega) (sum_t (f := (fun q => mu 1013 q)) hj.1 hall rfl) (sum_t (f := (fun q => mu 1015 q)) hj.1 hgone rfl) (by omega) _ _ _ _ hC hR hS (by omega) (by omega) ls (lv_sub hl [1, 4, 5, 6, 7, 8, 9, 10, 11, 12, 13, 14, 15, 16, 17, 18, 19, 20, 21, 22, 23, 24, 25, 3, 2, 0] rfl)
        refine lv_aload hx hb dL_law_3230 (lv_at hl 14 rfl) ?_
        refine lv_iload hx hb dL_law_3232 (lv_at hl 25 rfl) ?_
        refine xa_1005 (v := mu 1005 j) hx hb hK hR (by omega) rfl dL_law_3234 ?_
        have g35 := ml_1005 hM0 (j)
        refine lv_iconst (v := iI (1)) hx hb dL_law_3235 rfl ?_
        refine xr_icmp_ne (tgt := 3243) hx hb dL_law_3236 (by decide) (by omega) (by omega) (fun yy36 => ?_) (fun yy36 => ?_)
        · skip
          refine lv_iconst (v := iI (0)) hx hb dL_law_3243 rfl ?_
          exact w_topI (by first | exact (bI_t (by omega)).symm | exact (bI_f (by omega)).symm) J3244
        · skip
          refine lv_iconst (v := iI (1)) hx hb dL_law_3239 rfl ?_
          refine lv_goto (tgt := 3244) hx hb dL_law_3240 (by decide) ?_
          exact w_topI (by first | exact (bI_t (by omega)).symm | exact (bI_f (by omega)).symm) J3244
  exact loop3124 _ 0 0 0 (by omega) rfl rfl (Nat.lt_succ_self _) _ _ _ _ hC hR hS (by omega) (by omega) ls (lv_sub hl [3, 4, 5, 6, 7, 8, 9, 10, 11, 12, 13, 14, 15, 16, 17, 18, 19, 20, 21, 22, 23, 24, 25, 2, 1, 0] rfl)
