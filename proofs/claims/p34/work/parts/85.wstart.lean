set_option maxRecDepth 100000 in
set_option maxHeartbeats 4000000 in
/-- from the entry, for every script of at most 260 ints, the law comes to its end with 1 -/
theorem whole_start {p : Program} {e : Env} {s : State} {m : MethodId} {below : List Frame} {meth : Method} {c : Code} (l : Launch) (hflags : l.flags = flags0) {b L : Nat} {xs : Nat → Int32} (hL : L ≤ 260) (C0 : lw_At p s m meth c b L xs) : W p l e room_1 s m #[Value.ref b] below meth c s.heap [] 0 0 (lw_Z below #[Value.ref b] s) (entryFrame m ([Value.ref b] : List Value).toArray 37) := by
  obtain ⟨hx, hb, hr, hml, hown, ht, hX, hbl, hlocks, hgv⟩ := id C0
  have hl0 : l.stackTraces = false := by unfold Launch.stackTraces; rw [hflags]; decide +kernel
  have hts : ∀ w ∈ wG, w.before #[Value.ref b] s = true := fun w hw => ht w (List.mem_filter.mp hw).1
  have hown : s.vm.findClass "TakinghallLaw" = some m.cls := hown
  obtain ⟨D, cy, hK⟩ := kc_all ht
  have hXS := xs_all ht hgv
  have hXN := xn_all hgv
  have hAO : AOs s := ⟨va_AO.of (ht _ kt_22), va_AO.of (ht _ kt_24), va_AO.of (ht _ kt_26), va_AO.of (ht _ kt_28)⟩
  have hw4 : ∀ w ∈ u_ws RX4 TX4 12, w.before #[Value.ref b] s = true := fun w h => hts w (uw_X4 w h)
  have hl := lv_entry ([.ref b]) (n := 37) (Nat.le_of_ble_eq_true rfl)
  rw [lg_entry_eq]
  generalize (lg_sl ([.ref b]) ++ List.replicate (37 - (lg_sl ([.ref b])).length) Slot.unset).toArray = ls at hl ⊢
  have hl : lv_has ls 37 [(0, .ref b)] := hl
  have hS : va_S (fun q : Nat => s.heap.size ≤ q) s.heap s.heap [] := va_S.rf
  have hAN : ∀ q : Nat, s.heap.size ≤ q → (fun q : Nat => s.heap.size ≤ q) q := fun _ h => h
  refine wr_new (C := RX4) (ci := 4) (fs := [.null, .null, .null, .int 0, .null, .int 0, .int 0, .long 0, .long 0, .long 0, .long 0, .long 0]) hx hb hw4 tyX4 tyX4_ok hown (hts _ kw_13) (hts _ kw_14) (hts _ kw_1) hK (wr_empty (D := D) (cl := vwCl) (A := fun q : Nat => s.heap.size ≤ q) (H := s.heap)) hS hAN rfl xd_4 (Nat.le_of_ble_eq_true rfl) (Nat.le_of_ble_eq_true rfl) dL_law_0 (fun q1 H1 _ hO1 _ hq1 hS1 => ?_)
  refine lv_dup hx hb dL_law_3 rfl ?_
  refine xk_m2 (xr_IO (n := 0) (As := []) (rest := [.ref q1]) hx hb hml hown hts hK hAO (c_X4_init (A := fun q : Nat => s.heap.size ≤ q) (fun x h => Nat.le_trans hS1.1 h) hq1 hO1) ms_X4_init.1 ms_X4_init.2.1 ms_X4_init.2.2 rfl ⟨by decide, by decide, by decide +kernel⟩ kw_15 ⟨Nat.le_of_ble_eq_true rfl, Nat.le_of_ble_eq_true rfl⟩ ⟨Nat.le_of_ble_eq_true rfl, Nat.le_of_ble_eq_true rfl⟩ rfl rfl hl.1 rfl (lv_room (Nat.le_of_ble_eq_true rfl)) dL_law_4) hS1 (fun x h => h) (fun H2 locs2 hP2 hS2 hz2 _ => ?_)
  obtain ⟨ad, h4, hR2⟩ := hP2
  refine lv_astore_n (i := 1) (lv' := [(1, .ref q1), (0, .ref b)]) hx hb dL_law_7 rfl hl (by decide) rfl (fun ls hl => ?_)
  have hbase : s.heap.size ≤ H2.size := hS2.1
  have hN : NA D cy H2.size 0 H2 := na_0
  have hC : RC D cy (fun q : Nat => s.heap.size ≤ q) ad (zT 36 3) H2 := hR2
  have hS := hS2
  refine lv_bipush (v := iI 32) hx hb dL_law_8 (by decide) ?_
  refine na_i (base := H2.size) (n := 0) (N := 32) hx hb hts hK hN hC hS hbase rfl (by decide) (by decide) (Nat.le_of_ble_eq_true rfl) (Nat.le_of_ble_eq_true rfl) (Nat.le_of_ble_eq_true rfl) dL_law_10 (fun H3 hN hC hS => ?_)
  refine lv_astore_n (i := 2) (lv' := [(2, .ref (H2.size + 0)), (1, .ref q1), (0, .ref b)]) hx hb dL_law_12 rfl hl (by decide) rfl (fun ls hl => ?_)
  refine lv_bipush (v := iI 48) hx hb dL_law_13 (by decide) ?_
  refine na_i (base := H2.size) (n := 1) (N := 48) hx hb hts hK hN hC hS hbase rfl (by decide) (by decide) (Nat.le_of_ble_eq_true rfl) (Nat.le_of_ble_eq_true rfl) (Nat.le_of_ble_eq_true rfl) dL_law_15 (fun H4 hN hC hS => ?_)
  refine lv_astore_n (i := 3) (lv' := [(3, .ref (H2.size + 1)), (2, .ref (H2.size + 0)), (1, .ref q1), (0, .ref b)]) hx hb dL_law_17 rfl hl (by decide) rfl (fun ls hl => ?_)
  refine lv_bipush (v := iI 24) hx hb dL_law_18 (by decide) ?_
  refine na_i (base := H2.size) (n := 2) (N := 24) hx hb hts hK hN hC hS hbase rfl (by decide) (by decide) (Nat.le_of_ble_eq_true rfl) (Nat.le_of_ble_eq_true rfl) (Nat.le_of_ble_eq_true rfl) dL_law_20 (fun H5 hN hC hS => ?_)
  refine lv_astore (i := 4) (lv' := [(4, .ref (H2.size + 2)), (3, .ref (H2.size + 1)), (2, .ref (H2.size + 0)), (1, .ref q1), (0, .ref b)]) hx hb dL_law_22 hl (by decide) rfl (fun ls hl => ?_)
  refine lv_bipush (v := iI 24) hx hb dL_law_24 (by decide) ?_
  refine na_i (base := H2.size) (n := 3) (N := 24) hx hb hts hK hN hC hS hbase rfl (by decide) (by decide) (Nat.le_of_ble_eq_true rfl) (Nat.le_of_ble_eq_true rfl) (Nat.le_of_ble_eq_true rfl) dL_law_26 (fun H6 hN hC hS => ?_)
  refine lv_astore (i := 5) (lv' := [(5, .ref (H2.size + 3)), (4, .ref (H2.size + 2)), (3, .ref (H2.size + 1)), (2, .ref (H2.size + 0)), (1, .ref q1), (0, .ref b)]) hx hb dL_law_28 hl (by decide) rfl (fun ls hl => ?_)
  refine lv_bipush (v := iI 24) hx hb dL_law_30 (by decide) ?_
  refine na_i (base := H2.size) (n := 4) (N := 24) hx hb hts hK hN hC hS hbase rfl (by decide) (by decide) (Nat.le_of_ble_eq_true rfl) (Nat.le_of_ble_eq_true rfl) (Nat.le_of_ble_eq_true rfl) dL_law_32 (fun H7 hN hC hS => ?_)
  refine lv_astore (i := 6) (lv' := [(6, .ref (H2.size + 4)), (5, .ref (H2.size + 3)), (4, .ref (H2.size + 2)), (3, .ref (H2.size + 1)), (2, .ref (H2.size + 0)), (1, .ref q1), (0, .ref b)]) hx hb dL_law_34 hl (by decide) rfl (fun ls hl => ?_)
  refine lv_bipush (v := iI 24) hx hb dL_law_36 (by decide) ?_
  refine na_i (base := H2.size) (n := 5) (N := 24) hx hb hts hK hN hC hS hbase rfl (by decide) (by decide) (Nat.le_of_ble_eq_true rfl) (Nat.le_of_ble_eq_true rfl) (Nat.le_of_ble_eq_true rfl) dL_law_38 (fun H8 hN hC hS => ?_)
  refine lv_astore (i := 7) (lv' := [(7, .ref (H2.size + 5)), (6, .ref (H2.size + 4)), (5, .ref (H2.size + 3)), (4, .ref (H2.size + 2)), (3, .ref (H2.size + 1)), (2, .ref (H2.size + 0)), (1, .ref q1), (0, .ref b)]) hx hb dL_law_40 hl (by decide) rfl (fun ls hl => ?_)
  refine lv_bipush (v := iI 24) hx hb dL_law_42 (by decide) ?_
  refine na_i (base := H2.size) (n := 6) (N := 24) hx hb hts hK hN hC hS hbase rfl (by decide) (by decide) (Nat.le_of_ble_eq_true rfl) (Nat.le_of_ble_eq_true rfl) (Nat.le_of_ble_eq_true rfl) dL_law_44 (fun H9 hN hC hS => ?_)
  refine lv_astore (i := 8) (lv' := [(8, .ref (H2.size + 6)), (7, .ref (H2.size + 5)), (6, .ref (H2.size + 4)), (5, .ref (H2.size + 3)), (4, .ref (H2.size + 2)), (3, .ref (H2.size + 1)), (2, .ref (H2.size + 0)), (1, .ref q1), (0, .ref b)]) hx hb dL_law_46 hl (by decide) rfl (fun ls hl => ?_)
  refine lv_bipush (v := iI 8) hx hb dL_law_48 (by decide) ?_
  refine na_i (base := H2.size) (n := 7) (N := 8) hx hb hts hK hN hC hS hbase rfl (by decide) (by decide) (Nat.le_of_ble_eq_true rfl) (Nat.le_of_ble_eq_true rfl) (Nat.le_of_ble_eq_true rfl) dL_law_50 (fun H10 hN hC hS => ?_)
  refine lv_astore (i := 9) (lv' := [(9, .ref (H2.size + 7)), (8, .ref (H2.size + 6)), (7, .ref (H2.size + 5)), (6, .ref (H2.size + 4)), (5, .ref (H2.size + 3)), (4, .ref (H2.size + 2)), (3, .ref (H2.size + 1)), (2, .ref (H2.size + 0)), (1, .ref q1), (0, .ref b)]) hx hb dL_law_52 hl (by decide) rfl (fun ls hl => ?_)
  refine lv_iconst (v := iI 3) hx hb dL_law_54 rfl ?_
  refine na_i (base := H2.size) (n := 8) (N := 3) hx hb hts hK hN hC hS hbase rfl (by decide) (by decide) (Nat.le_of_ble_eq_true rfl) (Nat.le_of_ble_eq_true rfl) (Nat.le_of_ble_eq_true rfl) dL_law_55 (fun H11 hN hC hS => ?_)
  refine lv_astore (i := 10) (lv' := [(10, .ref (H2.size + 8)), (9, .ref (H2.size + 7)), (8, .ref (H2.size + 6)), (7, .ref (H2.size + 5)), (6, .ref (H2.size + 4)), (5, .ref (H2.size + 3)), (4, .ref (H2.size + 2)), (3, .ref (H2.size + 1)), (2, .ref (H2.size + 0)), (1, .ref q1), (0, .ref b)]) hx hb dL_law_57 hl (by decide) rfl (fun ls hl => ?_)
  refine lv_bipush (v := iI 24) hx hb dL_law_59 (by decide) ?_
  refine na_i (base := H2.size) (n := 9) (N := 24) hx hb hts hK hN hC hS hbase rfl (by decide) (by decide) (Nat.le_of_ble_eq_true rfl) (Nat.le_of_ble_eq_true rfl) (Nat.le_of_ble_eq_true rfl) dL_law_61 (fun H12 hN hC hS => ?_)
  refine lv_astore (i := 11) (lv' := [(11, .ref (H2.size + 9)), (10, .ref (H2.size + 8)), (9, .ref (H2.size + 7)), (8, .ref (H2.size + 6)), (7, .ref (H2.size + 5)), (6, .ref (H2.size + 4)), (5, .ref (H2.size + 3)), (4, .ref (H2.size + 2)), (3, .ref (H2.size + 1)), (2, .ref (H2.size + 0)), (1, .ref q1), (0, .ref b)]) hx hb dL_law_63 hl (by decide) rfl (fun ls hl => ?_)
  refine lv_bipush (v := iI 24) hx hb dL_law_65 (by decide) ?_
  refine na_i (base := H2.size) (n := 10) (N := 24) hx hb hts hK hN hC hS hbase rfl (by decide) (by decide) (Nat.le_of_ble_eq_true rfl) (Nat.le_of_ble_eq_true rfl) (Nat.le_of_ble_eq_true rfl) dL_law_67 (fun H13 hN hC hS => ?_)
  refine lv_astore (i := 12) (lv' := [(12, .ref (H2.size + 10)), (11, .ref (H2.size + 9)), (10, .ref (H2.size + 8)), (9, .ref (H2.size + 7)), (8, .ref (H2.size + 6)), (7, .ref (H2.size + 5)), (6, .ref (H2.size + 4)), (5, .ref (H2.size + 3)), (4, .ref (H2.size + 2)), (3, .ref (H2.size + 1)), (2, .ref (H2.size + 0)), (1, .ref q1), (0, .ref b)]) hx hb dL_law_69 hl (by decide) rfl (fun ls hl => ?_)
  refine lv_iconst (v := iI 4) hx hb dL_law_71 rfl ?_
  refine na_i (base := H2.size) (n := 11) (N := 4) hx hb hts hK hN hC hS hbase rfl (by decide) (by decide) (Nat.le_of_ble_eq_true rfl) (Nat.le_of_ble_eq_true rfl) (Nat.le_of_ble_eq_true rfl) dL_law_72 (fun H14 hN hC hS => ?_)
  refine lv_astore (i := 13) (lv' := [(13, .ref (H2.size + 11)), (12, .ref (H2.size + 10)), (11, .ref (H2.size + 9)), (10, .ref (H2.size + 8)), (9, .ref (H2.size + 7)), (8, .ref (H2.size + 6)), (7, .ref (H2.size + 5)), (6, .ref (H2.size + 4)), (5, .ref (H2.size + 3)), (4, .ref (H2.size + 2)), (3, .ref (H2.size + 1)), (2, .ref (H2.size + 0)), (1, .ref q1), (0, .ref b)]) hx hb dL_law_74 hl (by decide) rfl (fun ls hl => ?_)
  refine lv_iconst (v := iI 4) hx hb dL_law_76 rfl ?_
  refine na_i (base := H2.size) (n := 12) (N := 4) hx hb hts hK hN hC hS hbase rfl (by decide) (by decide) (Nat.le_of_ble_eq_true rfl) (Nat.le_of_ble_eq_true rfl) (Nat.le_of_ble_eq_true rfl) dL_law_77 (fun H15 hN hC hS => ?_)
  refine lv_astore (i := 14) (lv' := [(14, .ref (H2.size + 12)), (13, .ref (H2.size + 11)), (12, .ref (H2.size + 10)), (11, .ref (H2.size + 9)), (10, .ref (H2.size + 8)), (9, .ref (H2.size + 7)), (8, .ref (H2.size + 6)), (7, .ref (H2.size + 5)), (6, .ref (H2.size + 4)), (5, .ref (H2.size + 3)), (4, .ref (H2.size + 2)), (3, .ref (H2.size + 1)), (2, .ref (H2.size + 0)), (1, .ref q1), (0, .ref b)]) hx hb dL_law_79 hl (by decide) rfl (fun ls hl => ?_)
  refine lv_bipush (v := iI 26) hx hb dL_law_81 (by decide) ?_
  refine na_l (base := H2.size) (n := 13) (N := 26) hx hb hts hK hN hC hS hbase rfl (by decide) (by decide) (Nat.le_of_ble_eq_true rfl) (Nat.le_of_ble_eq_true rfl) (Nat.le_of_ble_eq_true rfl) dL_law_83 (fun H16 hN hC hS => ?_)
  refine lv_astore (i := 15) (lv' := [(15, .ref (H2.size + 13)), (14, .ref (H2.size + 12)), (13, .ref (H2.size + 11)), (12, .ref (H2.size + 10)), (11, .ref (H2.size + 9)), (10, .ref (H2.size + 8)), (9, .ref (H2.size + 7)), (8, .ref (H2.size + 6)), (7, .ref (H2.size + 5)), (6, .ref (H2.size + 4)), (5, .ref (H2.size + 3)), (4, .ref (H2.size + 2)), (3, .ref (H2.size + 1)), (2, .ref (H2.size + 0)), (1, .ref q1), (0, .ref b)]) hx hb dL_law_85 hl (by decide) rfl (fun ls hl => ?_)
  refine lv_bipush (v := iI 24) hx hb dL_law_87 (by decide) ?_
  refine na_l (base := H2.size) (n := 14) (N := 24) hx hb hts hK hN hC hS hbase rfl (by decide) (by decide) (Nat.le_of_ble_eq_true rfl) (Nat.le_of_ble_eq_true rfl) (Nat.le_of_ble_eq_true rfl) dL_law_89 (fun H17 hN hC hS => ?_)
  refine lv_astore (i := 16) (lv' := [(16, .ref (H2.size + 14)), (15, .ref (H2.size + 13)), (14, .ref (H2.size + 12)), (13, .ref (H2.size + 11)), (12, .ref (H2.size + 10)), (11, .ref (H2.size + 9)), (10, .ref (H2.size + 8)), (9, .ref (H2.size + 7)), (8, .ref (H2.size + 6)), (7, .ref (H2.size + 5)), (6, .ref (H2.size + 4)), (5, .ref (H2.size + 3)), (4, .ref (H2.size + 2)), (3, .ref (H2.size + 1)), (2, .ref (H2.size + 0)), (1, .ref q1), (0, .ref b)]) hx hb dL_law_91 hl (by decide) rfl (fun ls hl => ?_)
  refine lv_bipush (v := iI 24) hx hb dL_law_93 (by decide) ?_
  refine na_l (base := H2.size) (n := 15) (N := 24) hx hb hts hK hN hC hS hbase rfl (by decide) (by decide) (Nat.le_of_ble_eq_true rfl) (Nat.le_of_ble_eq_true rfl) (Nat.le_of_ble_eq_true rfl) dL_law_95 (fun H18 hN hC hS => ?_)
  refine lv_astore (i := 17) (lv' := [(17, .ref (H2.size + 15)), (16, .ref (H2.size + 14)), (15, .ref (H2.size + 13)), (14, .ref (H2.size + 12)), (13, .ref (H2.size + 11)), (12, .ref (H2.size + 10)), (11, .ref (H2.size + 9)), (10, .ref (H2.size + 8)), (9, .ref (H2.size + 7)), (8, .ref (H2.size + 6)), (7, .ref (H2.size + 5)), (6, .ref (H2.size + 4)), (5, .ref (H2.size + 3)), (4, .ref (H2.size + 2)), (3, .ref (H2.size + 1)), (2, .ref (H2.size + 0)), (1, .ref q1), (0, .ref b)]) hx hb dL_law_97 hl (by decide) rfl (fun ls hl => ?_)
  have E : LE p l s m meth c b L xs D cy (fun q : Nat => (s.heap.size ≤ q ∧ q < H2.size) ∨ H2.size + 16 ≤ q) (fun q : Nat => H2.size ≤ q ∧ q < H2.size + 16) (fun (k : Nat) (_ : Int) => H2.size + (k - 20)) := by
    refine ⟨C0, hl0, hK, hXS, hXN, fun q h => Or.inr (by have h2 : H2.size + (35 - 20) + 1 ≤ q := h; omega), fun q h => ?_, fun q h => Nat.le_trans hbase h.1, fun q h h2 => ?_, hL⟩
    · rcases h with h | h
      · exact h.1
      · omega
    · have z1 : H2.size ≤ q := h2.1
      have z2 : q < H2.size + 16 := h2.2
      rcases h with h | h
      · have := h.2; omega
      · omega
  exact law_init (mu := fun _ _ => 0) E iz_0 (wr_narrow hC (fun k j hd => Or.inl ⟨(wr_lt hR2 hd).2, (wr_lt hR2 hd).1⟩)) (na_rm hN) h4 hS (Nat.le_of_ble_eq_true rfl) (Nat.le_of_ble_eq_true rfl) rfl (lv_sub hl [17, 16, 15, 14, 13, 12, 11, 10, 9, 8, 7, 6, 5, 4, 3, 2, 1, 0] rfl)
