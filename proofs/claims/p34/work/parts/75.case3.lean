set_option maxRecDepth 100000 in
set_option maxHeartbeats 8000000 in
theorem law_blight {p : Program} {l : Launch} {e : Env} {s : State} {m : MethodId} {below : List Frame} {meth : Method} {c : Code} {D : va_G} {cy : Nat → ClassId} {A A2 : Nat → Prop} {b L hh : Nat} {xs : Nat → Int32} {ad adM : Nat → Int → Nat} {sg mu : Nat → Int → Int} {H : Heap} {locs : List Loc} {cells slots : Nat} {Q : State → Prop} {ls : Array Slot} {turn : Int} {vx : Int32} {what k who w : Int} (E : LE p l s m meth c b L xs D cy A A2 adM) (I : LI D cy A A2 s hh ad adM sg mu H locs) (h7 : sg 702 0 ≤ 1000000) (hcl : cells + 1000 ≤ 600104) (hsl : slots + 20000 ≤ 7301314) (hwhat : what = 16) (hk : 0 ≤ k ∧ k ≤ 3) (hw : 0 ≤ w ∧ w ≤ 1) (hwho : 0 ≤ who ∧ who < sg 503 0) (hl : lv_has ls 37 [(23, .int (iI (1))), (18, .int (iI (sg 503 0))), (19, .int (iI (sg 506 0))), (20, .long (lI (sg 510 0))), (24, .int (iI (turn))), (0, .ref b), (1, .ref hh), (2, .ref (adM 20 0)), (3, .ref (adM 21 0)), (4, .ref (adM 22 0)), (5, .ref (adM 23 0)), (6, .ref (adM 24 0)), (7, .ref (adM 25 0)), (8, .ref (adM 26 0)), (9, .ref (adM 27 0)), (10, .ref (adM 28 0)), (11, .ref (adM 29 0)), (12, .ref (adM 30 0)), (13, .ref (adM 31 0)), (14, .ref (adM 32 0)), (15, .ref (adM 33 0)), (16, .ref (adM 34 0)), (17, .ref (adM 35 0)), (25, .int (vx)), (26, .int (iI (what))), (27, .int (iI (k))), (28, .int (iI (8 * k))), (29, .int (iI (who))), (30, .int (iI (w)))]) (kk : LK p l e s m below meth c b D cy A A2 hh adM cells slots Q sg turn) : W p l e room_1 s m #[Value.ref b] below meth c H locs cells slots Q (F0 m 1773 ls []) := by
  obtain ⟨⟨hx, hb, hr, hml, hown, hts0, hX, hbl, hlocks, -⟩, hl0, hK, hXS, hXN, hA, hA1, hA2, hN12, hL⟩ := E
  obtain ⟨hC, hR, h4, hLR, hV, hG, hM, hS⟩ := I
  have hM0 := hM
  have hts : ∀ w ∈ wG, w.before #[Value.ref b] s = true := fun w hw => hts0 w (List.mem_filter.mp hw).1
  have hown : s.vm.findClass "TakinghallLaw" = some m.cls := hown
  have g503 := gr_503 hG 0
  have g506 := gr_506 hG 0
  obtain ⟨K, hKe⟩ : ∃ K, K = mu 1001 (24 + who) := ⟨_, rfl⟩
  obtain ⟨hK3, hKp, hn1, hb2, hb1, hb0⟩ := a_blight hLR hG hM hwho hKe
  obtain ⟨hpa, hpu, hpp4, hp7⟩ := a_plot hLR hG hK3
  have hiA : iAt sg who = who := iAt_q hwho
  obtain ⟨mm, hRel, hGM⟩ := id hV
  refine lv_bipush (v := iI (8)) hx hb dL_law_1773 (by decide) ?_
  refine lv_aload_n hx hb dL_law_1775 rfl (lv_at hl 8 rfl) ?_
  refine lv_bipush (v := iI (24)) hx hb dL_law_1776 (by decide) ?_
  refine lv_iload hx hb dL_law_1778 (lv_at hl 27 rfl) ?_
  refine xr_iadd hx hb dL_law_1780 ?_
  refine xa_1001 (v := K) hx hb hK hR (by omega) (hKe.symm) dL_law_1781 ?_
  refine xr_imul hx hb dL_law_1782 ?_
  refine lv_istore (i := 31) (lv' := [(31, .int (iI (8 * K))), (23, .int (iI (1))), (18, .int (iI (sg 503 0))), (19, .int (iI (sg 506 0))), (20, .long (lI (sg 510 0))), (24, .int (iI (turn))), (0, .ref b), (1, .ref hh), (2, .ref (adM 20 0)), (3, .ref (adM 21 0)), (4, .ref (adM 22 0)), (5, .ref (adM 23 0)), (6, .ref (adM 24 0)), (7, .ref (adM 25 0)), (8, .ref (adM 26 0)), (9, .ref (adM 27 0)), (10, .ref (adM 28 0)), (11, .ref (adM 29 0)), (12, .ref (adM 30 0)), (13, .ref (adM 31 0)), (14, .ref (adM 32 0)), (15, .ref (adM 33 0)), (16, .ref (adM 34 0)), (17, .ref (adM 35 0)), (25, .int (vx)), (26, .int (iI (what))), (27, .int (iI (k))), (28, .int (iI (8 * k))), (29, .int (iI (who))), (30, .int (iI (w)))]) hx hb dL_law_1783 hl (by decide) rfl (fun ls hl => ?_)
  have J1832 : W p l e room_1 s m #[Value.ref b] below meth c H locs cells slots Q (F0 m 1832 ls [.int (iI (bI (mu 1000 (8 * K + 2) = 0 ∧ mu 1000 (8 * K + 1) = 1 ∧ 0 ≤ mu 1000 (8 * K + 3) ∧ 180 ≤ sg 506 0 - mu 1003 who)))]) := by
    rcases bI_cases (mu 1000 (8 * K + 2) = 0 ∧ mu 1000 (8 * K + 1) = 1 ∧ 0 ≤ mu 1000 (8 * K + 3) ∧ 180 ≤ sg 506 0 - mu 1003 who) with ⟨p1, q2⟩ | ⟨p1, q2⟩
    · rw [q2]
      have hpp := p1
      refine lv_istore (i := 32) (lv' := [(32, .int (iI (1))), (31, .int (iI (8 * K))), (23, .int (iI (1))), (18, .int (iI (sg 503 0))), (19, .int (iI (sg 506 0))), (20, .long (lI (sg 510 0))), (24, .int (iI (turn))), (0, .ref b), (1, .ref hh), (2, .ref (adM 20 0)), (3, .ref (adM 21 0)), (4, .ref (adM 22 0)), (5, .ref (adM 23 0)), (6, .ref (adM 24 0)), (7, .ref (adM 25 0)), (8, .ref (adM 26 0)), (9, .ref (adM 27 0)), (10, .ref (adM 28 0)), (11, .ref (adM 29 0)), (12, .ref (adM 30 0)), (13, .ref (adM 31 0)), (14, .ref (adM 32 0)), (15, .ref (adM 33 0)), (16, .ref (adM 34 0)), (17, .ref (adM 35 0)), (25, .int (vx)), (26, .int (iI (what))), (27, .int (iI (k))), (28, .int (iI (8 * k))), (29, .int (iI (who))), (30, .int (iI (w)))]) hx hb dL_law_1832 hl (by decide) rfl (fun ls hl => ?_)
      refine lv_aload_n hx hb dL_law_1834 rfl (lv_at hl 9 rfl) ?_
      refine lv_iload hx hb dL_law_1835 (lv_at hl 1 rfl) ?_
      refine lv_iconst (v := iI (4)) hx hb dL_law_1837 rfl ?_
      refine xr_iadd hx hb dL_law_1838 ?_
      refine lv_aload_n hx hb dL_law_1839 rfl (lv_at hl 10 rfl) ?_
      refine lv_iload hx hb dL_law_1840 (lv_at hl 29 rfl) ?_
      refine xa_1001 (v := mu 1001 who) hx hb hK hR (by omega) rfl dL_law_1842 ?_
      have g3 := ml_1001 hM0 (who)
      refine xr_if_ne (tgt := 1856) hx hb dL_law_1843 (by decide) (by omega) (fun yy4 => ?_) (fun yy4 => ?_)
      · skip
        have hE := hb2 (by omega)
        refine lv_aload_n hx hb dL_law_1856 rfl (lv_at hl 9 rfl) ?_
        refine lv_iload hx hb dL_law_1857 (lv_at hl 1 rfl) ?_
        refine lv_iconst (v := iI (4)) hx hb dL_law_1859 rfl ?_
        refine xr_iadd hx hb dL_law_1860 ?_
        refine xa_1000 (v := mu 1000 ((8 * K) + 4)) hx hb hK hR (by omega) rfl dL_law_1861 ?_
        have g5 := ml_1000 hM0 ((8 * K) + 4)
        refine ys_1000 (v := mu 1000 ((8 * K) + 4)) hx hb hK hC hR hA2 hA1 hN12 hS (by omega) dL_law_1862 (fun H locs hC hR hS => ?_)
        have hM := gl_1000 hM ((8 * K) + 4) (v := mu 1000 ((8 * K) + 4)) (by omega)
        refine lv_aload_n hx hb dL_law_1863 rfl (lv_at hl 10 rfl) ?_
        refine lv_iload hx hb dL_law_1864 (lv_at hl 29 rfl) ?_
        refine xa_1001 (v := mu 1001 who) hx hb hK hR (by omega) ((st_f (by decide)).trans rfl) dL_law_1866 ?_
        refine xr_if_eq (tgt := 1876) hx hb dL_law_1867 (by decide) (by omega) (fun yy6 => absurd yy6 (by omega)) (fun yy6 => ?_)
        refine lv_ldc2 (v := lI (-1002)) hx hb hown (hts _ kw_653) dL_law_1870 ?_
        refine lv_goto (tgt := 1917) hx hb dL_law_1873 (by decide) ?_
        refine lv_lstore (i := 33) (lv' := [(33, .long (lI (-1002))), (32, .int (iI (1))), (31, .int (iI (8 * K))), (23, .int (iI (1))), (18, .int (iI (sg 503 0))), (19, .int (iI (sg 506 0))), (20, .long (lI (sg 510 0))), (24, .int (iI (turn))), (0, .ref b), (1, .ref hh), (2, .ref (adM 20 0)), (3, .ref (adM 21 0)), (4, .ref (adM 22 0)), (5, .ref (adM 23 0)), (6, .ref (adM 24 0)), (7, .ref (adM 25 0)), (8, .ref (adM 26 0)), (9, .ref (adM 27 0)), (10, .ref (adM 28 0)), (11, .ref (adM 29 0)), (12, .ref (adM 30 0)), (13, .ref (adM 31 0)), (14, .ref (adM 32 0)), (15, .ref (adM 33 0)), (16, .ref (adM 34 0)), (17, .ref (adM 35 0)), (25, .int (vx)), (26, .int (iI (what))), (27, .int (iI (k))), (28, .int (iI (8 * k))), (29, .int (iI (who))), (30, .int (iI (w)))]) hx hb dL_law_1917 hl (by decide) rfl (fun ls hl => ?_)
        refine lv_aload_n hx hb dL_law_1919 rfl (lv_at hl 9 rfl) ?_
        refine lv_bipush (v := iI (9)) hx hb dL_law_1920 (by decide) ?_
        refine lv_iload hx hb dL_law_1922 (lv_at hl 30 rfl) ?_
        refine lv_iconst (v := iI (0)) hx hb dL_law_1924 rfl ?_
        refine lv_iconst (v := iI (0)) hx hb dL_law_1925 rfl ?_
        refine lv_iconst (v := iI (0)) hx hb dL_law_1926 rfl ?_
        refine lw_act (f := 8) (lo := 189) (mc := 1) (ms := 6) (E := blightE sg who) (T := (tkT (st sg 205 (sg 102 (iAt sg who)) 100) (sg 102 (iAt sg who)))) hx hb hml hown hts hK hXS hXN hS hA1 hN12 hG hR h4 (c_act_9 hC hG hl0 (lw_hA hA hR) who 0 0 0 (by omega) (by omega)) ⟨by decide, by decide⟩ ⟨by omega, by omega⟩ hl.1 (Nat.le_of_ble_eq_true rfl) dL_law_1927 (fun ad H locs h4 hC hR hS => ?_)
        rw [if_neg (by rw [hE]; decide)] at hC
        rw [aR_n (by rw [hE]; decide), hE]
        refine lv_lload hx hb dL_law_1930 (lv_at hl 0 rfl) ?_
        refine lw_leq hx hb dL_law_1932 (by first | rfl | omega | (rfl)) ?_
        refine xr_if_ne (tgt := 1940) hx hb dL_law_1933 (by decide) (by decide) (fun yy7 => absurd yy7 (by decide)) (fun _ => ?_)
        refine lv_iconst (v := iI (1)) hx hb dL_law_1936 rfl ?_
        refine lv_goto (tgt := 1941) hx hb dL_law_1937 (by decide) ?_
        refine lv_istore (i := 23) (lv' := [(23, .int (iI (1))), (33, .long (lI (-1002))), (32, .int (iI (1))), (31, .int (iI (8 * K))), (18, .int (iI (sg 503 0))), (19, .int (iI (sg 506 0))), (20, .long (lI (sg 510 0))), (24, .int (iI (turn))), (0, .ref b), (1, .ref hh), (2, .ref (adM 20 0)), (3, .ref (adM 21 0)), (4, .ref (adM 22 0)), (5, .ref (adM 23 0)), (6, .ref (adM 24 0)), (7, .ref (adM 25 0)), (8, .ref (adM 26 0)), (9, .ref (adM 27 0)), (10, .ref (adM 28 0)), (11, .ref (adM 29 0)), (12, .ref (adM 30 0)), (13, .ref (adM 31 0)), (14, .ref (adM 32 0)), (15, .ref (adM 33 0)), (16, .ref (adM 34 0)), (17, .ref (adM 35 0)), (25, .int (vx)), (26, .int (iI (what))), (27, .int (iI (k))), (28, .int (iI (8 * k))), (29, .int (iI (who))), (30, .int (iI (w)))]) hx hb dL_law_1941 hl (by decide) rfl (fun ls hl => ?_)
        refine lv_goto (tgt := 3115) hx hb dL_law_1943 (by decide) ?_
        refine W.widen (k := cells + 3) (n := slots + 45) (by omega) (by omega) ?_
        exact kk ad sg (st mu 1000 ((8 * K) + 4) (mu 1000 ((8 * K) + 4))) H locs ls _ _ _ ⟨hC, hR, h4, (by rw [st_id rfl]; exact hLR), hV, hG, hM, hS⟩ (by omega) rfl rfl rfl (lv_sub hl [0, 4, 5, 6, 7, 8, 9, 10, 11, 12, 13, 14, 15, 16, 17, 18, 19, 20, 21, 22, 23, 24, 25] rfl)
      · skip
        obtain ⟨hE, h203, hnd⟩ := hb1 (by omega) hpp
        refine lv_iload hx hb dL_law_1846 (lv_at hl 0 rfl) ?_
        refine xr_if_eq (tgt := 1856) hx hb dL_law_1848 (by decide) (by decide) (fun yy8 => absurd yy8 (by decide)) (fun _ => ?_)
        refine lv_bipush (v := iI (100)) hx hb dL_law_1851 (by decide) ?_
        refine lv_goto (tgt := 1862) hx hb dL_law_1853 (by decide) ?_
        refine ys_1000 (v := 100) hx hb hK hC hR hA2 hA1 hN12 hS (by omega) dL_law_1862 (fun H locs hC hR hS => ?_)
        have hM := gl_1000 hM ((8 * K) + 4) (v := 100) (by omega)
        refine lv_aload_n hx hb dL_law_1863 rfl (lv_at hl 10 rfl) ?_
        refine lv_iload hx hb dL_law_1864 (lv_at hl 29 rfl) ?_
        refine xa_1001 (v := mu 1001 who) hx hb hK hR (by omega) ((st_f (by decide)).trans rfl) dL_law_1866 ?_
        refine xr_if_eq (tgt := 1876) hx hb dL_law_1867 (by decide) (by omega) (fun yy9 => ?_) (fun yy9 => absurd yy9 (by omega))
        refine lv_iload hx hb dL_law_1876 (lv_at hl 0 rfl) ?_
        refine xr_if_eq (tgt := 1914) hx hb dL_law_1878 (by decide) (by decide) (fun yy10 => absurd yy10 (by decide)) (fun _ => ?_)
        have hM1 := hM
        refine lv_aload_n hx hb dL_law_1881 rfl (lv_at hl 9 rfl) ?_
        refine lv_aload_n hx hb dL_law_1882 rfl (lv_at hl 10 rfl) ?_
        refine lv_aload hx hb dL_law_1883 (lv_at hl 11 rfl) ?_
        refine lv_aload hx hb dL_law_1885 (lv_at hl 12 rfl) ?_
        refine lv_aload hx hb dL_law_1887 (lv_at hl 15 rfl) ?_
        refine lv_aload hx hb dL_law_1889 (lv_at hl 16 rfl) ?_
        refine lv_aload hx hb dL_law_1891 (lv_at hl 22 rfl) ?_
        refine lv_iload hx hb dL_law_1893 (lv_at hl 3 rfl) ?_
        refine lv_aload_n hx hb dL_law_1895 rfl (lv_at hl 10 rfl) ?_
        refine lv_bipush (v := iI (24)) hx hb dL_law_1896 (by decide) ?_
        refine lv_iload hx hb dL_law_1898 (lv_at hl 29 rfl) ?_
        refine xr_iadd hx hb dL_law_1900 ?_
        refine xa_1001 (v := K) hx hb hK hR (by omega) ((st_f (by decide)).trans (hKe.symm)) dL_law_1901 ?_
        refine lv_aload hx hb dL_law_1902 (lv_at hl 17 rfl) ?_
        refine lv_iconst (v := iI (1)) hx hb dL_law_1904 rfl ?_
        refine xa_1008 (v := mu 1008 1) hx hb hK hR (by omega) ((st_f (by decide)).trans rfl) dL_law_1905 ?_
        have g11 := ml_1008 hM0 (1)
        refine lv_iload hx hb dL_law_1906 (lv_at hl 4 rfl) ?_
        refine lw_mut (xr_S (As := [.ref (adM 20 0), .ref (adM 21 0), .ref (adM 22 0), .ref (adM 23 0), .ref (adM 26 0), .ref (adM 27 0), .ref (adM 33 0), .int (iI (sg 503 0)), .int (iI (K)), .int (iI (mu 1008 1)), .int (iI (sg 506 0))]) (rest := []) hx hb hml hown hts hK (c_L_take hR hM (sg 503 0) K (mu 1008 1) (sg 506 0) (by omega) (by omega) (by omega) (by omega) (by rw [st_j (by omega)]; omega) (by rw [st_s]; omega) (by rw [st_j (by omega)]; omega)) ms_L_take kw_670 ⟨by decide, by decide⟩ ⟨by show _ ≤ 600104; omega, by show _ ≤ 7301314; omega⟩ rfl rfl hl.1 rfl (lv_room (Nat.le_of_ble_eq_true rfl)) dL_law_1908) hS hA2 hN12 hC (fun H locs hR hC hS => ?_)
        have hM := gl_lTkT hM (sg 503 0) K (mu 1008 1) (by omega)
        show W p l e room_1 s m #[Value.ref b] below meth c H locs (cells + 0) (slots + 0) Q (F0 m 1911 ls [.long (lI (lLand (st mu 1000 ((8 * K) + 4) (100)) K (mu 1008 1)))])
        refine lv_goto (tgt := 1917) hx hb dL_law_1911 (by decide) ?_
        refine lv_lstore (i := 33) (lv' := [(33, .long (lI (lLand (st mu 1000 ((8 * K) + 4) (100)) K (mu 1008 1)))), (32, .int (iI (1))), (31, .int (iI (8 * K))), (23, .int (iI (1))), (18, .int (iI (sg 503 0))), (19, .int (iI (sg 506 0))), (20, .long (lI (sg 510 0))), (24, .int (iI (turn))), (0, .ref b), (1, .ref hh), (2, .ref (adM 20 0)), (3, .ref (adM 21 0)), (4, .ref (adM 22 0)), (5, .ref (adM 23 0)), (6, .ref (adM 24 0)), (7, .ref (adM 25 0)), (8, .ref (adM 26 0)), (9, .ref (adM 27 0)), (10, .ref (adM 28 0)), (11, .ref (adM 29 0)), (12, .ref (adM 30 0)), (13, .ref (adM 31 0)), (14, .ref (adM 32 0)), (15, .ref (adM 33 0)), (16, .ref (adM 34 0)), (17, .ref (adM 35 0)), (25, .int (vx)), (26, .int (iI (what))), (27, .int (iI (k))), (28, .int (iI (8 * k))), (29, .int (iI (who))), (30, .int (iI (w)))]) hx hb dL_law_1917 hl (by decide) rfl (fun ls hl => ?_)
        refine lv_aload_n hx hb dL_law_1919 rfl (lv_at hl 9 rfl) ?_
        refine lv_bipush (v := iI (9)) hx hb dL_law_1920 (by decide) ?_
        refine lv_iload hx hb dL_law_1922 (lv_at hl 30 rfl) ?_
        refine lv_iconst (v := iI (0)) hx hb dL_law_1924 rfl ?_
        refine lv_iconst (v := iI (0)) hx hb dL_law_1925 rfl ?_
        refine lv_iconst (v := iI (0)) hx hb dL_law_1926 rfl ?_
        refine lw_act (f := 8) (lo := 189) (mc := 1) (ms := 6) (E := blightE sg who) (T := (tkT (st sg 205 (sg 102 (iAt sg who)) 100) (sg 102 (iAt sg who)))) hx hb hml hown hts hK hXS hXN hS hA1 hN12 hG hR h4 (c_act_9 hC hG hl0 (lw_hA hA hR) who 0 0 0 (by omega) (by omega)) ⟨by decide, by decide⟩ ⟨by omega, by omega⟩ hl.1 (Nat.le_of_ble_eq_true rfl) dL_law_1927 (fun ad H locs h4 hC hR hS => ?_)
        rw [if_pos hE] at hC
        rw [aR_0 hE]
        rw [hiA, hKp] at hC
        rw [hiA, hKp]
        have hz := inv_of (s_blight hRel hG hGM h7 who) hE
        rw [hiA, hKp] at hz
        have hLR1 := o_part hLR hG hV (a := 100) hK3 h203
        have hrp := r_part hRel hG hGM (j := pl K) (by have := pl_rng K; omega) h203
        have hpr1 : (st mu 1000 ((8 * K) + 4) (100)) 1008 ((st mu 1000 ((8 * K) + 4) (100)) 1000 (8 * K + 1)) = mu 1008 1 := by show mu 1008 ((st mu 1000 ((8 * K) + 4) (100)) 1000 (8 * K + 1)) = _; rw [st_j (by omega), hpp.2.1]
        have hLR2 := o_take hLR1 hrp.2.1 ⟨_, hrp.1, hrp.2.2⟩ hM1 hK3 h203 hnd
        have hld := tq_land hrp.2.1 hLR1 hK3 hnd
        rw [hpr1] at hLR2 hld
        rw [← hld]
        refine lv_lload hx hb dL_law_1930 (lv_at hl 0 rfl) ?_
        refine lw_leq hx hb dL_law_1932 (by first | rfl | omega | (rfl)) ?_
        refine xr_if_ne (tgt := 1940) hx hb dL_law_1933 (by decide) (by decide) (fun yy12 => absurd yy12 (by decide)) (fun _ => ?_)
        refine lv_iconst (v := iI (1)) hx hb dL_law_1936 rfl ?_
        refine lv_goto (tgt := 1941) hx hb dL_law_1937 (by decide) ?_
        refine lv_istore (i := 23) (lv' := [(23, .int (iI (1))), (33, .long (lI (lLand (st mu 1000 ((8 * K) + 4) (100)) K (mu 1008 1)))), (32, .int (iI (1))), (31, .int (iI (8 * K))), (18, .int (iI (sg 503 0))), (19, .int (iI (sg 506 0))), (20, .long (lI (sg 510 0))), (24, .int (iI (turn))), (0, .ref b), (1, .ref hh), (2, .ref (adM 20 0)), (3, .ref (adM 21 0)), (4, .ref (adM 22 0)), (5, .ref (adM 23 0)), (6, .ref (adM 24 0)), (7, .ref (adM 25 0)), (8, .ref (adM 26 0)), (9, .ref (adM 27 0)), (10, .ref (adM 28 0)), (11, .ref (adM 29 0)), (12, .ref (adM 30 0)), (13, .ref (adM 31 0)), (14, .ref (adM 32 0)), (15, .ref (adM 33 0)), (16, .ref (adM 34 0)), (17, .ref (adM 35 0)), (25, .int (vx)), (26, .int (iI (what))), (27, .int (iI (k))), (28, .int (iI (8 * k))), (29, .int (iI (who))), (30, .int (iI (w)))]) hx hb dL_law_1941 hl (by decide) rfl (fun ls hl => ?_)
        refine lv_goto (tgt := 3115) hx hb dL_law_1943 (by decide) ?_
        refine W.widen (k := cells + 3) (n := slots + 45) (by omega) (by omega) ?_
        exact kk ad ((tkT (st sg 205 (pl K) 100) (pl K))) (lTkT (st mu 1000 ((8 * K) + 4) (100)) (sg 503 0) K (mu 1008 1) (sg 506 0)) H locs ls _ _ _ ⟨hC, hR, h4, hLR2, hz.1, hz.2, hM, hS⟩ (by rw [tkT_f (by decide) (by decide) (by decide) (by decide) (by decide) (by decide) (by decide)]; show sg 702 0 ≤ sg 702 0 + 1; omega) (tkT_f (by decide) (by decide) (by decide) (by decide) (by decide) (by decide) (by decide)) (tkT_f (by decide) (by decide) (by decide) (by decide) (by decide) (by decide) (by decide)) (tkT_f (by decide) (by decide) (by decide) (by decide) (by decide) (by decide) (by decide)) (lv_sub hl [0, 4, 5, 6, 7, 8, 9, 10, 11, 12, 13, 14, 15, 16, 17, 18, 19, 20, 21, 22, 23, 24, 25] rfl)
    · rw [q2]
      have hpn := p1
      refine lv_istore (i := 32) (lv' := [(32, .int (iI (0))), (31, .int (iI (8 * K))), (23, .int (iI (1))), (18, .int (iI (sg 503 0))), (19, .int (iI (sg 506 0))), (20, .long (lI (sg 510 0))), (24, .int (iI (turn))), (0, .ref b), (1, .ref hh), (2, .ref (adM 20 0)), (3, .ref (adM 21 0)), (4, .ref (adM 22 0)), (5, .ref (adM 23 0)), (6, .ref (adM 24 0)), (7, .ref (adM 25 0)), (8, .ref (adM 26 0)), (9, .ref (adM 27 0)), (10, .ref (adM 28 0)), (11, .ref (adM 29 0)), (12, .ref (adM 30 0)), (13, .ref (adM 31 0)), (14, .ref (adM 32 0)), (15, .ref (adM 33 0)), (16, .ref (adM 34 0)), (17, .ref (adM 35 0)), (25, .int (vx)), (26, .int (iI (what))), (27, .int (iI (k))), (28, .int (iI (8 * k))), (29, .int (iI (who))), (30, .int (iI (w)))]) hx hb dL_law_1832 hl (by decide) rfl (fun ls hl => ?_)
      refine lv_aload_n hx hb dL_law_1834 rfl (lv_at hl 9 rfl) ?_
      refine lv_iload hx hb dL_law_1835 (lv_at hl 1 rfl) ?_
      refine lv_iconst (v := iI (4)) hx hb dL_law_1837 rfl ?_
      refine xr_iadd hx hb dL_law_1838 ?_
      refine lv_aload_n hx hb dL_law_1839 rfl (lv_at hl 10 rfl) ?_
      refine lv_iload hx hb dL_law_1840 (lv_at hl 29 rfl) ?_
      refine xa_1001 (v := mu 1001 who) hx hb hK hR (by omega) rfl dL_law_1842 ?_
      have g13 := ml_1001 hM0 (who)
      refine xr_if_ne (tgt := 1856) hx hb dL_law_1843 (by decide) (by omega) (fun yy14 => ?_) (fun yy14 => ?_)
      · skip
        have hE := hb2 (by omega)
        refine lv_aload_n hx hb dL_law_1856 rfl (lv_at hl 9 rfl) ?_
        refine lv_iload hx hb dL_law_1857 (lv_at hl 1 rfl) ?_
        refine lv_iconst (v := iI (4)) hx hb dL_law_1859 rfl ?_
        refine xr_iadd hx hb dL_law_1860 ?_
        refine xa_1000 (v := mu 1000 ((8 * K) + 4)) hx hb hK hR (by omega) rfl dL_law_1861 ?_
        have g15 := ml_1000 hM0 ((8 * K) + 4)
        refine ys_1000 (v := mu 1000 ((8 * K) + 4)) hx hb hK hC hR hA2 hA1 hN12 hS (by omega) dL_law_1862 (fun H locs hC hR hS => ?_)
        have hM := gl_1000 hM ((8 * K) + 4) (v := mu 1000 ((8 * K) + 4)) (by omega)
        refine lv_aload_n hx hb dL_law_1863 rfl (lv_at hl 10 rfl) ?_
        refine lv_iload hx hb dL_law_1864 (lv_at hl 29 rfl) ?_
        refine xa_1001 (v := mu 1001 who) hx hb hK hR (by omega) ((st_f (by decide)).trans rfl) dL_law_1866 ?_
        refine xr_if_eq (tgt := 1876) hx hb dL_law_1867 (by decide) (by omega) (fun yy16 => absurd yy16 (by omega)) (fun yy16 => ?_)
        refine lv_ldc2 (v := lI (-1002)) hx hb hown (hts _ kw_653) dL_law_1870 ?_
        refine lv_goto (tgt := 1917) hx hb dL_law_1873 (by decide) ?_
        refine lv_lstore (i := 33) (lv' := [(33, .long (lI (-1002))), (32, .int (iI (0))), (31, .int (iI (8 * K))), (23, .int (iI (1))), (18, .int (iI (sg 503 0))), (19, .int (iI (sg 506 0))), (20, .long (lI (sg 510 0))), (24, .int (iI (turn))), (0, .ref b), (1, .ref hh), (2, .ref (adM 20 0)), (3, .ref (adM 21 0)), (4, .ref (adM 22 0)), (5, .ref (adM 23 0)), (6, .ref (adM 24 0)), (7, .ref (adM 25 0)), (8, .ref (adM 26 0)), (9, .ref (adM 27 0)), (10, .ref (adM 28 0)), (11, .ref (adM 29 0)), (12, .ref (adM 30 0)), (13, .ref (adM 31 0)), (14, .ref (adM 32 0)), (15, .ref (adM 33 0)), (16, .ref (adM 34 0)), (17, .ref (adM 35 0)), (25, .int (vx)), (26, .int (iI (what))), (27, .int (iI (k))), (28, .int (iI (8 * k))), (29, .int (iI (who))), (30, .int (iI (w)))]) hx hb dL_law_1917 hl (by decide) rfl (fun ls hl => ?_)
        refine lv_aload_n hx hb dL_law_1919 rfl (lv_at hl 9 rfl) ?_
        refine lv_bipush (v := iI (9)) hx hb dL_law_1920 (by decide) ?_
        refine lv_iload hx hb dL_law_1922 (lv_at hl 30 rfl) ?_
        refine lv_iconst (v := iI (0)) hx hb dL_law_1924 rfl ?_
        refine lv_iconst (v := iI (0)) hx hb dL_law_1925 rfl ?_
        refine lv_iconst (v := iI (0)) hx hb dL_law_1926 rfl ?_
        refine lw_act (f := 8) (lo := 189) (mc := 1) (ms := 6) (E := blightE sg who) (T := (tkT (st sg 205 (sg 102 (iAt sg who)) 100) (sg 102 (iAt sg who)))) hx hb hml hown hts hK hXS hXN hS hA1 hN12 hG hR h4 (c_act_9 hC hG hl0 (lw_hA hA hR) who 0 0 0 (by omega) (by omega)) ⟨by decide, by decide⟩ ⟨by omega, by omega⟩ hl.1 (Nat.le_of_ble_eq_true rfl) dL_law_1927 (fun ad H locs h4 hC hR hS => ?_)
        rw [if_neg (by rw [hE]; decide)] at hC
        rw [aR_n (by rw [hE]; decide), hE]
        refine lv_lload hx hb dL_law_1930 (lv_at hl 0 rfl) ?_
        refine lw_leq hx hb dL_law_1932 (by first | rfl | omega | (rfl)) ?_
        refine xr_if_ne (tgt := 1940) hx hb dL_law_1933 (by decide) (by decide) (fun yy17 => absurd yy17 (by decide)) (fun _ => ?_)
        refine lv_iconst (v := iI (1)) hx hb dL_law_1936 rfl ?_
        refine lv_goto (tgt := 1941) hx hb dL_law_1937 (by decide) ?_
        refine lv_istore (i := 23) (lv' := [(23, .int (iI (1))), (33, .long (lI (-1002))), (32, .int (iI (0))), (31, .int (iI (8 * K))), (18, .int (iI (sg 503 0))), (19, .int (iI (sg 506 0))), (20, .long (lI (sg 510 0))), (24, .int (iI (turn))), (0, .ref b), (1, .ref hh), (2, .ref (adM 20 0)), (3, .ref (adM 21 0)), (4, .ref (adM 22 0)), (5, .ref (adM 23 0)), (6, .ref (adM 24 0)), (7, .ref (adM 25 0)), (8, .ref (adM 26 0)), (9, .ref (adM 27 0)), (10, .ref (adM 28 0)), (11, .ref (adM 29 0)), (12, .ref (adM 30 0)), (13, .ref (adM 31 0)), (14, .ref (adM 32 0)), (15, .ref (adM 33 0)), (16, .ref (adM 34 0)), (17, .ref (adM 35 0)), (25, .int (vx)), (26, .int (iI (what))), (27, .int (iI (k))), (28, .int (iI (8 * k))), (29, .int (iI (who))), (30, .int (iI (w)))]) hx hb dL_law_1941 hl (by decide) rfl (fun ls hl => ?_)
        refine lv_goto (tgt := 3115) hx hb dL_law_1943 (by decide) ?_
        refine W.widen (k := cells + 3) (n := slots + 45) (by omega) (by omega) ?_
        exact kk ad sg (st mu 1000 ((8 * K) + 4) (mu 1000 ((8 * K) + 4))) H locs ls _ _ _ ⟨hC, hR, h4, (by rw [st_id rfl]; exact hLR), hV, hG, hM, hS⟩ (by omega) rfl rfl rfl (lv_sub hl [0, 4, 5, 6, 7, 8, 9, 10, 11, 12, 13, 14, 15, 16, 17, 18, 19, 20, 21, 22, 23, 24, 25] rfl)
      · skip
        have hE := hb0 (by omega) hpn
        refine lv_iload hx hb dL_law_1846 (lv_at hl 0 rfl) ?_
        refine xr_if_eq (tgt := 1856) hx hb dL_law_1848 (by decide) (by decide) (fun _ => ?_) (fun yy18 => absurd yy18 (by decide))
        refine lv_aload_n hx hb dL_law_1856 rfl (lv_at hl 9 rfl) ?_
        refine lv_iload hx hb dL_law_1857 (lv_at hl 1 rfl) ?_
        refine lv_iconst (v := iI (4)) hx hb dL_law_1859 rfl ?_
        refine xr_iadd hx hb dL_law_1860 ?_
        refine xa_1000 (v := mu 1000 ((8 * K) + 4)) hx hb hK hR (by omega) rfl dL_law_1861 ?_
        have g19 := ml_1000 hM0 ((8 * K) + 4)
        refine ys_1000 (v := mu 1000 ((8 * K) + 4)) hx hb hK hC hR hA2 hA1 hN12 hS (by omega) dL_law_1862 (fun H locs hC hR hS => ?_)
        have hM := gl_1000 hM ((8 * K) + 4) (v := mu 1000 ((8 * K) + 4)) (by omega)
        refine lv_aload_n hx hb dL_law_1863 rfl (lv_at hl 10 rfl) ?_
        refine lv_iload hx hb dL_law_1864 (lv_at hl 29 rfl) ?_
        refine xa_1001 (v := mu 1001 who) hx hb hK hR (by omega) ((st_f (by decide)).trans rfl) dL_law_1866 ?_
        refine xr_if_eq (tgt := 1876) hx hb dL_law_1867 (by decide) (by omega) (fun yy20 => ?_) (fun yy20 => absurd yy20 (by omega))
        refine lv_iload hx hb dL_law_1876 (lv_at hl 0 rfl) ?_
        refine xr_if_eq (tgt := 1914) hx hb dL_law_1878 (by decide) (by decide) (fun _ => ?_) (fun yy21 => absurd yy21 (by decide))
        refine lv_ldc2 (v := lI (-1003)) hx hb hown (hts _ kw_654) dL_law_1914 ?_
        refine lv_lstore (i := 33) (lv' := [(33, .long (lI (-1003))), (32, .int (iI (0))), (31, .int (iI (8 * K))), (23, .int (iI (1))), (18, .int (iI (sg 503 0))), (19, .int (iI (sg 506 0))), (20, .long (lI (sg 510 0))), (24, .int (iI (turn))), (0, .ref b), (1, .ref hh), (2, .ref (adM 20 0)), (3, .ref (adM 21 0)), (4, .ref (adM 22 0)), (5, .ref (adM 23 0)), (6, .ref (adM 24 0)), (7, .ref (adM 25 0)), (8, .ref (adM 26 0)), (9, .ref (adM 27 0)), (10, .ref (adM 28 0)), (11, .ref (adM 29 0)), (12, .ref (adM 30 0)), (13, .ref (adM 31 0)), (14, .ref (adM 32 0)), (15, .ref (adM 33 0)), (16, .ref (adM 34 0)), (17, .ref (adM 35 0)), (25, .int (vx)), (26, .int (iI (what))), (27, .int (iI (k))), (28, .int (iI (8 * k))), (29, .int (iI (who))), (30, .int (iI (w)))]) hx hb dL_law_1917 hl (by decide) rfl (fun ls hl => ?_)
        refine lv_aload_n hx hb dL_law_1919 rfl (lv_at hl 9 rfl) ?_
        refine lv_bipush (v := iI (9)) hx hb dL_law_1920 (by decide) ?_
        refine lv_iload hx hb dL_law_1922 (lv_at hl 30 rfl) ?_
        refine lv_iconst (v := iI (0)) hx hb dL_law_1924 rfl ?_
        refine lv_iconst (v := iI (0)) hx hb dL_law_1925 rfl ?_
        refine lv_iconst (v := iI (0)) hx hb dL_law_1926 rfl ?_
        refine lw_act (f := 8) (lo := 189) (mc := 1) (ms := 6) (E := blightE sg who) (T := (tkT (st sg 205 (sg 102 (iAt sg who)) 100) (sg 102 (iAt sg who)))) hx hb hml hown hts hK hXS hXN hS hA1 hN12 hG hR h4 (c_act_9 hC hG hl0 (lw_hA hA hR) who 0 0 0 (by omega) (by omega)) ⟨by decide, by decide⟩ ⟨by omega, by omega⟩ hl.1 (Nat.le_of_ble_eq_true rfl) dL_law_1927 (fun ad H locs h4 hC hR hS => ?_)
        rw [if_neg (by rw [hE]; decide)] at hC
        rw [aR_n (by rw [hE]; decide), hE]
        refine lv_lload hx hb dL_law_1930 (lv_at hl 0 rfl) ?_
        refine lw_leq hx hb dL_law_1932 (by first | rfl | omega | (rfl)) ?_
        refine xr_if_ne (tgt := 1940) hx hb dL_law_1933 (by decide) (by decide) (fun yy22 => absurd yy22 (by decide)) (fun _ => ?_)
        refine lv_iconst (v := iI (1)) hx hb dL_law_1936 rfl ?_
        refine lv_goto (tgt := 1941) hx hb dL_law_1937 (by decide) ?_
        refine lv_istore (i := 23) (lv' := [(23, .int (iI (1))), (33, .long (lI (-1003))), (32, .int (iI (0))), (31, .int (iI (8 * K))), (18, .int (iI (sg 503 0))), (19, .int (iI (sg 506 0))), (20, .long (lI (sg 510 0))), (24, .int (iI (turn))), (0, .ref b), (1, .ref hh), (2, .ref (adM 20 0)), (3, .ref (adM 21 0)), (4, .ref (adM 22 0)), (5, .ref (adM 23 0)), (6, .ref (adM 24 0)), (7, .ref (adM 25 0)), (8, .ref (adM 26 0)), (9, .ref (adM 27 0)), (10, .ref (adM 28 0)), (11, .ref (adM 29 0)), (12, .ref (adM 30 0)), (13, .ref (adM 31 0)), (14, .ref (adM 32 0)), (15, .ref (adM 33 0)), (16, .ref (adM 34 0)), (17, .ref (adM 35 0)), (25, .int (vx)), (26, .int (iI (what))), (27, .int (iI (k))), (28, .int (iI (8 * k))), (29, .int (iI (who))), (30, .int (iI (w)))]) hx hb dL_law_1941 hl (by decide) rfl (fun ls hl => ?_)
        refine lv_goto (tgt := 3115) hx hb dL_law_1943 (by decide) ?_
        refine W.widen (k := cells + 3) (n := slots + 45) (by omega) (by omega) ?_
        exact kk ad sg (st mu 1000 ((8 * K) + 4) (mu 1000 ((8 * K) + 4))) H locs ls _ _ _ ⟨hC, hR, h4, (by rw [st_id rfl]; exact hLR), hV, hG, hM, hS⟩ (by omega) rfl rfl rfl (lv_sub hl [0, 4, 5, 6, 7, 8, 9, 10, 11, 12, 13, 14, 15, 16, 17, 18, 19, 20, 21, 22, 23, 24, 25] rfl)
  refine lv_aload_n hx hb dL_law_1785 rfl (lv_at hl 8 rfl) ?_
  refine lv_iload hx hb dL_law_1786 (lv_at hl 0 rfl) ?_
  refine lv_iconst (v := iI (2)) hx hb dL_law_1788 rfl ?_
  refine xr_iadd hx hb dL_law_1789 ?_
  refine xa_1000 (v := mu 1000 ((8 * K) + 2)) hx hb hK hR (by omega) rfl dL_law_1790 ?_
  have g23 := ml_1000 hM0 ((8 * K) + 2)
  refine xr_if_ne (tgt := 1831) hx hb dL_law_1791 (by decide) (by omega) (fun yy24 => ?_) (fun yy24 => ?_)
  · skip
    refine lv_iconst (v := iI (0)) hx hb dL_law_1831 rfl ?_
    exact w_topI (by first | exact (bI_t (by first | omega | grind)).symm | exact (bI_f (by first | omega | grind)).symm) J1832
  · skip
    refine lv_aload_n hx hb dL_law_1794 rfl (lv_at hl 8 rfl) ?_
    refine lv_iload hx hb dL_law_1795 (lv_at hl 0 rfl) ?_
    refine lv_iconst (v := iI (1)) hx hb dL_law_1797 rfl ?_
    refine xr_iadd hx hb dL_law_1798 ?_
    refine xa_1000 (v := mu 1000 ((8 * K) + 1)) hx hb hK hR (by omega) rfl dL_law_1799 ?_
    have g25 := ml_1000 hM0 ((8 * K) + 1)
    refine lv_iconst (v := iI (1)) hx hb dL_law_1800 rfl ?_
    refine xr_icmp_ne (tgt := 1831) hx hb dL_law_1801 (by decide) (by omega) (by omega) (fun yy26 => ?_) (fun yy26 => ?_)
    · skip
      refine lv_iconst (v := iI (0)) hx hb dL_law_1831 rfl ?_
      exact w_topI (by first | exact (bI_t (by first | omega | grind)).symm | exact (bI_f (by first | omega | grind)).symm) J1832
    · skip
      refine lv_aload_n hx hb dL_law_1804 rfl (lv_at hl 8 rfl) ?_
      refine lv_iload hx hb dL_law_1805 (lv_at hl 0 rfl) ?_
      refine lv_iconst (v := iI (3)) hx hb dL_law_1807 rfl ?_
      refine xr_iadd hx hb dL_law_1808 ?_
      refine xa_1000 (v := mu 1000 ((8 * K) + 3)) hx hb hK hR (by omega) rfl dL_law_1809 ?_
      have g27 := ml_1000 hM0 ((8 * K) + 3)
      refine xr_if_lt (tgt := 1831) hx hb dL_law_1810 (by decide) (by omega) (fun yy28 => ?_) (fun yy28 => ?_)
      · skip
        refine lv_iconst (v := iI (0)) hx hb dL_law_1831 rfl ?_
        exact w_topI (by first | exact (bI_t (by first | omega | grind)).symm | exact (bI_f (by first | omega | grind)).symm) J1832
      · skip
        refine lv_iload hx hb dL_law_1813 (lv_at hl 3 rfl) ?_
        refine lv_aload hx hb dL_law_1815 (lv_at hl 11 rfl) ?_
        refine lv_iload hx hb dL_law_1817 (lv_at hl 28 rfl) ?_
        refine xa_1003 (v := mu 1003 who) hx hb hK hR (by omega) rfl dL_law_1819 ?_
        have g29 := ml_1003 hM0 (who)
        refine xr_isub hx hb dL_law_1820 ?_
        refine lv_sipush (v := iI (180)) hx hb dL_law_1821 (by decide) ?_
        refine xr_icmp_lt (tgt := 1831) hx hb dL_law_1824 (by decide) (by omega) (by omega) (fun yy30 => ?_) (fun yy30 => ?_)
        · skip
          refine lv_iconst (v := iI (0)) hx hb dL_law_1831 rfl ?_
          exact w_topI (by first | exact (bI_t (by first | omega | grind)).symm | exact (bI_f (by first | omega | grind)).symm) J1832
        · skip
          refine lv_iconst (v := iI (1)) hx hb dL_law_1827 rfl ?_
          refine lv_goto (tgt := 1832) hx hb dL_law_1828 (by decide) ?_
          exact w_topI (by first | exact (bI_t (by first | omega | grind)).symm | exact (bI_f (by first | omega | grind)).symm) J1832
set_option maxRecDepth 100000 in
set_option maxHeartbeats 8000000 in
theorem law_works {p : Program} {l : Launch} {e : Env} {s : State} {m : MethodId} {below : List Frame} {meth : Method} {c : Code} {D : va_G} {cy : Nat → ClassId} {A A2 : Nat → Prop} {b L hh : Nat} {xs : Nat → Int32} {ad adM : Nat → Int → Nat} {sg mu : Nat → Int → Int} {H : Heap} {locs : List Loc} {cells slots : Nat} {Q : State → Prop} {ls : Array Slot} {turn : Int} {vx : Int32} {what k who w : Int} (E : LE p l s m meth c b L xs D cy A A2 adM) (I : LI D cy A A2 s hh ad adM sg mu H locs) (h7 : sg 702 0 ≤ 1000000) (hcl : cells + 1000 ≤ 600104) (hsl : slots + 20000 ≤ 7301314) (hwhat : what = 17) (hk : 0 ≤ k ∧ k ≤ 3) (hw : 0 ≤ w ∧ w ≤ 1) (hl : lv_has ls 37 [(23, .int (iI (1))), (18, .int (iI (sg 503 0))), (19, .int (iI (sg 506 0))), (20, .long (lI (sg 510 0))), (24, .int (iI (turn))), (0, .ref b), (1, .ref hh), (2, .ref (adM 20 0)), (3, .ref (adM 21 0)), (4, .ref (adM 22 0)), (5, .ref (adM 23 0)), (6, .ref (adM 24 0)), (7, .ref (adM 25 0)), (8, .ref (adM 26 0)), (9, .ref (adM 27 0)), (10, .ref (adM 28 0)), (11, .ref (adM 29 0)), (12, .ref (adM 30 0)), (13, .ref (adM 31 0)), (14, .ref (adM 32 0)), (15, .ref (adM 33 0)), (16, .ref (adM 34 0)), (17, .ref (adM 35 0)), (25, .int (vx)), (26, .int (iI (what))), (27, .int (iI (k))), (28, .int (iI (8 * k))), (29, .int (iI (who))), (30, .int (iI (w)))]) (kk : LK p l e s m below meth c b D cy A A2 hh adM cells slots Q sg turn) : W p l e room_1 s m #[Value.ref b] below meth c H locs cells slots Q (F0 m 1953 ls []) := by
  obtain ⟨⟨hx, hb, hr, hml, hown, hts0, hX, hbl, hlocks, -⟩, hl0, hK, hXS, hXN, hA, hA1, hA2, hN12, hL⟩ := E
  obtain ⟨hC, hR, h4, hLR, hV, hG, hM, hS⟩ := I
  have hM0 := hM
  have hts : ∀ w ∈ wG, w.before #[Value.ref b] s = true := fun w hw => hts0 w (List.mem_filter.mp hw).1
  have hown : s.vm.findClass "TakinghallLaw" = some m.cls := hown
  have g503 := gr_503 hG 0
  have g506 := gr_506 hG 0
  obtain ⟨ha1, ha0⟩ := a_works hLR hG hk
  have hpl := pl_rng k
  obtain ⟨mm, hRel, hGM⟩ := id hV
  have J1987 : W p l e room_1 s m #[Value.ref b] below meth c H locs cells slots Q (F0 m 1987 ls [.int (iI (bI (mu 1000 (8 * k + 2) = 1 ∧ mu 1000 (8 * k + 6) = 0 ∧ 0 ≤ mu 1000 (8 * k + 3))))]) := by
    rcases bI_cases (mu 1000 (8 * k + 2) = 1 ∧ mu 1000 (8 * k + 6) = 0 ∧ 0 ≤ mu 1000 (8 * k + 3)) with ⟨p1, q2⟩ | ⟨p1, q2⟩
    · rw [q2]
      have hE := ha1 p1
      refine lv_istore (i := 31) (lv' := [(31, .int (iI (1))), (23, .int (iI (1))), (18, .int (iI (sg 503 0))), (19, .int (iI (sg 506 0))), (20, .long (lI (sg 510 0))), (24, .int (iI (turn))), (0, .ref b), (1, .ref hh), (2, .ref (adM 20 0)), (3, .ref (adM 21 0)), (4, .ref (adM 22 0)), (5, .ref (adM 23 0)), (6, .ref (adM 24 0)), (7, .ref (adM 25 0)), (8, .ref (adM 26 0)), (9, .ref (adM 27 0)), (10, .ref (adM 28 0)), (11, .ref (adM 29 0)), (12, .ref (adM 30 0)), (13, .ref (adM 31 0)), (14, .ref (adM 32 0)), (15, .ref (adM 33 0)), (16, .ref (adM 34 0)), (17, .ref (adM 35 0)), (25, .int (vx)), (26, .int (iI (what))), (27, .int (iI (k))), (28, .int (iI (8 * k))), (29, .int (iI (who))), (30, .int (iI (w)))]) hx hb dL_law_1987 hl (by decide) rfl (fun ls hl => ?_)
      refine lv_aload_n hx hb dL_law_1989 rfl (lv_at hl 8 rfl) ?_
      refine lv_iload hx hb dL_law_1990 (lv_at hl 27 rfl) ?_
      refine lv_bipush (v := iI (6)) hx hb dL_law_1992 (by decide) ?_
      refine xr_iadd hx hb dL_law_1994 ?_
      refine lv_iload hx hb dL_law_1995 (lv_at hl 0 rfl) ?_
      refine xr_if_eq (tgt := 2004) hx hb dL_law_1997 (by decide) (by decide) (fun yy3 => absurd yy3 (by decide)) (fun _ => ?_)
      refine lv_iconst (v := iI (1)) hx hb dL_law_2000 rfl ?_
      refine lv_goto (tgt := 2011) hx hb dL_law_2001 (by decide) ?_
      refine ys_1000 (v := 1) hx hb hK hC hR hA2 hA1 hN12 hS (by omega) dL_law_2011 (fun H locs hC hR hS => ?_)
      have hM := gl_1000 hM ((8 * k) + 6) (v := 1) (by omega)
      refine lv_aload_n hx hb dL_law_2012 rfl (lv_at hl 7 rfl) ?_
      refine lv_bipush (v := iI (10)) hx hb dL_law_2013 (by decide) ?_
      refine lv_iload hx hb dL_law_2015 (lv_at hl 26 rfl) ?_
      refine lw_plot hx hb hml hown hts hK hl.1 ⟨by omega, by omega⟩ (by omega) (lv_room (Nat.le_of_ble_eq_true rfl)) dL_law_2017 ?_
      refine lv_iconst (v := iI (0)) hx hb dL_law_2020 rfl ?_
      refine lv_iconst (v := iI (0)) hx hb dL_law_2021 rfl ?_
      refine lv_iconst (v := iI (0)) hx hb dL_law_2022 rfl ?_
      refine lw_act (f := 8) (lo := 129) (mc := 1) (ms := 6) (E := worksE sg (pl k)) (T := (st sg 208 (pAt (pl k)) 1)) hx hb hml hown hts hK hXS hXN hS hA1 hN12 hG hR h4 (c_act_10 hC hG hl0 (lw_hA hA hR) (pl k) 0 0 0 (by omega)) ⟨by decide, by decide⟩ ⟨by omega, by omega⟩ hl.1 (Nat.le_of_ble_eq_true rfl) dL_law_2023 (fun ad H locs h4 hC hR hS => ?_)
      rw [if_pos hE] at hC
      rw [aR_0 hE]
      rw [pl_pAt] at hC
      rw [pl_pAt]
      have hz := inv_of (s_works hRel hG hGM (pl k)) hE
      rw [pl_pAt] at hz
      have hLR := o_works hLR hG hk
      refine lv_iload hx hb dL_law_2026 (lv_at hl 0 rfl) ?_
      refine xr_if_eq (tgt := 2053) hx hb dL_law_2028 (by decide) (by decide) (fun yy4 => absurd yy4 (by decide)) (fun _ => ?_)
      refine lv_aload_n hx hb dL_law_2031 rfl (lv_at hl 8 rfl) ?_
      refine lv_bipush (v := iI (6)) hx hb dL_law_2032 (by decide) ?_
      refine xa_1000 (v := (st mu 1000 ((8 * k) + 6) (1)) 1000 6) hx hb hK hR (by omega) rfl dL_law_2034 ?_
      have g5 := ml_1000 hM (6)
      refine lv_aload_n hx hb dL_law_2035 rfl (lv_at hl 8 rfl) ?_
      refine lv_bipush (v := iI (14)) hx hb dL_law_2036 (by decide) ?_
      refine xa_1000 (v := (st mu 1000 ((8 * k) + 6) (1)) 1000 14) hx hb hK hR (by omega) rfl dL_law_2038 ?_
      have g6 := ml_1000 hM (14)
      refine xr_iadd hx hb dL_law_2039 ?_
      refine lv_aload_n hx hb dL_law_2040 rfl (lv_at hl 8 rfl) ?_
      refine lv_bipush (v := iI (22)) hx hb dL_law_2041 (by decide) ?_
      refine xa_1000 (v := (st mu 1000 ((8 * k) + 6) (1)) 1000 22) hx hb hK hR (by omega) rfl dL_law_2043 ?_
      have g7 := ml_1000 hM (22)
      refine xr_iadd hx hb dL_law_2044 ?_
      refine lv_aload_n hx hb dL_law_2045 rfl (lv_at hl 8 rfl) ?_
      refine lv_bipush (v := iI (30)) hx hb dL_law_2046 (by decide) ?_
      refine xa_1000 (v := (st mu 1000 ((8 * k) + 6) (1)) 1000 30) hx hb hK hR (by omega) rfl dL_law_2048 ?_
      have g8 := ml_1000 hM (30)
      refine xr_iadd hx hb dL_law_2049 ?_
      rw [l_works hz.2 hLR.2.1 hLR.2.2.2.2.1]
      have hwr : 0 ≤ cntWorks (st sg 208 (pl k) 1) ∧ cntWorks (st sg 208 (pl k) 1) ≤ 36 := by have z0 := sum_b (f := fun q => bI ((st sg 208 (pl k) 1) 208 q ≠ 0)) (M := 1) (fun i => bI_in _) 36; unfold cntWorks; omega
      refine lv_goto (tgt := 2056) hx hb dL_law_2050 (by decide) ?_
      refine xr_i2l hx hb dL_law_2056 (by omega) ?_
      refine lw_leq hx hb dL_law_2057 (by first | rfl | omega | (rfl)) ?_
      refine xr_if_ne (tgt := 2065) hx hb dL_law_2058 (by decide) (by decide) (fun yy9 => absurd yy9 (by decide)) (fun _ => ?_)
      refine lv_iconst (v := iI (1)) hx hb dL_law_2061 rfl ?_
      refine lv_goto (tgt := 2066) hx hb dL_law_2062 (by decide) ?_
      refine lv_istore (i := 23) (lv' := [(23, .int (iI (1))), (31, .int (iI (1))), (18, .int (iI (sg 503 0))), (19, .int (iI (sg 506 0))), (20, .long (lI (sg 510 0))), (24, .int (iI (turn))), (0, .ref b), (1, .ref hh), (2, .ref (adM 20 0)), (3, .ref (adM 21 0)), (4, .ref (adM 22 0)), (5, .ref (adM 23 0)), (6, .ref (adM 24 0)), (7, .ref (adM 25 0)), (8, .ref (adM 26 0)), (9, .ref (adM 27 0)), (10, .ref (adM 28 0)), (11, .ref (adM 29 0)), (12, .ref (adM 30 0)), (13, .ref (adM 31 0)), (14, .ref (adM 32 0)), (15, .ref (adM 33 0)), (16, .ref (adM 34 0)), (17, .ref (adM 35 0)), (25, .int (vx)), (26, .int (iI (what))), (27, .int (iI (k))), (28, .int (iI (8 * k))), (29, .int (iI (who))), (30, .int (iI (w)))]) hx hb dL_law_2066 hl (by decide) rfl (fun ls hl => ?_)
      refine lv_goto (tgt := 3115) hx hb dL_law_2068 (by decide) ?_
      refine W.widen (k := cells + 3) (n := slots + 45) (by omega) (by omega) ?_
      exact kk ad ((st sg 208 (pl k) 1)) (st mu 1000 ((8 * k) + 6) (1)) H locs ls _ _ _ ⟨hC, hR, h4, hLR, hz.1, hz.2, hM, hS⟩ (by show sg 702 0 ≤ sg 702 0 + 1; omega) rfl rfl rfl (lv_sub hl [0, 2, 3, 4, 5, 6, 7, 8, 9, 10, 11, 12, 13, 14, 15, 16, 17, 18, 19, 20, 21, 22, 23] rfl)
    · rw [q2]
      have hE := ha0 p1
      refine lv_istore (i := 31) (lv' := [(31, .int (iI (0))), (23, .int (iI (1))), (18, .int (iI (sg 503 0))), (19, .int (iI (sg 506 0))), (20, .long (lI (sg 510 0))), (24, .int (iI (turn))), (0, .ref b), (1, .ref hh), (2, .ref (adM 20 0)), (3, .ref (adM 21 0)), (4, .ref (adM 22 0)), (5, .ref (adM 23 0)), (6, .ref (adM 24 0)), (7, .ref (adM 25 0)), (8, .ref (adM 26 0)), (9, .ref (adM 27 0)), (10, .ref (adM 28 0)), (11, .ref (adM 29 0)), (12, .ref (adM 30 0)), (13, .ref (adM 31 0)), (14, .ref (adM 32 0)), (15, .ref (adM 33 0)), (16, .ref (adM 34 0)), (17, .ref (adM 35 0)), (25, .int (vx)), (26, .int (iI (what))), (27, .int (iI (k))), (28, .int (iI (8 * k))), (29, .int (iI (who))), (30, .int (iI (w)))]) hx hb dL_law_1987 hl (by decide) rfl (fun ls hl => ?_)
      refine lv_aload_n hx hb dL_law_1989 rfl (lv_at hl 8 rfl) ?_
      refine lv_iload hx hb dL_law_1990 (lv_at hl 27 rfl) ?_
      refine lv_bipush (v := iI (6)) hx hb dL_law_1992 (by decide) ?_
      refine xr_iadd hx hb dL_law_1994 ?_
      refine lv_iload hx hb dL_law_1995 (lv_at hl 0 rfl) ?_
      refine xr_if_eq (tgt := 2004) hx hb dL_law_1997 (by decide) (by decide) (fun _ => ?_) (fun yy10 => absurd yy10 (by decide))
      refine lv_aload_n hx hb dL_law_2004 rfl (lv_at hl 8 rfl) ?_
      refine lv_iload hx hb dL_law_2005 (lv_at hl 27 rfl) ?_
      refine lv_bipush (v := iI (6)) hx hb dL_law_2007 (by decide) ?_
      refine xr_iadd hx hb dL_law_2009 ?_
      refine xa_1000 (v := mu 1000 ((8 * k) + 6)) hx hb hK hR (by omega) rfl dL_law_2010 ?_
      have g11 := ml_1000 hM0 ((8 * k) + 6)
      refine ys_1000 (v := mu 1000 ((8 * k) + 6)) hx hb hK hC hR hA2 hA1 hN12 hS (by omega) dL_law_2011 (fun H locs hC hR hS => ?_)
      have hM := gl_1000 hM ((8 * k) + 6) (v := mu 1000 ((8 * k) + 6)) (by omega)
      refine lv_aload_n hx hb dL_law_2012 rfl (lv_at hl 7 rfl) ?_
      refine lv_bipush (v := iI (10)) hx hb dL_law_2013 (by decide) ?_
      refine lv_iload hx hb dL_law_2015 (lv_at hl 26 rfl) ?_
      refine lw_plot hx hb hml hown hts hK hl.1 ⟨by omega, by omega⟩ (by omega) (lv_room (Nat.le_of_ble_eq_true rfl)) dL_law_2017 ?_
      refine lv_iconst (v := iI (0)) hx hb dL_law_2020 rfl ?_
      refine lv_iconst (v := iI (0)) hx hb dL_law_2021 rfl ?_
      refine lv_iconst (v := iI (0)) hx hb dL_law_2022 rfl ?_
      refine lw_act (f := 8) (lo := 129) (mc := 1) (ms := 6) (E := worksE sg (pl k)) (T := (st sg 208 (pAt (pl k)) 1)) hx hb hml hown hts hK hXS hXN hS hA1 hN12 hG hR h4 (c_act_10 hC hG hl0 (lw_hA hA hR) (pl k) 0 0 0 (by omega)) ⟨by decide, by decide⟩ ⟨by omega, by omega⟩ hl.1 (Nat.le_of_ble_eq_true rfl) dL_law_2023 (fun ad H locs h4 hC hR hS => ?_)
      rw [if_neg (by rw [hE]; decide)] at hC
      rw [aR_n (by rw [hE]; decide), hE]
      refine lv_iload hx hb dL_law_2026 (lv_at hl 0 rfl) ?_
      refine xr_if_eq (tgt := 2053) hx hb dL_law_2028 (by decide) (by decide) (fun _ => ?_) (fun yy12 => absurd yy12 (by decide))
      refine lv_sipush (v := iI (-1003)) hx hb dL_law_2053 (by decide) ?_
      refine xr_i2l hx hb dL_law_2056 (by omega) ?_
      refine lw_leq hx hb dL_law_2057 (by first | rfl | omega | (rfl)) ?_
      refine xr_if_ne (tgt := 2065) hx hb dL_law_2058 (by decide) (by decide) (fun yy13 => absurd yy13 (by decide)) (fun _ => ?_)
      refine lv_iconst (v := iI (1)) hx hb dL_law_2061 rfl ?_
      refine lv_goto (tgt := 2066) hx hb dL_law_2062 (by decide) ?_
      refine lv_istore (i := 23) (lv' := [(23, .int (iI (1))), (31, .int (iI (0))), (18, .int (iI (sg 503 0))), (19, .int (iI (sg 506 0))), (20, .long (lI (sg 510 0))), (24, .int (iI (turn))), (0, .ref b), (1, .ref hh), (2, .ref (adM 20 0)), (3, .ref (adM 21 0)), (4, .ref (adM 22 0)), (5, .ref (adM 23 0)), (6, .ref (adM 24 0)), (7, .ref (adM 25 0)), (8, .ref (adM 26 0)), (9, .ref (adM 27 0)), (10, .ref (adM 28 0)), (11, .ref (adM 29 0)), (12, .ref (adM 30 0)), (13, .ref (adM 31 0)), (14, .ref (adM 32 0)), (15, .ref (adM 33 0)), (16, .ref (adM 34 0)), (17, .ref (adM 35 0)), (25, .int (vx)), (26, .int (iI (what))), (27, .int (iI (k))), (28, .int (iI (8 * k))), (29, .int (iI (who))), (30, .int (iI (w)))]) hx hb dL_law_2066 hl (by decide) rfl (fun ls hl => ?_)
      refine lv_goto (tgt := 3115) hx hb dL_law_2068 (by decide) ?_
      refine W.widen (k := cells + 3) (n := slots + 45) (by omega) (by omega) ?_
      exact kk ad sg (st mu 1000 ((8 * k) + 6) (mu 1000 ((8 * k) + 6))) H locs ls _ _ _ ⟨hC, hR, h4, (by rw [st_id rfl]; exact hLR), hV, hG, hM, hS⟩ (by omega) rfl rfl rfl (lv_sub hl [0, 2, 3, 4, 5, 6, 7, 8, 9, 10, 11, 12, 13, 14, 15, 16, 17, 18, 19, 20, 21, 22, 23] rfl)
  refine lv_aload_n hx hb dL_law_1953 rfl (lv_at hl 7 rfl) ?_
  refine lv_iload hx hb dL_law_1954 (lv_at hl 26 rfl) ?_
  refine lv_iconst (v := iI (2)) hx hb dL_law_1956 rfl ?_
  refine xr_iadd hx hb dL_law_1957 ?_
  refine xa_1000 (v := mu 1000 ((8 * k) + 2)) hx hb hK hR (by omega) rfl dL_law_1958 ?_
  have g14 := ml_1000 hM0 ((8 * k) + 2)
  refine lv_iconst (v := iI (1)) hx hb dL_law_1959 rfl ?_
  refine xr_icmp_ne (tgt := 1986) hx hb dL_law_1960 (by decide) (by omega) (by omega) (fun yy15 => ?_) (fun yy15 => ?_)
  · skip
    refine lv_iconst (v := iI (0)) hx hb dL_law_1986 rfl ?_
    exact w_topI (by first | exact (bI_t (by first | omega | grind)).symm | exact (bI_f (by first | omega | grind)).symm) J1987
  · skip
    refine lv_aload_n hx hb dL_law_1963 rfl (lv_at hl 7 rfl) ?_
    refine lv_iload hx hb dL_law_1964 (lv_at hl 26 rfl) ?_
    refine lv_bipush (v := iI (6)) hx hb dL_law_1966 (by decide) ?_
    refine xr_iadd hx hb dL_law_1968 ?_
    refine xa_1000 (v := mu 1000 ((8 * k) + 6)) hx hb hK hR (by omega) rfl dL_law_1969 ?_
    have g16 := ml_1000 hM0 ((8 * k) + 6)
    refine xr_if_ne (tgt := 1986) hx hb dL_law_1970 (by decide) (by omega) (fun yy17 => ?_) (fun yy17 => ?_)
    · skip
      refine lv_iconst (v := iI (0)) hx hb dL_law_1986 rfl ?_
      exact w_topI (by first | exact (bI_t (by first | omega | grind)).symm | exact (bI_f (by first | omega | grind)).symm) J1987
    · skip
      refine lv_aload_n hx hb dL_law_1973 rfl (lv_at hl 7 rfl) ?_
      refine lv_iload hx hb dL_law_1974 (lv_at hl 26 rfl) ?_
      refine lv_iconst (v := iI (3)) hx hb dL_law_1976 rfl ?_
      refine xr_iadd hx hb dL_law_1977 ?_
      refine xa_1000 (v := mu 1000 ((8 * k) + 3)) hx hb hK hR (by omega) rfl dL_law_1978 ?_
      have g18 := ml_1000 hM0 ((8 * k) + 3)
      refine xr_if_lt (tgt := 1986) hx hb dL_law_1979 (by decide) (by omega) (fun yy19 => ?_) (fun yy19 => ?_)
      · skip
        refine lv_iconst (v := iI (0)) hx hb dL_law_1986 rfl ?_
        exact w_topI (by first | exact (bI_t (by first | omega | grind)).symm | exact (bI_f (by first | omega | grind)).symm) J1987
      · skip
        refine lv_iconst (v := iI (1)) hx hb dL_law_1982 rfl ?_
        refine lv_goto (tgt := 1987) hx hb dL_law_1983 (by decide) ?_
        exact w_topI (by first | exact (bI_t (by first | omega | grind)).symm | exact (bI_f (by first | omega | grind)).symm) J1987
set_option maxRecDepth 100000 in
set_option maxHeartbeats 8000000 in
theorem law_draw {p : Program} {l : Launch} {e : Env} {s : State} {m : MethodId} {below : List Frame} {meth : Method} {c : Code} {D : va_G} {cy : Nat → ClassId} {A A2 : Nat → Prop} {b L hh : Nat} {xs : Nat → Int32} {ad adM : Nat → Int → Nat} {sg mu : Nat → Int → Int} {H : Heap} {locs : List Loc} {cells slots : Nat} {Q : State → Prop} {ls : Array Slot} {turn : Int} {vx : Int32} {what k who w : Int} (E : LE p l s m meth c b L xs D cy A A2 adM) (I : LI D cy A A2 s hh ad adM sg mu H locs) (h7 : sg 702 0 ≤ 1000000) (hcl : cells + 1000 ≤ 600104) (hsl : slots + 20000 ≤ 7301314) (hwhat : 5 ≤ what ∧ what < 7) (hk : 0 ≤ k ∧ k ≤ 3) (hw : 0 ≤ w ∧ w ≤ 1) (hl : lv_has ls 37 [(23, .int (iI (1))), (18, .int (iI (sg 503 0))), (19, .int (iI (sg 506 0))), (20, .long (lI (sg 510 0))), (24, .int (iI (turn))), (0, .ref b), (1, .ref hh), (2, .ref (adM 20 0)), (3, .ref (adM 21 0)), (4, .ref (adM 22 0)), (5, .ref (adM 23 0)), (6, .ref (adM 24 0)), (7, .ref (adM 25 0)), (8, .ref (adM 26 0)), (9, .ref (adM 27 0)), (10, .ref (adM 28 0)), (11, .ref (adM 29 0)), (12, .ref (adM 30 0)), (13, .ref (adM 31 0)), (14, .ref (adM 32 0)), (15, .ref (adM 33 0)), (16, .ref (adM 34 0)), (17, .ref (adM 35 0)), (25, .int (vx)), (26, .int (iI (what))), (27, .int (iI (k))), (28, .int (iI (8 * k))), (29, .int (iI (who))), (30, .int (iI (w)))]) (kk : LK p l e s m below meth c b D cy A A2 hh adM cells slots Q sg turn) : W p l e room_1 s m #[Value.ref b] below meth c H locs cells slots Q (F0 m 831 ls []) := by
  obtain ⟨⟨hx, hb, hr, hml, hown, hts0, hX, hbl, hlocks, -⟩, hl0, hK, hXS, hXN, hA, hA1, hA2, hN12, hL⟩ := E
  obtain ⟨hC, hR, h4, hLR, hV, hG, hM, hS⟩ := I
  have hM0 := hM
  have hts : ∀ w ∈ wG, w.before #[Value.ref b] s = true := fun w hw => hts0 w (List.mem_filter.mp hw).1
  have hown : s.vm.findClass "TakinghallLaw" = some m.cls := hown
  have g503 := gr_503 hG 0
  have g506 := gr_506 hG 0
  have hpl := pl_rng k
  obtain ⟨mm, hRel, hGM⟩ := id hV
  have hn1 := a_nle hLR hG hk
  obtain ⟨hpa, hpu, hpp4, hp7⟩ := a_plot hLR hG hk
  have J862 : ∀ part : Int, (1 ≤ part ∧ part ≤ 100) → W p l e room_1 s m #[Value.ref b] below meth c H locs cells slots Q (F0 m 862 ls [.int (iI (part))]) := by
    intro part hpart
    refine lv_istore (i := 31) (lv' := [(31, .int (iI (part))), (23, .int (iI (1))), (18, .int (iI (sg 503 0))), (19, .int (iI (sg 506 0))), (20, .long (lI (sg 510 0))), (24, .int (iI (turn))), (0, .ref b), (1, .ref hh), (2, .ref (adM 20 0)), (3, .ref (adM 21 0)), (4, .ref (adM 22 0)), (5, .ref (adM 23 0)), (6, .ref (adM 24 0)), (7, .ref (adM 25 0)), (8, .ref (adM 26 0)), (9, .ref (adM 27 0)), (10, .ref (adM 28 0)), (11, .ref (adM 29 0)), (12, .ref (adM 30 0)), (13, .ref (adM 31 0)), (14, .ref (adM 32 0)), (15, .ref (adM 33 0)), (16, .ref (adM 34 0)), (17, .ref (adM 35 0)), (25, .int (vx)), (26, .int (iI (what))), (27, .int (iI (k))), (28, .int (iI (8 * k))), (29, .int (iI (who))), (30, .int (iI (w)))]) hx hb dL_law_862 hl (by decide) rfl (fun ls hl => ?_)
    have J895 : W p l e room_1 s m #[Value.ref b] below meth c H locs cells slots Q (F0 m 895 ls [.int (iI (bI (mu 1011 w = 0 ∧ mu 1000 (8 * k + 2) = 0 ∧ mu 1000 (8 * k + 3) < 0)))]) := by
      rcases bI_cases (mu 1011 w = 0 ∧ mu 1000 (8 * k + 2) = 0 ∧ mu 1000 (8 * k + 3) < 0) with ⟨p1, q2⟩ | ⟨p1, q2⟩
      · rw [q2]
        obtain ⟨hE, h403, h203⟩ := (a_draw hLR hG hw hk hpart).1 p1
        have hes := (a_draw hLR hG hw hk hpart).2.2
        refine lv_istore (i := 32) (lv' := [(32, .int (iI (1))), (31, .int (iI (part))), (23, .int (iI (1))), (18, .int (iI (sg 503 0))), (19, .int (iI (sg 506 0))), (20, .long (lI (sg 510 0))), (24, .int (iI (turn))), (0, .ref b), (1, .ref hh), (2, .ref (adM 20 0)), (3, .ref (adM 21 0)), (4, .ref (adM 22 0)), (5, .ref (adM 23 0)), (6, .ref (adM 24 0)), (7, .ref (adM 25 0)), (8, .ref (adM 26 0)), (9, .ref (adM 27 0)), (10, .ref (adM 28 0)), (11, .ref (adM 29 0)), (12, .ref (adM 30 0)), (13, .ref (adM 31 0)), (14, .ref (adM 32 0)), (15, .ref (adM 33 0)), (16, .ref (adM 34 0)), (17, .ref (adM 35 0)), (25, .int (vx)), (26, .int (iI (what))), (27, .int (iI (k))), (28, .int (iI (8 * k))), (29, .int (iI (who))), (30, .int (iI (w)))]) hx hb dL_law_895 hl (by decide) rfl (fun ls hl => ?_)
        refine lv_aload_n hx hb dL_law_897 rfl (lv_at hl 9 rfl) ?_
        refine lv_iload hx hb dL_law_898 (lv_at hl 28 rfl) ?_
        refine lv_iconst (v := iI (3)) hx hb dL_law_900 rfl ?_
        refine xr_iadd hx hb dL_law_901 ?_
        refine lv_iload hx hb dL_law_902 (lv_at hl 0 rfl) ?_
        refine xr_if_eq (tgt := 912) hx hb dL_law_904 (by decide) (by decide) (fun yy3 => absurd yy3 (by decide)) (fun _ => ?_)
        refine lv_iload hx hb dL_law_907 (lv_at hl 30 rfl) ?_
        refine lv_goto (tgt := 918) hx hb dL_law_909 (by decide) ?_
        refine ys_1000 (v := w) hx hb hK hC hR hA2 hA1 hN12 hS (by omega) dL_law_918 (fun H locs hC hR hS => ?_)
        have hM := gl_1000 hM ((8 * k) + 3) (v := w) (by omega)
        refine lv_aload_n hx hb dL_law_919 rfl (lv_at hl 9 rfl) ?_
        refine lv_iload hx hb dL_law_920 (lv_at hl 28 rfl) ?_
        refine lv_iconst (v := iI (4)) hx hb dL_law_922 rfl ?_
        refine xr_iadd hx hb dL_law_923 ?_
        refine lv_iload hx hb dL_law_924 (lv_at hl 0 rfl) ?_
        refine xr_if_eq (tgt := 934) hx hb dL_law_926 (by decide) (by decide) (fun yy4 => absurd yy4 (by decide)) (fun _ => ?_)
        refine lv_iload hx hb dL_law_929 (lv_at hl 1 rfl) ?_
        refine lv_goto (tgt := 940) hx hb dL_law_931 (by decide) ?_
        refine ys_1000 (v := part) hx hb hK hC hR hA2 hA1 hN12 hS (by omega) dL_law_940 (fun H locs hC hR hS => ?_)
        have hM := gl_1000 hM ((8 * k) + 4) (v := part) (by omega)
        refine lv_aload_n hx hb dL_law_941 rfl (lv_at hl 8 rfl) ?_
        refine lv_iconst (v := iI (3)) hx hb dL_law_942 rfl ?_
        refine lv_iload hx hb dL_law_943 (lv_at hl 30 rfl) ?_
        refine lv_iload hx hb dL_law_945 (lv_at hl 27 rfl) ?_
        refine lw_plot hx hb hml hown hts hK hl.1 ⟨by omega, by omega⟩ (by omega) (lv_room (Nat.le_of_ble_eq_true rfl)) dL_law_947 ?_
        refine lv_iload hx hb dL_law_950 (lv_at hl 1 rfl) ?_
        refine lv_iconst (v := iI (0)) hx hb dL_law_952 rfl ?_
        refine lw_act (f := 8) (lo := 132) (mc := 1) (ms := 6) (E := drawE sg w (pl k) part) (T := (st (st sg 204 (pAt (pl k)) (sAt sg w)) 205 (pAt (pl k)) part)) hx hb hml hown hts hK hXS hXN hS hA1 hN12 hG hR h4 (c_act_3 hC hG hl0 (lw_hA hA hR) w (pl k) part 0 (by omega) (by omega) (by omega)) ⟨by decide, by decide⟩ ⟨by omega, by omega⟩ hl.1 (Nat.le_of_ble_eq_true rfl) dL_law_953 (fun ad H locs h4 hC hR hS => ?_)
        rw [if_pos hE] at hC
        rw [aR_0 hE]
        rw [pl_pAt, hes] at hC
        rw [pl_pAt, hes]
        have hz := inv_of (s_draw hRel hG hGM w (pl k) part) hE
        rw [pl_pAt, hes] at hz
        have hLR := o_draw hLR hG hV (a := part) hk hw h403 h203
        refine lv_iload hx hb dL_law_956 (lv_at hl 0 rfl) ?_
        refine xr_if_eq (tgt := 971) hx hb dL_law_958 (by decide) (by decide) (fun yy5 => absurd yy5 (by decide)) (fun _ => ?_)
        refine lv_aload_n hx hb dL_law_961 rfl (lv_at hl 9 rfl) ?_
        refine lv_iload hx hb dL_law_962 (lv_at hl 30 rfl) ?_
        refine lv_iconst (v := iI (0)) hx hb dL_law_964 rfl ?_
        refine xk_pF (xr_S (As := [.ref (adM 20 0), .int (iI (w)), .int (iI (0))]) (rest := [.long (lI (cntNeed (st (st sg 204 (pl k) w) 205 (pl k) part) w))]) hx hb hml hown hts hK (c_L_needs hR hM w 0 (by omega) (by omega)) ms_L_needs kw_658 ⟨by decide, by decide⟩ ⟨by show _ ≤ 600104; omega, by show _ ≤ 7301314; omega⟩ rfl rfl hl.1 rfl (lv_room (Nat.le_of_ble_eq_true rfl)) dL_law_965) ?_
        have hop : lNeeds (st (st mu 1000 ((8 * k) + 3) (w)) 1000 ((8 * k) + 4) (part)) w 0 = cntNeed (st (st sg 204 (pl k) w) 205 (pl k) part) w := l_needs hLR.2.2.1 hLR.2.2.2.2.1 hw.1
        rw [hop]
        have hcr := cntNeed_rng (st (st sg 204 (pl k) w) 205 (pl k) part) w
        refine lv_goto (tgt := 974) hx hb dL_law_968 (by decide) ?_
        refine xr_i2l hx hb dL_law_974 (by omega) ?_
        refine lw_leq hx hb dL_law_975 (by first | rfl | omega | (rfl)) ?_
        refine xr_if_ne (tgt := 983) hx hb dL_law_976 (by decide) (by decide) (fun yy6 => absurd yy6 (by decide)) (fun _ => ?_)
        refine lv_iconst (v := iI (1)) hx hb dL_law_979 rfl ?_
        refine lv_goto (tgt := 984) hx hb dL_law_980 (by decide) ?_
        refine lv_istore (i := 23) (lv' := [(23, .int (iI (1))), (32, .int (iI (1))), (31, .int (iI (part))), (18, .int (iI (sg 503 0))), (19, .int (iI (sg 506 0))), (20, .long (lI (sg 510 0))), (24, .int (iI (turn))), (0, .ref b), (1, .ref hh), (2, .ref (adM 20 0)), (3, .ref (adM 21 0)), (4, .ref (adM 22 0)), (5, .ref (adM 23 0)), (6, .ref (adM 24 0)), (7, .ref (adM 25 0)), (8, .ref (adM 26 0)), (9, .ref (adM 27 0)), (10, .ref (adM 28 0)), (11, .ref (adM 29 0)), (12, .ref (adM 30 0)), (13, .ref (adM 31 0)), (14, .ref (adM 32 0)), (15, .ref (adM 33 0)), (16, .ref (adM 34 0)), (17, .ref (adM 35 0)), (25, .int (vx)), (26, .int (iI (what))), (27, .int (iI (k))), (28, .int (iI (8 * k))), (29, .int (iI (who))), (30, .int (iI (w)))]) hx hb dL_law_984 hl (by decide) rfl (fun ls hl => ?_)
        refine lv_goto (tgt := 3115) hx hb dL_law_986 (by decide) ?_
        refine W.widen (k := cells + 3) (n := slots + 45) (by omega) (by omega) ?_
        exact kk ad ((st (st sg 204 (pl k) w) 205 (pl k) part)) (st (st mu 1000 ((8 * k) + 3) (w)) 1000 ((8 * k) + 4) (part)) H locs ls _ _ _ ⟨hC, hR, h4, hLR, hz.1, hz.2, hM, hS⟩ (by show sg 702 0 ≤ sg 702 0 + 1; omega) rfl rfl rfl (lv_sub hl [0, 3, 4, 5, 6, 7, 8, 9, 10, 11, 12, 13, 14, 15, 16, 17, 18, 19, 20, 21, 22, 23, 24] rfl)
      · rw [q2]
        have hE := (a_draw hLR hG hw hk hpart).2.1 p1
        refine lv_istore (i := 32) (lv' := [(32, .int (iI (0))), (31, .int (iI (part))), (23, .int (iI (1))), (18, .int (iI (sg 503 0))), (19, .int (iI (sg 506 0))), (20, .long (lI (sg 510 0))), (24, .int (iI (turn))), (0, .ref b), (1, .ref hh), (2, .ref (adM 20 0)), (3, .ref (adM 21 0)), (4, .ref (adM 22 0)), (5, .ref (adM 23 0)), (6, .ref (adM 24 0)), (7, .ref (adM 25 0)), (8, .ref (adM 26 0)), (9, .ref (adM 27 0)), (10, .ref (adM 28 0)), (11, .ref (adM 29 0)), (12, .ref (adM 30 0)), (13, .ref (adM 31 0)), (14, .ref (adM 32 0)), (15, .ref (adM 33 0)), (16, .ref (adM 34 0)), (17, .ref (adM 35 0)), (25, .int (vx)), (26, .int (iI (what))), (27, .int (iI (k))), (28, .int (iI (8 * k))), (29, .int (iI (who))), (30, .int (iI (w)))]) hx hb dL_law_895 hl (by decide) rfl (fun ls hl => ?_)
        refine lv_aload_n hx hb dL_law_897 rfl (lv_at hl 9 rfl) ?_
        refine lv_iload hx hb dL_law_898 (lv_at hl 28 rfl) ?_
        refine lv_iconst (v := iI (3)) hx hb dL_law_900 rfl ?_
        refine xr_iadd hx hb dL_law_901 ?_
        refine lv_iload hx hb dL_law_902 (lv_at hl 0 rfl) ?_
        refine xr_if_eq (tgt := 912) hx hb dL_law_904 (by decide) (by decide) (fun _ => ?_) (fun yy7 => absurd yy7 (by decide))
        refine lv_aload_n hx hb dL_law_912 rfl (lv_at hl 9 rfl) ?_
        refine lv_iload hx hb dL_law_913 (lv_at hl 28 rfl) ?_
        refine lv_iconst (v := iI (3)) hx hb dL_law_915 rfl ?_
        refine xr_iadd hx hb dL_law_916 ?_
        refine xa_1000 (v := mu 1000 ((8 * k) + 3)) hx hb hK hR (by omega) rfl dL_law_917 ?_
        have g8 := ml_1000 hM0 ((8 * k) + 3)
        refine ys_1000 (v := mu 1000 ((8 * k) + 3)) hx hb hK hC hR hA2 hA1 hN12 hS (by omega) dL_law_918 (fun H locs hC hR hS => ?_)
        have hM := gl_1000 hM ((8 * k) + 3) (v := mu 1000 ((8 * k) + 3)) (by omega)
        refine lv_aload_n hx hb dL_law_919 rfl (lv_at hl 9 rfl) ?_
        refine lv_iload hx hb dL_law_920 (lv_at hl 28 rfl) ?_
        refine lv_iconst (v := iI (4)) hx hb dL_law_922 rfl ?_
        refine xr_iadd hx hb dL_law_923 ?_
        refine lv_iload hx hb dL_law_924 (lv_at hl 0 rfl) ?_
        refine xr_if_eq (tgt := 934) hx hb dL_law_926 (by decide) (by decide) (fun _ => ?_) (fun yy9 => absurd yy9 (by decide))
        refine lv_aload_n hx hb dL_law_934 rfl (lv_at hl 9 rfl) ?_
        refine lv_iload hx hb dL_law_935 (lv_at hl 28 rfl) ?_
        refine lv_iconst (v := iI (4)) hx hb dL_law_937 rfl ?_
        refine xr_iadd hx hb dL_law_938 ?_
        refine xa_1000 (v := mu 1000 ((8 * k) + 4)) hx hb hK hR (by omega) ((st_j (by omega)).trans rfl) dL_law_939 ?_
        have g10 := ml_1000 hM0 ((8 * k) + 4)
        refine ys_1000 (v := mu 1000 ((8 * k) + 4)) hx hb hK hC hR hA2 hA1 hN12 hS (by omega) dL_law_940 (fun H locs hC hR hS => ?_)
        have hM := gl_1000 hM ((8 * k) + 4) (v := mu 1000 ((8 * k) + 4)) (by omega)
        refine lv_aload_n hx hb dL_law_941 rfl (lv_at hl 8 rfl) ?_
        refine lv_iconst (v := iI (3)) hx hb dL_law_942 rfl ?_
        refine lv_iload hx hb dL_law_943 (lv_at hl 30 rfl) ?_
        refine lv_iload hx hb dL_law_945 (lv_at hl 27 rfl) ?_
        refine lw_plot hx hb hml hown hts hK hl.1 ⟨by omega, by omega⟩ (by omega) (lv_room (Nat.le_of_ble_eq_true rfl)) dL_law_947 ?_
        refine lv_iload hx hb dL_law_950 (lv_at hl 1 rfl) ?_
        refine lv_iconst (v := iI (0)) hx hb dL_law_952 rfl ?_
        refine lw_act (f := 8) (lo := 132) (mc := 1) (ms := 6) (E := drawE sg w (pl k) part) (T := (st (st sg 204 (pAt (pl k)) (sAt sg w)) 205 (pAt (pl k)) part)) hx hb hml hown hts hK hXS hXN hS hA1 hN12 hG hR h4 (c_act_3 hC hG hl0 (lw_hA hA hR) w (pl k) part 0 (by omega) (by omega) (by omega)) ⟨by decide, by decide⟩ ⟨by omega, by omega⟩ hl.1 (Nat.le_of_ble_eq_true rfl) dL_law_953 (fun ad H locs h4 hC hR hS => ?_)
        rw [if_neg (by rw [hE]; decide)] at hC
        rw [aR_n (by rw [hE]; decide), hE]
        refine lv_iload hx hb dL_law_956 (lv_at hl 0 rfl) ?_
        refine xr_if_eq (tgt := 971) hx hb dL_law_958 (by decide) (by decide) (fun _ => ?_) (fun yy11 => absurd yy11 (by decide))
        refine lv_sipush (v := iI (-1003)) hx hb dL_law_971 (by decide) ?_
        refine xr_i2l hx hb dL_law_974 (by omega) ?_
        refine lw_leq hx hb dL_law_975 (by first | rfl | omega | (rfl)) ?_
        refine xr_if_ne (tgt := 983) hx hb dL_law_976 (by decide) (by decide) (fun yy12 => absurd yy12 (by decide)) (fun _ => ?_)
        refine lv_iconst (v := iI (1)) hx hb dL_law_979 rfl ?_
        refine lv_goto (tgt := 984) hx hb dL_law_980 (by decide) ?_
        refine lv_istore (i := 23) (lv' := [(23, .int (iI (1))), (32, .int (iI (0))), (31, .int (iI (part))), (18, .int (iI (sg 503 0))), (19, .int (iI (sg 506 0))), (20, .long (lI (sg 510 0))), (24, .int (iI (turn))), (0, .ref b), (1, .ref hh), (2, .ref (adM 20 0)), (3, .ref (adM 21 0)), (4, .ref (adM 22 0)), (5, .ref (adM 23 0)), (6, .ref (adM 24 0)), (7, .ref (adM 25 0)), (8, .ref (adM 26 0)), (9, .ref (adM 27 0)), (10, .ref (adM 28 0)), (11, .ref (adM 29 0)), (12, .ref (adM 30 0)), (13, .ref (adM 31 0)), (14, .ref (adM 32 0)), (15, .ref (adM 33 0)), (16, .ref (adM 34 0)), (17, .ref (adM 35 0)), (25, .int (vx)), (26, .int (iI (what))), (27, .int (iI (k))), (28, .int (iI (8 * k))), (29, .int (iI (who))), (30, .int (iI (w)))]) hx hb dL_law_984 hl (by decide) rfl (fun ls hl => ?_)
        refine lv_goto (tgt := 3115) hx hb dL_law_986 (by decide) ?_
        refine W.widen (k := cells + 3) (n := slots + 45) (by omega) (by omega) ?_
        exact kk ad sg (st (st mu 1000 ((8 * k) + 3) (mu 1000 ((8 * k) + 3))) 1000 ((8 * k) + 4) (mu 1000 ((8 * k) + 4))) H locs ls _ _ _ ⟨hC, hR, h4, (by rw [st_id (sg := mu) rfl, st_id (sg := mu) rfl]; exact hLR), hV, hG, hM, hS⟩ (by omega) rfl rfl rfl (lv_sub hl [0, 3, 4, 5, 6, 7, 8, 9, 10, 11, 12, 13, 14, 15, 16, 17, 18, 19, 20, 21, 22, 23, 24] rfl)
    refine lv_aload hx hb dL_law_864 (lv_at hl 19 rfl) ?_
    refine lv_iload hx hb dL_law_866 (lv_at hl 29 rfl) ?_
    refine xa_1011 (v := mu 1011 w) hx hb hK hR (by omega) rfl dL_law_868 ?_
    have g13 := ml_1011 hM0 (w)
    refine xr_if_ne (tgt := 894) hx hb dL_law_869 (by decide) (by omega) (fun yy14 => ?_) (fun yy14 => ?_)
    · skip
      refine lv_iconst (v := iI (0)) hx hb dL_law_894 rfl ?_
      exact w_topI (by first | exact (bI_t (by first | omega | grind)).symm | exact (bI_f (by first | omega | grind)).symm) J895
    · skip
      refine lv_aload_n hx hb dL_law_872 rfl (lv_at hl 8 rfl) ?_
      refine lv_iload hx hb dL_law_873 (lv_at hl 27 rfl) ?_
      refine lv_iconst (v := iI (2)) hx hb dL_law_875 rfl ?_
      refine xr_iadd hx hb dL_law_876 ?_
      refine xa_1000 (v := mu 1000 ((8 * k) + 2)) hx hb hK hR (by omega) rfl dL_law_877 ?_
      have g15 := ml_1000 hM0 ((8 * k) + 2)
      refine xr_if_ne (tgt := 894) hx hb dL_law_878 (by decide) (by omega) (fun yy16 => ?_) (fun yy16 => ?_)
      · skip
        refine lv_iconst (v := iI (0)) hx hb dL_law_894 rfl ?_
        exact w_topI (by first | exact (bI_t (by first | omega | grind)).symm | exact (bI_f (by first | omega | grind)).symm) J895
      · skip
        refine lv_aload_n hx hb dL_law_881 rfl (lv_at hl 8 rfl) ?_
        refine lv_iload hx hb dL_law_882 (lv_at hl 27 rfl) ?_
        refine lv_iconst (v := iI (3)) hx hb dL_law_884 rfl ?_
        refine xr_iadd hx hb dL_law_885 ?_
        refine xa_1000 (v := mu 1000 ((8 * k) + 3)) hx hb hK hR (by omega) rfl dL_law_886 ?_
        have g17 := ml_1000 hM0 ((8 * k) + 3)
        refine xr_if_ge (tgt := 894) hx hb dL_law_887 (by decide) (by omega) (fun yy18 => ?_) (fun yy18 => ?_)
        · skip
          refine lv_iconst (v := iI (0)) hx hb dL_law_894 rfl ?_
          exact w_topI (by first | exact (bI_t (by first | omega | grind)).symm | exact (bI_f (by first | omega | grind)).symm) J895
        · skip
          refine lv_iconst (v := iI (1)) hx hb dL_law_890 rfl ?_
          refine lv_goto (tgt := 895) hx hb dL_law_891 (by decide) ?_
          exact w_topI (by first | exact (bI_t (by first | omega | grind)).symm | exact (bI_f (by first | omega | grind)).symm) J895
  refine lv_iload hx hb dL_law_831 (lv_at hl 23 rfl) ?_
  refine lv_sipush (v := iI (256)) hx hb dL_law_833 (by decide) ?_
  refine lw_idiv hx hb (by decide) dL_law_836 ?_
  refine lv_iconst (v := iI (3)) hx hb dL_law_837 rfl ?_
  refine lw_up (n := 3) hx hb hml hown hts hK hl.1 ⟨by omega, by omega⟩ (by decide) (lv_room (Nat.le_of_ble_eq_true rfl)) dL_law_838 (fun u19 u19a u19b => ?_)
  refine xr_if_ne (tgt := 849) hx hb dL_law_841 (by decide) (by omega) (fun yy20 => ?_) (fun yy20 => ?_)
  · skip
    refine lv_iconst (v := iI (1)) hx hb dL_law_849 rfl ?_
    refine lv_iload hx hb dL_law_850 (lv_at hl 23 rfl) ?_
    refine lv_sipush (v := iI (512)) hx hb dL_law_852 (by decide) ?_
    refine lw_idiv hx hb (by decide) dL_law_855 ?_
    refine lv_bipush (v := iI (100)) hx hb dL_law_856 (by decide) ?_
    refine lw_up (n := 100) hx hb hml hown hts hK hl.1 ⟨by omega, by omega⟩ (by decide) (lv_room (Nat.le_of_ble_eq_true rfl)) dL_law_858 (fun u21 u21a u21b => ?_)
    refine xr_iadd hx hb dL_law_861 ?_
    exact J862 (1 + u21) (by omega)
  · skip
    refine lv_bipush (v := iI (100)) hx hb dL_law_844 (by decide) ?_
    refine lv_goto (tgt := 862) hx hb dL_law_846 (by decide) ?_
    exact J862 (100) (by omega)
