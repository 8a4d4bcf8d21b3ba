theorem ms_X4_init : Cond.code yX4_init cX4_init 2 none ∈ wG ∧ Cond.instanceMethod yX4_init ∈ wG ∧ Cond.initialized yX4_init.cls ∈ wG := ⟨kw_17, kw_16, kw_1⟩
set_option maxRecDepth 100000 in
set_option maxHeartbeats 8000000 in
theorem c_X4_init {l : Launch} {D : va_G} {cy : Nat → ClassId} {A : Nat → Prop} {H : Heap} {q : Nat} (hA : ∀ x : Nat, H.size ≤ x → A x) (hq : A q) (hO : va_at D vwCl (q, .inr (4, [.null, .null, .null, .int 0, .null, .int 0, .int 0, .long 0, .long 0, .long 0, .long 0, .long 0])) H) : Met l yX4_init (Cond.code yX4_init cX4_init 2 none :: wG) (rmF 2 63 43 472) (PcO D cy H [.ref q]) (Qm none (fun H' => ∃ ad' : Nat → Int → Nat, ad' 4 0 = q ∧ RC D cy A ad' (zT 36 3) H') A) 43 472 A := by
  refine met_ofO (la := [(0, .ref q)]) (by decide) (Nat.le_of_ble_eq_true rfl) rfl ?_
  intro p e R s m args below meth c ls hRm hx hb hml hr hlk hin hown hts hsH hK hAO hl
  subst hRm
  have hown : s.vm.findClass "Takinghall" = some m.cls := hown
  have hw4 : ∀ w ∈ u_ws RX4 TX4 12, w.before args s = true := fun w h => hts w (uw_X4 w h)
  have hS : va_S A s.heap H [] := by rw [hsH]; exact va_S.rf
  have hP : va_P D vwCl [(q, .inr (4, [.null, .null, .null, .int 0, .null, .int 0, .int 0, .long 0, .long 0, .long 0, .long 0, .long 0]))] H := fun k x h => by
    cases k with
    | zero => cases h; exact hO
    | succ k => simp at h
  have hD : va_D A [(q, .inr (4, [.null, .null, .null, .int 0, .null, .int 0, .int 0, .long 0, .long 0, .long 0, .long 0, .long 0]))] := ⟨fun i j x y hi hj _ => by
    have h1 : i < 1 := (List.getElem?_eq_some_iff.mp hi).1
    have h2 : j < 1 := (List.getElem?_eq_some_iff.mp hj).1
    omega, fun k x h => by
    cases k with
    | zero => cases h; exact hq
    | succ k => simp at h⟩
  refine lv_aload_n hx hb dX4_init_0 rfl (lv_at hl 0 rfl) ?_
  refine W.objInit hx hb hown (hts _ kw_18) (hts _ kw_19) (hts _ kw_20) rfl (by rw [hml]; exact hl.1) rfl dX4_init_1 (Nat.le_of_ble_eq_true rfl) (Nat.le_of_ble_eq_true rfl) ?_
  refine W.eq (g2 := F0 m 4 ls []) rfl ?_
  refine lv_aload_n hx hb dX4_init_4 rfl (lv_at hl 0 rfl) ?_
  refine lv_bipush (v := iI (36)) hx hb dX4_init_5 (by decide) ?_
  refine va_newq (C := "Takinghall$Plot") (N' := 36) hx hb hown (hts _ kw_21) hAO.1 hK hP hD hS (by rw [hsH]; exact hA) (by decide) (by decide) (by decide) (Nat.le_of_ble_eq_true rfl) (Nat.le_of_ble_eq_true rfl) dX4_init_7 (fun q0 cA H hK1 hP hD hS => ?_)
  have hcA : cA = cy 10 := cy_u 4 rfl hK1 ra_o
  subst hcA
  clear hK1
  refine va_putF (v := .ref q0) (fs := [.null, .null, .null, .int 0, .null, .int 0, .int 0, .long 0, .long 0, .long 0, .long 0, .long 0]) hx hb hw4 (fun _ h => h) tyX4 tyX4_ok nmX4 hown hK hP hD hS 0 rfl rfl 0 (by decide) (hts _ kw_91) (fun _ h => h) rfl (hin rfl) rfl (ty := (.array (.object "Takinghall$Plot"))) (by decide +kernel) rfl rfl (Nat.le_of_ble_eq_true rfl) dX4_init_10 (fun H locs hP hD hS => ?_)
  have hP : va_P D vwCl [(q, .inr (4, [.ref q0, .null, .null, .int 0, .null, .int 0, .int 0, .long 0, .long 0, .long 0, .long 0, .long 0])), (q0, .inl (cy 10, 36, .inr (.inr (.inr (.inr (fun _ => none))))))] H := hP
  have hD : va_D A [(q, .inr (4, [.ref q0, .null, .null, .int 0, .null, .int 0, .int 0, .long 0, .long 0, .long 0, .long 0, .long 0])), (q0, .inl (cy 10, 36, .inr (.inr (.inr (.inr (fun _ => none))))))] := hD
  refine lv_aload_n hx hb dX4_init_13 rfl (lv_at hl 0 rfl) ?_
  refine lv_iconst (v := iI (3)) hx hb dX4_init_14 rfl ?_
  refine va_newq (C := "Takinghall$Price") (N' := 3) hx hb hown (hts _ kw_23) hAO.2.1 hK hP hD hS (by rw [hsH]; exact hA) (by decide) (by decide) (by decide) (Nat.le_of_ble_eq_true rfl) (Nat.le_of_ble_eq_true rfl) dX4_init_15 (fun q1 cA H hK1 hP hD hS => ?_)
  have hcA : cA = cy 11 := cy_u 5 rfl hK1 ra_o
  subst hcA
  clear hK1
  refine va_putF (v := .ref q1) (fs := [.ref q0, .null, .null, .int 0, .null, .int 0, .int 0, .long 0, .long 0, .long 0, .long 0, .long 0]) hx hb hw4 (fun _ h => h) tyX4 tyX4_ok nmX4 hown hK hP hD hS 0 rfl rfl 1 (by decide) (hts _ kw_92) (fun _ h => h) rfl (hin rfl) rfl (ty := (.array (.object "Takinghall$Price"))) (by decide +kernel) rfl rfl (Nat.le_of_ble_eq_true rfl) dX4_init_18 (fun H locs hP hD hS => ?_)
  have hP : va_P D vwCl [(q, .inr (4, [.ref q0, .ref q1, .null, .int 0, .null, .int 0, .int 0, .long 0, .long 0, .long 0, .long 0, .long 0])), (q0, .inl (cy 10, 36, .inr (.inr (.inr (.inr (fun _ => none)))))), (q1, .inl (cy 11, 3, .inr (.inr (.inr (.inr (fun _ => none))))))] H := hP
  have hD : va_D A [(q, .inr (4, [.ref q0, .ref q1, .null, .int 0, .null, .int 0, .int 0, .long 0, .long 0, .long 0, .long 0, .long 0])), (q0, .inl (cy 10, 36, .inr (.inr (.inr (.inr (fun _ => none)))))), (q1, .inl (cy 11, 3, .inr (.inr (.inr (.inr (fun _ => none))))))] := hD
  refine lv_aload_n hx hb dX4_init_21 rfl (lv_at hl 0 rfl) ?_
  refine lv_bipush (v := iI (24)) hx hb dX4_init_22 (by decide) ?_
  refine va_newq (C := "Takinghall$Interest") (N' := 24) hx hb hown (hts _ kw_25) hAO.2.2.1 hK hP hD hS (by rw [hsH]; exact hA) (by decide) (by decide) (by decide) (Nat.le_of_ble_eq_true rfl) (Nat.le_of_ble_eq_true rfl) dX4_init_24 (fun q2 cA H hK1 hP hD hS => ?_)
  have hcA : cA = cy 9 := cy_u 3 rfl hK1 ra_o
  subst hcA
  clear hK1
  refine va_putF (v := .ref q2) (fs := [.ref q0, .ref q1, .null, .int 0, .null, .int 0, .int 0, .long 0, .long 0, .long 0, .long 0, .long 0]) hx hb hw4 (fun _ h => h) tyX4 tyX4_ok nmX4 hown hK hP hD hS 0 rfl rfl 2 (by decide) (hts _ kw_93) (fun _ h => h) rfl (hin rfl) rfl (ty := (.array (.object "Takinghall$Interest"))) (by decide +kernel) rfl rfl (Nat.le_of_ble_eq_true rfl) dX4_init_27 (fun H locs hP hD hS => ?_)
  have hP : va_P D vwCl [(q, .inr (4, [.ref q0, .ref q1, .ref q2, .int 0, .null, .int 0, .int 0, .long 0, .long 0, .long 0, .long 0, .long 0])), (q0, .inl (cy 10, 36, .inr (.inr (.inr (.inr (fun _ => none)))))), (q1, .inl (cy 11, 3, .inr (.inr (.inr (.inr (fun _ => none)))))), (q2, .inl (cy 9, 24, .inr (.inr (.inr (.inr (fun _ => none))))))] H := hP
  have hD : va_D A [(q, .inr (4, [.ref q0, .ref q1, .ref q2, .int 0, .null, .int 0, .int 0, .long 0, .long 0, .long 0, .long 0, .long 0])), (q0, .inl (cy 10, 36, .inr (.inr (.inr (.inr (fun _ => none)))))), (q1, .inl (cy 11, 3, .inr (.inr (.inr (.inr (fun _ => none)))))), (q2, .inl (cy 9, 24, .inr (.inr (.inr (.inr (fun _ => none))))))] := hD
  refine lv_aload_n hx hb dX4_init_30 rfl (lv_at hl 0 rfl) ?_
  refine lv_iconst (v := iI (4)) hx hb dX4_init_31 rfl ?_
  refine va_newq (C := "Takinghall$Scheme") (N' := 4) hx hb hown (hts _ kw_27) hAO.2.2.2 hK hP hD hS (by rw [hsH]; exact hA) (by decide) (by decide) (by decide) (Nat.le_of_ble_eq_true rfl) (Nat.le_of_ble_eq_true rfl) dX4_init_32 (fun q3 cA H hK1 hP hD hS => ?_)
  have hcA : cA = cy 12 := cy_u 6 rfl hK1 ra_o
  subst hcA
  clear hK1
  refine va_putF (v := .ref q3) (fs := [.ref q0, .ref q1, .ref q2, .int 0, .null, .int 0, .int 0, .long 0, .long 0, .long 0, .long 0, .long 0]) hx hb hw4 (fun _ h => h) tyX4 tyX4_ok nmX4 hown hK hP hD hS 0 rfl rfl 4 (by decide) (hts _ kw_95) (fun _ h => h) rfl (hin rfl) rfl (ty := (.array (.object "Takinghall$Scheme"))) (by decide +kernel) rfl rfl (Nat.le_of_ble_eq_true rfl) dX4_init_35 (fun H locs hP hD hS => ?_)
  have hP : va_P D vwCl [(q, .inr (4, [.ref q0, .ref q1, .ref q2, .int 0, .ref q3, .int 0, .int 0, .long 0, .long 0, .long 0, .long 0, .long 0])), (q0, .inl (cy 10, 36, .inr (.inr (.inr (.inr (fun _ => none)))))), (q1, .inl (cy 11, 3, .inr (.inr (.inr (.inr (fun _ => none)))))), (q2, .inl (cy 9, 24, .inr (.inr (.inr (.inr (fun _ => none)))))), (q3, .inl (cy 12, 4, .inr (.inr (.inr (.inr (fun _ => none))))))] H := hP
  have hD : va_D A [(q, .inr (4, [.ref q0, .ref q1, .ref q2, .int 0, .ref q3, .int 0, .int 0, .long 0, .long 0, .long 0, .long 0, .long 0])), (q0, .inl (cy 10, 36, .inr (.inr (.inr (.inr (fun _ => none)))))), (q1, .inl (cy 11, 3, .inr (.inr (.inr (.inr (fun _ => none)))))), (q2, .inl (cy 9, 24, .inr (.inr (.inr (.inr (fun _ => none)))))), (q3, .inl (cy 12, 4, .inr (.inr (.inr (.inr (fun _ => none))))))] := hD
  obtain ⟨ad, h4, hR⟩ : ∃ ad : Nat → Int → Nat, ad 4 0 = q ∧ RC D cy A ad (zT 0 0) H := by
    refine ⟨fun k _ => if k = 10 then q0 else if k = 11 then q1 else if k = 9 then q2 else if k = 12 then q3 else q, rfl, [((4 : Nat), (0 : Int)), (10, 0), (11, 0), (9, 0), (12, 0)], by decide, fun k j => ?_, ?_, ?_⟩
    · constructor
      · intro h
        simp only [List.mem_cons, Prod.mk.injEq, List.not_mem_nil, or_false] at h
        rcases h with z | z | z | z | z <;> exact ⟨by rw [z.2]; exact Int.le_refl 0, by rw [z.1, z.2]; exact (by decide : (0 : Int) < 1)⟩
      · rintro ⟨h0, h1⟩
        have h3 : (k = 4 ∨ k = 10 ∨ k = 11 ∨ k = 9 ∨ k = 12) ∧ j = 0 := by
          unfold zT zC at h1
          (repeat' split at h1) <;> omega
        obtain ⟨h3, rfl⟩ := h3
        simp only [List.mem_cons, Prod.mk.injEq, List.not_mem_nil, or_false, and_true]
        exact h3
    · exact hP
    · exact hD
  rw [← h4] at hl
  have hw1 : ∀ w ∈ u_ws RX1 TX1 11, w.before args s = true := fun w h => hts w (uw_X1 w h)
  have hw2 : ∀ w ∈ u_ws RX2 TX2 3, w.before args s = true := fun w h => hts w (uw_X2 w h)
  refine lv_iconst (v := iI (0)) hx hb dX4_init_38 rfl ?_
  refine lv_istore_n (i := 1) (lv' := [(1, .int (iI (0))), (0, .ref (ad 4 (0)))]) hx hb dX4_init_39 rfl hl (by decide) rfl (fun ls hl => ?_)
  have loop40 : ∀ (n : Nat) (i : Int), 0 ≤ i → i ≤ 36 → (36 - i).toNat < n → ∀ (ad : Nat → Int → Nat) (H : Heap) (locs : List Loc), ad 4 0 = q → RC D cy A ad (zT i 0) H → va_S A s.heap H locs → ∀ ls : Array Slot, lv_has ls 2 [(0, .ref (ad 4 (0))), (1, .int (iI (i)))] → W p l e (rmF 2 63 43 472) s m args below meth c H locs (4 + i.toNat) (67 + 11 * i.toNat) (MQ below (Qm none (fun H' => ∃ ad' : Nat → Int → Nat, ad' 4 0 = q ∧ RC D cy A ad' (zT 36 3) H') A) args s 43 472 A) (F0 m 40 ls []) := by
    intro n
    induction n with
    | zero =>
      intro i hi0 hi1 hn ad H locs h4 hR hS ls hl
      exact absurd hn (Nat.not_lt_zero _)
    | succ n ih =>
      intro i hi0 hi1 hn ad H locs h4 hR hS ls hl
      refine lv_iload_n hx hb dX4_init_40 rfl (lv_at hl 1 rfl) ?_
      refine lv_aload_n hx hb dX4_init_41 rfl (lv_at hl 0 rfl) ?_
      refine xg_500 (v := (zT i 0) 500 0) hx hb hw4 hown hK hR (zd (by decide)) (hts _ kw_91) rfl dX4_init_42 ?_
      have q1 : (zT i 0) 500 0 = 0 := rfl
      rw [q1, rv_p (Int.le_refl 0)]
      refine xl_601 hx hb hK hR (zd (by decide)) dX4_init_45 ?_
      refine xr_icmp_ge (tgt := 69) hx hb dX4_init_46 (by decide) (by omega) (by omega) (fun h2 => ?_) (fun h2 => ?_)
      · skip
        have ei : i = 36 := (by omega)
        subst ei
        refine W.widen (k := 40) (n := 463) (by decide) (by decide) ?_
        refine lv_aload_n hx hb dX4_init_69 rfl (lv_at hl 0 rfl) ?_
        refine xg_501 (v := (zT 36 0) 501 0) hx hb hw4 hown hK hR (zd (by decide)) (hts _ kw_92) rfl dX4_init_70 ?_
        have q3 : (zT 36 0) 501 0 = 0 := rfl
        rw [q3, rv_p (Int.le_refl 0)]
        refine lv_iconst (v := iI (0)) hx hb dX4_init_73 rfl ?_
        refine wr_new (C := RX2) (ci := 2) (fs := [.int 0, .int 0, .null]) hx hb hw2 tyX2 tyX2_ok hown (hts _ kw_23) (hts _ kw_73) (hts _ kw_3) hK hR hS (by rw [hsH]; exact hA) rfl xd_2 (by first | exact Nat.le_of_ble_eq_true rfl | (dsimp only; omega)) (by first | exact Nat.le_of_ble_eq_true rfl | (dsimp only; omega)) dX4_init_74 (fun q H hR hO hne hq hS => ?_)
        refine lv_dup hx hb dX4_init_77 rfl ?_
        refine lv_iconst (v := iI (0)) hx hb dX4_init_78 rfl ?_
        refine lv_iconst (v := iI (5)) hx hb dX4_init_79 rfl ?_
        refine lv_null hx hb dX4_init_80 ?_
        refine xk_m2 (xr_I (n := 3) (As := [.int (iI (0)), .int (iI (5)), .null]) (rest := [.ref q, .int (iI (0)), .ref (ad 11 (0))]) hx hb hml hown hts hK (c_X2_init hO 0 5 (fv := ad 2) (-1) (rv_n (by decide)).symm) ms_X2_init.1 ms_X2_init.2.1 ms_X2_init.2.2 rfl ⟨by decide, by decide, by decide +kernel⟩ kw_74 ⟨by decide, by decide⟩ ⟨(by first | exact Nat.le_of_ble_eq_true rfl | (dsimp only; omega)), (by first | exact Nat.le_of_ble_eq_true rfl | (dsimp only; omega))⟩ rfl rfl hl.1 rfl (lv_room (Nat.le_of_ble_eq_true rfl)) dX4_init_81) hS (fun x (hx1 : x = q) => by rw [hx1]; exact hq) (fun H locs hO hS hz hqq => ?_)
        have hR := wr_kept hR (fun k j hd => hqq _ (wr_lt hR hd).1 (hne k j hd))
        obtain ⟨ad2, hn, ho⟩ := ad_ext (ad := ad) (q := q) (K := 2) (n := 0) (dm := dmC (zT 36 0)) (fun z => by have z2 : 0 < (zT 36 0) 702 0 := z.2; have z3 : (zT 36 0) 702 0 = 0 := rfl; omega)
        rw [← rv_ad (f := ad2 2) (g := ad 2) (v := -1) (fun h => absurd h (by decide))] at hO
        have h4 := (ho 4 0 (zd (by decide))).trans h4
        have hR : RC D cy A ad2 (nw (zT 36 0) 300 702 (0) [0, 5, -1]) H := puW_2 hR (gw_zT (by decide) (by decide)) rfl (by omega) hn ho hne hq hO
        rw [← ho 4 0 (zd (by decide))] at hl
        rw [← ho 11 0 (zd (by decide))]
        subst hn
        refine xs_602 (v := 0) hx hb hK hR hS (nwd (by simp) rfl (zd (by decide))) (nwd_n (by simp) (by omega) rfl) (by first | omega | (refine ⟨by omega, ?_⟩; rw [nw_o (Or.inl (by simp)) (Or.inl (by decide))]; rfl)) dX4_init_84 (fun H locs hR hS => ?_)
        have hR : RC D cy A ad2 (zT 36 1) H := by rw [show (1 : Int) = 0 + 1 from rfl, ← zT_q (a := 36) (b := 0) (ce := 5) (by decide) (by decide)]; exact hR
        refine lv_aload_n hx hb dX4_init_85 rfl (lv_at hl 0 rfl) ?_
        refine xg_501 (v := (zT 36 1) 501 0) hx hb hw4 hown hK hR (zd (by decide)) (hts _ kw_92) rfl dX4_init_86 ?_
        have q4 : (zT 36 1) 501 0 = 0 := rfl
        rw [q4, rv_p (Int.le_refl 0)]
        refine lv_iconst (v := iI (1)) hx hb dX4_init_89 rfl ?_
        refine wr_new (C := RX2) (ci := 2) (fs := [.int 0, .int 0, .null]) hx hb hw2 tyX2 tyX2_ok hown (hts _ kw_23) (hts _ kw_73) (hts _ kw_3) hK hR hS (by rw [hsH]; exact hA) rfl xd_2 (by first | exact Nat.le_of_ble_eq_true rfl | (dsimp only; omega)) (by first | exact Nat.le_of_ble_eq_true rfl | (dsimp only; omega)) dX4_init_90 (fun q H hR hO hne hq hS => ?_)
        refine lv_dup hx hb dX4_init_93 rfl ?_
        refine lv_iconst (v := iI (0)) hx hb dX4_init_94 rfl ?_
        refine lv_bipush (v := iI (20)) hx hb dX4_init_95 (by decide) ?_
        refine lv_null hx hb dX4_init_97 ?_
        refine xk_m2 (xr_I (n := 3) (As := [.int (iI (0)), .int (iI (20)), .null]) (rest := [.ref q, .int (iI (1)), .ref (ad2 11 (0))]) hx hb hml hown hts hK (c_X2_init hO 0 20 (fv := ad2 2) (-1) (rv_n (by decide)).symm) ms_X2_init.1 ms_X2_init.2.1 ms_X2_init.2.2 rfl ⟨by decide, by decide, by decide +kernel⟩ kw_74 ⟨by decide, by decide⟩ ⟨(by first | exact Nat.le_of_ble_eq_true rfl | (dsimp only; omega)), (by first | exact Nat.le_of_ble_eq_true rfl | (dsimp only; omega))⟩ rfl rfl hl.1 rfl (lv_room (Nat.le_of_ble_eq_true rfl)) dX4_init_98) hS (fun x (hx1 : x = q) => by rw [hx1]; exact hq) (fun H locs hO hS hz hqq => ?_)
        have hR := wr_kept hR (fun k j hd => hqq _ (wr_lt hR hd).1 (hne k j hd))
        obtain ⟨ad3, hn, ho⟩ := ad_ext (ad := ad2) (q := q) (K := 2) (n := 1) (dm := dmC (zT 36 1)) (fun z => by have z2 : 1 < (zT 36 1) 702 0 := z.2; have z3 : (zT 36 1) 702 0 = 1 := rfl; omega)
        rw [← rv_ad (f := ad3 2) (g := ad2 2) (v := -1) (fun h => absurd h (by decide))] at hO
        have h4 := (ho 4 0 (zd (by decide))).trans h4
        have hR : RC D cy A ad3 (nw (zT 36 1) 300 702 (1) [0, 20, -1]) H := puW_2 hR (gw_zT (by decide) (by decide)) rfl (by omega) hn ho hne hq hO
        rw [← ho 4 0 (zd (by decide))] at hl
        rw [← ho 11 0 (zd (by decide))]
        subst hn
        refine xs_602 (v := 1) hx hb hK hR hS (nwd (by simp) rfl (zd (by decide))) (nwd_n (by simp) (by omega) rfl) (by first | omega | (refine ⟨by omega, ?_⟩; rw [nw_o (Or.inl (by simp)) (Or.inl (by decide))]; rfl)) dX4_init_101 (fun H locs hR hS => ?_)
        have hR : RC D cy A ad3 (zT 36 2) H := by rw [show (2 : Int) = 1 + 1 from rfl, ← zT_q (a := 36) (b := 1) (ce := 20) (by decide) (by decide)]; exact hR
        refine lv_aload_n hx hb dX4_init_102 rfl (lv_at hl 0 rfl) ?_
        refine xg_501 (v := (zT 36 2) 501 0) hx hb hw4 hown hK hR (zd (by decide)) (hts _ kw_92) rfl dX4_init_103 ?_
        have q5 : (zT 36 2) 501 0 = 0 := rfl
        rw [q5, rv_p (Int.le_refl 0)]
        refine lv_iconst (v := iI (2)) hx hb dX4_init_106 rfl ?_
        refine wr_new (C := RX2) (ci := 2) (fs := [.int 0, .int 0, .null]) hx hb hw2 tyX2 tyX2_ok hown (hts _ kw_23) (hts _ kw_73) (hts _ kw_3) hK hR hS (by rw [hsH]; exact hA) rfl xd_2 (by first | exact Nat.le_of_ble_eq_true rfl | (dsimp only; omega)) (by first | exact Nat.le_of_ble_eq_true rfl | (dsimp only; omega)) dX4_init_107 (fun q H hR hO hne hq hS => ?_)
        refine lv_dup hx hb dX4_init_110 rfl ?_
        refine lv_iconst (v := iI (0)) hx hb dX4_init_111 rfl ?_
        refine lv_bipush (v := iI (30)) hx hb dX4_init_112 (by decide) ?_
        refine lv_null hx hb dX4_init_114 ?_
        refine xk_m2 (xr_I (n := 3) (As := [.int (iI (0)), .int (iI (30)), .null]) (rest := [.ref q, .int (iI (2)), .ref (ad3 11 (0))]) hx hb hml hown hts hK (c_X2_init hO 0 30 (fv := ad3 2) (-1) (rv_n (by decide)).symm) ms_X2_init.1 ms_X2_init.2.1 ms_X2_init.2.2 rfl ⟨by decide, by decide, by decide +kernel⟩ kw_74 ⟨by decide, by decide⟩ ⟨(by first | exact Nat.le_of_ble_eq_true rfl | (dsimp only; omega)), (by first | exact Nat.le_of_ble_eq_true rfl | (dsimp only; omega))⟩ rfl rfl hl.1 rfl (lv_room (Nat.le_of_ble_eq_true rfl)) dX4_init_115) hS (fun x (hx1 : x = q) => by rw [hx1]; exact hq) (fun H locs hO hS hz hqq => ?_)
        have hR := wr_kept hR (fun k j hd => hqq _ (wr_lt hR hd).1 (hne k j hd))
        obtain ⟨ad4, hn, ho⟩ := ad_ext (ad := ad3) (q := q) (K := 2) (n := 2) (dm := dmC (zT 36 2)) (fun z => by have z2 : 2 < (zT 36 2) 702 0 := z.2; have z3 : (zT 36 2) 702 0 = 2 := rfl; omega)
        rw [← rv_ad (f := ad4 2) (g := ad3 2) (v := -1) (fun h => absurd h (by decide))] at hO
        have h4 := (ho 4 0 (zd (by decide))).trans h4
        have hR : RC D cy A ad4 (nw (zT 36 2) 300 702 (2) [0, 30, -1]) H := puW_2 hR (gw_zT (by decide) (by decide)) rfl (by omega) hn ho hne hq hO
        rw [← ho 4 0 (zd (by decide))] at hl
        rw [← ho 11 0 (zd (by decide))]
        subst hn
        refine xs_602 (v := 2) hx hb hK hR hS (nwd (by simp) rfl (zd (by decide))) (nwd_n (by simp) (by omega) rfl) (by first | omega | (refine ⟨by omega, ?_⟩; rw [nw_o (Or.inl (by simp)) (Or.inl (by decide))]; rfl)) dX4_init_118 (fun H locs hR hS => ?_)
        have hR : RC D cy A ad4 (zT 36 3) H := by rw [show (3 : Int) = 2 + 1 from rfl, ← zT_q (a := 36) (b := 2) (ce := 30) (by decide) (by decide)]; exact hR
        refine W.widen (k := 43) (n := 472) (by decide) (by decide) ?_
        exact xm_v hx hb hr hlk hS dX4_init_119 (by exact ⟨ad4, h4, hR⟩)
      · skip
        refine lv_aload_n hx hb dX4_init_49 rfl (lv_at hl 0 rfl) ?_
        refine xg_500 (v := (zT i 0) 500 0) hx hb hw4 hown hK hR (zd (by decide)) (hts _ kw_91) rfl dX4_init_50 ?_
        have q6 : (zT i 0) 500 0 = 0 := rfl
        rw [q6, rv_p (Int.le_refl 0)]
        refine lv_iload_n hx hb dX4_init_53 rfl (lv_at hl 1 rfl) ?_
        refine wr_new (C := RX1) (ci := 1) (fs := [.int 0, .int 0, .int 0, .int 0, .null, .int 0, .int 0, .null, .int 0, .null, .int 0]) hx hb hw1 tyX1 tyX1_ok hown (hts _ kw_21) (hts _ kw_29) (hts _ kw_2) hK hR hS (by rw [hsH]; exact hA) rfl xd_1 (by first | exact Nat.le_of_ble_eq_true rfl | (dsimp only; omega)) (by first | exact Nat.le_of_ble_eq_true rfl | (dsimp only; omega)) dX4_init_54 (fun q H hR hO hne hq hS => ?_)
        refine lv_dup hx hb dX4_init_57 rfl ?_
        refine lv_iload_n hx hb dX4_init_58 rfl (lv_at hl 1 rfl) ?_
        refine xk_m2 (xr_I (n := 1) (As := [.int (iI (i))]) (rest := [.ref q, .int (iI (i)), .ref (ad 10 (0))]) hx hb hml hown hts hK (c_X1_init hO i) ms_X1_init.1 ms_X1_init.2.1 ms_X1_init.2.2 rfl ⟨by decide, by decide, by decide +kernel⟩ kw_30 ⟨by decide, by decide⟩ ⟨(by first | exact Nat.le_of_ble_eq_true rfl | (dsimp only; omega)), (by first | exact Nat.le_of_ble_eq_true rfl | (dsimp only; omega))⟩ rfl rfl hl.1 rfl (lv_room (Nat.le_of_ble_eq_true rfl)) dX4_init_59) hS (fun x (hx1 : x = q) => by rw [hx1]; exact hq) (fun H locs hO hS hz hqq => ?_)
        have hR := wr_kept hR (fun k j hd => hqq _ (wr_lt hR hd).1 (hne k j hd))
        obtain ⟨ad5, hn, ho⟩ := ad_ext (ad := ad) (q := q) (K := 1) (n := i) (dm := dmC (zT i 0)) (fun z => by have z2 : i < (zT i 0) 701 0 := z.2; have z3 : (zT i 0) 701 0 = i := rfl; omega)
        have h4 := (ho 4 0 (zd (by decide))).trans h4
        have hR : RC D cy A ad5 (nw (zT i 0) 200 701 (i) [i, 10, 0, 0, -1, 0, -1, -1, 0, -1, 0]) H := puW_1 hR (gw_zT hi0 (by decide)) rfl (by omega) hn ho hne hq hO
        rw [← ho 4 0 (zd (by decide))] at hl
        rw [← ho 10 0 (zd (by decide))]
        subst hn
        refine xs_601 (v := i) hx hb hK hR hS (nwd (by simp) rfl (zd (by decide))) (nwd_n (by simp) (by omega) rfl) (by first | omega | (refine ⟨by omega, ?_⟩; rw [nw_o (Or.inl (by simp)) (Or.inl (by decide))]; rfl)) dX4_init_62 (fun H locs hR hS => ?_)
        refine lv_iinc (v := iI (i + (1))) (lv' := [(1, .int (iI (i + (1)))), (0, .ref (ad5 4 (0)))]) hx hb dX4_init_63 hl (k := 1) rfl (iI_add _ _) (by decide) rfl (fun ls hl => ?_)
        refine lv_goto (tgt := 40) hx hb dX4_init_66 (by decide) ?_
        refine W.widen (k := 4 + (i + 1).toNat) (n := 67 + 11 * (i + 1).toNat) (by omega) (by omega) ?_
        exact ih (i + 1) (by omega) (by omega) (by omega) _ _ _ h4 (by rw [← zT_p hi0]; exact hR) hS ls (lv_sub hl [1, 0] rfl)
  refine W.widen (k := 4 + (0 : Int).toNat) (n := 67 + 11 * (0 : Int).toNat) (by decide) (by decide) ?_
  exact loop40 _ 0 (by decide) (by decide) (Nat.lt_succ_self _) _ _ _ h4 hR hS ls (lv_sub hl [1, 0] rfl)
