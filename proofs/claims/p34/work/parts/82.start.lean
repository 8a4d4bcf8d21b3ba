/-! what the tables and the start say -/
theorem wr_narrow {D : va_G} {cl : List vw_C} {A B : Nat → Prop} {dm : Nat → Int → Prop} {ad : Nat → Int → Nat} {cell : Nat → Int → va_E} {H : Heap} (hR : wR D cl A dm ad cell H) (h : ∀ k j, dm k j → B (ad k j)) : wR D cl B dm ad cell H := by
  obtain ⟨dl, hn, hm, hP, hD⟩ := hR
  refine ⟨dl, hn, hm, hP, hD.1, fun k q hk => ?_⟩
  rw [List.getElem?_map] at hk
  cases hx : dl[k]? with
  | none => rw [hx] at hk; cases hk
  | some p =>
    rw [hx] at hk
    cases hk
    exact h p.1 p.2 ((hm p.1 p.2).mp (List.mem_of_getElem? hx))
theorem wr_empty {D : va_G} {cl : List vw_C} {A : Nat → Prop} {H : Heap} : wR D cl A (fun _ _ => False) (fun _ _ => 0) (fun _ _ => .inr (0, [])) H :=
  ⟨[], List.nodup_nil, fun k j => ⟨fun h => absurd h List.not_mem_nil, fun h => h.elim⟩, fun k q h => by simp at h, ⟨fun i j p q h => by simp at h, fun k q h => by simp at h⟩⟩
theorem kc_i {args : Array Value} {s : State} (h : (Cond.arrayClass .int).before args s = true) : ∃ cA : ClassId, ArrOfT s cA .int ∧ va_RA s cA .int := by
  obtain ⟨cA, kA, comp, h1, h2, h3⟩ := Cond.arrayClass_spec h
  exact ⟨cA, fun n z => ⟨fun k h => (by cases h), kA, h2, comp, h3⟩, h1⟩
theorem kc_l {args : Array Value} {s : State} (h : (Cond.arrayClass .long).before args s = true) : ∃ cA : ClassId, ArrOfT s cA .long ∧ va_RA s cA .long := by
  obtain ⟨cA, kA, comp, h1, h2, h3⟩ := Cond.arrayClass_spec h
  exact ⟨cA, fun n z => ⟨fun k h => (by cases h), kA, h2, comp, h3⟩, h1⟩
theorem kc_o {args : Array Value} {s : State} {C : String} (h : (Cond.arrayOver (.object C)).before args s = true) : ∃ cA : ClassId, ArrOfT s cA (.object C) ∧ va_RA s cA (.object C) := by
  obtain ⟨comp, cA, kA, h1, -, h3, h4, h5⟩ := Cond.arrayOver_spec h
  exact ⟨cA, fun n z => ⟨fun k h => (by cases h), kA, h3, comp, h4⟩, kA, comp, h3, h4, h1, h5⟩
theorem kc_all {args : Array Value} {s : State} (ht : ∀ w ∈ lw_tbl, w.before args s = true) : ∃ (D : va_G) (cy : Nat → ClassId), KC D cy s := by
  have hts : ∀ w ∈ wG, w.before args s = true := fun w hw => ht w (List.mem_filter.mp hw).1
  obtain ⟨c0, i0, k0⟩ := u_known (C := RX0) (T := TX0) (N := 15) hts uw_X0 (hts _ kw_466)
  obtain ⟨c1, i1, k1⟩ := u_known (C := RX1) (T := TX1) (N := 11) hts uw_X1 (hts _ kw_29)
  obtain ⟨c2, i2, k2⟩ := u_known (C := RX2) (T := TX2) (N := 3) hts uw_X2 (hts _ kw_73)
  obtain ⟨c3, i3, k3⟩ := u_known (C := RX3) (T := TX3) (N := 6) hts uw_X3 (hts _ kw_312)
  obtain ⟨c4, i4, k4⟩ := u_known (C := RX4) (T := TX4) (N := 12) hts uw_X4 (hts _ kw_14)
  obtain ⟨a6, r6⟩ := kc_i (hts _ kw_682)
  obtain ⟨a7, r7⟩ := kc_l (hts _ kw_683)
  obtain ⟨a8, r8⟩ := kc_i (hts _ kw_682)
  obtain ⟨a9, r9⟩ := kc_o (ht _ kt_26)
  obtain ⟨a10, r10⟩ := kc_o (ht _ kt_22)
  obtain ⟨a11, r11⟩ := kc_o (ht _ kt_24)
  obtain ⟨a12, r12⟩ := kc_o (ht _ kt_28)
  refine ⟨(fun k => if k = 0 then c0 else if k = 1 then c1 else if k = 2 then c2 else if k = 3 then c3 else c4, fun k => if k = 0 then i0 else if k = 1 then i1 else if k = 2 then i2 else if k = 3 then i3 else i4), fun k => if k = 6 then a6 else if k = 7 then a7 else if k = 8 then a8 else if k = 9 then a9 else if k = 10 then a10 else if k = 11 then a11 else a12, ?_, ?_⟩
  · intro k q hq
    match k, hq with
    | 0, hq => cases hq; exact k0
    | 1, hq => cases hq; exact k1
    | 2, hq => cases hq; exact k2
    | 3, hq => cases hq; exact k3
    | 4, hq => cases hq; exact k4
    | k + 5, hq => simp [vwCl] at hq
  · intro k q hq
    match k, hq with
    | 0, hq => cases hq; exact r6
    | 1, hq => cases hq; exact r7
    | 2, hq => cases hq; exact r8
    | 3, hq => cases hq; exact r9
    | 4, hq => cases hq; exact r10
    | 5, hq => cases hq; exact r11
    | 6, hq => cases hq; exact r12
    | k + 7, hq => simp [tysC] at hq
set_option maxRecDepth 100000 in
theorem ng_tbl : ∀ w ∈ wNG, w ∈ lw_tbl := by decide +kernel
theorem ng_on : ∀ w ∈ wNG, w.onTables = true := by decide +kernel
set_option maxRecDepth 100000 in
theorem str_tbl : ∀ q ∈ strsC, Cond.stringRef "Takinghall" q.1 q.2 ∈ lw_tbl := by decide +kernel
set_option maxRecDepth 100000 in
theorem str_ex : ∀ q ∈ strsC, Cond.exactly (.string "Takinghall" q.1) "java/lang/String" ∈ flatC (Jvm.Cond.and given_1 narrow_1) := by decide +kernel
set_option maxRecDepth 100000 in
theorem st_us : Cond.isRef (.static Bundle.tN "UNASSIGNED_STACK" Bundle.steD) ∈ flatC (Jvm.Cond.and given_1 narrow_1) ∧ Cond.isRef (.static Bundle.tN "SUPPRESSED_SENTINEL" Bundle.listD) ∈ flatC (Jvm.Cond.and given_1 narrow_1) := by decide +kernel
set_option maxRecDepth 100000 in
theorem nc_all : Cond.not (.castable "java/lang/IllegalArgumentException" "java/lang/IndexOutOfBoundsException") ∈ flatC (Jvm.Cond.and given_1 narrow_1) ∧ Cond.not (.castable "java/lang/IllegalStateException" "java/lang/IndexOutOfBoundsException") ∈ flatC (Jvm.Cond.and given_1 narrow_1) ∧ Cond.not (.castable "java/lang/IllegalStateException" "java/lang/IllegalArgumentException") ∈ flatC (Jvm.Cond.and given_1 narrow_1) := by decide +kernel
theorem xs_all {args : Array Value} {s : State} (ht : ∀ w ∈ lw_tbl, w.before args s = true) (hg : (Jvm.Cond.and given_1 narrow_1).before args s = true) : XS (fun q : Nat => s.heap.size ≤ q) s := by
  have hs := flat_of_before _ hg
  have hts : ∀ w ∈ wG, w.before args s = true := fun w hw => ht w (List.mem_filter.mp hw).1
  refine ⟨fun w hw => va_Nw.of (ng_on w hw) (ht w (ng_tbl w hw)), fun q hq => ?_, vx_Zqof (ht _ kt_163) (hts _ kw_4) (hs _ st_us.1) (fun a h => Nat.not_le.mpr h), vx_Zqof (ht _ kt_165) (hts _ kw_4) (hs _ st_us.2) (fun a h => Nat.not_le.mpr h)⟩
  obtain ⟨a, c, cell, k, h1, -⟩ := Cond.exactly_spec (hs _ (str_ex q hq))
  exact ⟨a, vk_R.of (ht _ (str_tbl q hq)) h1⟩
theorem xn_all {args : Array Value} {s : State} (hg : (Jvm.Cond.and given_1 narrow_1).before args s = true) : XN s := by
  have hs := flat_of_before _ hg
  exact ⟨va_Nc.of (hs _ nc_all.1), va_Nc.of (hs _ nc_all.2.1), va_Nc.of (hs _ nc_all.2.2)⟩
theorem xd_4 : ∀ j, j < 12 → defaultValue (tyX4 j) = vp_V [.null, .null, .null, .int 0, .null, .int 0, .int 0, .long 0, .long 0, .long 0, .long 0, .long 0] j := by decide +kernel
