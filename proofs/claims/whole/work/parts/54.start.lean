/-! the law's start -/
theorem mi_f {F : Nat} (h1 : F ≠ 1003) (h2 : F ≠ 1006) (h3 : F ≠ 1008) (h4 : F ≠ 1010) : ∀ n : Nat, miN n F = miN 0 F
  | 0 => rfl
  | n + 1 => by
    have h := mi_f h1 h2 h3 h4 n
    show st (st (st (st (miN n) 1003 n 10) 1006 n (-1)) 1008 n (-1)) 1010 n (-1) F = _
    rw [st_F h4, st_F h3, st_F h2, st_F h1, h]
theorem mi_v (i : Int) : ∀ n : Nat, 0 ≤ i → i < (n : Int) → miN n 1003 i = 10 ∧ miN n 1006 i = -1 ∧ miN n 1008 i = -1 ∧ miN n 1010 i = -1
  | 0, h0, h1 => by omega
  | n + 1, h0, h1 => by
    show st (st (st (st (miN n) 1003 n 10) 1006 n (-1)) 1008 n (-1)) 1010 n (-1) 1003 i = 10 ∧ st (st (st (st (miN n) 1003 n 10) 1006 n (-1)) 1008 n (-1)) 1010 n (-1) 1006 i = -1 ∧ st (st (st (st (miN n) 1003 n 10) 1006 n (-1)) 1008 n (-1)) 1010 n (-1) 1008 i = -1 ∧ st (st (st (st (miN n) 1003 n 10) 1006 n (-1)) 1008 n (-1)) 1010 n (-1) 1010 i = -1
    rw [st_f (show (1003 : Nat) ≠ 1010 by decide), st_f (show (1003 : Nat) ≠ 1008 by decide), st_f (show (1003 : Nat) ≠ 1006 by decide), st_f (show (1006 : Nat) ≠ 1010 by decide), st_f (show (1006 : Nat) ≠ 1008 by decide), st_f (show (1008 : Nat) ≠ 1010 by decide)]
    simp only [st_i]
    by_cases e : i = (n : Int)
    · rw [if_pos e, if_pos e, if_pos e, if_pos e]
      exact ⟨rfl, rfl, rfl, rfl⟩
    · have z := mi_v i n h0 (by omega)
      simp only [if_neg e]
      rw [st_f (show (1006 : Nat) ≠ 1003 by decide), st_f (show (1008 : Nat) ≠ 1006 by decide), st_f (show (1008 : Nat) ≠ 1003 by decide), st_f (show (1010 : Nat) ≠ 1008 by decide), st_f (show (1010 : Nat) ≠ 1006 by decide), st_f (show (1010 : Nat) ≠ 1003 by decide)]
      exact z
theorem z0_v (F : Nat) (j : Int) (hF : F < 507) : (zT 36 3 F j = 0 ∧ F ≠ 201) ∨ (F = 200 ∧ 0 ≤ zT 36 3 F j ∧ zT 36 3 F j ≤ 35) ∨ (F = 301 ∧ 0 ≤ zT 36 3 F j ∧ zT 36 3 F j ≤ 30) ∨ (F = 201 ∧ zT 36 3 F j = 10) ∨ ((F = 204 ∨ F = 206 ∨ F = 207 ∨ F = 209 ∨ F = 302) ∧ zT 36 3 F j = -1) := by
  obtain ⟨v, hv⟩ : ∃ v : Int, v = zT 36 3 F j := ⟨_, rfl⟩
  rw [← hv]
  unfold zT zC at hv
  (repeat' split at hv) <;> omega
theorem lo_0 {F : Nat} (h : F ≠ 201) : loC F ≤ 0 := by
  unfold loC
  (repeat' split) <;> omega
theorem hi_0 (F : Nat) : 0 ≤ hiC F := by
  unfold hiC
  (repeat' split) <;> omega
theorem gr_z0 : GRng (zT 36 3) := by
  intro F j hF
  rcases z0_v F j hF with ⟨h, h2⟩ | ⟨h, h1, h2⟩ | ⟨h, h1, h2⟩ | ⟨h, h1⟩ | ⟨h, h1⟩
  · rw [h]; exact ⟨lo_0 h2, hi_0 F⟩
  · subst h; exact ⟨h1, h2⟩
  · subst h; exact (show (0 : Int) ≤ zT 36 3 301 j ∧ zT 36 3 301 j ≤ 1000 by omega)
  · rw [h1, h]; decide
  · rw [h1]
    rcases h with h | h | h | h | h <;> rw [h] <;> decide
theorem z_602 {u : Int} (h : 0 ≤ u ∧ u < 3) : zT 36 3 602 u = u := by
  unfold zT
  rw [if_neg (by omega), if_neg (by omega), if_pos ⟨rfl, h⟩]
theorem z_601 {u : Int} (h : 0 ≤ u ∧ u < 36) : zT 36 3 601 u = u := by
  unfold zT
  rw [if_pos ⟨rfl, h⟩]
theorem z_200 {u : Int} (h : 0 ≤ u ∧ u < 36) : zT 36 3 200 u = u := by
  unfold zT
  rw [if_neg (by omega), if_pos ⟨rfl, h⟩]
theorem z_301 {u : Int} (h : 0 ≤ u ∧ u < 3) : zT 36 3 301 u = if u = 0 then 5 else if u = 1 then 20 else 30 := by
  unfold zT
  rw [if_neg (by omega), if_neg (by omega), if_neg (by omega), if_pos ⟨rfl, h⟩]
theorem z_602r (q : Int) : -1 ≤ zT 36 3 602 q ∧ zT 36 3 602 q < 3 := by
  obtain ⟨v, hv⟩ : ∃ v : Int, v = zT 36 3 602 q := ⟨_, rfl⟩
  rw [← hv]
  unfold zT zC at hv
  (repeat' split at hv) <;> omega
theorem z_601r (q : Int) : -1 ≤ zT 36 3 601 q ∧ zT 36 3 601 q ≤ 35 := by
  obtain ⟨v, hv⟩ : ∃ v : Int, v = zT 36 3 601 q := ⟨_, rfl⟩
  rw [← hv]
  unfold zT zC at hv
  (repeat' split at hv) <;> omega
theorem gc_z0 : GC (zT 36 3) := by
  refine ⟨gr_z0, ⟨fun q a b => z_601 ⟨a, b⟩, fun q a b => ?_, fun q a b => ?_, fun u a b => ?_⟩, ⟨rfl, rfl, rfl, rfl, rfl, rfl, rfl, rfl⟩, ⟨fun j => ?_, fun j => ?_, fun j => ?_, fun n h => ?_⟩, ⟨fun i a b => ?_, fun j a b => z_200 ⟨a, b⟩, fun k a b => ?_⟩, fun i _ => ?_, ⟨fun q => ?_, fun q => (z_602r q).2, fun q => ?_, fun q => ?_, z_601r, fun q => ?_, fun q => (z_602r q).1, fun q => ?_⟩⟩
  · show (-1 : Int) = if q < 0 then q else -1
    rw [if_neg (by omega)]
  · show (-1 : Int) = if q < 0 then q else -1
    rw [if_neg (by omega)]
  · rw [z_602 ⟨a, b⟩]
    exact ⟨a, b⟩
  · show (-1 : Int) < 0; decide
  · show (-1 : Int) < 3; decide
  · show (-1 : Int) < 0; decide
  · show (-1 : Int) < n; omega
  · have z : i < 0 := b; omega
  · have z : k < 0 := b; omega
  · show (0 : Int) ≤ 100; decide
  · show (-1 : Int) < 0; decide
  · show (-1 : Int) < 0; decide
  · show (-1 : Int) < 3; decide
  · show (-1 : Int) ≤ -1; decide
  · show (-1 : Int) ≤ -1; decide
theorem need_z0 (p : Int) : needO (zT 36 3) p = -1 := by
  unfold needO
  split
  · rfl
  · rw [if_pos (show zT 36 3 204 p < 0 from (by decide : (-1 : Int) < 0))]

theorem rel_z0 : Rel (zT 36 3) (miN 36) := by
  have hv := fun (p : Int) (h0 : 0 ≤ p) (h1 : p < 36) => mi_v p 36 h0 h1
  have vac : ∀ {i : Int}, 0 ≤ i → i < zT 36 3 503 0 → False := fun {i} a b => by have z : i < 0 := b; omega
  have vac5 : ∀ {i : Int}, 0 ≤ i → i < zT 36 3 505 0 → False := fun {i} a b => by have z : i < 0 := b; omega
  refine ⟨?_, fun p p1 p2 => ?_, fun p p1 p2 => ?_, fun p p1 p2 => ?_, fun p p1 p2 => ?_, fun p p1 p2 => ?_, fun p p1 p2 => ?_, fun p p1 p2 => ?_, fun i a b => (vac a b).elim, fun i a b => (vac a b).elim, fun i a b => (vac a b).elim, fun i a b => (vac a b).elim, fun i a b => (vac a b).elim, fun i a b => (vac a b).elim, fun i a b => (vac a b).elim, ⟨fun i a b => ?_, fun k a b => ?_⟩, fun k a b => (vac5 a b).elim, fun u d u0 u2 d0 d1 => ?_, fun u u0 u2 => ?_, ?_⟩
  · unfold RSc
    rw [mi_f (F := 901) (by decide) (by decide) (by decide) (by decide), mi_f (F := 913) (by decide) (by decide) (by decide) (by decide), mi_f (F := 926) (by decide) (by decide) (by decide) (by decide)]
    exact ⟨rfl, rfl, rfl⟩
  · rw [(hv p p1 p2).1, mi_f (F := 1004) (by decide) (by decide) (by decide) (by decide)]
    exact ⟨rfl, rfl⟩
  · rw [(hv p p1 p2).2.2.1, mi_f (F := 1005) (by decide) (by decide) (by decide) (by decide), mi_f (F := 1007) (by decide) (by decide) (by decide) (by decide), mi_f (F := 1009) (by decide) (by decide) (by decide) (by decide)]
    exact ⟨rfl, rfl, rfl, rfl⟩
  · rw [(hv p p1 p2).2.1, need_z0]
  · rw [(hv p p1 p2).2.2.2, mi_f (F := 1011) (by decide) (by decide) (by decide) (by decide)]
    exact ⟨rfl, rfl⟩
  · rw [mi_f (F := 1012) (by decide) (by decide) (by decide) (by decide), if_pos (show zT 36 3 206 p = -1 from rfl)]
    rfl
  · exact ⟨fun _ => rfl, fun _ => rfl⟩
  · exact ⟨fun _ => rfl, fun _ => rfl, fun _ => rfl⟩
  · rw [mi_f (F := 1020) (by decide) (by decide) (by decide) (by decide), mi_f (F := 1021) (by decide) (by decide) (by decide) (by decide), mi_f (F := 1022) (by decide) (by decide) (by decide) (by decide), mi_f (F := 1023) (by decide) (by decide) (by decide) (by decide), mi_f (F := 1025) (by decide) (by decide) (by decide) (by decide), mi_f (F := 1034) (by decide) (by decide) (by decide) (by decide)]
    exact ⟨rfl, rfl, rfl, rfl, rfl, rfl⟩
  · rw [mi_f (F := 1029) (by decide) (by decide) (by decide) (by decide)]
    rfl
  · have e : d = 0 := by have z : d ≤ 0 := d1; omega
    subst e
    have hp : prOn (zT 36 3) u 0 = u := (prOn_top gc_z0 ⟨u0, u2⟩ (show (0 : Int) ≤ 0 from Int.le_refl 0)).trans (z_602 ⟨u0, by omega⟩)
    rw [mi_f (F := 1002) (by decide) (by decide) (by decide) (by decide), hp]
    unfold centsO
    rw [if_neg (by omega), z_301 ⟨u0, by omega⟩]
    show st (st (st zM 1002 0 5) 1002 1 20) 1002 2 30 1002 (3 * 0 + u) = _
    rw [st_i, st_i, st_i]
    rcases (show u = 0 ∨ u = 1 ∨ u = 2 by omega) with y | y | y <;> subst y <;> rfl
  · exact Int.le_refl 0
  · unfold RTo
    rw [mi_f (F := 1021) (by decide) (by decide) (by decide) (by decide), mi_f (F := 1022) (by decide) (by decide) (by decide) (by decide), mi_f (F := 932) (by decide) (by decide) (by decide) (by decide), mi_f (F := 933) (by decide) (by decide) (by decide) (by decide), mi_f (F := 1012) (by decide) (by decide) (by decide) (by decide)]
    refine ⟨rfl, rfl, rfl, rfl, ?_⟩
    exact (sumN_0 36).symm

/-! what the tables and the start say -/
theorem wr_narrow {D : va_G} {cl : List vw_C} {A B : Nat → Prop} {dm : Nat → Int → Prop} {ad : Nat → Int → Nat} {cell : Nat → Int → va_E} {H : Heap} (hR : wR D cl A dm ad cell H) (h : ∀ k j, dm k j → B (ad k j)) : wR D cl B dm ad cell H := by
  obtain ⟨dl, hn, hm, hP, hD⟩ := hR
  refine ⟨dl, hn, hm, hP, hD.1, fun k q hk => ?_⟩
  rw [List.getElem?_map] at hk
  cases hx : dl[k]? with
  | none => rw [hx] at hk; cases hk
  | some p =>
    rw [hx] at hk
    cases hk
    exact h p.1 p.2 ((hm p.1 p.2).mp (List.mem_of_getElem? hx))
theorem wr_empty {D : va_G} {cl : List vw_C} {A : Nat → Prop} {H : Heap} : wR D cl A (fun _ _ => False) (fun _ _ => 0) (fun _ _ => .inr (0, [])) H :=
  ⟨[], List.nodup_nil, fun k j => ⟨fun h => absurd h List.not_mem_nil, fun h => h.elim⟩, fun k q h => by simp at h, ⟨fun i j p q h => by simp at h, fun k q h => by simp at h⟩⟩
theorem kc_i {args : Array Value} {s : State} (h : (Cond.arrayClass .int).before args s = true) : ∃ cA : ClassId, ArrOfT s cA .int ∧ va_RA s cA .int := by
  obtain ⟨cA, kA, comp, h1, h2, h3⟩ := Cond.arrayClass_spec h
  exact ⟨cA, fun n z => ⟨fun k h => (by cases h), kA, h2, comp, h3⟩, h1⟩
theorem kc_l {args : Array Value} {s : State} (h : (Cond.arrayClass .long).before args s = true) : ∃ cA : ClassId, ArrOfT s cA .long ∧ va_RA s cA .long := by
  obtain ⟨cA, kA, comp, h1, h2, h3⟩ := Cond.arrayClass_spec h
  exact ⟨cA, fun n z => ⟨fun k h => (by cases h), kA, h2, comp, h3⟩, h1⟩
theorem kc_z {args : Array Value} {s : State} (h : (Cond.arrayClass .boolean).before args s = true) : ∃ cA : ClassId, ArrOfT s cA .boolean ∧ va_RA s cA .boolean := by
  obtain ⟨cA, kA, comp, h1, h2, h3⟩ := Cond.arrayClass_spec h
  exact ⟨cA, fun n z => ⟨fun k h => (by cases h), kA, h2, comp, h3⟩, h1⟩
theorem kc_o {args : Array Value} {s : State} {C : String} (h : (Cond.arrayOver (.object C)).before args s = true) : ∃ cA : ClassId, ArrOfT s cA (.object C) ∧ va_RA s cA (.object C) := by
  obtain ⟨comp, cA, kA, h1, -, h3, h4, h5⟩ := Cond.arrayOver_spec h
  exact ⟨cA, fun n z => ⟨fun k h => (by cases h), kA, h3, comp, h4⟩, kA, comp, h3, h4, h1, h5⟩
theorem kc_all {args : Array Value} {s : State} (ht : ∀ w ∈ lw_tbl, w.before args s = true) : ∃ (D : va_G) (cy : Nat → ClassId), KC D cy s := by
  have hts : ∀ w ∈ wG, w.before args s = true := fun w hw => ht w (List.mem_filter.mp hw).1
  obtain ⟨c0, i0, k0⟩ := u_known (C := RX0) (T := TX0) (N := 15) hts uw_X0 (hts _ kw_342)
  obtain ⟨c1, i1, k1⟩ := u_known (C := RX1) (T := TX1) (N := 11) hts uw_X1 (hts _ kw_30)
  obtain ⟨c2, i2, k2⟩ := u_known (C := RX2) (T := TX2) (N := 3) hts uw_X2 (hts _ kw_74)
  obtain ⟨c3, i3, k3⟩ := u_known (C := RX3) (T := TX3) (N := 6) hts uw_X3 (hts _ kw_443)
  obtain ⟨c4, i4, k4⟩ := u_known (C := RX4) (T := TX4) (N := 12) hts uw_X4 (hts _ kw_15)
  obtain ⟨c5, i5, k5⟩ := u_known (C := RX5) (T := TX5) (N := 35) hts uw_X5 (hts _ kw_742)
  obtain ⟨a6, r6⟩ := kc_i (hts _ kw_854)
  obtain ⟨a7, r7⟩ := kc_l (hts _ kw_856)
  obtain ⟨a8, r8⟩ := kc_z (hts _ kw_855)
  obtain ⟨a9, r9⟩ := kc_o (ht _ kt_27)
  obtain ⟨a10, r10⟩ := kc_o (ht _ kt_23)
  obtain ⟨a11, r11⟩ := kc_o (ht _ kt_25)
  obtain ⟨a12, r12⟩ := kc_o (ht _ kt_29)
  refine ⟨(fun k => if k = 0 then c0 else if k = 1 then c1 else if k = 2 then c2 else if k = 3 then c3 else if k = 4 then c4 else c5, fun k => if k = 0 then i0 else if k = 1 then i1 else if k = 2 then i2 else if k = 3 then i3 else if k = 4 then i4 else i5), fun k => if k = 6 then a6 else if k = 7 then a7 else if k = 8 then a8 else if k = 9 then a9 else if k = 10 then a10 else if k = 11 then a11 else a12, ?_, ?_⟩
  · intro k q hq
    match k, hq with
    | 0, hq => cases hq; exact k0
    | 1, hq => cases hq; exact k1
    | 2, hq => cases hq; exact k2
    | 3, hq => cases hq; exact k3
    | 4, hq => cases hq; exact k4
    | 5, hq => cases hq; exact k5
    | k + 6, hq => simp [vwCl] at hq
  · intro k q hq
    match k, hq with
    | 0, hq => cases hq; exact r6
    | 1, hq => cases hq; exact r7
    | 2, hq => cases hq; exact r8
    | 3, hq => cases hq; exact r9
    | 4, hq => cases hq; exact r10
    | 5, hq => cases hq; exact r11
    | 6, hq => cases hq; exact r12
    | k + 7, hq => simp [tysC] at hq
set_option maxRecDepth 100000 in
theorem ng_tbl : ∀ w ∈ wNG, w ∈ lw_tbl := by decide +kernel
theorem ng_on : ∀ w ∈ wNG, w.onTables = true := by decide +kernel
set_option maxRecDepth 100000 in
theorem str_tbl : ∀ q ∈ strsC, Cond.stringRef "Takinghall" q.1 q.2 ∈ lw_tbl := by decide +kernel
set_option maxRecDepth 100000 in
theorem str_ex : ∀ q ∈ strsC, Cond.exactly (.string "Takinghall" q.1) "java/lang/String" ∈ flatC (Jvm.Cond.and given_1 narrow_1) := by decide +kernel
set_option maxRecDepth 100000 in
theorem st_us : Cond.isRef (.static Bundle.tN "UNASSIGNED_STACK" Bundle.steD) ∈ flatC (Jvm.Cond.and given_1 narrow_1) ∧ Cond.isRef (.static Bundle.tN "SUPPRESSED_SENTINEL" Bundle.listD) ∈ flatC (Jvm.Cond.and given_1 narrow_1) := by decide +kernel
set_option maxRecDepth 100000 in
theorem nc_all : Cond.not (.castable "java/lang/IllegalArgumentException" "java/lang/IndexOutOfBoundsException") ∈ flatC (Jvm.Cond.and given_1 narrow_1) ∧ Cond.not (.castable "java/lang/IllegalStateException" "java/lang/IndexOutOfBoundsException") ∈ flatC (Jvm.Cond.and given_1 narrow_1) ∧ Cond.not (.castable "java/lang/IllegalStateException" "java/lang/IllegalArgumentException") ∈ flatC (Jvm.Cond.and given_1 narrow_1) := by decide +kernel
theorem xs_all {args : Array Value} {s : State} (ht : ∀ w ∈ lw_tbl, w.before args s = true) (hg : (Jvm.Cond.and given_1 narrow_1).before args s = true) : XS (fun q : Nat => s.heap.size ≤ q) s := by
  have hs := flat_of_before _ hg
  have hts : ∀ w ∈ wG, w.before args s = true := fun w hw => ht w (List.mem_filter.mp hw).1
  refine ⟨fun w hw => va_Nw.of (ng_on w hw) (ht w (ng_tbl w hw)), fun q hq => ?_, vx_Zqof (ht _ kt_174) (hts _ kw_5) (hs _ st_us.1) (fun a h => Nat.not_le.mpr h), vx_Zqof (ht _ kt_176) (hts _ kw_5) (hs _ st_us.2) (fun a h => Nat.not_le.mpr h)⟩
  obtain ⟨a, c, cell, k, h1, -⟩ := Cond.exactly_spec (hs _ (str_ex q hq))
  exact ⟨a, vk_R.of (ht _ (str_tbl q hq)) h1⟩
theorem xn_all {args : Array Value} {s : State} (hg : (Jvm.Cond.and given_1 narrow_1).before args s = true) : XN s := by
  have hs := flat_of_before _ hg
  exact ⟨va_Nc.of (hs _ nc_all.1), va_Nc.of (hs _ nc_all.2.1), va_Nc.of (hs _ nc_all.2.2)⟩
theorem xd_4 : ∀ j, j < 12 → defaultValue (tyX4 j) = vp_V [.null, .null, .null, .int 0, .null, .int 0, .int 0, .long 0, .long 0, .long 0, .long 0, .long 0] j := by decide +kernel
theorem xd_5 : ∀ j, j < 35 → defaultValue (tyX5 j) = vp_V [.int 0, .int 0, .null, .null, .null, .null, .null, .null, .null, .null, .null, .null, .null, .int 0, .null, .null, .null, .null, .null, .null, .null, .null, .null, .null, .null, .null, .int 0, .null, .null, .null, .null, .null, .long 0, .long 0, .null] j := by decide +kernel
set_option maxRecDepth 100000 in
set_option maxHeartbeats 4000000 in
/-- from the entry, for every script of at most 2560 ints, the law comes to its end with true -/
theorem whole_start {p : Program} {e : Env} {s : State} {m : MethodId} {below : List Frame} {meth : Method} {c : Code} (l : Launch) (hflags : l.flags = flags0) {b L : Nat} {xs : Nat → Int32} (hL : L ≤ 2560) (C0 : lw_At p s m meth c b L xs) : W p l e room_1 s m #[Value.ref b] below meth c s.heap [] 0 0 (lw_Z below #[Value.ref b] s) (entryFrame m ([Value.ref b] : List Value).toArray 8) := by
  obtain ⟨hx, hb, hr, hml, hown, ht, hX, hbl, hlocks, hgv⟩ := id C0
  have hl0 : l.stackTraces = false := by unfold Launch.stackTraces; rw [hflags]; decide +kernel
  have hts : ∀ w ∈ wG, w.before #[Value.ref b] s = true := fun w hw => ht w (List.mem_filter.mp hw).1
  have hown : s.vm.findClass "TakinghallLaw" = some m.cls := hown
  obtain ⟨D, cy, hK⟩ := kc_all ht
  have hXS := xs_all ht hgv
  have hXN := xn_all hgv
  have hAO : AOs s := ⟨va_AO.of (ht _ kt_23), va_AO.of (ht _ kt_25), va_AO.of (ht _ kt_27), va_AO.of (ht _ kt_29)⟩
  have hw4 : ∀ w ∈ u_ws RX4 TX4 12, w.before #[Value.ref b] s = true := fun w h => hts w (uw_X4 w h)
  have hw5 : ∀ w ∈ u_ws RX5 TX5 35, w.before #[Value.ref b] s = true := fun w h => hts w (uw_X5 w h)
  have hl := lv_entry ([.ref b]) (n := 8) (Nat.le_of_ble_eq_true rfl)
  rw [lg_entry_eq]
  generalize (lg_sl ([.ref b]) ++ List.replicate (8 - (lg_sl ([.ref b])).length) Slot.unset).toArray = ls at hl ⊢
  have hl : lv_has ls 8 [(0, .ref b)] := hl
  have hS : va_S (fun q : Nat => s.heap.size ≤ q) s.heap s.heap [] := va_S.rf
  have hAN : ∀ q : Nat, s.heap.size ≤ q → (fun q : Nat => s.heap.size ≤ q) q := fun _ h => h
  refine wr_new (C := RX4) (ci := 4) (fs := [.null, .null, .null, .int 0, .null, .int 0, .int 0, .long 0, .long 0, .long 0, .long 0, .long 0]) hx hb hw4 tyX4 tyX4_ok hown (hts _ kw_14) (hts _ kw_15) (hts _ kw_1) hK (wr_empty (D := D) (cl := vwCl) (A := fun q : Nat => s.heap.size ≤ q) (H := s.heap)) hS hAN rfl xd_4 (Nat.le_of_ble_eq_true rfl) (Nat.le_of_ble_eq_true rfl) dL_law_0 (fun q1 H1 _ hO1 _ hq1 hS1 => ?_)
  refine lv_dup hx hb dL_law_3 rfl ?_
  refine xk_m2 (xr_IO (n := 0) (As := []) (rest := [.ref q1]) hx hb hml hown hts hK hAO (c_X4_init (A := fun q : Nat => s.heap.size ≤ q) (fun x h => Nat.le_trans hS1.1 h) hq1 hO1) ms_X4_init.1 ms_X4_init.2.1 ms_X4_init.2.2 rfl ⟨by decide, by decide, by decide +kernel⟩ kw_16 ⟨Nat.le_of_ble_eq_true rfl, Nat.le_of_ble_eq_true rfl⟩ ⟨Nat.le_of_ble_eq_true rfl, Nat.le_of_ble_eq_true rfl⟩ rfl rfl hl.1 rfl (lv_room (Nat.le_of_ble_eq_true rfl)) dL_law_4) hS1 (fun x h => h) (fun H2 locs2 hP2 hS2 hz2 _ => ?_)
  obtain ⟨ad, h4, hR2⟩ := hP2
  refine lv_astore_n (i := 1) (lv' := [(1, .ref q1), (0, .ref b)]) hx hb dL_law_7 rfl hl (by decide) rfl (fun ls hl => ?_)
  refine wr_new (C := RX5) (ci := 5) (fs := [.int 0, .int 0, .null, .null, .null, .null, .null, .null, .null, .null, .null, .null, .null, .int 0, .null, .null, .null, .null, .null, .null, .null, .null, .null, .null, .null, .null, .int 0, .null, .null, .null, .null, .null, .long 0, .long 0, .null]) hx hb hw5 tyX5 tyX5_ok hown (hts _ kw_741) (hts _ kw_742) (hts _ kw_4) hK hR2 hS2 hAN rfl xd_5 (Nat.le_of_ble_eq_true rfl) (Nat.le_of_ble_eq_true rfl) dL_law_8 (fun q3 H3 hR3 hO3 hne3 hq3 hS3 => ?_)
  have hlt3 : q3 < H3.size := by
    obtain ⟨r, -, cell, g1, -⟩ := hO3
    exact (Array.getElem?_eq_some_iff.mp g1).1
  refine lv_dup hx hb dL_law_11 rfl ?_
  refine xk_m2 (xr_I (n := 0) (As := []) (rest := [.ref q3]) hx hb hml hown hts hK (c_X5_init (A := fun x : Nat => x = q3 ∨ H3.size ≤ x) (fun x h => Or.inr h) (Or.inl rfl) hO3) ms_X5_init.1 ms_X5_init.2.1 ms_X5_init.2.2 rfl ⟨by decide, by decide, by decide +kernel⟩ kw_743 ⟨Nat.le_of_ble_eq_true rfl, Nat.le_of_ble_eq_true rfl⟩ ⟨Nat.le_of_ble_eq_true rfl, Nat.le_of_ble_eq_true rfl⟩ rfl rfl hl.1 rfl (lv_room (Nat.le_of_ble_eq_true rfl)) dL_law_12) hS3 (fun x h => h.elim (fun z => by rw [z]; exact hq3) (fun z => Nat.le_trans hS3.1 z)) (fun H4 locs4 hP4 hS4 hz4 hk4 => ?_)
  obtain ⟨adM, h5, hM4⟩ := hP4
  have hR4 : RC D cy (fun q : Nat => s.heap.size ≤ q) ad (zT 36 3) H4 := wr_kept hR3 (fun k j hd => hk4 _ (wr_lt hR3 hd).1 (fun z => z.elim (hne3 k j hd) (fun y => absurd (wr_lt hR3 hd).1 (Nat.not_lt.mpr y))))
  refine lv_astore_n (i := 2) (lv' := [(2, .ref q3), (1, .ref q1), (0, .ref b)]) hx hb dL_law_15 rfl hl (by decide) rfl (fun ls hl => ?_)
  refine lv_iconst (v := 1) hx hb dL_law_16 (by decide) ?_
  refine va_newaK (atype := .long) (N := 1) hx hb (hts _ kw_856) rfl dL_law_17 rfl (by decide) (by decide) (by decide) (Nat.le_of_ble_eq_true rfl) (Nat.le_of_ble_eq_true rfl) rfl fun H5 cA e5 z5 o5 hAr hNm => ?_
  have hcA : cA = cy 7 := Option.some.inj (hNm.symm.trans (va_nm_long (hK.2 1 _ rfl).2))
  have hB5 : outA D cy H4.size H5 (fun _ => 0) := by
    show H5[H4.size]? = some (vp_cell (cy 7) (1, .inr (.inl (fun _ => 0))))
    rw [vp_cell_l, ← hcA]
    exact e5
  have hS5 : va_S (fun q : Nat => s.heap.size ≤ q) s.heap H5 locs4 := ⟨by rw [z5]; exact Nat.le_succ_of_le hS4.1, fun q a b => (o5 q (Nat.lt_of_lt_of_le a hS4.1)).trans (hS4.2.1 q a b), hS4.2.2⟩
  show W p l e room_1 s m #[Value.ref b] below meth c H5 locs4 _ _ _ (F0 m 19 ls [.ref H4.size])
  refine lv_astore_n (i := 3) (lv' := [(3, .ref H4.size), (2, .ref q3), (1, .ref q1), (0, .ref b)]) hx hb dL_law_19 rfl hl (by decide) rfl (fun ls hl => ?_)
  refine lv_iconst (v := iI 0) hx hb dL_law_20 rfl ?_
  refine lv_istore (lv' := [(4, .int (iI 0)), (3, .ref H4.size), (2, .ref q3), (1, .ref q1), (0, .ref b)]) hx hb dL_law_21 hl (by decide) rfl (fun ls hl => ?_)
  have E : LE p l s m meth c b L xs D cy (fun q : Nat => (s.heap.size ≤ q ∧ q < H3.size ∧ q ≠ q3) ∨ H4.size + 1 ≤ q) (fun q : Nat => q = q3 ∨ (H3.size ≤ q ∧ q < H4.size)) H4.size (H4.size + 1) := by
    have hq3 : s.heap.size ≤ q3 := hq3
    have hs3 := hS3.1
    have hs4 := hS4.1
    refine ⟨C0, hl0, hK, hXS, hXN, fun q h => Or.inr h, fun q h => ?_, fun q h => ?_, hs4, hL⟩
    · rcases h with ⟨a1, a2, a3⟩ | a1
      · exact ⟨a1, fun z => z.elim a3 (fun y => by omega), by omega⟩
      · exact ⟨by omega, fun z => z.elim (fun y => by omega) (fun y => by omega), by omega⟩
    · rcases h with a1 | ⟨a1, a2⟩
      · exact ⟨by omega, by omega⟩
      · exact ⟨by omega, by omega⟩
  have I : LI D cy (fun q : Nat => (s.heap.size ≤ q ∧ q < H3.size ∧ q ≠ q3) ∨ H4.size + 1 ≤ q) (fun q : Nat => q = q3 ∨ (H3.size ≤ q ∧ q < H4.size)) s H4.size (H4.size + 1) ad adM (zT 36 3) (miN 36) H5 locs4 := by
    refine ⟨wr_narrow (wr_kept hR4 (fun k j hd => o5 _ (wr_lt hR4 hd).1)) (fun k j hd => Or.inl ⟨(wr_lt hR3 hd).2, (wr_lt hR3 hd).1, hne3 k j hd⟩), wr_narrow (wr_kept hM4 (fun k j hd => o5 _ (wr_lt hM4 hd).1)) (fun k j hd => ?_), ⟨_, hB5⟩, rel_z0, gc_z0, gm_miN 36, hS5, by rw [z5]; exact Nat.le_refl _⟩
    have z := wr_lt hM4 hd
    exact z.2.elim Or.inl (fun y => Or.inr ⟨y, z.1⟩)
  exact law_loop E (L + 1) 0 (Nat.zero_le L) (by omega) ad (zT 36 3) (miN 36) H5 locs4 _ _ ls I (by show (3 : Int) ≤ _; omega) (by decide) (by decide) (by rw [h4, h5]; exact lv_sub hl [4, 3, 2, 1, 0] rfl)
