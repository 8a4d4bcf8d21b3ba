/-! a world whose cells bear a kind and a number: dm says which there are, ad where they lie, cell what they hold -/
def wR (D : va_G) (cl : List vw_C) (A : Nat → Prop) (dm : Nat → Int → Prop) (ad : Nat → Int → Nat) (cell : Nat → Int → va_E) (H : Heap) : Prop :=
  ∃ dl : List (Nat × Int), dl.Nodup ∧ (∀ k j, (k, j) ∈ dl ↔ dm k j) ∧ va_P D cl (dl.map fun q => (ad q.1 q.2, cell q.1 q.2)) H ∧ va_D A (dl.map fun q => (ad q.1 q.2, cell q.1 q.2))
theorem wr_use {D : va_G} {cl : List vw_C} {A : Nat → Prop} {dm : Nat → Int → Prop} {ad : Nat → Int → Nat} {cell : Nat → Int → va_E} {H : Heap} (hR : wR D cl A dm ad cell H) {k : Nat} {j : Int} (hd : dm k j) :
    ∃ (ws : va_W) (q0 : Nat), va_P D cl ws H ∧ va_D A ws ∧ ws[q0]? = some (ad k j, cell k j) ∧ (∀ (k2 : Nat) (j2 : Int), dm k2 j2 → ∃ q2 : Nat, ws[q2]? = some (ad k2 j2, cell k2 j2)) ∧
      ∀ (H1 : Heap) (e' : va_E), va_P D cl (ws.set q0 (ad k j, e')) H1 → va_D A (ws.set q0 (ad k j, e')) → ∀ cell' : Nat → Int → va_E, (∀ k' j', dm k' j' → cell' k' j' = if k' = k ∧ j' = j then e' else cell k' j') → wR D cl A dm ad cell' H1 := by
  obtain ⟨dl, hn, hm, hP, hD⟩ := hR
  obtain ⟨q0, hq⟩ := List.getElem?_of_mem ((hm k j).mpr hd)
  refine ⟨_, q0, hP, hD, by rw [List.getElem?_map, hq]; rfl, ?_, ?_⟩
  · intro k2 j2 h2
    obtain ⟨q2, hq2⟩ := List.getElem?_of_mem ((hm k2 j2).mpr h2)
    exact ⟨q2, by rw [List.getElem?_map, hq2]; rfl⟩
  · intro H1 e' h1 h2 cell' hc
    have hl : q0 < dl.length := (List.getElem?_eq_some_iff.mp hq).1
    have e : (dl.map fun q => (ad q.1 q.2, cell q.1 q.2)).set q0 (ad k j, e') = dl.map fun q => (ad q.1 q.2, cell' q.1 q.2) := by
      apply List.ext_getElem?
      intro i
      by_cases hi : i = q0
      · subst hi
        rw [List.getElem?_set_self (by rw [List.length_map]; exact hl), List.getElem?_map, hq]
        show _ = some (ad k j, cell' k j)
        rw [hc k j hd, if_pos ⟨rfl, rfl⟩]
      · rw [List.getElem?_set_ne (fun z => hi z.symm), List.getElem?_map, List.getElem?_map]
        cases hx : dl[i]? with
        | none => rfl
        | some p =>
          have hp : dm p.1 p.2 := (hm p.1 p.2).mp (List.mem_of_getElem? hx)
          have hne : ¬ (p.1 = k ∧ p.2 = j) := by
            rintro ⟨z1, z2⟩
            have hp2 : p = (k, j) := by rw [← z1, ← z2]
            exact hi ((List.getElem?_inj (List.getElem?_eq_some_iff.mp hx).1 hn).mp (by rw [hx, hq, hp2]))
          show some (ad p.1 p.2, cell p.1 p.2) = some (ad p.1 p.2, cell' p.1 p.2)
          rw [hc p.1 p.2 hp, if_neg hne]
    rw [e] at h1 h2
    exact ⟨dl, hn, hm, h1, h2⟩
/-- the same cells, otherwise told -/
theorem wr_to {D : va_G} {cl : List vw_C} {A : Nat → Prop} {dm dm' : Nat → Int → Prop} {ad ad' : Nat → Int → Nat} {cell cell' : Nat → Int → va_E} {H : Heap} (hR : wR D cl A dm ad cell H) (hm : ∀ k j, dm' k j ↔ dm k j) (h : ∀ k j, dm k j → ad' k j = ad k j ∧ cell' k j = cell k j) : wR D cl A dm' ad' cell' H := by
  obtain ⟨dl, hn, hm0, hP, hD⟩ := hR
  have e : (dl.map fun q => (ad' q.1 q.2, cell' q.1 q.2)) = dl.map fun q => (ad q.1 q.2, cell q.1 q.2) := by
    apply List.map_congr_left
    intro p hp
    obtain ⟨h1, h2⟩ := h p.1 p.2 ((hm0 p.1 p.2).mp hp)
    rw [h1, h2]
  exact ⟨dl, hn, fun k j => (hm0 k j).trans (hm k j).symm, by rw [e]; exact hP, by rw [e]; exact hD⟩
/-- where a cell lies, and that cells are apart -/
theorem wr_lt {D : va_G} {cl : List vw_C} {A : Nat → Prop} {dm : Nat → Int → Prop} {ad : Nat → Int → Nat} {cell : Nat → Int → va_E} {H : Heap} (hR : wR D cl A dm ad cell H) {k : Nat} {j : Int} (hd : dm k j) : ad k j < H.size ∧ A (ad k j) := by
  obtain ⟨ws, q0, hP, hD, h0, -⟩ := wr_use hR hd
  exact ⟨(hP q0 _ h0).lt, hD.2 q0 _ h0⟩
theorem wr_inj {D : va_G} {cl : List vw_C} {A : Nat → Prop} {dm : Nat → Int → Prop} {ad : Nat → Int → Nat} {cell : Nat → Int → va_E} {H : Heap} (hR : wR D cl A dm ad cell H) {k k' : Nat} {j j' : Int} (hd : dm k j) (hd' : dm k' j') (h : ad k j = ad k' j') : k = k' ∧ j = j' := by
  obtain ⟨dl, hn, hm, hP, hD⟩ := hR
  obtain ⟨q0, hq⟩ := List.getElem?_of_mem ((hm k j).mpr hd)
  obtain ⟨q1, hq1⟩ := List.getElem?_of_mem ((hm k' j').mpr hd')
  have e := hD.1 q0 q1 (ad k j, cell k j) (ad k' j', cell k' j') (by rw [List.getElem?_map, hq]; rfl) (by rw [List.getElem?_map, hq1]; rfl) h
  subst e
  have := Option.some.inj (hq.symm.trans hq1)
  exact ⟨congrArg Prod.fst this, congrArg Prod.snd this⟩
theorem wr_eq {D : va_G} {cl : List vw_C} {A : Nat → Prop} {dm : Nat → Int → Prop} {ad : Nat → Int → Nat} {cell : Nat → Int → va_E} {H : Heap} (hR : wR D cl A dm ad cell H) {k : Nat} {a b : Int} (ha : 0 ≤ a → dm k a) (hb : 0 ≤ b → dm k b) : ro (ad k) a = ro (ad k) b ↔ (a = b ∨ (a < 0 ∧ b < 0)) := by
  unfold ro
  by_cases h1 : a < 0 <;> by_cases h2 : b < 0
  · simp [h1, h2]
  · simp [h1, h2]; omega
  · simp [h1, h2]; omega
  · rw [if_neg h1, if_neg h2]
    refine ⟨fun h => Or.inl (wr_inj hR (ha (by omega)) (hb (by omega)) (Option.some.inj h)).2, fun h => ?_⟩
    rcases h with h | ⟨h, -⟩
    · rw [h]
    · exact absurd h h1
/-- what isn't the world's own has moved -/
theorem wr_kept {D : va_G} {cl : List vw_C} {A : Nat → Prop} {dm : Nat → Int → Prop} {ad : Nat → Int → Nat} {cell : Nat → Int → va_E} {H H1 : Heap} (hR : wR D cl A dm ad cell H) (hq : ∀ k j, dm k j → H1[ad k j]? = H[ad k j]?) : wR D cl A dm ad cell H1 := by
  obtain ⟨dl, hn, hm, hP, hD⟩ := hR
  refine ⟨dl, hn, hm, hP.kept fun i q hi => ?_, hD⟩
  rw [List.getElem?_map] at hi
  cases hx : dl[i]? with
  | none => rw [hx] at hi; cases hi
  | some p =>
    rw [hx] at hi
    cases hi
    exact hq p.1 p.2 ((hm p.1 p.2).mp (List.mem_of_getElem? hx))
/-- a new cell joins -/
theorem wr_push {D : va_G} {cl : List vw_C} {A : Nat → Prop} {dm dm' : Nat → Int → Prop} {ad ad' : Nat → Int → Nat} {cell cell' : Nat → Int → va_E} {H : Heap} (hR : wR D cl A dm ad cell H) {k : Nat} {j : Int} {q : Nat} {e : va_E} (hn : ¬ dm k j) (hm : ∀ k' j', dm' k' j' ↔ (dm k' j' ∨ (k' = k ∧ j' = j))) (hold : ∀ k' j', dm k' j' → ad' k' j' = ad k' j' ∧ cell' k' j' = cell k' j') (h1 : ad' k j = q) (h2 : cell' k j = e) (hq : ∀ k' j', dm k' j' → ad k' j' ≠ q) (hA : A q) (he : va_at D cl (q, e) H) : wR D cl A dm' ad' cell' H := by
  obtain ⟨dl, hnd, hm0, hP, hD⟩ := hR
  have ee : (dl.map fun p => (ad' p.1 p.2, cell' p.1 p.2)) = dl.map fun p => (ad p.1 p.2, cell p.1 p.2) := by
    apply List.map_congr_left
    intro p hp
    obtain ⟨z1, z2⟩ := hold p.1 p.2 ((hm0 p.1 p.2).mp hp)
    rw [z1, z2]
  have e2 : ((dl ++ [(k, j)]).map fun p => (ad' p.1 p.2, cell' p.1 p.2)) = (dl.map fun p => (ad p.1 p.2, cell p.1 p.2)) ++ [(q, e)] := by
    rw [List.map_append, ee]
    show _ ++ [(ad' k j, cell' k j)] = _
    rw [h1, h2]
  refine ⟨dl ++ [(k, j)], ?_, ?_, ?_, ?_⟩
  · rw [List.nodup_append]
    refine ⟨hnd, by simp, fun a ha b hb => ?_⟩
    rw [List.mem_singleton.mp hb]
    intro z
    rw [z] at ha
    exact hn ((hm0 k j).mp ha)
  · intro k' j'
    rw [List.mem_append, hm0, hm, List.mem_singleton, Prod.mk.injEq]
  · rw [e2]
    exact hP.app (fun i p hi => by
      cases i with
      | zero => cases hi; exact he
      | succ i => simp at hi)
  · rw [e2]
    have h00 : ∀ (i : Nat) (p : Nat × va_E), [(q, e)][i]? = some p → i = 0 ∧ p = (q, e) := by
      intro i p h
      cases i with
      | zero => cases h; exact ⟨rfl, rfl⟩
      | succ i => simp at h
    refine hD.app ⟨fun i i2 p p2 hi hi2 _ => ?_, fun i p hi => ?_⟩ (fun i i2 p p2 hi hi2 => ?_)
    · rw [(h00 i p hi).1, (h00 i2 p2 hi2).1]
    · rw [(h00 i p hi).2]; exact hA
    · rw [(h00 i2 p2 hi2).2]
      rw [List.getElem?_map] at hi
      cases hx : dl[i]? with
      | none => rw [hx] at hi; cases hi
      | some p0 =>
        rw [hx] at hi
        cases hi
        exact hq p0.1 p0.2 ((hm0 p0.1 p0.2).mp (List.mem_of_getElem? hx))
section WR
variable {p : Program} {l : Launch} {e : Env} {R : Room} {s : State} {m : MethodId} {args : Array Value} {below : List Frame} {meth : Method} {c : Code} {H H0 : Heap} {locs : List Loc} {cells slots : Nat} {Q : State → Prop}
variable {cc : ByteArray} {pc : Nat} {ls : Array Slot} {rest : List Value} {D : va_G} {cl : List vw_C} {A : Nat → Prop} {tys : List (ClassId × FieldType)} {dm : Nat → Int → Prop} {ad : Nat → Int → Nat} {cell : Nat → Int → va_E} {k : Nat} {j : Int}
theorem wr_get (hexec : p.tables.exec = Jvm.exec) (hb : c.code = cc) {own C : String} {T : u_T} {N ci index : Nat} (hw : ∀ w ∈ u_ws C T N, w.before args s = true) (hown : s.vm.findClass own = some m.cls) (hK : va_K D cl tys s) (hR : wR D cl A dm ad cell H) (hd : dm k j) {fs : List Value} (he : cell k j = .inr (ci, fs)) (hc : cl[ci]? = some (C, T, N)) (i : Nat) (hi : i < N) (hlink : (Cond.fieldLink own index (T i).1 (T i).2.1 (T i).2.2.1).before args s = true) {v : Value} (hv : fs[i]? = some v) (hdg : decode cc pc = .ok (.getfield index, 3))
    (kk : W p l e R s m args below meth c H locs cells slots Q (F0 m (pc + 3) ls (v :: rest))) : W p l e R s m args below meth c H locs cells slots Q (F0 m pc ls (.ref (ad k j) :: rest)) := by
  obtain ⟨ws, q0, hP, hD, h0, -⟩ := wr_use hR hd
  rw [he] at h0
  exact va_get hexec hb hw (fun _ h => h) hown hK hP q0 h0 hc i hi hlink (fun _ h => h) hv hdg kk
theorem wr_put (hexec : p.tables.exec = Jvm.exec) (hb : c.code = cc) {own C : String} {T : u_T} {N ci index : Nat} (hw : ∀ w ∈ u_ws C T N, w.before args s = true) (ty0 : Nat → FieldType) (hty : ∀ k, k < N → parseFieldDescriptor (T k).2.2.1 = some (ty0 k)) (hnm : ∀ a, a < N → ∀ b, b < N → a ≠ b → (T a).2.1 ≠ (T b).2.1) (hown : s.vm.findClass own = some m.cls) (hK : va_K D cl tys s) (hR : wR D cl A dm ad cell H) (hS : va_S A H0 H locs) (hd : dm k j) {fs : List Value} (he : cell k j = .inr (ci, fs)) (hc : cl[ci]? = some (C, T, N)) (i : Nat) (hi : i < N) (hlink : (Cond.fieldLink own index (T i).1 (T i).2.1 (T i).2.2.1).before args s = true) (hfin : (T i).2.2.2 = false) {ty : FieldType} {v : Value} (hp : parseFieldDescriptor (T i).2.2.1 = some ty) (hn : narrow ty v = v) (hfit : fits ty v = true) (hl : i < fs.length) {cell' : Nat → Int → va_E} (hcell : ∀ k' j', dm k' j' → cell' k' j' = if k' = k ∧ j' = j then .inr (ci, fs.set i v) else cell k' j')
    (hdg : decode cc pc = .ok (.putfield index, 3)) (kk : ∀ (H1 : Heap) (locs1 : List Loc), wR D cl A dm ad cell' H1 → va_S A H0 H1 locs1 → W p l e R s m args below meth c H1 locs1 cells slots Q (F0 m (pc + 3) ls rest)) : W p l e R s m args below meth c H locs cells slots Q (F0 m pc ls (v :: .ref (ad k j) :: rest)) := by
  obtain ⟨ws, q0, hP, hD, h0, -, hset⟩ := wr_use hR hd
  rw [he] at h0
  exact va_put hexec hb hw (fun _ h => h) ty0 hty hnm hown hK hP hD hS q0 h0 hc i hi hlink (fun _ h => h) hfin hp hn hfit hl hdg (fun H1 locs1 h1 h2 h3 => kk H1 locs1 (hset H1 _ h1 h2 cell' hcell) h3)
theorem wr_alen (hexec : p.tables.exec = Jvm.exec) (hb : c.code = cc) (hK : va_K D cl tys s) (hR : wR D cl A dm ad cell H) (hd : dm k j) {cA : ClassId} {x : vp_A} (he : cell k j = .inl (cA, x)) (t0 : Nat) {ty : FieldType} (ht : tys[t0]? = some (cA, ty)) {n : Int} (hn : iI (x.1 : Int) = iI n) (hdg : decode cc pc = .ok (.arraylength, 1))
    (kk : W p l e R s m args below meth c H locs cells slots Q (F0 m (pc + 1) ls (.int (iI n) :: rest))) : W p l e R s m args below meth c H locs cells slots Q (F0 m pc ls (.ref (ad k j) :: rest)) := by
  obtain ⟨ws, q0, hP, hD, h0, -⟩ := wr_use hR hd
  rw [he] at h0
  exact va_alen hexec hb hK hP q0 t0 h0 ht ((show Int32.ofNat x.1 = iI (x.1 : Int) from Int32.ofInt_eq_ofNat.symm).trans hn) hdg kk
theorem wr_iald (hexec : p.tables.exec = Jvm.exec) (hb : c.code = cc) (hK : va_K D cl tys s) (hR : wR D cl A dm ad cell H) (hd : dm k j) {cA : ClassId} {n : Nat} {f : Nat → Int32} (he : cell k j = .inl (cA, n, .inl f)) (t0 : Nat) (ht : tys[t0]? = some (cA, .int)) {i : Int} (hi : 0 ≤ i ∧ i < n) (hn : n < 2147483648) {v : Int} (hv : f i.toNat = iI v) (hdg : decode cc pc = .ok (.iaload, 1))
    (kk : W p l e R s m args below meth c H locs cells slots Q (F0 m (pc + 1) ls (.int (iI v) :: rest))) : W p l e R s m args below meth c H locs cells slots Q (F0 m pc ls (.int (iI i) :: .ref (ad k j) :: rest)) := by
  obtain ⟨ws, q0, hP, hD, h0, -⟩ := wr_use hR hd
  rw [he] at h0
  refine va_iald hexec hb hK hP q0 t0 h0 ht (iI_vin hi hn) hdg ?_
  rw [iI_clamp ⟨by omega, by omega⟩, hv]
  exact kk
theorem wr_zald (hexec : p.tables.exec = Jvm.exec) (hb : c.code = cc) (hK : va_K D cl tys s) (hR : wR D cl A dm ad cell H) (hd : dm k j) {cA : ClassId} {n : Nat} {f : Nat → Int32} (he : cell k j = .inl (cA, n, .inl f)) (t0 : Nat) (ht : tys[t0]? = some (cA, .boolean)) {i : Int} (hi : 0 ≤ i ∧ i < n) (hn : n < 2147483648) {v : Int} (hv : f i.toNat = iI v) (hdg : decode cc pc = .ok (.baload, 1))
    (kk : W p l e R s m args below meth c H locs cells slots Q (F0 m (pc + 1) ls (.int (iI v) :: rest))) : W p l e R s m args below meth c H locs cells slots Q (F0 m pc ls (.int (iI i) :: .ref (ad k j) :: rest)) := by
  obtain ⟨ws, q0, hP, hD, h0, -⟩ := wr_use hR hd
  rw [he] at h0
  refine va_zald hexec hb hK hP q0 t0 h0 ht (iI_vin hi hn) hdg ?_
  rw [iI_clamp ⟨by omega, by omega⟩, hv]
  exact kk
theorem wr_lald (hexec : p.tables.exec = Jvm.exec) (hb : c.code = cc) (hK : va_K D cl tys s) (hR : wR D cl A dm ad cell H) (hd : dm k j) {cA : ClassId} {n : Nat} {f : Nat → Int64} (he : cell k j = .inl (cA, n, .inr (.inl f))) (t0 : Nat) (ht : tys[t0]? = some (cA, .long)) {i : Int} (hi : 0 ≤ i ∧ i < n) (hn : n < 2147483648) {v : Int} (hv : f i.toNat = lI v) (hdg : decode cc pc = .ok (.laload, 1))
    (kk : W p l e R s m args below meth c H locs cells slots Q (F0 m (pc + 1) ls (.long (lI v) :: rest))) : W p l e R s m args below meth c H locs cells slots Q (F0 m pc ls (.int (iI i) :: .ref (ad k j) :: rest)) := by
  obtain ⟨ws, q0, hP, hD, h0, -⟩ := wr_use hR hd
  rw [he] at h0
  refine va_lald hexec hb hK hP q0 t0 h0 ht (iI_vin hi hn) hdg ?_
  rw [iI_clamp ⟨by omega, by omega⟩, hv]
  exact kk
theorem wr_aald (hexec : p.tables.exec = Jvm.exec) (hb : c.code = cc) (hK : va_K D cl tys s) (hR : wR D cl A dm ad cell H) (hd : dm k j) {cA : ClassId} {C : String} {n : Nat} {f : Nat → Option Nat} (he : cell k j = .inl (cA, n, .inr (.inr (.inr (.inr f))))) (t0 : Nat) (ht : tys[t0]? = some (cA, .object C)) {i : Int} (hi : 0 ≤ i ∧ i < n) (hn : n < 2147483648) {g : Int → Nat} {v : Int} (hv : f i.toNat = ro g v) (hdg : decode cc pc = .ok (.aaload, 1))
    (kk : W p l e R s m args below meth c H locs cells slots Q (F0 m (pc + 1) ls (rv g v :: rest))) : W p l e R s m args below meth c H locs cells slots Q (F0 m pc ls (.int (iI i) :: .ref (ad k j) :: rest)) := by
  obtain ⟨ws, q0, hP, hD, h0, -⟩ := wr_use hR hd
  rw [he] at h0
  refine va_aldq hexec hb hK hP q0 t0 h0 ht (iI_vin hi hn) hdg ?_
  rw [iI_clamp ⟨by omega, by omega⟩, hv]
  exact kk
theorem wr_iast (hexec : p.tables.exec = Jvm.exec) (hb : c.code = cc) (hK : va_K D cl tys s) (hR : wR D cl A dm ad cell H) (hS : va_S A H0 H locs) (hd : dm k j) {cA : ClassId} {n : Nat} {f : Nat → Int32} (he : cell k j = .inl (cA, n, .inl f)) (t0 : Nat) (ht : tys[t0]? = some (cA, .int)) {i : Int} (hi : 0 ≤ i ∧ i < n) (hn : n < 2147483648) {v : Int} {cell' : Nat → Int → va_E} (hcell : ∀ k' j', dm k' j' → cell' k' j' = if k' = k ∧ j' = j then .inl (cA, n, .inl (upd f i.toNat (iI v))) else cell k' j') (hdg : decode cc pc = .ok (.iastore, 1))
    (kk : ∀ (H1 : Heap) (locs1 : List Loc), wR D cl A dm ad cell' H1 → va_S A H0 H1 locs1 → W p l e R s m args below meth c H1 locs1 cells slots Q (F0 m (pc + 1) ls rest)) : W p l e R s m args below meth c H locs cells slots Q (F0 m pc ls (.int (iI v) :: .int (iI i) :: .ref (ad k j) :: rest)) := by
  obtain ⟨ws, q0, hP, hD, h0, -, hset⟩ := wr_use hR hd
  rw [he] at h0
  refine va_iast hexec hb hK hP hD hS q0 t0 h0 ht (iI_vin hi hn) hdg (fun H1 locs1 h1 h2 h3 => ?_)
  rw [iI_clamp ⟨by omega, by omega⟩] at h1 h2
  exact kk H1 locs1 (hset H1 _ h1 h2 cell' hcell) h3
theorem wr_zast (hexec : p.tables.exec = Jvm.exec) (hb : c.code = cc) (hK : va_K D cl tys s) (hR : wR D cl A dm ad cell H) (hS : va_S A H0 H locs) (hd : dm k j) {cA : ClassId} {n : Nat} {f : Nat → Int32} (he : cell k j = .inl (cA, n, .inl f)) (t0 : Nat) (ht : tys[t0]? = some (cA, .boolean)) {i : Int} (hi : 0 ≤ i ∧ i < n) (hn : n < 2147483648) {v : Int} (hv : 0 ≤ v ∧ v ≤ 1) {cell' : Nat → Int → va_E} (hcell : ∀ k' j', dm k' j' → cell' k' j' = if k' = k ∧ j' = j then .inl (cA, n, .inl (upd f i.toNat (iI v))) else cell k' j') (hdg : decode cc pc = .ok (.bastore, 1))
    (kk : ∀ (H1 : Heap) (locs1 : List Loc), wR D cl A dm ad cell' H1 → va_S A H0 H1 locs1 → W p l e R s m args below meth c H1 locs1 cells slots Q (F0 m (pc + 1) ls rest)) : W p l e R s m args below meth c H locs cells slots Q (F0 m pc ls (.int (iI v) :: .int (iI i) :: .ref (ad k j) :: rest)) := by
  obtain ⟨ws, q0, hP, hD, h0, -, hset⟩ := wr_use hR hd
  rw [he] at h0
  have e1 : vp_nar .boolean (iI v) = iI v := by
    rcases (show v = 0 ∨ v = 1 by omega) with z | z <;> subst z <;> rfl
  refine va_zast hexec hb hK hP hD hS q0 t0 h0 ht (iI_vin hi hn) hdg (fun H1 locs1 h1 h2 h3 => ?_)
  rw [iI_clamp ⟨by omega, by omega⟩, e1] at h1 h2
  exact kk H1 locs1 (hset H1 _ h1 h2 cell' hcell) h3
theorem wr_last (hexec : p.tables.exec = Jvm.exec) (hb : c.code = cc) (hK : va_K D cl tys s) (hR : wR D cl A dm ad cell H) (hS : va_S A H0 H locs) (hd : dm k j) {cA : ClassId} {n : Nat} {f : Nat → Int64} (he : cell k j = .inl (cA, n, .inr (.inl f))) (t0 : Nat) (ht : tys[t0]? = some (cA, .long)) {i : Int} (hi : 0 ≤ i ∧ i < n) (hn : n < 2147483648) {v : Int} {cell' : Nat → Int → va_E} (hcell : ∀ k' j', dm k' j' → cell' k' j' = if k' = k ∧ j' = j then .inl (cA, n, .inr (.inl (vp_updL f i.toNat (lI v)))) else cell k' j') (hdg : decode cc pc = .ok (.lastore, 1))
    (kk : ∀ (H1 : Heap) (locs1 : List Loc), wR D cl A dm ad cell' H1 → va_S A H0 H1 locs1 → W p l e R s m args below meth c H1 locs1 cells slots Q (F0 m (pc + 1) ls rest)) : W p l e R s m args below meth c H locs cells slots Q (F0 m pc ls (.long (lI v) :: .int (iI i) :: .ref (ad k j) :: rest)) := by
  obtain ⟨ws, q0, hP, hD, h0, -, hset⟩ := wr_use hR hd
  rw [he] at h0
  refine va_last hexec hb hK hP hD hS q0 t0 h0 ht (iI_vin hi hn) hdg (fun H1 locs1 h1 h2 h3 => ?_)
  rw [iI_clamp ⟨by omega, by omega⟩] at h1 h2
  exact kk H1 locs1 (hset H1 _ h1 h2 cell' hcell) h3
theorem wr_aast (hexec : p.tables.exec = Jvm.exec) (hb : c.code = cc) (hK : va_K D cl tys s) (hR : wR D cl A dm ad cell H) (hS : va_S A H0 H locs) (hd : dm k j) {cA : ClassId} {n : Nat} {f : Nat → Option Nat} (he : cell k j = .inl (cA, n, .inr (.inr (.inr (.inr f))))) {r : vw_C} (t0 : Nat) (ht : tys[t0]? = some (cA, .object r.1)) {k2 : Nat} {j2 : Int} (hd2 : dm k2 j2) {ci : Nat} {vs : List Value} (he2 : cell k2 j2 = .inr (ci, vs)) (hc : cl[ci]? = some r) {i : Int} (hi : 0 ≤ i ∧ i < n) (hn : n < 2147483648) {cell' : Nat → Int → va_E} (hcell : ∀ k' j', dm k' j' → cell' k' j' = if k' = k ∧ j' = j then .inl (cA, n, .inr (.inr (.inr (.inr (va_up f i.toNat (some (ad k2 j2))))))) else cell k' j') (hdg : decode cc pc = .ok (.aastore, 1))
    (kk : ∀ (H1 : Heap) (locs1 : List Loc), wR D cl A dm ad cell' H1 → va_S A H0 H1 locs1 → W p l e R s m args below meth c H1 locs1 cells slots Q (F0 m (pc + 1) ls rest)) : W p l e R s m args below meth c H locs cells slots Q (F0 m pc ls (.ref (ad k2 j2) :: .int (iI i) :: .ref (ad k j) :: rest)) := by
  obtain ⟨ws, q0, hP, hD, h0, hall, hset⟩ := wr_use hR hd
  obtain ⟨q2, h2⟩ := hall k2 j2 hd2
  rw [he] at h0
  rw [he2] at h2
  refine va_astq hexec hb hK hP hD hS q0 t0 q2 ci h0 ht h2 hc (iI_vin hi hn) hdg (fun H1 locs1 h1 h2 h3 => ?_)
  rw [iI_clamp ⟨by omega, by omega⟩] at h1 h2
  exact kk H1 locs1 (hset H1 _ h1 h2 cell' hcell) h3
end WR
