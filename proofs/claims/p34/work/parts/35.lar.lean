/-! the law's arrays: cells out of a table of whole numbers -/
def dmM (k : Nat) (j : Int) : Prop := j = 0 ∧ 20 ≤ k ∧ k < 36
def cellM (cy : Nat → ClassId) (mu : Nat → Int → Int) (k : Nat) (_ : Int) : va_E := match k with
  | 20 => .inl (cy 6, 32, .inl (fun q => iI (mu 1000 (q : Int))))
  | 21 => .inl (cy 6, 48, .inl (fun q => iI (mu 1001 (q : Int))))
  | 22 => .inl (cy 6, 24, .inl (fun q => iI (mu 1002 (q : Int))))
  | 23 => .inl (cy 6, 24, .inl (fun q => iI (mu 1003 (q : Int))))
  | 24 => .inl (cy 6, 24, .inl (fun q => iI (mu 1004 (q : Int))))
  | 25 => .inl (cy 6, 24, .inl (fun q => iI (mu 1005 (q : Int))))
  | 26 => .inl (cy 6, 24, .inl (fun q => iI (mu 1006 (q : Int))))
  | 27 => .inl (cy 6, 8, .inl (fun q => iI (mu 1007 (q : Int))))
  | 28 => .inl (cy 6, 3, .inl (fun q => iI (mu 1008 (q : Int))))
  | 29 => .inl (cy 6, 24, .inl (fun q => iI (mu 1009 (q : Int))))
  | 30 => .inl (cy 6, 24, .inl (fun q => iI (mu 1010 (q : Int))))
  | 31 => .inl (cy 6, 4, .inl (fun q => iI (mu 1011 (q : Int))))
  | 32 => .inl (cy 6, 4, .inl (fun q => iI (mu 1012 (q : Int))))
  | 33 => .inl (cy 7, 26, .inr (.inl (fun q => lI (mu 1013 (q : Int)))))
  | 34 => .inl (cy 7, 24, .inr (.inl (fun q => lI (mu 1014 (q : Int)))))
  | 35 => .inl (cy 7, 24, .inr (.inl (fun q => lI (mu 1015 (q : Int)))))
  | _ => .inr (0, [])
abbrev RM (D : va_G) (cy : Nat → ClassId) (A : Nat → Prop) (ad : Nat → Int → Nat) (mu : Nat → Int → Int) (H : Heap) : Prop := wR D vwCl A dmM ad (cellM cy mu) H
theorem md_20 : dmM 20 0 := ⟨rfl, by decide, by decide⟩
theorem md_21 : dmM 21 0 := ⟨rfl, by decide, by decide⟩
theorem md_22 : dmM 22 0 := ⟨rfl, by decide, by decide⟩
theorem md_23 : dmM 23 0 := ⟨rfl, by decide, by decide⟩
theorem md_24 : dmM 24 0 := ⟨rfl, by decide, by decide⟩
theorem md_25 : dmM 25 0 := ⟨rfl, by decide, by decide⟩
theorem md_26 : dmM 26 0 := ⟨rfl, by decide, by decide⟩
theorem md_27 : dmM 27 0 := ⟨rfl, by decide, by decide⟩
theorem md_28 : dmM 28 0 := ⟨rfl, by decide, by decide⟩
theorem md_29 : dmM 29 0 := ⟨rfl, by decide, by decide⟩
theorem md_30 : dmM 30 0 := ⟨rfl, by decide, by decide⟩
theorem md_31 : dmM 31 0 := ⟨rfl, by decide, by decide⟩
theorem md_32 : dmM 32 0 := ⟨rfl, by decide, by decide⟩
theorem md_33 : dmM 33 0 := ⟨rfl, by decide, by decide⟩
theorem md_34 : dmM 34 0 := ⟨rfl, by decide, by decide⟩
theorem md_35 : dmM 35 0 := ⟨rfl, by decide, by decide⟩
theorem upd_i {mu : Nat → Int → Int} {F : Nat} {i v : Int} (hi : 0 ≤ i) : upd (fun q : Nat => iI (mu F (q : Int))) i.toNat (iI v) = fun q : Nat => iI (st mu F i v F (q : Int)) := by
  funext q
  unfold upd st
  by_cases h : q = i.toNat
  · rw [if_pos h, if_pos ⟨rfl, by omega⟩]
  · rw [if_neg h, if_neg (by omega)]
theorem upd_l {mu : Nat → Int → Int} {F : Nat} {i v : Int} (hi : 0 ≤ i) : vp_updL (fun q : Nat => lI (mu F (q : Int))) i.toNat (lI v) = fun q : Nat => lI (st mu F i v F (q : Int)) := by
  funext q
  unfold vp_updL st
  by_cases h : q = i.toNat
  · rw [if_pos h, if_pos ⟨rfl, by omega⟩]
  · rw [if_neg h, if_neg (by omega)]
theorem cellM_st {cy : Nat → ClassId} {mu : Nat → Int → Int} {f : Nat} {j v : Int} {k : Nat} (i : Int) (hf : ¬ (f = 980 + k)) : cellM cy (st mu f j v) k i = cellM cy mu k i := by
  unfold cellM
  split <;> first | rfl | (congr 3; funext q; rw [st_f (by omega)]) | (congr 4; funext q; rw [st_f (by omega)]) | (congr 5; funext q; rw [st_f (by omega)])
/-- two worlds, apart: one joint list -/
theorem wr_use2 {D : va_G} {cl : List vw_C} {A A2 A0 : Nat → Prop} {dm dm2 : Nat → Int → Prop} {ad ad2 : Nat → Int → Nat} {cell cell2 : Nat → Int → va_E} {H : Heap} (hR : wR D cl A dm ad cell H) (hR2 : wR D cl A2 dm2 ad2 cell2 H) (hA : ∀ q, A q → A0 q) (hA2 : ∀ q, A2 q → A0 q) (hAA : ∀ q, A2 q → ¬ A q) {k : Nat} {j : Int} (hd : dm k j) :
    ∃ (ws : va_W) (q0 : Nat), va_P D cl ws H ∧ va_D A0 ws ∧ ws[q0]? = some (ad k j, cell k j) ∧
      ∀ (H1 : Heap) (e' : va_E), va_P D cl (ws.set q0 (ad k j, e')) H1 → va_D A0 (ws.set q0 (ad k j, e')) → ∀ cell' : Nat → Int → va_E, (∀ k' j', dm k' j' → cell' k' j' = if k' = k ∧ j' = j then e' else cell k' j') → wR D cl A dm ad cell' H1 ∧ wR D cl A2 dm2 ad2 cell2 H1 := by
  obtain ⟨w1, q0, hP, hD, h0, -, hset⟩ := wr_use hR hd
  obtain ⟨dl, hn, hm, hP2, hD2⟩ := hR2
  have hq : q0 < w1.length := (List.getElem?_eq_some_iff.mp h0).1
  have hDa : va_D A0 w1 := ⟨hD.1, fun k q h => hA _ (hD.2 k q h)⟩
  have hDb : va_D A0 (dl.map fun q => (ad2 q.1 q.2, cell2 q.1 q.2)) := ⟨hD2.1, fun k q h => hA2 _ (hD2.2 k q h)⟩
  refine ⟨w1 ++ dl.map fun q => (ad2 q.1 q.2, cell2 q.1 q.2), q0, hP.app hP2, hDa.app hDb (fun i i2 p p2 hi hi2 z => hAA _ (hD2.2 i2 p2 hi2) (z ▸ hD.2 i p hi)), by rw [List.getElem?_append_left hq]; exact h0, ?_⟩
  intro H1 e' h1 h2 cell' hc
  rw [List.set_append_left _ _ hq] at h1 h2
  refine ⟨hset H1 e' (fun i p hi => h1 i p ?_) ⟨fun i i2 p p2 hi hi2 => ?_, fun i p hi => ?_⟩ cell' hc, dl, hn, hm, fun i p hi => ?_, hD2⟩
  · rw [List.getElem?_append_left (List.getElem?_eq_some_iff.mp hi).1]; exact hi
  · exact h2.1 i i2 p p2 (by rw [List.getElem?_append_left (List.getElem?_eq_some_iff.mp hi).1]; exact hi) (by rw [List.getElem?_append_left (List.getElem?_eq_some_iff.mp hi2).1]; exact hi2)
  · by_cases hi0 : i = q0
    · subst hi0
      rw [List.getElem?_set_self hq] at hi
      cases hi
      exact hD.2 i (ad k j, cell k j) h0
    · rw [List.getElem?_set_ne (fun z => hi0 z.symm)] at hi
      exact hD.2 i p hi
  · exact h1 ((w1.set q0 (ad k j, e')).length + i) p (by rw [List.getElem?_append_right (Nat.le_add_right _ _), Nat.add_sub_cancel_left]; exact hi)
section MX
variable {p : Program} {l : Launch} {e : Env} {R : Room} {s : State} {m : MethodId} {args : Array Value} {below : List Frame} {meth : Method} {c : Code} {H H0 : Heap} {locs : List Loc} {cells slots : Nat} {Q : State → Prop}
variable {cc : ByteArray} {pc : Nat} {ls : Array Slot} {rest : List Value} {D : va_G} {cy : Nat → ClassId} {A A0 A2 : Nat → Prop} {ad ad2 : Nat → Int → Nat} {sg mu : Nat → Int → Int}
theorem wr_iast2 {cl : List vw_C} {tys : List (ClassId × FieldType)} {dm dm2 : Nat → Int → Prop} {cell cell2 : Nat → Int → va_E} {k : Nat} {j : Int} (hexec : p.tables.exec = Jvm.exec) (hb : c.code = cc) (hK : va_K D cl tys s) (hR : wR D cl A dm ad cell H) (hR2 : wR D cl A2 dm2 ad2 cell2 H) (hA : ∀ q, A q → A0 q) (hA2 : ∀ q, A2 q → A0 q) (hAA : ∀ q, A2 q → ¬ A q) (hS : va_S A0 H0 H locs) (hd : dm k j) {cA : ClassId} {n : Nat} {f : Nat → Int32} (he : cell k j = .inl (cA, n, .inl f)) (t0 : Nat) (ht : tys[t0]? = some (cA, .int)) {i : Int} (hi : 0 ≤ i ∧ i < n) (hn : n < 2147483648) {v : Int} {cell' : Nat → Int → va_E} (hcell : ∀ k' j', dm k' j' → cell' k' j' = if k' = k ∧ j' = j then .inl (cA, n, .inl (upd f i.toNat (iI v))) else cell k' j') (hdg : decode cc pc = .ok (.iastore, 1))
    (kk : ∀ (H1 : Heap) (locs1 : List Loc), wR D cl A dm ad cell' H1 → wR D cl A2 dm2 ad2 cell2 H1 → va_S A0 H0 H1 locs1 → W p l e R s m args below meth c H1 locs1 cells slots Q (F0 m (pc + 1) ls rest)) : W p l e R s m args below meth c H locs cells slots Q (F0 m pc ls (.int (iI v) :: .int (iI i) :: .ref (ad k j) :: rest)) := by
  obtain ⟨ws, q0, hP, hD, h0, hset⟩ := wr_use2 hR hR2 hA hA2 hAA hd
  rw [he] at h0
  refine va_iast hexec hb hK hP hD hS q0 t0 h0 ht (iI_vin hi hn) hdg (fun H1 locs1 h1 h2 h3 => ?_)
  rw [iI_clamp ⟨by omega, by omega⟩] at h1 h2
  obtain ⟨y1, y2⟩ := hset H1 _ h1 h2 cell' hcell
  exact kk H1 locs1 y1 y2 h3
theorem wr_last2 {cl : List vw_C} {tys : List (ClassId × FieldType)} {dm dm2 : Nat → Int → Prop} {cell cell2 : Nat → Int → va_E} {k : Nat} {j : Int} (hexec : p.tables.exec = Jvm.exec) (hb : c.code = cc) (hK : va_K D cl tys s) (hR : wR D cl A dm ad cell H) (hR2 : wR D cl A2 dm2 ad2 cell2 H) (hA : ∀ q, A q → A0 q) (hA2 : ∀ q, A2 q → A0 q) (hAA : ∀ q, A2 q → ¬ A q) (hS : va_S A0 H0 H locs) (hd : dm k j) {cA : ClassId} {n : Nat} {f : Nat → Int64} (he : cell k j = .inl (cA, n, .inr (.inl f))) (t0 : Nat) (ht : tys[t0]? = some (cA, .long)) {i : Int} (hi : 0 ≤ i ∧ i < n) (hn : n < 2147483648) {v : Int} {cell' : Nat → Int → va_E} (hcell : ∀ k' j', dm k' j' → cell' k' j' = if k' = k ∧ j' = j then .inl (cA, n, .inr (.inl (vp_updL f i.toNat (lI v)))) else cell k' j') (hdg : decode cc pc = .ok (.lastore, 1))
    (kk : ∀ (H1 : Heap) (locs1 : List Loc), wR D cl A dm ad cell' H1 → wR D cl A2 dm2 ad2 cell2 H1 → va_S A0 H0 H1 locs1 → W p l e R s m args below meth c H1 locs1 cells slots Q (F0 m (pc + 1) ls rest)) : W p l e R s m args below meth c H locs cells slots Q (F0 m pc ls (.long (lI v) :: .int (iI i) :: .ref (ad k j) :: rest)) := by
  obtain ⟨ws, q0, hP, hD, h0, hset⟩ := wr_use2 hR hR2 hA hA2 hAA hd
  rw [he] at h0
  refine va_last hexec hb hK hP hD hS q0 t0 h0 ht (iI_vin hi hn) hdg (fun H1 locs1 h1 h2 h3 => ?_)
  rw [iI_clamp ⟨by omega, by omega⟩] at h1 h2
  obtain ⟨y1, y2⟩ := hset H1 _ h1 h2 cell' hcell
  exact kk H1 locs1 y1 y2 h3
theorem xa_1000 (hexec : p.tables.exec = Jvm.exec) (hb : c.code = cc) (hK : KC D cy s) (hR : RM D cy A ad mu H) {i : Int} (hi : 0 ≤ i ∧ i < 32) {v : Int} (hv : mu 1000 i = v) (d : decode cc pc = .ok (.iaload, 1)) (kk : W p l e R s m args below meth c H locs cells slots Q (F0 m (pc + 1) ls (.int (iI v) :: rest))) : W p l e R s m args below meth c H locs cells slots Q (F0 m pc ls (.int (iI i) :: .ref (ad 20 0) :: rest)) := by
  subst hv
  exact wr_iald hexec hb hK hR md_20 rfl 0 rfl hi (by decide) (by show iI (mu 1000 (i.toNat : Int)) = _; rw [Int.toNat_of_nonneg hi.1]) d kk
theorem xl_1000 (hexec : p.tables.exec = Jvm.exec) (hb : c.code = cc) (hK : KC D cy s) (hR : RM D cy A ad mu H) (d : decode cc pc = .ok (.arraylength, 1)) (kk : W p l e R s m args below meth c H locs cells slots Q (F0 m (pc + 1) ls (.int (iI 32) :: rest))) : W p l e R s m args below meth c H locs cells slots Q (F0 m pc ls (.ref (ad 20 0) :: rest)) :=
  wr_alen hexec hb hK hR md_20 rfl 0 rfl rfl d kk
theorem xs_1000 (hexec : p.tables.exec = Jvm.exec) (hb : c.code = cc) (hK : KC D cy s) (hR : RM D cy A ad mu H) (hS : va_S A H0 H locs) {i v : Int} (hi : 0 ≤ i ∧ i < 32) (d : decode cc pc = .ok (.iastore, 1)) (kk : ∀ (H1 : Heap) (locs1 : List Loc), RM D cy A ad (st mu 1000 i v) H1 → va_S A H0 H1 locs1 → W p l e R s m args below meth c H1 locs1 cells slots Q (F0 m (pc + 1) ls rest)) : W p l e R s m args below meth c H locs cells slots Q (F0 m pc ls (.int (iI v) :: .int (iI i) :: .ref (ad 20 0) :: rest)) := by
  refine wr_iast hexec hb hK hR hS md_20 rfl 0 rfl hi (by decide) (cell' := cellM cy (st mu 1000 i v)) (fun k' j' hd' => ?_) d (fun H1 locs1 h1 h2 => kk H1 locs1 h1 h2)
  · by_cases hk : k' = 20
    · subst hk
      rw [if_pos ⟨rfl, hd'.1⟩, upd_i hi.1]
      rfl
    · rw [if_neg (fun z => hk z.1)]
      exact cellM_st _ (by omega)
theorem ys_1000 (hexec : p.tables.exec = Jvm.exec) (hb : c.code = cc) (hK : KC D cy s) (hC : RC D cy A2 ad2 sg H) (hR : RM D cy A ad mu H) (hA : ∀ q, A q → A0 q) (hA2 : ∀ q, A2 q → A0 q) (hAA : ∀ q, A2 q → ¬ A q) (hS : va_S A0 H0 H locs) {i v : Int} (hi : 0 ≤ i ∧ i < 32) (d : decode cc pc = .ok (.iastore, 1)) (kk : ∀ (H1 : Heap) (locs1 : List Loc), RC D cy A2 ad2 sg H1 → RM D cy A ad (st mu 1000 i v) H1 → va_S A0 H0 H1 locs1 → W p l e R s m args below meth c H1 locs1 cells slots Q (F0 m (pc + 1) ls rest)) : W p l e R s m args below meth c H locs cells slots Q (F0 m pc ls (.int (iI v) :: .int (iI i) :: .ref (ad 20 0) :: rest)) := by
  refine wr_iast2 hexec hb hK hR hC hA hA2 hAA hS md_20 rfl 0 rfl hi (by decide) (cell' := cellM cy (st mu 1000 i v)) (fun k' j' hd' => ?_) d (fun H1 locs1 h1 h2 h3 => kk H1 locs1 h2 h1 h3)
  · by_cases hk : k' = 20
    · subst hk
      rw [if_pos ⟨rfl, hd'.1⟩, upd_i hi.1]
      rfl
    · rw [if_neg (fun z => hk z.1)]
      exact cellM_st _ (by omega)
theorem xa_1001 (hexec : p.tables.exec = Jvm.exec) (hb : c.code = cc) (hK : KC D cy s) (hR : RM D cy A ad mu H) {i : Int} (hi : 0 ≤ i ∧ i < 48) {v : Int} (hv : mu 1001 i = v) (d : decode cc pc = .ok (.iaload, 1)) (kk : W p l e R s m args below meth c H locs cells slots Q (F0 m (pc + 1) ls (.int (iI v) :: rest))) : W p l e R s m args below meth c H locs cells slots Q (F0 m pc ls (.int (iI i) :: .ref (ad 21 0) :: rest)) := by
  subst hv
  exact wr_iald hexec hb hK hR md_21 rfl 0 rfl hi (by decide) (by show iI (mu 1001 (i.toNat : Int)) = _; rw [Int.toNat_of_nonneg hi.1]) d kk
theorem xl_1001 (hexec : p.tables.exec = Jvm.exec) (hb : c.code = cc) (hK : KC D cy s) (hR : RM D cy A ad mu H) (d : decode cc pc = .ok (.arraylength, 1)) (kk : W p l e R s m args below meth c H locs cells slots Q (F0 m (pc + 1) ls (.int (iI 48) :: rest))) : W p l e R s m args below meth c H locs cells slots Q (F0 m pc ls (.ref (ad 21 0) :: rest)) :=
  wr_alen hexec hb hK hR md_21 rfl 0 rfl rfl d kk
theorem xs_1001 (hexec : p.tables.exec = Jvm.exec) (hb : c.code = cc) (hK : KC D cy s) (hR : RM D cy A ad mu H) (hS : va_S A H0 H locs) {i v : Int} (hi : 0 ≤ i ∧ i < 48) (d : decode cc pc = .ok (.iastore, 1)) (kk : ∀ (H1 : Heap) (locs1 : List Loc), RM D cy A ad (st mu 1001 i v) H1 → va_S A H0 H1 locs1 → W p l e R s m args below meth c H1 locs1 cells slots Q (F0 m (pc + 1) ls rest)) : W p l e R s m args below meth c H locs cells slots Q (F0 m pc ls (.int (iI v) :: .int (iI i) :: .ref (ad 21 0) :: rest)) := by
  refine wr_iast hexec hb hK hR hS md_21 rfl 0 rfl hi (by decide) (cell' := cellM cy (st mu 1001 i v)) (fun k' j' hd' => ?_) d (fun H1 locs1 h1 h2 => kk H1 locs1 h1 h2)
  · by_cases hk : k' = 21
    · subst hk
      rw [if_pos ⟨rfl, hd'.1⟩, upd_i hi.1]
      rfl
    · rw [if_neg (fun z => hk z.1)]
      exact cellM_st _ (by omega)
theorem ys_1001 (hexec : p.tables.exec = Jvm.exec) (hb : c.code = cc) (hK : KC D cy s) (hC : RC D cy A2 ad2 sg H) (hR : RM D cy A ad mu H) (hA : ∀ q, A q → A0 q) (hA2 : ∀ q, A2 q → A0 q) (hAA : ∀ q, A2 q → ¬ A q) (hS : va_S A0 H0 H locs) {i v : Int} (hi : 0 ≤ i ∧ i < 48) (d : decode cc pc = .ok (.iastore, 1)) (kk : ∀ (H1 : Heap) (locs1 : List Loc), RC D cy A2 ad2 sg H1 → RM D cy A ad (st mu 1001 i v) H1 → va_S A0 H0 H1 locs1 → W p l e R s m args below meth c H1 locs1 cells slots Q (F0 m (pc + 1) ls rest)) : W p l e R s m args below meth c H locs cells slots Q (F0 m pc ls (.int (iI v) :: .int (iI i) :: .ref (ad 21 0) :: rest)) := by
  refine wr_iast2 hexec hb hK hR hC hA hA2 hAA hS md_21 rfl 0 rfl hi (by decide) (cell' := cellM cy (st mu 1001 i v)) (fun k' j' hd' => ?_) d (fun H1 locs1 h1 h2 h3 => kk H1 locs1 h2 h1 h3)
  · by_cases hk : k' = 21
    · subst hk
      rw [if_pos ⟨rfl, hd'.1⟩, upd_i hi.1]
      rfl
    · rw [if_neg (fun z => hk z.1)]
      exact cellM_st _ (by omega)
theorem xa_1002 (hexec : p.tables.exec = Jvm.exec) (hb : c.code = cc) (hK : KC D cy s) (hR : RM D cy A ad mu H) {i : Int} (hi : 0 ≤ i ∧ i < 24) {v : Int} (hv : mu 1002 i = v) (d : decode cc pc = .ok (.iaload, 1)) (kk : W p l e R s m args below meth c H locs cells slots Q (F0 m (pc + 1) ls (.int (iI v) :: rest))) : W p l e R s m args below meth c H locs cells slots Q (F0 m pc ls (.int (iI i) :: .ref (ad 22 0) :: rest)) := by
  subst hv
  exact wr_iald hexec hb hK hR md_22 rfl 0 rfl hi (by decide) (by show iI (mu 1002 (i.toNat : Int)) = _; rw [Int.toNat_of_nonneg hi.1]) d kk
theorem xl_1002 (hexec : p.tables.exec = Jvm.exec) (hb : c.code = cc) (hK : KC D cy s) (hR : RM D cy A ad mu H) (d : decode cc pc = .ok (.arraylength, 1)) (kk : W p l e R s m args below meth c H locs cells slots Q (F0 m (pc + 1) ls (.int (iI 24) :: rest))) : W p l e R s m args below meth c H locs cells slots Q (F0 m pc ls (.ref (ad 22 0) :: rest)) :=
  wr_alen hexec hb hK hR md_22 rfl 0 rfl rfl d kk
theorem xs_1002 (hexec : p.tables.exec = Jvm.exec) (hb : c.code = cc) (hK : KC D cy s) (hR : RM D cy A ad mu H) (hS : va_S A H0 H locs) {i v : Int} (hi : 0 ≤ i ∧ i < 24) (d : decode cc pc = .ok (.iastore, 1)) (kk : ∀ (H1 : Heap) (locs1 : List Loc), RM D cy A ad (st mu 1002 i v) H1 → va_S A H0 H1 locs1 → W p l e R s m args below meth c H1 locs1 cells slots Q (F0 m (pc + 1) ls rest)) : W p l e R s m args below meth c H locs cells slots Q (F0 m pc ls (.int (iI v) :: .int (iI i) :: .ref (ad 22 0) :: rest)) := by
  refine wr_iast hexec hb hK hR hS md_22 rfl 0 rfl hi (by decide) (cell' := cellM cy (st mu 1002 i v)) (fun k' j' hd' => ?_) d (fun H1 locs1 h1 h2 => kk H1 locs1 h1 h2)
  · by_cases hk : k' = 22
    · subst hk
      rw [if_pos ⟨rfl, hd'.1⟩, upd_i hi.1]
      rfl
    · rw [if_neg (fun z => hk z.1)]
      exact cellM_st _ (by omega)
theorem ys_1002 (hexec : p.tables.exec = Jvm.exec) (hb : c.code = cc) (hK : KC D cy s) (hC : RC D cy A2 ad2 sg H) (hR : RM D cy A ad mu H) (hA : ∀ q, A q → A0 q) (hA2 : ∀ q, A2 q → A0 q) (hAA : ∀ q, A2 q → ¬ A q) (hS : va_S A0 H0 H locs) {i v : Int} (hi : 0 ≤ i ∧ i < 24) (d : decode cc pc = .ok (.iastore, 1)) (kk : ∀ (H1 : Heap) (locs1 : List Loc), RC D cy A2 ad2 sg H1 → RM D cy A ad (st mu 1002 i v) H1 → va_S A0 H0 H1 locs1 → W p l e R s m args below meth c H1 locs1 cells slots Q (F0 m (pc + 1) ls rest)) : W p l e R s m args below meth c H locs cells slots Q (F0 m pc ls (.int (iI v) :: .int (iI i) :: .ref (ad 22 0) :: rest)) := by
  refine wr_iast2 hexec hb hK hR hC hA hA2 hAA hS md_22 rfl 0 rfl hi (by decide) (cell' := cellM cy (st mu 1002 i v)) (fun k' j' hd' => ?_) d (fun H1 locs1 h1 h2 h3 => kk H1 locs1 h2 h1 h3)
  · by_cases hk : k' = 22
    · subst hk
      rw [if_pos ⟨rfl, hd'.1⟩, upd_i hi.1]
      rfl
    · rw [if_neg (fun z => hk z.1)]
      exact cellM_st _ (by omega)
theorem xa_1003 (hexec : p.tables.exec = Jvm.exec) (hb : c.code = cc) (hK : KC D cy s) (hR : RM D cy A ad mu H) {i : Int} (hi : 0 ≤ i ∧ i < 24) {v : Int} (hv : mu 1003 i = v) (d : decode cc pc = .ok (.iaload, 1)) (kk : W p l e R s m args below meth c H locs cells slots Q (F0 m (pc + 1) ls (.int (iI v) :: rest))) : W p l e R s m args below meth c H locs cells slots Q (F0 m pc ls (.int (iI i) :: .ref (ad 23 0) :: rest)) := by
  subst hv
  exact wr_iald hexec hb hK hR md_23 rfl 0 rfl hi (by decide) (by show iI (mu 1003 (i.toNat : Int)) = _; rw [Int.toNat_of_nonneg hi.1]) d kk
theorem xl_1003 (hexec : p.tables.exec = Jvm.exec) (hb : c.code = cc) (hK : KC D cy s) (hR : RM D cy A ad mu H) (d : decode cc pc = .ok (.arraylength, 1)) (kk : W p l e R s m args below meth c H locs cells slots Q (F0 m (pc + 1) ls (.int (iI 24) :: rest))) : W p l e R s m args below meth c H locs cells slots Q (F0 m pc ls (.ref (ad 23 0) :: rest)) :=
  wr_alen hexec hb hK hR md_23 rfl 0 rfl rfl d kk
theorem xs_1003 (hexec : p.tables.exec = Jvm.exec) (hb : c.code = cc) (hK : KC D cy s) (hR : RM D cy A ad mu H) (hS : va_S A H0 H locs) {i v : Int} (hi : 0 ≤ i ∧ i < 24) (d : decode cc pc = .ok (.iastore, 1)) (kk : ∀ (H1 : Heap) (locs1 : List Loc), RM D cy A ad (st mu 1003 i v) H1 → va_S A H0 H1 locs1 → W p l e R s m args below meth c H1 locs1 cells slots Q (F0 m (pc + 1) ls rest)) : W p l e R s m args below meth c H locs cells slots Q (F0 m pc ls (.int (iI v) :: .int (iI i) :: .ref (ad 23 0) :: rest)) := by
  refine wr_iast hexec hb hK hR hS md_23 rfl 0 rfl hi (by decide) (cell' := cellM cy (st mu 1003 i v)) (fun k' j' hd' => ?_) d (fun H1 locs1 h1 h2 => kk H1 locs1 h1 h2)
  · by_cases hk : k' = 23
    · subst hk
      rw [if_pos ⟨rfl, hd'.1⟩, upd_i hi.1]
      rfl
    · rw [if_neg (fun z => hk z.1)]
      exact cellM_st _ (by omega)
theorem ys_1003 (hexec : p.tables.exec = Jvm.exec) (hb : c.code = cc) (hK : KC D cy s) (hC : RC D cy A2 ad2 sg H) (hR : RM D cy A ad mu H) (hA : ∀ q, A q → A0 q) (hA2 : ∀ q, A2 q → A0 q) (hAA : ∀ q, A2 q → ¬ A q) (hS : va_S A0 H0 H locs) {i v : Int} (hi : 0 ≤ i ∧ i < 24) (d : decode cc pc = .ok (.iastore, 1)) (kk : ∀ (H1 : Heap) (locs1 : List Loc), RC D cy A2 ad2 sg H1 → RM D cy A ad (st mu 1003 i v) H1 → va_S A0 H0 H1 locs1 → W p l e R s m args below meth c H1 locs1 cells slots Q (F0 m (pc + 1) ls rest)) : W p l e R s m args below meth c H locs cells slots Q (F0 m pc ls (.int (iI v) :: .int (iI i) :: .ref (ad 23 0) :: rest)) := by
  refine wr_iast2 hexec hb hK hR hC hA hA2 hAA hS md_23 rfl 0 rfl hi (by decide) (cell' := cellM cy (st mu 1003 i v)) (fun k' j' hd' => ?_) d (fun H1 locs1 h1 h2 h3 => kk H1 locs1 h2 h1 h3)
  · by_cases hk : k' = 23
    · subst hk
      rw [if_pos ⟨rfl, hd'.1⟩, upd_i hi.1]
      rfl
    · rw [if_neg (fun z => hk z.1)]
      exact cellM_st _ (by omega)
theorem xa_1004 (hexec : p.tables.exec = Jvm.exec) (hb : c.code = cc) (hK : KC D cy s) (hR : RM D cy A ad mu H) {i : Int} (hi : 0 ≤ i ∧ i < 24) {v : Int} (hv : mu 1004 i = v) (d : decode cc pc = .ok (.iaload, 1)) (kk : W p l e R s m args below meth c H locs cells slots Q (F0 m (pc + 1) ls (.int (iI v) :: rest))) : W p l e R s m args below meth c H locs cells slots Q (F0 m pc ls (.int (iI i) :: .ref (ad 24 0) :: rest)) := by
  subst hv
  exact wr_iald hexec hb hK hR md_24 rfl 0 rfl hi (by decide) (by show iI (mu 1004 (i.toNat : Int)) = _; rw [Int.toNat_of_nonneg hi.1]) d kk
theorem xl_1004 (hexec : p.tables.exec = Jvm.exec) (hb : c.code = cc) (hK : KC D cy s) (hR : RM D cy A ad mu H) (d : decode cc pc = .ok (.arraylength, 1)) (kk : W p l e R s m args below meth c H locs cells slots Q (F0 m (pc + 1) ls (.int (iI 24) :: rest))) : W p l e R s m args below meth c H locs cells slots Q (F0 m pc ls (.ref (ad 24 0) :: rest)) :=
  wr_alen hexec hb hK hR md_24 rfl 0 rfl rfl d kk
theorem xs_1004 (hexec : p.tables.exec = Jvm.exec) (hb : c.code = cc) (hK : KC D cy s) (hR : RM D cy A ad mu H) (hS : va_S A H0 H locs) {i v : Int} (hi : 0 ≤ i ∧ i < 24) (d : decode cc pc = .ok (.iastore, 1)) (kk : ∀ (H1 : Heap) (locs1 : List Loc), RM D cy A ad (st mu 1004 i v) H1 → va_S A H0 H1 locs1 → W p l e R s m args below meth c H1 locs1 cells slots Q (F0 m (pc + 1) ls rest)) : W p l e R s m args below meth c H locs cells slots Q (F0 m pc ls (.int (iI v) :: .int (iI i) :: .ref (ad 24 0) :: rest)) := by
  refine wr_iast hexec hb hK hR hS md_24 rfl 0 rfl hi (by decide) (cell' := cellM cy (st mu 1004 i v)) (fun k' j' hd' => ?_) d (fun H1 locs1 h1 h2 => kk H1 locs1 h1 h2)
  · by_cases hk : k' = 24
    · subst hk
      rw [if_pos ⟨rfl, hd'.1⟩, upd_i hi.1]
      rfl
    · rw [if_neg (fun z => hk z.1)]
      exact cellM_st _ (by omega)
theorem ys_1004 (hexec : p.tables.exec = Jvm.exec) (hb : c.code = cc) (hK : KC D cy s) (hC : RC D cy A2 ad2 sg H) (hR : RM D cy A ad mu H) (hA : ∀ q, A q → A0 q) (hA2 : ∀ q, A2 q → A0 q) (hAA : ∀ q, A2 q → ¬ A q) (hS : va_S A0 H0 H locs) {i v : Int} (hi : 0 ≤ i ∧ i < 24) (d : decode cc pc = .ok (.iastore, 1)) (kk : ∀ (H1 : Heap) (locs1 : List Loc), RC D cy A2 ad2 sg H1 → RM D cy A ad (st mu 1004 i v) H1 → va_S A0 H0 H1 locs1 → W p l e R s m args below meth c H1 locs1 cells slots Q (F0 m (pc + 1) ls rest)) : W p l e R s m args below meth c H locs cells slots Q (F0 m pc ls (.int (iI v) :: .int (iI i) :: .ref (ad 24 0) :: rest)) := by
  refine wr_iast2 hexec hb hK hR hC hA hA2 hAA hS md_24 rfl 0 rfl hi (by decide) (cell' := cellM cy (st mu 1004 i v)) (fun k' j' hd' => ?_) d (fun H1 locs1 h1 h2 h3 => kk H1 locs1 h2 h1 h3)
  · by_cases hk : k' = 24
    · subst hk
      rw [if_pos ⟨rfl, hd'.1⟩, upd_i hi.1]
      rfl
    · rw [if_neg (fun z => hk z.1)]
      exact cellM_st _ (by omega)
theorem xa_1005 (hexec : p.tables.exec = Jvm.exec) (hb : c.code = cc) (hK : KC D cy s) (hR : RM D cy A ad mu H) {i : Int} (hi : 0 ≤ i ∧ i < 24) {v : Int} (hv : mu 1005 i = v) (d : decode cc pc = .ok (.iaload, 1)) (kk : W p l e R s m args below meth c H locs cells slots Q (F0 m (pc + 1) ls (.int (iI v) :: rest))) : W p l e R s m args below meth c H locs cells slots Q (F0 m pc ls (.int (iI i) :: .ref (ad 25 0) :: rest)) := by
  subst hv
  exact wr_iald hexec hb hK hR md_25 rfl 0 rfl hi (by decide) (by show iI (mu 1005 (i.toNat : Int)) = _; rw [Int.toNat_of_nonneg hi.1]) d kk
theorem xl_1005 (hexec : p.tables.exec = Jvm.exec) (hb : c.code = cc) (hK : KC D cy s) (hR : RM D cy A ad mu H) (d : decode cc pc = .ok (.arraylength, 1)) (kk : W p l e R s m args below meth c H locs cells slots Q (F0 m (pc + 1) ls (.int (iI 24) :: rest))) : W p l e R s m args below meth c H locs cells slots Q (F0 m pc ls (.ref (ad 25 0) :: rest)) :=
  wr_alen hexec hb hK hR md_25 rfl 0 rfl rfl d kk
theorem xs_1005 (hexec : p.tables.exec = Jvm.exec) (hb : c.code = cc) (hK : KC D cy s) (hR : RM D cy A ad mu H) (hS : va_S A H0 H locs) {i v : Int} (hi : 0 ≤ i ∧ i < 24) (d : decode cc pc = .ok (.iastore, 1)) (kk : ∀ (H1 : Heap) (locs1 : List Loc), RM D cy A ad (st mu 1005 i v) H1 → va_S A H0 H1 locs1 → W p l e R s m args below meth c H1 locs1 cells slots Q (F0 m (pc + 1) ls rest)) : W p l e R s m args below meth c H locs cells slots Q (F0 m pc ls (.int (iI v) :: .int (iI i) :: .ref (ad 25 0) :: rest)) := by
  refine wr_iast hexec hb hK hR hS md_25 rfl 0 rfl hi (by decide) (cell' := cellM cy (st mu 1005 i v)) (fun k' j' hd' => ?_) d (fun H1 locs1 h1 h2 => kk H1 locs1 h1 h2)
  · by_cases hk : k' = 25
    · subst hk
      rw [if_pos ⟨rfl, hd'.1⟩, upd_i hi.1]
      rfl
    · rw [if_neg (fun z => hk z.1)]
      exact cellM_st _ (by omega)
theorem ys_1005 (hexec : p.tables.exec = Jvm.exec) (hb : c.code = cc) (hK : KC D cy s) (hC : RC D cy A2 ad2 sg H) (hR : RM D cy A ad mu H) (hA : ∀ q, A q → A0 q) (hA2 : ∀ q, A2 q → A0 q) (hAA : ∀ q, A2 q → ¬ A q) (hS : va_S A0 H0 H locs) {i v : Int} (hi : 0 ≤ i ∧ i < 24) (d : decode cc pc = .ok (.iastore, 1)) (kk : ∀ (H1 : Heap) (locs1 : List Loc), RC D cy A2 ad2 sg H1 → RM D cy A ad (st mu 1005 i v) H1 → va_S A0 H0 H1 locs1 → W p l e R s m args below meth c H1 locs1 cells slots Q (F0 m (pc + 1) ls rest)) : W p l e R s m args below meth c H locs cells slots Q (F0 m pc ls (.int (iI v) :: .int (iI i) :: .ref (ad 25 0) :: rest)) := by
  refine wr_iast2 hexec hb hK hR hC hA hA2 hAA hS md_25 rfl 0 rfl hi (by decide) (cell' := cellM cy (st mu 1005 i v)) (fun k' j' hd' => ?_) d (fun H1 locs1 h1 h2 h3 => kk H1 locs1 h2 h1 h3)
  · by_cases hk : k' = 25
    · subst hk
      rw [if_pos ⟨rfl, hd'.1⟩, upd_i hi.1]
      rfl
    · rw [if_neg (fun z => hk z.1)]
      exact cellM_st _ (by omega)
theorem xa_1006 (hexec : p.tables.exec = Jvm.exec) (hb : c.code = cc) (hK : KC D cy s) (hR : RM D cy A ad mu H) {i : Int} (hi : 0 ≤ i ∧ i < 24) {v : Int} (hv : mu 1006 i = v) (d : decode cc pc = .ok (.iaload, 1)) (kk : W p l e R s m args below meth c H locs cells slots Q (F0 m (pc + 1) ls (.int (iI v) :: rest))) : W p l e R s m args below meth c H locs cells slots Q (F0 m pc ls (.int (iI i) :: .ref (ad 26 0) :: rest)) := by
  subst hv
  exact wr_iald hexec hb hK hR md_26 rfl 0 rfl hi (by decide) (by show iI (mu 1006 (i.toNat : Int)) = _; rw [Int.toNat_of_nonneg hi.1]) d kk
theorem xl_1006 (hexec : p.tables.exec = Jvm.exec) (hb : c.code = cc) (hK : KC D cy s) (hR : RM D cy A ad mu H) (d : decode cc pc = .ok (.arraylength, 1)) (kk : W p l e R s m args below meth c H locs cells slots Q (F0 m (pc + 1) ls (.int (iI 24) :: rest))) : W p l e R s m args below meth c H locs cells slots Q (F0 m pc ls (.ref (ad 26 0) :: rest)) :=
  wr_alen hexec hb hK hR md_26 rfl 0 rfl rfl d kk
theorem xs_1006 (hexec : p.tables.exec = Jvm.exec) (hb : c.code = cc) (hK : KC D cy s) (hR : RM D cy A ad mu H) (hS : va_S A H0 H locs) {i v : Int} (hi : 0 ≤ i ∧ i < 24) (d : decode cc pc = .ok (.iastore, 1)) (kk : ∀ (H1 : Heap) (locs1 : List Loc), RM D cy A ad (st mu 1006 i v) H1 → va_S A H0 H1 locs1 → W p l e R s m args below meth c H1 locs1 cells slots Q (F0 m (pc + 1) ls rest)) : W p l e R s m args below meth c H locs cells slots Q (F0 m pc ls (.int (iI v) :: .int (iI i) :: .ref (ad 26 0) :: rest)) := by
  refine wr_iast hexec hb hK hR hS md_26 rfl 0 rfl hi (by decide) (cell' := cellM cy (st mu 1006 i v)) (fun k' j' hd' => ?_) d (fun H1 locs1 h1 h2 => kk H1 locs1 h1 h2)
  · by_cases hk : k' = 26
    · subst hk
      rw [if_pos ⟨rfl, hd'.1⟩, upd_i hi.1]
      rfl
    · rw [if_neg (fun z => hk z.1)]
      exact cellM_st _ (by omega)
theorem ys_1006 (hexec : p.tables.exec = Jvm.exec) (hb : c.code = cc) (hK : KC D cy s) (hC : RC D cy A2 ad2 sg H) (hR : RM D cy A ad mu H) (hA : ∀ q, A q → A0 q) (hA2 : ∀ q, A2 q → A0 q) (hAA : ∀ q, A2 q → ¬ A q) (hS : va_S A0 H0 H locs) {i v : Int} (hi : 0 ≤ i ∧ i < 24) (d : decode cc pc = .ok (.iastore, 1)) (kk : ∀ (H1 : Heap) (locs1 : List Loc), RC D cy A2 ad2 sg H1 → RM D cy A ad (st mu 1006 i v) H1 → va_S A0 H0 H1 locs1 → W p l e R s m args below meth c H1 locs1 cells slots Q (F0 m (pc + 1) ls rest)) : W p l e R s m args below meth c H locs cells slots Q (F0 m pc ls (.int (iI v) :: .int (iI i) :: .ref (ad 26 0) :: rest)) := by
  refine wr_iast2 hexec hb hK hR hC hA hA2 hAA hS md_26 rfl 0 rfl hi (by decide) (cell' := cellM cy (st mu 1006 i v)) (fun k' j' hd' => ?_) d (fun H1 locs1 h1 h2 h3 => kk H1 locs1 h2 h1 h3)
  · by_cases hk : k' = 26
    · subst hk
      rw [if_pos ⟨rfl, hd'.1⟩, upd_i hi.1]
      rfl
    · rw [if_neg (fun z => hk z.1)]
      exact cellM_st _ (by omega)
theorem xa_1007 (hexec : p.tables.exec = Jvm.exec) (hb : c.code = cc) (hK : KC D cy s) (hR : RM D cy A ad mu H) {i : Int} (hi : 0 ≤ i ∧ i < 8) {v : Int} (hv : mu 1007 i = v) (d : decode cc pc = .ok (.iaload, 1)) (kk : W p l e R s m args below meth c H locs cells slots Q (F0 m (pc + 1) ls (.int (iI v) :: rest))) : W p l e R s m args below meth c H locs cells slots Q (F0 m pc ls (.int (iI i) :: .ref (ad 27 0) :: rest)) := by
  subst hv
  exact wr_iald hexec hb hK hR md_27 rfl 0 rfl hi (by decide) (by show iI (mu 1007 (i.toNat : Int)) = _; rw [Int.toNat_of_nonneg hi.1]) d kk
theorem xl_1007 (hexec : p.tables.exec = Jvm.exec) (hb : c.code = cc) (hK : KC D cy s) (hR : RM D cy A ad mu H) (d : decode cc pc = .ok (.arraylength, 1)) (kk : W p l e R s m args below meth c H locs cells slots Q (F0 m (pc + 1) ls (.int (iI 8) :: rest))) : W p l e R s m args below meth c H locs cells slots Q (F0 m pc ls (.ref (ad 27 0) :: rest)) :=
  wr_alen hexec hb hK hR md_27 rfl 0 rfl rfl d kk
theorem xs_1007 (hexec : p.tables.exec = Jvm.exec) (hb : c.code = cc) (hK : KC D cy s) (hR : RM D cy A ad mu H) (hS : va_S A H0 H locs) {i v : Int} (hi : 0 ≤ i ∧ i < 8) (d : decode cc pc = .ok (.iastore, 1)) (kk : ∀ (H1 : Heap) (locs1 : List Loc), RM D cy A ad (st mu 1007 i v) H1 → va_S A H0 H1 locs1 → W p l e R s m args below meth c H1 locs1 cells slots Q (F0 m (pc + 1) ls rest)) : W p l e R s m args below meth c H locs cells slots Q (F0 m pc ls (.int (iI v) :: .int (iI i) :: .ref (ad 27 0) :: rest)) := by
  refine wr_iast hexec hb hK hR hS md_27 rfl 0 rfl hi (by decide) (cell' := cellM cy (st mu 1007 i v)) (fun k' j' hd' => ?_) d (fun H1 locs1 h1 h2 => kk H1 locs1 h1 h2)
  · by_cases hk : k' = 27
    · subst hk
      rw [if_pos ⟨rfl, hd'.1⟩, upd_i hi.1]
      rfl
    · rw [if_neg (fun z => hk z.1)]
      exact cellM_st _ (by omega)
theorem ys_1007 (hexec : p.tables.exec = Jvm.exec) (hb : c.code = cc) (hK : KC D cy s) (hC : RC D cy A2 ad2 sg H) (hR : RM D cy A ad mu H) (hA : ∀ q, A q → A0 q) (hA2 : ∀ q, A2 q → A0 q) (hAA : ∀ q, A2 q → ¬ A q) (hS : va_S A0 H0 H locs) {i v : Int} (hi : 0 ≤ i ∧ i < 8) (d : decode cc pc = .ok (.iastore, 1)) (kk : ∀ (H1 : Heap) (locs1 : List Loc), RC D cy A2 ad2 sg H1 → RM D cy A ad (st mu 1007 i v) H1 → va_S A0 H0 H1 locs1 → W p l e R s m args below meth c H1 locs1 cells slots Q (F0 m (pc + 1) ls rest)) : W p l e R s m args below meth c H locs cells slots Q (F0 m pc ls (.int (iI v) :: .int (iI i) :: .ref (ad 27 0) :: rest)) := by
  refine wr_iast2 hexec hb hK hR hC hA hA2 hAA hS md_27 rfl 0 rfl hi (by decide) (cell' := cellM cy (st mu 1007 i v)) (fun k' j' hd' => ?_) d (fun H1 locs1 h1 h2 h3 => kk H1 locs1 h2 h1 h3)
  · by_cases hk : k' = 27
    · subst hk
      rw [if_pos ⟨rfl, hd'.1⟩, upd_i hi.1]
      rfl
    · rw [if_neg (fun z => hk z.1)]
      exact cellM_st _ (by omega)
theorem xa_1008 (hexec : p.tables.exec = Jvm.exec) (hb : c.code = cc) (hK : KC D cy s) (hR : RM D cy A ad mu H) {i : Int} (hi : 0 ≤ i ∧ i < 3) {v : Int} (hv : mu 1008 i = v) (d : decode cc pc = .ok (.iaload, 1)) (kk : W p l e R s m args below meth c H locs cells slots Q (F0 m (pc + 1) ls (.int (iI v) :: rest))) : W p l e R s m args below meth c H locs cells slots Q (F0 m pc ls (.int (iI i) :: .ref (ad 28 0) :: rest)) := by
  subst hv
  exact wr_iald hexec hb hK hR md_28 rfl 0 rfl hi (by decide) (by show iI (mu 1008 (i.toNat : Int)) = _; rw [Int.toNat_of_nonneg hi.1]) d kk
theorem xl_1008 (hexec : p.tables.exec = Jvm.exec) (hb : c.code = cc) (hK : KC D cy s) (hR : RM D cy A ad mu H) (d : decode cc pc = .ok (.arraylength, 1)) (kk : W p l e R s m args below meth c H locs cells slots Q (F0 m (pc + 1) ls (.int (iI 3) :: rest))) : W p l e R s m args below meth c H locs cells slots Q (F0 m pc ls (.ref (ad 28 0) :: rest)) :=
  wr_alen hexec hb hK hR md_28 rfl 0 rfl rfl d kk
theorem xs_1008 (hexec : p.tables.exec = Jvm.exec) (hb : c.code = cc) (hK : KC D cy s) (hR : RM D cy A ad mu H) (hS : va_S A H0 H locs) {i v : Int} (hi : 0 ≤ i ∧ i < 3) (d : decode cc pc = .ok (.iastore, 1)) (kk : ∀ (H1 : Heap) (locs1 : List Loc), RM D cy A ad (st mu 1008 i v) H1 → va_S A H0 H1 locs1 → W p l e R s m args below meth c H1 locs1 cells slots Q (F0 m (pc + 1) ls rest)) : W p l e R s m args below meth c H locs cells slots Q (F0 m pc ls (.int (iI v) :: .int (iI i) :: .ref (ad 28 0) :: rest)) := by
  refine wr_iast hexec hb hK hR hS md_28 rfl 0 rfl hi (by decide) (cell' := cellM cy (st mu 1008 i v)) (fun k' j' hd' => ?_) d (fun H1 locs1 h1 h2 => kk H1 locs1 h1 h2)
  · by_cases hk : k' = 28
    · subst hk
      rw [if_pos ⟨rfl, hd'.1⟩, upd_i hi.1]
      rfl
    · rw [if_neg (fun z => hk z.1)]
      exact cellM_st _ (by omega)
theorem ys_1008 (hexec : p.tables.exec = Jvm.exec) (hb : c.code = cc) (hK : KC D cy s) (hC : RC D cy A2 ad2 sg H) (hR : RM D cy A ad mu H) (hA : ∀ q, A q → A0 q) (hA2 : ∀ q, A2 q → A0 q) (hAA : ∀ q, A2 q → ¬ A q) (hS : va_S A0 H0 H locs) {i v : Int} (hi : 0 ≤ i ∧ i < 3) (d : decode cc pc = .ok (.iastore, 1)) (kk : ∀ (H1 : Heap) (locs1 : List Loc), RC D cy A2 ad2 sg H1 → RM D cy A ad (st mu 1008 i v) H1 → va_S A0 H0 H1 locs1 → W p l e R s m args below meth c H1 locs1 cells slots Q (F0 m (pc + 1) ls rest)) : W p l e R s m args below meth c H locs cells slots Q (F0 m pc ls (.int (iI v) :: .int (iI i) :: .ref (ad 28 0) :: rest)) := by
  refine wr_iast2 hexec hb hK hR hC hA hA2 hAA hS md_28 rfl 0 rfl hi (by decide) (cell' := cellM cy (st mu 1008 i v)) (fun k' j' hd' => ?_) d (fun H1 locs1 h1 h2 h3 => kk H1 locs1 h2 h1 h3)
  · by_cases hk : k' = 28
    · subst hk
      rw [if_pos ⟨rfl, hd'.1⟩, upd_i hi.1]
      rfl
    · rw [if_neg (fun z => hk z.1)]
      exact cellM_st _ (by omega)
theorem xa_1009 (hexec : p.tables.exec = Jvm.exec) (hb : c.code = cc) (hK : KC D cy s) (hR : RM D cy A ad mu H) {i : Int} (hi : 0 ≤ i ∧ i < 24) {v : Int} (hv : mu 1009 i = v) (d : decode cc pc = .ok (.iaload, 1)) (kk : W p l e R s m args below meth c H locs cells slots Q (F0 m (pc + 1) ls (.int (iI v) :: rest))) : W p l e R s m args below meth c H locs cells slots Q (F0 m pc ls (.int (iI i) :: .ref (ad 29 0) :: rest)) := by
  subst hv
  exact wr_iald hexec hb hK hR md_29 rfl 0 rfl hi (by decide) (by show iI (mu 1009 (i.toNat : Int)) = _; rw [Int.toNat_of_nonneg hi.1]) d kk
theorem xl_1009 (hexec : p.tables.exec = Jvm.exec) (hb : c.code = cc) (hK : KC D cy s) (hR : RM D cy A ad mu H) (d : decode cc pc = .ok (.arraylength, 1)) (kk : W p l e R s m args below meth c H locs cells slots Q (F0 m (pc + 1) ls (.int (iI 24) :: rest))) : W p l e R s m args below meth c H locs cells slots Q (F0 m pc ls (.ref (ad 29 0) :: rest)) :=
  wr_alen hexec hb hK hR md_29 rfl 0 rfl rfl d kk
theorem xs_1009 (hexec : p.tables.exec = Jvm.exec) (hb : c.code = cc) (hK : KC D cy s) (hR : RM D cy A ad mu H) (hS : va_S A H0 H locs) {i v : Int} (hi : 0 ≤ i ∧ i < 24) (d : decode cc pc = .ok (.iastore, 1)) (kk : ∀ (H1 : Heap) (locs1 : List Loc), RM D cy A ad (st mu 1009 i v) H1 → va_S A H0 H1 locs1 → W p l e R s m args below meth c H1 locs1 cells slots Q (F0 m (pc + 1) ls rest)) : W p l e R s m args below meth c H locs cells slots Q (F0 m pc ls (.int (iI v) :: .int (iI i) :: .ref (ad 29 0) :: rest)) := by
  refine wr_iast hexec hb hK hR hS md_29 rfl 0 rfl hi (by decide) (cell' := cellM cy (st mu 1009 i v)) (fun k' j' hd' => ?_) d (fun H1 locs1 h1 h2 => kk H1 locs1 h1 h2)
  · by_cases hk : k' = 29
    · subst hk
      rw [if_pos ⟨rfl, hd'.1⟩, upd_i hi.1]
      rfl
    · rw [if_neg (fun z => hk z.1)]
      exact cellM_st _ (by omega)
theorem ys_1009 (hexec : p.tables.exec = Jvm.exec) (hb : c.code = cc) (hK : KC D cy s) (hC : RC D cy A2 ad2 sg H) (hR : RM D cy A ad mu H) (hA : ∀ q, A q → A0 q) (hA2 : ∀ q, A2 q → A0 q) (hAA : ∀ q, A2 q → ¬ A q) (hS : va_S A0 H0 H locs) {i v : Int} (hi : 0 ≤ i ∧ i < 24) (d : decode cc pc = .ok (.iastore, 1)) (kk : ∀ (H1 : Heap) (locs1 : List Loc), RC D cy A2 ad2 sg H1 → RM D cy A ad (st mu 1009 i v) H1 → va_S A0 H0 H1 locs1 → W p l e R s m args below meth c H1 locs1 cells slots Q (F0 m (pc + 1) ls rest)) : W p l e R s m args below meth c H locs cells slots Q (F0 m pc ls (.int (iI v) :: .int (iI i) :: .ref (ad 29 0) :: rest)) := by
  refine wr_iast2 hexec hb hK hR hC hA hA2 hAA hS md_29 rfl 0 rfl hi (by decide) (cell' := cellM cy (st mu 1009 i v)) (fun k' j' hd' => ?_) d (fun H1 locs1 h1 h2 h3 => kk H1 locs1 h2 h1 h3)
  · by_cases hk : k' = 29
    · subst hk
      rw [if_pos ⟨rfl, hd'.1⟩, upd_i hi.1]
      rfl
    · rw [if_neg (fun z => hk z.1)]
      exact cellM_st _ (by omega)
theorem xa_1010 (hexec : p.tables.exec = Jvm.exec) (hb : c.code = cc) (hK : KC D cy s) (hR : RM D cy A ad mu H) {i : Int} (hi : 0 ≤ i ∧ i < 24) {v : Int} (hv : mu 1010 i = v) (d : decode cc pc = .ok (.iaload, 1)) (kk : W p l e R s m args below meth c H locs cells slots Q (F0 m (pc + 1) ls (.int (iI v) :: rest))) : W p l e R s m args below meth c H locs cells slots Q (F0 m pc ls (.int (iI i) :: .ref (ad 30 0) :: rest)) := by
  subst hv
  exact wr_iald hexec hb hK hR md_30 rfl 0 rfl hi (by decide) (by show iI (mu 1010 (i.toNat : Int)) = _; rw [Int.toNat_of_nonneg hi.1]) d kk
theorem xl_1010 (hexec : p.tables.exec = Jvm.exec) (hb : c.code = cc) (hK : KC D cy s) (hR : RM D cy A ad mu H) (d : decode cc pc = .ok (.arraylength, 1)) (kk : W p l e R s m args below meth c H locs cells slots Q (F0 m (pc + 1) ls (.int (iI 24) :: rest))) : W p l e R s m args below meth c H locs cells slots Q (F0 m pc ls (.ref (ad 30 0) :: rest)) :=
  wr_alen hexec hb hK hR md_30 rfl 0 rfl rfl d kk
theorem xs_1010 (hexec : p.tables.exec = Jvm.exec) (hb : c.code = cc) (hK : KC D cy s) (hR : RM D cy A ad mu H) (hS : va_S A H0 H locs) {i v : Int} (hi : 0 ≤ i ∧ i < 24) (d : decode cc pc = .ok (.iastore, 1)) (kk : ∀ (H1 : Heap) (locs1 : List Loc), RM D cy A ad (st mu 1010 i v) H1 → va_S A H0 H1 locs1 → W p l e R s m args below meth c H1 locs1 cells slots Q (F0 m (pc + 1) ls rest)) : W p l e R s m args below meth c H locs cells slots Q (F0 m pc ls (.int (iI v) :: .int (iI i) :: .ref (ad 30 0) :: rest)) := by
  refine wr_iast hexec hb hK hR hS md_30 rfl 0 rfl hi (by decide) (cell' := cellM cy (st mu 1010 i v)) (fun k' j' hd' => ?_) d (fun H1 locs1 h1 h2 => kk H1 locs1 h1 h2)
  · by_cases hk : k' = 30
    · subst hk
      rw [if_pos ⟨rfl, hd'.1⟩, upd_i hi.1]
      rfl
    · rw [if_neg (fun z => hk z.1)]
      exact cellM_st _ (by omega)
theorem ys_1010 (hexec : p.tables.exec = Jvm.exec) (hb : c.code = cc) (hK : KC D cy s) (hC : RC D cy A2 ad2 sg H) (hR : RM D cy A ad mu H) (hA : ∀ q, A q → A0 q) (hA2 : ∀ q, A2 q → A0 q) (hAA : ∀ q, A2 q → ¬ A q) (hS : va_S A0 H0 H locs) {i v : Int} (hi : 0 ≤ i ∧ i < 24) (d : decode cc pc = .ok (.iastore, 1)) (kk : ∀ (H1 : Heap) (locs1 : List Loc), RC D cy A2 ad2 sg H1 → RM D cy A ad (st mu 1010 i v) H1 → va_S A0 H0 H1 locs1 → W p l e R s m args below meth c H1 locs1 cells slots Q (F0 m (pc + 1) ls rest)) : W p l e R s m args below meth c H locs cells slots Q (F0 m pc ls (.int (iI v) :: .int (iI i) :: .ref (ad 30 0) :: rest)) := by
  refine wr_iast2 hexec hb hK hR hC hA hA2 hAA hS md_30 rfl 0 rfl hi (by decide) (cell' := cellM cy (st mu 1010 i v)) (fun k' j' hd' => ?_) d (fun H1 locs1 h1 h2 h3 => kk H1 locs1 h2 h1 h3)
  · by_cases hk : k' = 30
    · subst hk
      rw [if_pos ⟨rfl, hd'.1⟩, upd_i hi.1]
      rfl
    · rw [if_neg (fun z => hk z.1)]
      exact cellM_st _ (by omega)
theorem xa_1011 (hexec : p.tables.exec = Jvm.exec) (hb : c.code = cc) (hK : KC D cy s) (hR : RM D cy A ad mu H) {i : Int} (hi : 0 ≤ i ∧ i < 4) {v : Int} (hv : mu 1011 i = v) (d : decode cc pc = .ok (.iaload, 1)) (kk : W p l e R s m args below meth c H locs cells slots Q (F0 m (pc + 1) ls (.int (iI v) :: rest))) : W p l e R s m args below meth c H locs cells slots Q (F0 m pc ls (.int (iI i) :: .ref (ad 31 0) :: rest)) := by
  subst hv
  exact wr_iald hexec hb hK hR md_31 rfl 0 rfl hi (by decide) (by show iI (mu 1011 (i.toNat : Int)) = _; rw [Int.toNat_of_nonneg hi.1]) d kk
theorem xl_1011 (hexec : p.tables.exec = Jvm.exec) (hb : c.code = cc) (hK : KC D cy s) (hR : RM D cy A ad mu H) (d : decode cc pc = .ok (.arraylength, 1)) (kk : W p l e R s m args below meth c H locs cells slots Q (F0 m (pc + 1) ls (.int (iI 4) :: rest))) : W p l e R s m args below meth c H locs cells slots Q (F0 m pc ls (.ref (ad 31 0) :: rest)) :=
  wr_alen hexec hb hK hR md_31 rfl 0 rfl rfl d kk
theorem xs_1011 (hexec : p.tables.exec = Jvm.exec) (hb : c.code = cc) (hK : KC D cy s) (hR : RM D cy A ad mu H) (hS : va_S A H0 H locs) {i v : Int} (hi : 0 ≤ i ∧ i < 4) (d : decode cc pc = .ok (.iastore, 1)) (kk : ∀ (H1 : Heap) (locs1 : List Loc), RM D cy A ad (st mu 1011 i v) H1 → va_S A H0 H1 locs1 → W p l e R s m args below meth c H1 locs1 cells slots Q (F0 m (pc + 1) ls rest)) : W p l e R s m args below meth c H locs cells slots Q (F0 m pc ls (.int (iI v) :: .int (iI i) :: .ref (ad 31 0) :: rest)) := by
  refine wr_iast hexec hb hK hR hS md_31 rfl 0 rfl hi (by decide) (cell' := cellM cy (st mu 1011 i v)) (fun k' j' hd' => ?_) d (fun H1 locs1 h1 h2 => kk H1 locs1 h1 h2)
  · by_cases hk : k' = 31
    · subst hk
      rw [if_pos ⟨rfl, hd'.1⟩, upd_i hi.1]
      rfl
    · rw [if_neg (fun z => hk z.1)]
      exact cellM_st _ (by omega)
theorem ys_1011 (hexec : p.tables.exec = Jvm.exec) (hb : c.code = cc) (hK : KC D cy s) (hC : RC D cy A2 ad2 sg H) (hR : RM D cy A ad mu H) (hA : ∀ q, A q → A0 q) (hA2 : ∀ q, A2 q → A0 q) (hAA : ∀ q, A2 q → ¬ A q) (hS : va_S A0 H0 H locs) {i v : Int} (hi : 0 ≤ i ∧ i < 4) (d : decode cc pc = .ok (.iastore, 1)) (kk : ∀ (H1 : Heap) (locs1 : List Loc), RC D cy A2 ad2 sg H1 → RM D cy A ad (st mu 1011 i v) H1 → va_S A0 H0 H1 locs1 → W p l e R s m args below meth c H1 locs1 cells slots Q (F0 m (pc + 1) ls rest)) : W p l e R s m args below meth c H locs cells slots Q (F0 m pc ls (.int (iI v) :: .int (iI i) :: .ref (ad 31 0) :: rest)) := by
  refine wr_iast2 hexec hb hK hR hC hA hA2 hAA hS md_31 rfl 0 rfl hi (by decide) (cell' := cellM cy (st mu 1011 i v)) (fun k' j' hd' => ?_) d (fun H1 locs1 h1 h2 h3 => kk H1 locs1 h2 h1 h3)
  · by_cases hk : k' = 31
    · subst hk
      rw [if_pos ⟨rfl, hd'.1⟩, upd_i hi.1]
      rfl
    · rw [if_neg (fun z => hk z.1)]
      exact cellM_st _ (by omega)
theorem xa_1012 (hexec : p.tables.exec = Jvm.exec) (hb : c.code = cc) (hK : KC D cy s) (hR : RM D cy A ad mu H) {i : Int} (hi : 0 ≤ i ∧ i < 4) {v : Int} (hv : mu 1012 i = v) (d : decode cc pc = .ok (.iaload, 1)) (kk : W p l e R s m args below meth c H locs cells slots Q (F0 m (pc + 1) ls (.int (iI v) :: rest))) : W p l e R s m args below meth c H locs cells slots Q (F0 m pc ls (.int (iI i) :: .ref (ad 32 0) :: rest)) := by
  subst hv
  exact wr_iald hexec hb hK hR md_32 rfl 0 rfl hi (by decide) (by show iI (mu 1012 (i.toNat : Int)) = _; rw [Int.toNat_of_nonneg hi.1]) d kk
theorem xl_1012 (hexec : p.tables.exec = Jvm.exec) (hb : c.code = cc) (hK : KC D cy s) (hR : RM D cy A ad mu H) (d : decode cc pc = .ok (.arraylength, 1)) (kk : W p l e R s m args below meth c H locs cells slots Q (F0 m (pc + 1) ls (.int (iI 4) :: rest))) : W p l e R s m args below meth c H locs cells slots Q (F0 m pc ls (.ref (ad 32 0) :: rest)) :=
  wr_alen hexec hb hK hR md_32 rfl 0 rfl rfl d kk
theorem xs_1012 (hexec : p.tables.exec = Jvm.exec) (hb : c.code = cc) (hK : KC D cy s) (hR : RM D cy A ad mu H) (hS : va_S A H0 H locs) {i v : Int} (hi : 0 ≤ i ∧ i < 4) (d : decode cc pc = .ok (.iastore, 1)) (kk : ∀ (H1 : Heap) (locs1 : List Loc), RM D cy A ad (st mu 1012 i v) H1 → va_S A H0 H1 locs1 → W p l e R s m args below meth c H1 locs1 cells slots Q (F0 m (pc + 1) ls rest)) : W p l e R s m args below meth c H locs cells slots Q (F0 m pc ls (.int (iI v) :: .int (iI i) :: .ref (ad 32 0) :: rest)) := by
  refine wr_iast hexec hb hK hR hS md_32 rfl 0 rfl hi (by decide) (cell' := cellM cy (st mu 1012 i v)) (fun k' j' hd' => ?_) d (fun H1 locs1 h1 h2 => kk H1 locs1 h1 h2)
  · by_cases hk : k' = 32
    · subst hk
      rw [if_pos ⟨rfl, hd'.1⟩, upd_i hi.1]
      rfl
    · rw [if_neg (fun z => hk z.1)]
      exact cellM_st _ (by omega)
theorem ys_1012 (hexec : p.tables.exec = Jvm.exec) (hb : c.code = cc) (hK : KC D cy s) (hC : RC D cy A2 ad2 sg H) (hR : RM D cy A ad mu H) (hA : ∀ q, A q → A0 q) (hA2 : ∀ q, A2 q → A0 q) (hAA : ∀ q, A2 q → ¬ A q) (hS : va_S A0 H0 H locs) {i v : Int} (hi : 0 ≤ i ∧ i < 4) (d : decode cc pc = .ok (.iastore, 1)) (kk : ∀ (H1 : Heap) (locs1 : List Loc), RC D cy A2 ad2 sg H1 → RM D cy A ad (st mu 1012 i v) H1 → va_S A0 H0 H1 locs1 → W p l e R s m args below meth c H1 locs1 cells slots Q (F0 m (pc + 1) ls rest)) : W p l e R s m args below meth c H locs cells slots Q (F0 m pc ls (.int (iI v) :: .int (iI i) :: .ref (ad 32 0) :: rest)) := by
  refine wr_iast2 hexec hb hK hR hC hA hA2 hAA hS md_32 rfl 0 rfl hi (by decide) (cell' := cellM cy (st mu 1012 i v)) (fun k' j' hd' => ?_) d (fun H1 locs1 h1 h2 h3 => kk H1 locs1 h2 h1 h3)
  · by_cases hk : k' = 32
    · subst hk
      rw [if_pos ⟨rfl, hd'.1⟩, upd_i hi.1]
      rfl
    · rw [if_neg (fun z => hk z.1)]
      exact cellM_st _ (by omega)
theorem xa_1013 (hexec : p.tables.exec = Jvm.exec) (hb : c.code = cc) (hK : KC D cy s) (hR : RM D cy A ad mu H) {i : Int} (hi : 0 ≤ i ∧ i < 26) {v : Int} (hv : mu 1013 i = v) (d : decode cc pc = .ok (.laload, 1)) (kk : W p l e R s m args below meth c H locs cells slots Q (F0 m (pc + 1) ls (.long (lI v) :: rest))) : W p l e R s m args below meth c H locs cells slots Q (F0 m pc ls (.int (iI i) :: .ref (ad 33 0) :: rest)) := by
  subst hv
  exact wr_lald hexec hb hK hR md_33 rfl 1 rfl hi (by decide) (by show lI (mu 1013 (i.toNat : Int)) = _; rw [Int.toNat_of_nonneg hi.1]) d kk
theorem xl_1013 (hexec : p.tables.exec = Jvm.exec) (hb : c.code = cc) (hK : KC D cy s) (hR : RM D cy A ad mu H) (d : decode cc pc = .ok (.arraylength, 1)) (kk : W p l e R s m args below meth c H locs cells slots Q (F0 m (pc + 1) ls (.int (iI 26) :: rest))) : W p l e R s m args below meth c H locs cells slots Q (F0 m pc ls (.ref (ad 33 0) :: rest)) :=
  wr_alen hexec hb hK hR md_33 rfl 1 rfl rfl d kk
theorem xs_1013 (hexec : p.tables.exec = Jvm.exec) (hb : c.code = cc) (hK : KC D cy s) (hR : RM D cy A ad mu H) (hS : va_S A H0 H locs) {i v : Int} (hi : 0 ≤ i ∧ i < 26) (d : decode cc pc = .ok (.lastore, 1)) (kk : ∀ (H1 : Heap) (locs1 : List Loc), RM D cy A ad (st mu 1013 i v) H1 → va_S A H0 H1 locs1 → W p l e R s m args below meth c H1 locs1 cells slots Q (F0 m (pc + 1) ls rest)) : W p l e R s m args below meth c H locs cells slots Q (F0 m pc ls (.long (lI v) :: .int (iI i) :: .ref (ad 33 0) :: rest)) := by
  refine wr_last hexec hb hK hR hS md_33 rfl 1 rfl hi (by decide) (cell' := cellM cy (st mu 1013 i v)) (fun k' j' hd' => ?_) d (fun H1 locs1 h1 h2 => kk H1 locs1 h1 h2)
  · by_cases hk : k' = 33
    · subst hk
      rw [if_pos ⟨rfl, hd'.1⟩, upd_l hi.1]
      rfl
    · rw [if_neg (fun z => hk z.1)]
      exact cellM_st _ (by omega)
theorem ys_1013 (hexec : p.tables.exec = Jvm.exec) (hb : c.code = cc) (hK : KC D cy s) (hC : RC D cy A2 ad2 sg H) (hR : RM D cy A ad mu H) (hA : ∀ q, A q → A0 q) (hA2 : ∀ q, A2 q → A0 q) (hAA : ∀ q, A2 q → ¬ A q) (hS : va_S A0 H0 H locs) {i v : Int} (hi : 0 ≤ i ∧ i < 26) (d : decode cc pc = .ok (.lastore, 1)) (kk : ∀ (H1 : Heap) (locs1 : List Loc), RC D cy A2 ad2 sg H1 → RM D cy A ad (st mu 1013 i v) H1 → va_S A0 H0 H1 locs1 → W p l e R s m args below meth c H1 locs1 cells slots Q (F0 m (pc + 1) ls rest)) : W p l e R s m args below meth c H locs cells slots Q (F0 m pc ls (.long (lI v) :: .int (iI i) :: .ref (ad 33 0) :: rest)) := by
  refine wr_last2 hexec hb hK hR hC hA hA2 hAA hS md_33 rfl 1 rfl hi (by decide) (cell' := cellM cy (st mu 1013 i v)) (fun k' j' hd' => ?_) d (fun H1 locs1 h1 h2 h3 => kk H1 locs1 h2 h1 h3)
  · by_cases hk : k' = 33
    · subst hk
      rw [if_pos ⟨rfl, hd'.1⟩, upd_l hi.1]
      rfl
    · rw [if_neg (fun z => hk z.1)]
      exact cellM_st _ (by omega)
theorem xa_1014 (hexec : p.tables.exec = Jvm.exec) (hb : c.code = cc) (hK : KC D cy s) (hR : RM D cy A ad mu H) {i : Int} (hi : 0 ≤ i ∧ i < 24) {v : Int} (hv : mu 1014 i = v) (d : decode cc pc = .ok (.laload, 1)) (kk : W p l e R s m args below meth c H locs cells slots Q (F0 m (pc + 1) ls (.long (lI v) :: rest))) : W p l e R s m args below meth c H locs cells slots Q (F0 m pc ls (.int (iI i) :: .ref (ad 34 0) :: rest)) := by
  subst hv
  exact wr_lald hexec hb hK hR md_34 rfl 1 rfl hi (by decide) (by show lI (mu 1014 (i.toNat : Int)) = _; rw [Int.toNat_of_nonneg hi.1]) d kk
theorem xl_1014 (hexec : p.tables.exec = Jvm.exec) (hb : c.code = cc) (hK : KC D cy s) (hR : RM D cy A ad mu H) (d : decode cc pc = .ok (.arraylength, 1)) (kk : W p l e R s m args below meth c H locs cells slots Q (F0 m (pc + 1) ls (.int (iI 24) :: rest))) : W p l e R s m args below meth c H locs cells slots Q (F0 m pc ls (.ref (ad 34 0) :: rest)) :=
  wr_alen hexec hb hK hR md_34 rfl 1 rfl rfl d kk
theorem xs_1014 (hexec : p.tables.exec = Jvm.exec) (hb : c.code = cc) (hK : KC D cy s) (hR : RM D cy A ad mu H) (hS : va_S A H0 H locs) {i v : Int} (hi : 0 ≤ i ∧ i < 24) (d : decode cc pc = .ok (.lastore, 1)) (kk : ∀ (H1 : Heap) (locs1 : List Loc), RM D cy A ad (st mu 1014 i v) H1 → va_S A H0 H1 locs1 → W p l e R s m args below meth c H1 locs1 cells slots Q (F0 m (pc + 1) ls rest)) : W p l e R s m args below meth c H locs cells slots Q (F0 m pc ls (.long (lI v) :: .int (iI i) :: .ref (ad 34 0) :: rest)) := by
  refine wr_last hexec hb hK hR hS md_34 rfl 1 rfl hi (by decide) (cell' := cellM cy (st mu 1014 i v)) (fun k' j' hd' => ?_) d (fun H1 locs1 h1 h2 => kk H1 locs1 h1 h2)
  · by_cases hk : k' = 34
    · subst hk
      rw [if_pos ⟨rfl, hd'.1⟩, upd_l hi.1]
      rfl
    · rw [if_neg (fun z => hk z.1)]
      exact cellM_st _ (by omega)
theorem ys_1014 (hexec : p.tables.exec = Jvm.exec) (hb : c.code = cc) (hK : KC D cy s) (hC : RC D cy A2 ad2 sg H) (hR : RM D cy A ad mu H) (hA : ∀ q, A q → A0 q) (hA2 : ∀ q, A2 q → A0 q) (hAA : ∀ q, A2 q → ¬ A q) (hS : va_S A0 H0 H locs) {i v : Int} (hi : 0 ≤ i ∧ i < 24) (d : decode cc pc = .ok (.lastore, 1)) (kk : ∀ (H1 : Heap) (locs1 : List Loc), RC D cy A2 ad2 sg H1 → RM D cy A ad (st mu 1014 i v) H1 → va_S A0 H0 H1 locs1 → W p l e R s m args below meth c H1 locs1 cells slots Q (F0 m (pc + 1) ls rest)) : W p l e R s m args below meth c H locs cells slots Q (F0 m pc ls (.long (lI v) :: .int (iI i) :: .ref (ad 34 0) :: rest)) := by
  refine wr_last2 hexec hb hK hR hC hA hA2 hAA hS md_34 rfl 1 rfl hi (by decide) (cell' := cellM cy (st mu 1014 i v)) (fun k' j' hd' => ?_) d (fun H1 locs1 h1 h2 h3 => kk H1 locs1 h2 h1 h3)
  · by_cases hk : k' = 34
    · subst hk
      rw [if_pos ⟨rfl, hd'.1⟩, upd_l hi.1]
      rfl
    · rw [if_neg (fun z => hk z.1)]
      exact cellM_st _ (by omega)
theorem xa_1015 (hexec : p.tables.exec = Jvm.exec) (hb : c.code = cc) (hK : KC D cy s) (hR : RM D cy A ad mu H) {i : Int} (hi : 0 ≤ i ∧ i < 24) {v : Int} (hv : mu 1015 i = v) (d : decode cc pc = .ok (.laload, 1)) (kk : W p l e R s m args below meth c H locs cells slots Q (F0 m (pc + 1) ls (.long (lI v) :: rest))) : W p l e R s m args below meth c H locs cells slots Q (F0 m pc ls (.int (iI i) :: .ref (ad 35 0) :: rest)) := by
  subst hv
  exact wr_lald hexec hb hK hR md_35 rfl 1 rfl hi (by decide) (by show lI (mu 1015 (i.toNat : Int)) = _; rw [Int.toNat_of_nonneg hi.1]) d kk
theorem xl_1015 (hexec : p.tables.exec = Jvm.exec) (hb : c.code = cc) (hK : KC D cy s) (hR : RM D cy A ad mu H) (d : decode cc pc = .ok (.arraylength, 1)) (kk : W p l e R s m args below meth c H locs cells slots Q (F0 m (pc + 1) ls (.int (iI 24) :: rest))) : W p l e R s m args below meth c H locs cells slots Q (F0 m pc ls (.ref (ad 35 0) :: rest)) :=
  wr_alen hexec hb hK hR md_35 rfl 1 rfl rfl d kk
theorem xs_1015 (hexec : p.tables.exec = Jvm.exec) (hb : c.code = cc) (hK : KC D cy s) (hR : RM D cy A ad mu H) (hS : va_S A H0 H locs) {i v : Int} (hi : 0 ≤ i ∧ i < 24) (d : decode cc pc = .ok (.lastore, 1)) (kk : ∀ (H1 : Heap) (locs1 : List Loc), RM D cy A ad (st mu 1015 i v) H1 → va_S A H0 H1 locs1 → W p l e R s m args below meth c H1 locs1 cells slots Q (F0 m (pc + 1) ls rest)) : W p l e R s m args below meth c H locs cells slots Q (F0 m pc ls (.long (lI v) :: .int (iI i) :: .ref (ad 35 0) :: rest)) := by
  refine wr_last hexec hb hK hR hS md_35 rfl 1 rfl hi (by decide) (cell' := cellM cy (st mu 1015 i v)) (fun k' j' hd' => ?_) d (fun H1 locs1 h1 h2 => kk H1 locs1 h1 h2)
  · by_cases hk : k' = 35
    · subst hk
      rw [if_pos ⟨rfl, hd'.1⟩, upd_l hi.1]
      rfl
    · rw [if_neg (fun z => hk z.1)]
      exact cellM_st _ (by omega)
theorem ys_1015 (hexec : p.tables.exec = Jvm.exec) (hb : c.code = cc) (hK : KC D cy s) (hC : RC D cy A2 ad2 sg H) (hR : RM D cy A ad mu H) (hA : ∀ q, A q → A0 q) (hA2 : ∀ q, A2 q → A0 q) (hAA : ∀ q, A2 q → ¬ A q) (hS : va_S A0 H0 H locs) {i v : Int} (hi : 0 ≤ i ∧ i < 24) (d : decode cc pc = .ok (.lastore, 1)) (kk : ∀ (H1 : Heap) (locs1 : List Loc), RC D cy A2 ad2 sg H1 → RM D cy A ad (st mu 1015 i v) H1 → va_S A0 H0 H1 locs1 → W p l e R s m args below meth c H1 locs1 cells slots Q (F0 m (pc + 1) ls rest)) : W p l e R s m args below meth c H locs cells slots Q (F0 m pc ls (.long (lI v) :: .int (iI i) :: .ref (ad 35 0) :: rest)) := by
  refine wr_last2 hexec hb hK hR hC hA hA2 hAA hS md_35 rfl 1 rfl hi (by decide) (cell' := cellM cy (st mu 1015 i v)) (fun k' j' hd' => ?_) d (fun H1 locs1 h1 h2 h3 => kk H1 locs1 h2 h1 h3)
  · by_cases hk : k' = 35
    · subst hk
      rw [if_pos ⟨rfl, hd'.1⟩, upd_l hi.1]
      rfl
    · rw [if_neg (fun z => hk z.1)]
      exact cellM_st _ (by omega)
end MX
def loL (f : Nat) : Int := if f = 1000 then (-1) else if f = 1004 then (-1) else if f = 1009 then (-1) else if f = 1011 then (-1) else 0
def hiL (f : Nat) : Int := if f = 1000 then 20000 else if f = 1001 then 3 else if f = 1002 then 21200 else if f = 1003 then 20000 else if f = 1004 then 20000 else if f = 1005 then 2 else if f = 1006 then 100 else if f = 1007 then 50 else if f = 1008 then 1000 else if f = 1009 then 20000 else if f = 1010 then 1 else if f = 1011 then 20000 else if f = 1012 then 100000 else 0
/-- ranges of what stands in the arrays of ints -/
def GL (mu : Nat → Int → Int) : Prop := ∀ (f : Nat) (j : Int), 1000 ≤ f → f ≤ 1012 → loL f ≤ mu f j ∧ mu f j ≤ hiL f
theorem ml_1000 {mu : Nat → Int → Int} (hG : GL mu) (j : Int) : (-1) ≤ mu 1000 j ∧ mu 1000 j ≤ 20000 := hG 1000 j (by decide) (by decide)
theorem ml_1001 {mu : Nat → Int → Int} (hG : GL mu) (j : Int) : (0) ≤ mu 1001 j ∧ mu 1001 j ≤ 3 := hG 1001 j (by decide) (by decide)
theorem ml_1002 {mu : Nat → Int → Int} (hG : GL mu) (j : Int) : (0) ≤ mu 1002 j ∧ mu 1002 j ≤ 21200 := hG 1002 j (by decide) (by decide)
theorem ml_1003 {mu : Nat → Int → Int} (hG : GL mu) (j : Int) : (0) ≤ mu 1003 j ∧ mu 1003 j ≤ 20000 := hG 1003 j (by decide) (by decide)
theorem ml_1004 {mu : Nat → Int → Int} (hG : GL mu) (j : Int) : (-1) ≤ mu 1004 j ∧ mu 1004 j ≤ 20000 := hG 1004 j (by decide) (by decide)
theorem ml_1005 {mu : Nat → Int → Int} (hG : GL mu) (j : Int) : (0) ≤ mu 1005 j ∧ mu 1005 j ≤ 2 := hG 1005 j (by decide) (by decide)
theorem ml_1006 {mu : Nat → Int → Int} (hG : GL mu) (j : Int) : (0) ≤ mu 1006 j ∧ mu 1006 j ≤ 100 := hG 1006 j (by decide) (by decide)
theorem ml_1007 {mu : Nat → Int → Int} (hG : GL mu) (j : Int) : (0) ≤ mu 1007 j ∧ mu 1007 j ≤ 50 := hG 1007 j (by decide) (by decide)
theorem ml_1008 {mu : Nat → Int → Int} (hG : GL mu) (j : Int) : (0) ≤ mu 1008 j ∧ mu 1008 j ≤ 1000 := hG 1008 j (by decide) (by decide)
theorem ml_1009 {mu : Nat → Int → Int} (hG : GL mu) (j : Int) : (-1) ≤ mu 1009 j ∧ mu 1009 j ≤ 20000 := hG 1009 j (by decide) (by decide)
theorem ml_1010 {mu : Nat → Int → Int} (hG : GL mu) (j : Int) : (0) ≤ mu 1010 j ∧ mu 1010 j ≤ 1 := hG 1010 j (by decide) (by decide)
theorem ml_1011 {mu : Nat → Int → Int} (hG : GL mu) (j : Int) : (-1) ≤ mu 1011 j ∧ mu 1011 j ≤ 20000 := hG 1011 j (by decide) (by decide)
theorem ml_1012 {mu : Nat → Int → Int} (hG : GL mu) (j : Int) : (0) ≤ mu 1012 j ∧ mu 1012 j ≤ 100000 := hG 1012 j (by decide) (by decide)
theorem gl_st {mu : Nat → Int → Int} {f : Nat} {j v : Int} (h : GL mu) (hv : 1000 ≤ f → f ≤ 1012 → loL f ≤ v ∧ v ≤ hiL f) : GL (st mu f j v) := by
  intro f' j' h1 h2
  unfold st
  split
  · rename_i z; rw [z.1] at h1 h2 ⊢; exact hv h1 h2
  · exact h f' j' h1 h2
theorem gl_1000 {mu : Nat → Int → Int} (hG : GL mu) (j : Int) {v : Int} (hv : (-1) ≤ v ∧ v ≤ 20000) : GL (st mu 1000 j v) := gl_st hG (fun _ _ => hv)
theorem gl_1001 {mu : Nat → Int → Int} (hG : GL mu) (j : Int) {v : Int} (hv : (0) ≤ v ∧ v ≤ 3) : GL (st mu 1001 j v) := gl_st hG (fun _ _ => hv)
theorem gl_1002 {mu : Nat → Int → Int} (hG : GL mu) (j : Int) {v : Int} (hv : (0) ≤ v ∧ v ≤ 21200) : GL (st mu 1002 j v) := gl_st hG (fun _ _ => hv)
theorem gl_1003 {mu : Nat → Int → Int} (hG : GL mu) (j : Int) {v : Int} (hv : (0) ≤ v ∧ v ≤ 20000) : GL (st mu 1003 j v) := gl_st hG (fun _ _ => hv)
theorem gl_1004 {mu : Nat → Int → Int} (hG : GL mu) (j : Int) {v : Int} (hv : (-1) ≤ v ∧ v ≤ 20000) : GL (st mu 1004 j v) := gl_st hG (fun _ _ => hv)
theorem gl_1005 {mu : Nat → Int → Int} (hG : GL mu) (j : Int) {v : Int} (hv : (0) ≤ v ∧ v ≤ 2) : GL (st mu 1005 j v) := gl_st hG (fun _ _ => hv)
theorem gl_1006 {mu : Nat → Int → Int} (hG : GL mu) (j : Int) {v : Int} (hv : (0) ≤ v ∧ v ≤ 100) : GL (st mu 1006 j v) := gl_st hG (fun _ _ => hv)
theorem gl_1007 {mu : Nat → Int → Int} (hG : GL mu) (j : Int) {v : Int} (hv : (0) ≤ v ∧ v ≤ 50) : GL (st mu 1007 j v) := gl_st hG (fun _ _ => hv)
theorem gl_1008 {mu : Nat → Int → Int} (hG : GL mu) (j : Int) {v : Int} (hv : (0) ≤ v ∧ v ≤ 1000) : GL (st mu 1008 j v) := gl_st hG (fun _ _ => hv)
theorem gl_1009 {mu : Nat → Int → Int} (hG : GL mu) (j : Int) {v : Int} (hv : (-1) ≤ v ∧ v ≤ 20000) : GL (st mu 1009 j v) := gl_st hG (fun _ _ => hv)
theorem gl_1010 {mu : Nat → Int → Int} (hG : GL mu) (j : Int) {v : Int} (hv : (0) ≤ v ∧ v ≤ 1) : GL (st mu 1010 j v) := gl_st hG (fun _ _ => hv)
theorem gl_1011 {mu : Nat → Int → Int} (hG : GL mu) (j : Int) {v : Int} (hv : (-1) ≤ v ∧ v ≤ 20000) : GL (st mu 1011 j v) := gl_st hG (fun _ _ => hv)
theorem gl_1012 {mu : Nat → Int → Int} (hG : GL mu) (j : Int) {v : Int} (hv : (0) ≤ v ∧ v ≤ 100000) : GL (st mu 1012 j v) := gl_st hG (fun _ _ => hv)
theorem gl_1013 {mu : Nat → Int → Int} (hG : GL mu) (j v : Int) : GL (st mu 1013 j v) := gl_st hG (fun _ h => absurd h (by decide))
theorem gl_1014 {mu : Nat → Int → Int} (hG : GL mu) (j v : Int) : GL (st mu 1014 j v) := gl_st hG (fun _ h => absurd h (by decide))
theorem gl_1015 {mu : Nat → Int → Int} (hG : GL mu) (j v : Int) : GL (st mu 1015 j v) := gl_st hG (fun _ h => absurd h (by decide))
