/-! the model: its cells out of a table of whole numbers -/
def dmM (mu : Nat → Int → Int) (k : Nat) (j : Int) : Prop := j = 0 ∧ mu (700 + k) 0 = 1 ∧ k < 100
abbrev fsM (ad : Nat → Int → Nat) (mu : Nat → Int → Int) : List Value := [.int (iI (mu 900 0)), .int (iI (mu 901 0)), rv (ad 22) (mu 902 0), rv (ad 23) (mu 903 0), rv (ad 24) (mu 904 0), rv (ad 25) (mu 905 0), rv (ad 26) (mu 906 0), rv (ad 27) (mu 907 0), rv (ad 28) (mu 908 0), rv (ad 29) (mu 909 0), rv (ad 30) (mu 910 0), rv (ad 31) (mu 911 0), rv (ad 32) (mu 912 0), .int (iI (mu 913 0)), rv (ad 34) (mu 914 0), rv (ad 35) (mu 915 0), rv (ad 36) (mu 916 0), rv (ad 37) (mu 917 0), rv (ad 38) (mu 918 0), rv (ad 39) (mu 919 0), rv (ad 40) (mu 920 0), rv (ad 41) (mu 921 0), rv (ad 42) (mu 922 0), rv (ad 43) (mu 923 0), rv (ad 44) (mu 924 0), rv (ad 45) (mu 925 0), .int (iI (mu 926 0)), rv (ad 47) (mu 927 0), rv (ad 48) (mu 928 0), rv (ad 49) (mu 929 0), rv (ad 50) (mu 930 0), rv (ad 51) (mu 931 0), .long (lI (mu 932 0)), .long (lI (mu 933 0)), rv (ad 54) (mu 934 0)]
def cellM (cy : Nat → ClassId) (ad : Nat → Int → Nat) (mu : Nat → Int → Int) (k : Nat) (_ : Int) : va_E := match k with
  | 5 => .inr (5, fsM ad mu)
  | 22 => .inl (cy 6, 60003, .inl (fun q => iI (mu 1002 (q : Int))))
  | 23 => .inl (cy 6, 36, .inl (fun q => iI (mu 1003 (q : Int))))
  | 24 => .inl (cy 6, 36, .inl (fun q => iI (mu 1004 (q : Int))))
  | 25 => .inl (cy 6, 36, .inl (fun q => iI (mu 1005 (q : Int))))
  | 26 => .inl (cy 6, 36, .inl (fun q => iI (mu 1006 (q : Int))))
  | 27 => .inl (cy 6, 36, .inl (fun q => iI (mu 1007 (q : Int))))
  | 28 => .inl (cy 6, 36, .inl (fun q => iI (mu 1008 (q : Int))))
  | 29 => .inl (cy 8, 36, .inl (fun q => iI (mu 1009 (q : Int))))
  | 30 => .inl (cy 6, 36, .inl (fun q => iI (mu 1010 (q : Int))))
  | 31 => .inl (cy 6, 36, .inl (fun q => iI (mu 1011 (q : Int))))
  | 32 => .inl (cy 7, 36, .inr (.inl (fun q => lI (mu 1012 (q : Int)))))
  | 34 => .inl (cy 6, 24, .inl (fun q => iI (mu 1014 (q : Int))))
  | 35 => .inl (cy 6, 24, .inl (fun q => iI (mu 1015 (q : Int))))
  | 36 => .inl (cy 6, 24, .inl (fun q => iI (mu 1016 (q : Int))))
  | 37 => .inl (cy 6, 24, .inl (fun q => iI (mu 1017 (q : Int))))
  | 38 => .inl (cy 6, 24, .inl (fun q => iI (mu 1018 (q : Int))))
  | 39 => .inl (cy 6, 24, .inl (fun q => iI (mu 1019 (q : Int))))
  | 40 => .inl (cy 6, 24, .inl (fun q => iI (mu 1020 (q : Int))))
  | 41 => .inl (cy 7, 24, .inr (.inl (fun q => lI (mu 1021 (q : Int)))))
  | 42 => .inl (cy 7, 24, .inr (.inl (fun q => lI (mu 1022 (q : Int)))))
  | 43 => .inl (cy 7, 24, .inr (.inl (fun q => lI (mu 1023 (q : Int)))))
  | 44 => .inl (cy 6, 24, .inl (fun q => iI (mu 1024 (q : Int))))
  | 45 => .inl (cy 8, 24, .inl (fun q => iI (mu 1025 (q : Int))))
  | 47 => .inl (cy 6, 4, .inl (fun q => iI (mu 1027 (q : Int))))
  | 48 => .inl (cy 6, 4, .inl (fun q => iI (mu 1028 (q : Int))))
  | 49 => .inl (cy 6, 4, .inl (fun q => iI (mu 1029 (q : Int))))
  | 50 => .inl (cy 6, 4, .inl (fun q => iI (mu 1030 (q : Int))))
  | 51 => .inl (cy 6, 4, .inl (fun q => iI (mu 1031 (q : Int))))
  | 54 => .inl (cy 6, 24, .inl (fun q => iI (mu 1034 (q : Int))))
  | _ => .inr (0, [])
abbrev RM (D : va_G) (cy : Nat → ClassId) (A : Nat → Prop) (ad : Nat → Int → Nat) (mu : Nat → Int → Int) (H : Heap) : Prop := wR D vwCl A (dmM mu) ad (cellM cy ad mu) H
theorem dmM_st {mu : Nat → Int → Int} {f : Nat} {j v : Int} (hf : ¬ (700 ≤ f ∧ f < 800)) (k : Nat) (i : Int) : dmM (st mu f j v) k i ↔ dmM mu k i := by
  unfold dmM
  by_cases hk : k < 100
  · rw [st_f (by omega)]
  · exact ⟨fun h => absurd h.2.2 hk, fun h => absurd h.2.2 hk⟩
theorem upd_i {mu : Nat → Int → Int} {F : Nat} {i v : Int} (hi : 0 ≤ i) : upd (fun q : Nat => iI (mu F (q : Int))) i.toNat (iI v) = fun q : Nat => iI (st mu F i v F (q : Int)) := by
  funext q
  unfold upd st
  by_cases h : q = i.toNat
  · rw [if_pos h, if_pos ⟨rfl, by omega⟩]
  · rw [if_neg h, if_neg (by omega)]
theorem upd_l {mu : Nat → Int → Int} {F : Nat} {i v : Int} (hi : 0 ≤ i) : vp_updL (fun q : Nat => lI (mu F (q : Int))) i.toNat (lI v) = fun q : Nat => lI (st mu F i v F (q : Int)) := by
  funext q
  unfold vp_updL st
  by_cases h : q = i.toNat
  · rw [if_pos h, if_pos ⟨rfl, by omega⟩]
  · rw [if_neg h, if_neg (by omega)]
theorem cellM_j (cy : Nat → ClassId) (ad : Nat → Int → Nat) (mu : Nat → Int → Int) (k : Nat) (i j : Int) : cellM cy ad mu k i = cellM cy ad mu k j := rfl
theorem cellM_st {cy : Nat → ClassId} {ad : Nat → Int → Nat} {mu : Nat → Int → Int} {f : Nat} {j v : Int} {k : Nat} (i : Int) (hf : ¬ (k = 5 ∧ f < 1000)) (hf2 : ¬ (f = 980 + k)) : cellM cy ad (st mu f j v) k i = cellM cy ad mu k i := by
  unfold cellM
  split <;> first | rfl | (simp only [fsM]; (repeat rw [st_f (by omega)])) | (congr 3; funext q; rw [st_f (by omega)]) | (congr 4; funext q; rw [st_f (by omega)]) | (congr 5; funext q; rw [st_f (by omega)])
section MX
variable {p : Program} {l : Launch} {e : Env} {R : Room} {s : State} {m : MethodId} {args : Array Value} {below : List Frame} {meth : Method} {c : Code} {H H0 : Heap} {locs : List Loc} {cells slots : Nat} {Q : State → Prop}
variable {cc : ByteArray} {pc : Nat} {ls : Array Slot} {rest : List Value} {D : va_G} {cy : Nat → ClassId} {A : Nat → Prop} {ad : Nat → Int → Nat} {mu : Nat → Int → Int}
theorem xg_900 (hexec : p.tables.exec = Jvm.exec) (hb : c.code = cc) {own : String} {index : Nat} (hw : ∀ w ∈ u_ws RX5 TX5 35, w.before args s = true) (hown : s.vm.findClass own = some m.cls) (hK : KC D cy s) (hR : RM D cy A ad mu H) {j : Int} (hd : dmM mu 5 j) (hlink : (Cond.fieldLink own index "TakinghallModel" "thrown" "I").before args s = true) {v : Int} (hv : mu 900 0 = v) (d : decode cc pc = .ok (.getfield index, 3)) (kk : W p l e R s m args below meth c H locs cells slots Q (F0 m (pc + 3) ls (.int (iI v) :: rest))) : W p l e R s m args below meth c H locs cells slots Q (F0 m pc ls (.ref (ad 5 j) :: rest)) := by
  subst hv
  exact wr_get hexec hb hw hown hK hR hd (fs := fsM ad mu) rfl rfl 0 (by decide) hlink rfl d kk
theorem xp_900 (hexec : p.tables.exec = Jvm.exec) (hb : c.code = cc) {own : String} {index : Nat} (hw : ∀ w ∈ u_ws RX5 TX5 35, w.before args s = true) (hown : s.vm.findClass own = some m.cls) (hK : KC D cy s) (hR : RM D cy A ad mu H) (hS : va_S A H0 H locs) {v : Int} (hd : dmM mu 5 0) (hlink : (Cond.fieldLink own index "TakinghallModel" "thrown" "I").before args s = true) (d : decode cc pc = .ok (.putfield index, 3)) (kk : ∀ (H1 : Heap) (locs1 : List Loc), RM D cy A ad (st mu 900 0 v) H1 → va_S A H0 H1 locs1 → W p l e R s m args below meth c H1 locs1 cells slots Q (F0 m (pc + 3) ls rest)) : W p l e R s m args below meth c H locs cells slots Q (F0 m pc ls ((.int (iI v)) :: .ref (ad 5 0) :: rest)) := by
  refine wr_put hexec hb hw tyX5 tyX5_ok nmX5 hown hK hR hS hd (fs := fsM ad mu) rfl rfl 0 (by decide) hlink rfl (ty := .int) (by decide +kernel) rfl rfl (by show 0 < 35; decide) (cell' := cellM cy ad (st mu 900 0 v)) (fun k' j' hd' => ?_) d (fun H1 locs1 h1 h2 => kk H1 locs1 (wr_to h1 (fun k i => dmM_st (by decide) k i) (fun _ _ _ => ⟨rfl, rfl⟩)) h2)
  · by_cases hk : k' = 5
    · subst hk
      rw [if_pos ⟨rfl, hd'.1⟩]
      show (Sum.inr (5, fsM ad (st mu 900 0 v)) : va_E) = _
      simp [fsM, st]
    · rw [if_neg (fun z => hk z.1)]
      exact cellM_st _ (by omega) (by omega)
theorem xg_901 (hexec : p.tables.exec = Jvm.exec) (hb : c.code = cc) {own : String} {index : Nat} (hw : ∀ w ∈ u_ws RX5 TX5 35, w.before args s = true) (hown : s.vm.findClass own = some m.cls) (hK : KC D cy s) (hR : RM D cy A ad mu H) {j : Int} (hd : dmM mu 5 j) (hlink : (Cond.fieldLink own index "TakinghallModel" "today" "I").before args s = true) {v : Int} (hv : mu 901 0 = v) (d : decode cc pc = .ok (.getfield index, 3)) (kk : W p l e R s m args below meth c H locs cells slots Q (F0 m (pc + 3) ls (.int (iI v) :: rest))) : W p l e R s m args below meth c H locs cells slots Q (F0 m pc ls (.ref (ad 5 j) :: rest)) := by
  subst hv
  exact wr_get hexec hb hw hown hK hR hd (fs := fsM ad mu) rfl rfl 1 (by decide) hlink rfl d kk
theorem xp_901 (hexec : p.tables.exec = Jvm.exec) (hb : c.code = cc) {own : String} {index : Nat} (hw : ∀ w ∈ u_ws RX5 TX5 35, w.before args s = true) (hown : s.vm.findClass own = some m.cls) (hK : KC D cy s) (hR : RM D cy A ad mu H) (hS : va_S A H0 H locs) {v : Int} (hd : dmM mu 5 0) (hlink : (Cond.fieldLink own index "TakinghallModel" "today" "I").before args s = true) (d : decode cc pc = .ok (.putfield index, 3)) (kk : ∀ (H1 : Heap) (locs1 : List Loc), RM D cy A ad (st mu 901 0 v) H1 → va_S A H0 H1 locs1 → W p l e R s m args below meth c H1 locs1 cells slots Q (F0 m (pc + 3) ls rest)) : W p l e R s m args below meth c H locs cells slots Q (F0 m pc ls ((.int (iI v)) :: .ref (ad 5 0) :: rest)) := by
  refine wr_put hexec hb hw tyX5 tyX5_ok nmX5 hown hK hR hS hd (fs := fsM ad mu) rfl rfl 1 (by decide) hlink rfl (ty := .int) (by decide +kernel) rfl rfl (by show 1 < 35; decide) (cell' := cellM cy ad (st mu 901 0 v)) (fun k' j' hd' => ?_) d (fun H1 locs1 h1 h2 => kk H1 locs1 (wr_to h1 (fun k i => dmM_st (by decide) k i) (fun _ _ _ => ⟨rfl, rfl⟩)) h2)
  · by_cases hk : k' = 5
    · subst hk
      rw [if_pos ⟨rfl, hd'.1⟩]
      show (Sum.inr (5, fsM ad (st mu 901 0 v)) : va_E) = _
      simp [fsM, st]
    · rw [if_neg (fun z => hk z.1)]
      exact cellM_st _ (by omega) (by omega)
theorem xg_902 (hexec : p.tables.exec = Jvm.exec) (hb : c.code = cc) {own : String} {index : Nat} (hw : ∀ w ∈ u_ws RX5 TX5 35, w.before args s = true) (hown : s.vm.findClass own = some m.cls) (hK : KC D cy s) (hR : RM D cy A ad mu H) {j : Int} (hd : dmM mu 5 j) (hlink : (Cond.fieldLink own index "TakinghallModel" "prices" "[I").before args s = true) {v : Int} (hv : mu 902 0 = v) (d : decode cc pc = .ok (.getfield index, 3)) (kk : W p l e R s m args below meth c H locs cells slots Q (F0 m (pc + 3) ls (rv (ad 22) v :: rest))) : W p l e R s m args below meth c H locs cells slots Q (F0 m pc ls (.ref (ad 5 j) :: rest)) := by
  subst hv
  exact wr_get hexec hb hw hown hK hR hd (fs := fsM ad mu) rfl rfl 2 (by decide) hlink rfl d kk
theorem xa_1002 (hexec : p.tables.exec = Jvm.exec) (hb : c.code = cc) (hK : KC D cy s) (hR : RM D cy A ad mu H) (hd : dmM mu 22 0) {i : Int} (hi : 0 ≤ i ∧ i < 60003) {v : Int} (hv : mu 1002 i = v) (d : decode cc pc = .ok (.iaload, 1)) (kk : W p l e R s m args below meth c H locs cells slots Q (F0 m (pc + 1) ls (.int (iI v) :: rest))) : W p l e R s m args below meth c H locs cells slots Q (F0 m pc ls (.int (iI i) :: .ref (ad 22 0) :: rest)) := by
  subst hv
  exact wr_iald hexec hb hK hR hd rfl 0 rfl hi (by decide) (by show iI (mu 1002 (i.toNat : Int)) = _; rw [Int.toNat_of_nonneg hi.1]) d kk
theorem xs_1002 (hexec : p.tables.exec = Jvm.exec) (hb : c.code = cc) (hK : KC D cy s) (hR : RM D cy A ad mu H) (hS : va_S A H0 H locs) (hd : dmM mu 22 0) {i v : Int} (hi : 0 ≤ i ∧ i < 60003) (d : decode cc pc = .ok (.iastore, 1)) (kk : ∀ (H1 : Heap) (locs1 : List Loc), RM D cy A ad (st mu 1002 i v) H1 → va_S A H0 H1 locs1 → W p l e R s m args below meth c H1 locs1 cells slots Q (F0 m (pc + 1) ls rest)) : W p l e R s m args below meth c H locs cells slots Q (F0 m pc ls (.int (iI v) :: .int (iI i) :: .ref (ad 22 0) :: rest)) := by
  refine wr_iast hexec hb hK hR hS hd rfl 0 rfl hi (by decide) (cell' := cellM cy ad (st mu 1002 i v)) (fun k' j' hd' => ?_) d (fun H1 locs1 h1 h2 => kk H1 locs1 (wr_to h1 (fun k i => dmM_st (by decide) k i) (fun _ _ _ => ⟨rfl, rfl⟩)) h2)
  · by_cases hk : k' = 22
    · subst hk
      rw [if_pos ⟨rfl, hd'.1⟩, upd_i hi.1]
      rfl
    · rw [if_neg (fun z => hk z.1)]
      exact cellM_st _ (by omega) (by omega)
theorem xg_903 (hexec : p.tables.exec = Jvm.exec) (hb : c.code = cc) {own : String} {index : Nat} (hw : ∀ w ∈ u_ws RX5 TX5 35, w.before args s = true) (hown : s.vm.findClass own = some m.cls) (hK : KC D cy s) (hR : RM D cy A ad mu H) {j : Int} (hd : dmM mu 5 j) (hlink : (Cond.fieldLink own index "TakinghallModel" "areas" "[I").before args s = true) {v : Int} (hv : mu 903 0 = v) (d : decode cc pc = .ok (.getfield index, 3)) (kk : W p l e R s m args below meth c H locs cells slots Q (F0 m (pc + 3) ls (rv (ad 23) v :: rest))) : W p l e R s m args below meth c H locs cells slots Q (F0 m pc ls (.ref (ad 5 j) :: rest)) := by
  subst hv
  exact wr_get hexec hb hw hown hK hR hd (fs := fsM ad mu) rfl rfl 3 (by decide) hlink rfl d kk
theorem xa_1003 (hexec : p.tables.exec = Jvm.exec) (hb : c.code = cc) (hK : KC D cy s) (hR : RM D cy A ad mu H) (hd : dmM mu 23 0) {i : Int} (hi : 0 ≤ i ∧ i < 36) {v : Int} (hv : mu 1003 i = v) (d : decode cc pc = .ok (.iaload, 1)) (kk : W p l e R s m args below meth c H locs cells slots Q (F0 m (pc + 1) ls (.int (iI v) :: rest))) : W p l e R s m args below meth c H locs cells slots Q (F0 m pc ls (.int (iI i) :: .ref (ad 23 0) :: rest)) := by
  subst hv
  exact wr_iald hexec hb hK hR hd rfl 0 rfl hi (by decide) (by show iI (mu 1003 (i.toNat : Int)) = _; rw [Int.toNat_of_nonneg hi.1]) d kk
theorem xs_1003 (hexec : p.tables.exec = Jvm.exec) (hb : c.code = cc) (hK : KC D cy s) (hR : RM D cy A ad mu H) (hS : va_S A H0 H locs) (hd : dmM mu 23 0) {i v : Int} (hi : 0 ≤ i ∧ i < 36) (d : decode cc pc = .ok (.iastore, 1)) (kk : ∀ (H1 : Heap) (locs1 : List Loc), RM D cy A ad (st mu 1003 i v) H1 → va_S A H0 H1 locs1 → W p l e R s m args below meth c H1 locs1 cells slots Q (F0 m (pc + 1) ls rest)) : W p l e R s m args below meth c H locs cells slots Q (F0 m pc ls (.int (iI v) :: .int (iI i) :: .ref (ad 23 0) :: rest)) := by
  refine wr_iast hexec hb hK hR hS hd rfl 0 rfl hi (by decide) (cell' := cellM cy ad (st mu 1003 i v)) (fun k' j' hd' => ?_) d (fun H1 locs1 h1 h2 => kk H1 locs1 (wr_to h1 (fun k i => dmM_st (by decide) k i) (fun _ _ _ => ⟨rfl, rfl⟩)) h2)
  · by_cases hk : k' = 23
    · subst hk
      rw [if_pos ⟨rfl, hd'.1⟩, upd_i hi.1]
      rfl
    · rw [if_neg (fun z => hk z.1)]
      exact cellM_st _ (by omega) (by omega)
theorem xg_904 (hexec : p.tables.exec = Jvm.exec) (hb : c.code = cc) {own : String} {index : Nat} (hw : ∀ w ∈ u_ws RX5 TX5 35, w.before args s = true) (hown : s.vm.findClass own = some m.cls) (hK : KC D cy s) (hR : RM D cy A ad mu H) {j : Int} (hd : dmM mu 5 j) (hlink : (Cond.fieldLink own index "TakinghallModel" "uses" "[I").before args s = true) {v : Int} (hv : mu 904 0 = v) (d : decode cc pc = .ok (.getfield index, 3)) (kk : W p l e R s m args below meth c H locs cells slots Q (F0 m (pc + 3) ls (rv (ad 24) v :: rest))) : W p l e R s m args below meth c H locs cells slots Q (F0 m pc ls (.ref (ad 5 j) :: rest)) := by
  subst hv
  exact wr_get hexec hb hw hown hK hR hd (fs := fsM ad mu) rfl rfl 4 (by decide) hlink rfl d kk
theorem xa_1004 (hexec : p.tables.exec = Jvm.exec) (hb : c.code = cc) (hK : KC D cy s) (hR : RM D cy A ad mu H) (hd : dmM mu 24 0) {i : Int} (hi : 0 ≤ i ∧ i < 36) {v : Int} (hv : mu 1004 i = v) (d : decode cc pc = .ok (.iaload, 1)) (kk : W p l e R s m args below meth c H locs cells slots Q (F0 m (pc + 1) ls (.int (iI v) :: rest))) : W p l e R s m args below meth c H locs cells slots Q (F0 m pc ls (.int (iI i) :: .ref (ad 24 0) :: rest)) := by
  subst hv
  exact wr_iald hexec hb hK hR hd rfl 0 rfl hi (by decide) (by show iI (mu 1004 (i.toNat : Int)) = _; rw [Int.toNat_of_nonneg hi.1]) d kk
theorem xs_1004 (hexec : p.tables.exec = Jvm.exec) (hb : c.code = cc) (hK : KC D cy s) (hR : RM D cy A ad mu H) (hS : va_S A H0 H locs) (hd : dmM mu 24 0) {i v : Int} (hi : 0 ≤ i ∧ i < 36) (d : decode cc pc = .ok (.iastore, 1)) (kk : ∀ (H1 : Heap) (locs1 : List Loc), RM D cy A ad (st mu 1004 i v) H1 → va_S A H0 H1 locs1 → W p l e R s m args below meth c H1 locs1 cells slots Q (F0 m (pc + 1) ls rest)) : W p l e R s m args below meth c H locs cells slots Q (F0 m pc ls (.int (iI v) :: .int (iI i) :: .ref (ad 24 0) :: rest)) := by
  refine wr_iast hexec hb hK hR hS hd rfl 0 rfl hi (by decide) (cell' := cellM cy ad (st mu 1004 i v)) (fun k' j' hd' => ?_) d (fun H1 locs1 h1 h2 => kk H1 locs1 (wr_to h1 (fun k i => dmM_st (by decide) k i) (fun _ _ _ => ⟨rfl, rfl⟩)) h2)
  · by_cases hk : k' = 24
    · subst hk
      rw [if_pos ⟨rfl, hd'.1⟩, upd_i hi.1]
      rfl
    · rw [if_neg (fun z => hk z.1)]
      exact cellM_st _ (by omega) (by omega)
theorem xg_905 (hexec : p.tables.exec = Jvm.exec) (hb : c.code = cc) {own : String} {index : Nat} (hw : ∀ w ∈ u_ws RX5 TX5 35, w.before args s = true) (hown : s.vm.findClass own = some m.cls) (hK : KC D cy s) (hR : RM D cy A ad mu H) {j : Int} (hd : dmM mu 5 j) (hlink : (Cond.fieldLink own index "TakinghallModel" "states" "[I").before args s = true) {v : Int} (hv : mu 905 0 = v) (d : decode cc pc = .ok (.getfield index, 3)) (kk : W p l e R s m args below meth c H locs cells slots Q (F0 m (pc + 3) ls (rv (ad 25) v :: rest))) : W p l e R s m args below meth c H locs cells slots Q (F0 m pc ls (.ref (ad 5 j) :: rest)) := by
  subst hv
  exact wr_get hexec hb hw hown hK hR hd (fs := fsM ad mu) rfl rfl 5 (by decide) hlink rfl d kk
theorem xa_1005 (hexec : p.tables.exec = Jvm.exec) (hb : c.code = cc) (hK : KC D cy s) (hR : RM D cy A ad mu H) (hd : dmM mu 25 0) {i : Int} (hi : 0 ≤ i ∧ i < 36) {v : Int} (hv : mu 1005 i = v) (d : decode cc pc = .ok (.iaload, 1)) (kk : W p l e R s m args below meth c H locs cells slots Q (F0 m (pc + 1) ls (.int (iI v) :: rest))) : W p l e R s m args below meth c H locs cells slots Q (F0 m pc ls (.int (iI i) :: .ref (ad 25 0) :: rest)) := by
  subst hv
  exact wr_iald hexec hb hK hR hd rfl 0 rfl hi (by decide) (by show iI (mu 1005 (i.toNat : Int)) = _; rw [Int.toNat_of_nonneg hi.1]) d kk
theorem xs_1005 (hexec : p.tables.exec = Jvm.exec) (hb : c.code = cc) (hK : KC D cy s) (hR : RM D cy A ad mu H) (hS : va_S A H0 H locs) (hd : dmM mu 25 0) {i v : Int} (hi : 0 ≤ i ∧ i < 36) (d : decode cc pc = .ok (.iastore, 1)) (kk : ∀ (H1 : Heap) (locs1 : List Loc), RM D cy A ad (st mu 1005 i v) H1 → va_S A H0 H1 locs1 → W p l e R s m args below meth c H1 locs1 cells slots Q (F0 m (pc + 1) ls rest)) : W p l e R s m args below meth c H locs cells slots Q (F0 m pc ls (.int (iI v) :: .int (iI i) :: .ref (ad 25 0) :: rest)) := by
  refine wr_iast hexec hb hK hR hS hd rfl 0 rfl hi (by decide) (cell' := cellM cy ad (st mu 1005 i v)) (fun k' j' hd' => ?_) d (fun H1 locs1 h1 h2 => kk H1 locs1 (wr_to h1 (fun k i => dmM_st (by decide) k i) (fun _ _ _ => ⟨rfl, rfl⟩)) h2)
  · by_cases hk : k' = 25
    · subst hk
      rw [if_pos ⟨rfl, hd'.1⟩, upd_i hi.1]
      rfl
    · rw [if_neg (fun z => hk z.1)]
      exact cellM_st _ (by omega) (by omega)
theorem xg_906 (hexec : p.tables.exec = Jvm.exec) (hb : c.code = cc) {own : String} {index : Nat} (hw : ∀ w ∈ u_ws RX5 TX5 35, w.before args s = true) (hown : s.vm.findClass own = some m.cls) (hK : KC D cy s) (hR : RM D cy A ad mu H) {j : Int} (hd : dmM mu 5 j) (hlink : (Cond.fieldLink own index "TakinghallModel" "needers" "[I").before args s = true) {v : Int} (hv : mu 906 0 = v) (d : decode cc pc = .ok (.getfield index, 3)) (kk : W p l e R s m args below meth c H locs cells slots Q (F0 m (pc + 3) ls (rv (ad 26) v :: rest))) : W p l e R s m args below meth c H locs cells slots Q (F0 m pc ls (.ref (ad 5 j) :: rest)) := by
  subst hv
  exact wr_get hexec hb hw hown hK hR hd (fs := fsM ad mu) rfl rfl 6 (by decide) hlink rfl d kk
theorem xa_1006 (hexec : p.tables.exec = Jvm.exec) (hb : c.code = cc) (hK : KC D cy s) (hR : RM D cy A ad mu H) (hd : dmM mu 26 0) {i : Int} (hi : 0 ≤ i ∧ i < 36) {v : Int} (hv : mu 1006 i = v) (d : decode cc pc = .ok (.iaload, 1)) (kk : W p l e R s m args below meth c H locs cells slots Q (F0 m (pc + 1) ls (.int (iI v) :: rest))) : W p l e R s m args below meth c H locs cells slots Q (F0 m pc ls (.int (iI i) :: .ref (ad 26 0) :: rest)) := by
  subst hv
  exact wr_iald hexec hb hK hR hd rfl 0 rfl hi (by decide) (by show iI (mu 1006 (i.toNat : Int)) = _; rw [Int.toNat_of_nonneg hi.1]) d kk
theorem xs_1006 (hexec : p.tables.exec = Jvm.exec) (hb : c.code = cc) (hK : KC D cy s) (hR : RM D cy A ad mu H) (hS : va_S A H0 H locs) (hd : dmM mu 26 0) {i v : Int} (hi : 0 ≤ i ∧ i < 36) (d : decode cc pc = .ok (.iastore, 1)) (kk : ∀ (H1 : Heap) (locs1 : List Loc), RM D cy A ad (st mu 1006 i v) H1 → va_S A H0 H1 locs1 → W p l e R s m args below meth c H1 locs1 cells slots Q (F0 m (pc + 1) ls rest)) : W p l e R s m args below meth c H locs cells slots Q (F0 m pc ls (.int (iI v) :: .int (iI i) :: .ref (ad 26 0) :: rest)) := by
  refine wr_iast hexec hb hK hR hS hd rfl 0 rfl hi (by decide) (cell' := cellM cy ad (st mu 1006 i v)) (fun k' j' hd' => ?_) d (fun H1 locs1 h1 h2 => kk H1 locs1 (wr_to h1 (fun k i => dmM_st (by decide) k i) (fun _ _ _ => ⟨rfl, rfl⟩)) h2)
  · by_cases hk : k' = 26
    · subst hk
      rw [if_pos ⟨rfl, hd'.1⟩, upd_i hi.1]
      rfl
    · rw [if_neg (fun z => hk z.1)]
      exact cellM_st _ (by omega) (by omega)
theorem xg_907 (hexec : p.tables.exec = Jvm.exec) (hb : c.code = cc) {own : String} {index : Nat} (hw : ∀ w ∈ u_ws RX5 TX5 35, w.before args s = true) (hown : s.vm.findClass own = some m.cls) (hK : KC D cy s) (hR : RM D cy A ad mu H) {j : Int} (hd : dmM mu 5 j) (hlink : (Cond.fieldLink own index "TakinghallModel" "parts" "[I").before args s = true) {v : Int} (hv : mu 907 0 = v) (d : decode cc pc = .ok (.getfield index, 3)) (kk : W p l e R s m args below meth c H locs cells slots Q (F0 m (pc + 3) ls (rv (ad 27) v :: rest))) : W p l e R s m args below meth c H locs cells slots Q (F0 m pc ls (.ref (ad 5 j) :: rest)) := by
  subst hv
  exact wr_get hexec hb hw hown hK hR hd (fs := fsM ad mu) rfl rfl 7 (by decide) hlink rfl d kk
theorem xa_1007 (hexec : p.tables.exec = Jvm.exec) (hb : c.code = cc) (hK : KC D cy s) (hR : RM D cy A ad mu H) (hd : dmM mu 27 0) {i : Int} (hi : 0 ≤ i ∧ i < 36) {v : Int} (hv : mu 1007 i = v) (d : decode cc pc = .ok (.iaload, 1)) (kk : W p l e R s m args below meth c H locs cells slots Q (F0 m (pc + 1) ls (.int (iI v) :: rest))) : W p l e R s m args below meth c H locs cells slots Q (F0 m pc ls (.int (iI i) :: .ref (ad 27 0) :: rest)) := by
  subst hv
  exact wr_iald hexec hb hK hR hd rfl 0 rfl hi (by decide) (by show iI (mu 1007 (i.toNat : Int)) = _; rw [Int.toNat_of_nonneg hi.1]) d kk
theorem xs_1007 (hexec : p.tables.exec = Jvm.exec) (hb : c.code = cc) (hK : KC D cy s) (hR : RM D cy A ad mu H) (hS : va_S A H0 H locs) (hd : dmM mu 27 0) {i v : Int} (hi : 0 ≤ i ∧ i < 36) (d : decode cc pc = .ok (.iastore, 1)) (kk : ∀ (H1 : Heap) (locs1 : List Loc), RM D cy A ad (st mu 1007 i v) H1 → va_S A H0 H1 locs1 → W p l e R s m args below meth c H1 locs1 cells slots Q (F0 m (pc + 1) ls rest)) : W p l e R s m args below meth c H locs cells slots Q (F0 m pc ls (.int (iI v) :: .int (iI i) :: .ref (ad 27 0) :: rest)) := by
  refine wr_iast hexec hb hK hR hS hd rfl 0 rfl hi (by decide) (cell' := cellM cy ad (st mu 1007 i v)) (fun k' j' hd' => ?_) d (fun H1 locs1 h1 h2 => kk H1 locs1 (wr_to h1 (fun k i => dmM_st (by decide) k i) (fun _ _ _ => ⟨rfl, rfl⟩)) h2)
  · by_cases hk : k' = 27
    · subst hk
      rw [if_pos ⟨rfl, hd'.1⟩, upd_i hi.1]
      rfl
    · rw [if_neg (fun z => hk z.1)]
      exact cellM_st _ (by omega) (by omega)
theorem xg_908 (hexec : p.tables.exec = Jvm.exec) (hb : c.code = cc) {own : String} {index : Nat} (hw : ∀ w ∈ u_ws RX5 TX5 35, w.before args s = true) (hown : s.vm.findClass own = some m.cls) (hK : KC D cy s) (hR : RM D cy A ad mu H) {j : Int} (hd : dmM mu 5 j) (hlink : (Cond.fieldLink own index "TakinghallModel" "valueDays" "[I").before args s = true) {v : Int} (hv : mu 908 0 = v) (d : decode cc pc = .ok (.getfield index, 3)) (kk : W p l e R s m args below meth c H locs cells slots Q (F0 m (pc + 3) ls (rv (ad 28) v :: rest))) : W p l e R s m args below meth c H locs cells slots Q (F0 m pc ls (.ref (ad 5 j) :: rest)) := by
  subst hv
  exact wr_get hexec hb hw hown hK hR hd (fs := fsM ad mu) rfl rfl 8 (by decide) hlink rfl d kk
theorem xa_1008 (hexec : p.tables.exec = Jvm.exec) (hb : c.code = cc) (hK : KC D cy s) (hR : RM D cy A ad mu H) (hd : dmM mu 28 0) {i : Int} (hi : 0 ≤ i ∧ i < 36) {v : Int} (hv : mu 1008 i = v) (d : decode cc pc = .ok (.iaload, 1)) (kk : W p l e R s m args below meth c H locs cells slots Q (F0 m (pc + 1) ls (.int (iI v) :: rest))) : W p l e R s m args below meth c H locs cells slots Q (F0 m pc ls (.int (iI i) :: .ref (ad 28 0) :: rest)) := by
  subst hv
  exact wr_iald hexec hb hK hR hd rfl 0 rfl hi (by decide) (by show iI (mu 1008 (i.toNat : Int)) = _; rw [Int.toNat_of_nonneg hi.1]) d kk
theorem xs_1008 (hexec : p.tables.exec = Jvm.exec) (hb : c.code = cc) (hK : KC D cy s) (hR : RM D cy A ad mu H) (hS : va_S A H0 H locs) (hd : dmM mu 28 0) {i v : Int} (hi : 0 ≤ i ∧ i < 36) (d : decode cc pc = .ok (.iastore, 1)) (kk : ∀ (H1 : Heap) (locs1 : List Loc), RM D cy A ad (st mu 1008 i v) H1 → va_S A H0 H1 locs1 → W p l e R s m args below meth c H1 locs1 cells slots Q (F0 m (pc + 1) ls rest)) : W p l e R s m args below meth c H locs cells slots Q (F0 m pc ls (.int (iI v) :: .int (iI i) :: .ref (ad 28 0) :: rest)) := by
  refine wr_iast hexec hb hK hR hS hd rfl 0 rfl hi (by decide) (cell' := cellM cy ad (st mu 1008 i v)) (fun k' j' hd' => ?_) d (fun H1 locs1 h1 h2 => kk H1 locs1 (wr_to h1 (fun k i => dmM_st (by decide) k i) (fun _ _ _ => ⟨rfl, rfl⟩)) h2)
  · by_cases hk : k' = 28
    · subst hk
      rw [if_pos ⟨rfl, hd'.1⟩, upd_i hi.1]
      rfl
    · rw [if_neg (fun z => hk z.1)]
      exact cellM_st _ (by omega) (by omega)
theorem xg_909 (hexec : p.tables.exec = Jvm.exec) (hb : c.code = cc) {own : String} {index : Nat} (hw : ∀ w ∈ u_ws RX5 TX5 35, w.before args s = true) (hown : s.vm.findClass own = some m.cls) (hK : KC D cy s) (hR : RM D cy A ad mu H) {j : Int} (hd : dmM mu 5 j) (hlink : (Cond.fieldLink own index "TakinghallModel" "hasWorks" "[Z").before args s = true) {v : Int} (hv : mu 909 0 = v) (d : decode cc pc = .ok (.getfield index, 3)) (kk : W p l e R s m args below meth c H locs cells slots Q (F0 m (pc + 3) ls (rv (ad 29) v :: rest))) : W p l e R s m args below meth c H locs cells slots Q (F0 m pc ls (.ref (ad 5 j) :: rest)) := by
  subst hv
  exact wr_get hexec hb hw hown hK hR hd (fs := fsM ad mu) rfl rfl 9 (by decide) hlink rfl d kk
theorem xa_1009 (hexec : p.tables.exec = Jvm.exec) (hb : c.code = cc) (hK : KC D cy s) (hR : RM D cy A ad mu H) (hd : dmM mu 29 0) {i : Int} (hi : 0 ≤ i ∧ i < 36) {v : Int} (hv : mu 1009 i = v) (d : decode cc pc = .ok (.baload, 1)) (kk : W p l e R s m args below meth c H locs cells slots Q (F0 m (pc + 1) ls (.int (iI v) :: rest))) : W p l e R s m args below meth c H locs cells slots Q (F0 m pc ls (.int (iI i) :: .ref (ad 29 0) :: rest)) := by
  subst hv
  exact wr_zald hexec hb hK hR hd rfl 2 rfl hi (by decide) (by show iI (mu 1009 (i.toNat : Int)) = _; rw [Int.toNat_of_nonneg hi.1]) d kk
theorem xs_1009 (hexec : p.tables.exec = Jvm.exec) (hb : c.code = cc) (hK : KC D cy s) (hR : RM D cy A ad mu H) (hS : va_S A H0 H locs) (hd : dmM mu 29 0) {i v : Int} (hi : 0 ≤ i ∧ i < 36) (hz : 0 ≤ v ∧ v ≤ 1) (d : decode cc pc = .ok (.bastore, 1)) (kk : ∀ (H1 : Heap) (locs1 : List Loc), RM D cy A ad (st mu 1009 i v) H1 → va_S A H0 H1 locs1 → W p l e R s m args below meth c H1 locs1 cells slots Q (F0 m (pc + 1) ls rest)) : W p l e R s m args below meth c H locs cells slots Q (F0 m pc ls (.int (iI v) :: .int (iI i) :: .ref (ad 29 0) :: rest)) := by
  refine wr_zast hexec hb hK hR hS hd rfl 2 rfl hi (by decide) hz (cell' := cellM cy ad (st mu 1009 i v)) (fun k' j' hd' => ?_) d (fun H1 locs1 h1 h2 => kk H1 locs1 (wr_to h1 (fun k i => dmM_st (by decide) k i) (fun _ _ _ => ⟨rfl, rfl⟩)) h2)
  · by_cases hk : k' = 29
    · subst hk
      rw [if_pos ⟨rfl, hd'.1⟩, upd_i hi.1]
      rfl
    · rw [if_neg (fun z => hk z.1)]
      exact cellM_st _ (by omega) (by omega)
theorem xg_910 (hexec : p.tables.exec = Jvm.exec) (hb : c.code = cc) {own : String} {index : Nat} (hw : ∀ w ∈ u_ws RX5 TX5 35, w.before args s = true) (hown : s.vm.findClass own = some m.cls) (hK : KC D cy s) (hR : RM D cy A ad mu H) {j : Int} (hd : dmM mu 5 j) (hlink : (Cond.fieldLink own index "TakinghallModel" "offers" "[I").before args s = true) {v : Int} (hv : mu 910 0 = v) (d : decode cc pc = .ok (.getfield index, 3)) (kk : W p l e R s m args below meth c H locs cells slots Q (F0 m (pc + 3) ls (rv (ad 30) v :: rest))) : W p l e R s m args below meth c H locs cells slots Q (F0 m pc ls (.ref (ad 5 j) :: rest)) := by
  subst hv
  exact wr_get hexec hb hw hown hK hR hd (fs := fsM ad mu) rfl rfl 10 (by decide) hlink rfl d kk
theorem xa_1010 (hexec : p.tables.exec = Jvm.exec) (hb : c.code = cc) (hK : KC D cy s) (hR : RM D cy A ad mu H) (hd : dmM mu 30 0) {i : Int} (hi : 0 ≤ i ∧ i < 36) {v : Int} (hv : mu 1010 i = v) (d : decode cc pc = .ok (.iaload, 1)) (kk : W p l e R s m args below meth c H locs cells slots Q (F0 m (pc + 1) ls (.int (iI v) :: rest))) : W p l e R s m args below meth c H locs cells slots Q (F0 m pc ls (.int (iI i) :: .ref (ad 30 0) :: rest)) := by
  subst hv
  exact wr_iald hexec hb hK hR hd rfl 0 rfl hi (by decide) (by show iI (mu 1010 (i.toNat : Int)) = _; rw [Int.toNat_of_nonneg hi.1]) d kk
theorem xs_1010 (hexec : p.tables.exec = Jvm.exec) (hb : c.code = cc) (hK : KC D cy s) (hR : RM D cy A ad mu H) (hS : va_S A H0 H locs) (hd : dmM mu 30 0) {i v : Int} (hi : 0 ≤ i ∧ i < 36) (d : decode cc pc = .ok (.iastore, 1)) (kk : ∀ (H1 : Heap) (locs1 : List Loc), RM D cy A ad (st mu 1010 i v) H1 → va_S A H0 H1 locs1 → W p l e R s m args below meth c H1 locs1 cells slots Q (F0 m (pc + 1) ls rest)) : W p l e R s m args below meth c H locs cells slots Q (F0 m pc ls (.int (iI v) :: .int (iI i) :: .ref (ad 30 0) :: rest)) := by
  refine wr_iast hexec hb hK hR hS hd rfl 0 rfl hi (by decide) (cell' := cellM cy ad (st mu 1010 i v)) (fun k' j' hd' => ?_) d (fun H1 locs1 h1 h2 => kk H1 locs1 (wr_to h1 (fun k i => dmM_st (by decide) k i) (fun _ _ _ => ⟨rfl, rfl⟩)) h2)
  · by_cases hk : k' = 30
    · subst hk
      rw [if_pos ⟨rfl, hd'.1⟩, upd_i hi.1]
      rfl
    · rw [if_neg (fun z => hk z.1)]
      exact cellM_st _ (by omega) (by omega)
theorem xg_911 (hexec : p.tables.exec = Jvm.exec) (hb : c.code = cc) {own : String} {index : Nat} (hw : ∀ w ∈ u_ws RX5 TX5 35, w.before args s = true) (hown : s.vm.findClass own = some m.cls) (hK : KC D cy s) (hR : RM D cy A ad mu H) {j : Int} (hd : dmM mu 5 j) (hlink : (Cond.fieldLink own index "TakinghallModel" "offerPrices" "[I").before args s = true) {v : Int} (hv : mu 911 0 = v) (d : decode cc pc = .ok (.getfield index, 3)) (kk : W p l e R s m args below meth c H locs cells slots Q (F0 m (pc + 3) ls (rv (ad 31) v :: rest))) : W p l e R s m args below meth c H locs cells slots Q (F0 m pc ls (.ref (ad 5 j) :: rest)) := by
  subst hv
  exact wr_get hexec hb hw hown hK hR hd (fs := fsM ad mu) rfl rfl 11 (by decide) hlink rfl d kk
theorem xa_1011 (hexec : p.tables.exec = Jvm.exec) (hb : c.code = cc) (hK : KC D cy s) (hR : RM D cy A ad mu H) (hd : dmM mu 31 0) {i : Int} (hi : 0 ≤ i ∧ i < 36) {v : Int} (hv : mu 1011 i = v) (d : decode cc pc = .ok (.iaload, 1)) (kk : W p l e R s m args below meth c H locs cells slots Q (F0 m (pc + 1) ls (.int (iI v) :: rest))) : W p l e R s m args below meth c H locs cells slots Q (F0 m pc ls (.int (iI i) :: .ref (ad 31 0) :: rest)) := by
  subst hv
  exact wr_iald hexec hb hK hR hd rfl 0 rfl hi (by decide) (by show iI (mu 1011 (i.toNat : Int)) = _; rw [Int.toNat_of_nonneg hi.1]) d kk
theorem xs_1011 (hexec : p.tables.exec = Jvm.exec) (hb : c.code = cc) (hK : KC D cy s) (hR : RM D cy A ad mu H) (hS : va_S A H0 H locs) (hd : dmM mu 31 0) {i v : Int} (hi : 0 ≤ i ∧ i < 36) (d : decode cc pc = .ok (.iastore, 1)) (kk : ∀ (H1 : Heap) (locs1 : List Loc), RM D cy A ad (st mu 1011 i v) H1 → va_S A H0 H1 locs1 → W p l e R s m args below meth c H1 locs1 cells slots Q (F0 m (pc + 1) ls rest)) : W p l e R s m args below meth c H locs cells slots Q (F0 m pc ls (.int (iI v) :: .int (iI i) :: .ref (ad 31 0) :: rest)) := by
  refine wr_iast hexec hb hK hR hS hd rfl 0 rfl hi (by decide) (cell' := cellM cy ad (st mu 1011 i v)) (fun k' j' hd' => ?_) d (fun H1 locs1 h1 h2 => kk H1 locs1 (wr_to h1 (fun k i => dmM_st (by decide) k i) (fun _ _ _ => ⟨rfl, rfl⟩)) h2)
  · by_cases hk : k' = 31
    · subst hk
      rw [if_pos ⟨rfl, hd'.1⟩, upd_i hi.1]
      rfl
    · rw [if_neg (fun z => hk z.1)]
      exact cellM_st _ (by omega) (by omega)
theorem xg_912 (hexec : p.tables.exec = Jvm.exec) (hb : c.code = cc) {own : String} {index : Nat} (hw : ∀ w ∈ u_ws RX5 TX5 35, w.before args s = true) (hown : s.vm.findClass own = some m.cls) (hK : KC D cy s) (hR : RM D cy A ad mu H) {j : Int} (hd : dmM mu 5 j) (hlink : (Cond.fieldLink own index "TakinghallModel" "lands" "[J").before args s = true) {v : Int} (hv : mu 912 0 = v) (d : decode cc pc = .ok (.getfield index, 3)) (kk : W p l e R s m args below meth c H locs cells slots Q (F0 m (pc + 3) ls (rv (ad 32) v :: rest))) : W p l e R s m args below meth c H locs cells slots Q (F0 m pc ls (.ref (ad 5 j) :: rest)) := by
  subst hv
  exact wr_get hexec hb hw hown hK hR hd (fs := fsM ad mu) rfl rfl 12 (by decide) hlink rfl d kk
theorem xa_1012 (hexec : p.tables.exec = Jvm.exec) (hb : c.code = cc) (hK : KC D cy s) (hR : RM D cy A ad mu H) (hd : dmM mu 32 0) {i : Int} (hi : 0 ≤ i ∧ i < 36) {v : Int} (hv : mu 1012 i = v) (d : decode cc pc = .ok (.laload, 1)) (kk : W p l e R s m args below meth c H locs cells slots Q (F0 m (pc + 1) ls (.long (lI v) :: rest))) : W p l e R s m args below meth c H locs cells slots Q (F0 m pc ls (.int (iI i) :: .ref (ad 32 0) :: rest)) := by
  subst hv
  exact wr_lald hexec hb hK hR hd rfl 1 rfl hi (by decide) (by show lI (mu 1012 (i.toNat : Int)) = _; rw [Int.toNat_of_nonneg hi.1]) d kk
theorem xs_1012 (hexec : p.tables.exec = Jvm.exec) (hb : c.code = cc) (hK : KC D cy s) (hR : RM D cy A ad mu H) (hS : va_S A H0 H locs) (hd : dmM mu 32 0) {i v : Int} (hi : 0 ≤ i ∧ i < 36) (d : decode cc pc = .ok (.lastore, 1)) (kk : ∀ (H1 : Heap) (locs1 : List Loc), RM D cy A ad (st mu 1012 i v) H1 → va_S A H0 H1 locs1 → W p l e R s m args below meth c H1 locs1 cells slots Q (F0 m (pc + 1) ls rest)) : W p l e R s m args below meth c H locs cells slots Q (F0 m pc ls (.long (lI v) :: .int (iI i) :: .ref (ad 32 0) :: rest)) := by
  refine wr_last hexec hb hK hR hS hd rfl 1 rfl hi (by decide) (cell' := cellM cy ad (st mu 1012 i v)) (fun k' j' hd' => ?_) d (fun H1 locs1 h1 h2 => kk H1 locs1 (wr_to h1 (fun k i => dmM_st (by decide) k i) (fun _ _ _ => ⟨rfl, rfl⟩)) h2)
  · by_cases hk : k' = 32
    · subst hk
      rw [if_pos ⟨rfl, hd'.1⟩, upd_l hi.1]
      rfl
    · rw [if_neg (fun z => hk z.1)]
      exact cellM_st _ (by omega) (by omega)
theorem xg_913 (hexec : p.tables.exec = Jvm.exec) (hb : c.code = cc) {own : String} {index : Nat} (hw : ∀ w ∈ u_ws RX5 TX5 35, w.before args s = true) (hown : s.vm.findClass own = some m.cls) (hK : KC D cy s) (hR : RM D cy A ad mu H) {j : Int} (hd : dmM mu 5 j) (hlink : (Cond.fieldLink own index "TakinghallModel" "many" "I").before args s = true) {v : Int} (hv : mu 913 0 = v) (d : decode cc pc = .ok (.getfield index, 3)) (kk : W p l e R s m args below meth c H locs cells slots Q (F0 m (pc + 3) ls (.int (iI v) :: rest))) : W p l e R s m args below meth c H locs cells slots Q (F0 m pc ls (.ref (ad 5 j) :: rest)) := by
  subst hv
  exact wr_get hexec hb hw hown hK hR hd (fs := fsM ad mu) rfl rfl 13 (by decide) hlink rfl d kk
theorem xp_913 (hexec : p.tables.exec = Jvm.exec) (hb : c.code = cc) {own : String} {index : Nat} (hw : ∀ w ∈ u_ws RX5 TX5 35, w.before args s = true) (hown : s.vm.findClass own = some m.cls) (hK : KC D cy s) (hR : RM D cy A ad mu H) (hS : va_S A H0 H locs) {v : Int} (hd : dmM mu 5 0) (hlink : (Cond.fieldLink own index "TakinghallModel" "many" "I").before args s = true) (d : decode cc pc = .ok (.putfield index, 3)) (kk : ∀ (H1 : Heap) (locs1 : List Loc), RM D cy A ad (st mu 913 0 v) H1 → va_S A H0 H1 locs1 → W p l e R s m args below meth c H1 locs1 cells slots Q (F0 m (pc + 3) ls rest)) : W p l e R s m args below meth c H locs cells slots Q (F0 m pc ls ((.int (iI v)) :: .ref (ad 5 0) :: rest)) := by
  refine wr_put hexec hb hw tyX5 tyX5_ok nmX5 hown hK hR hS hd (fs := fsM ad mu) rfl rfl 13 (by decide) hlink rfl (ty := .int) (by decide +kernel) rfl rfl (by show 13 < 35; decide) (cell' := cellM cy ad (st mu 913 0 v)) (fun k' j' hd' => ?_) d (fun H1 locs1 h1 h2 => kk H1 locs1 (wr_to h1 (fun k i => dmM_st (by decide) k i) (fun _ _ _ => ⟨rfl, rfl⟩)) h2)
  · by_cases hk : k' = 5
    · subst hk
      rw [if_pos ⟨rfl, hd'.1⟩]
      show (Sum.inr (5, fsM ad (st mu 913 0 v)) : va_E) = _
      simp [fsM, st]
    · rw [if_neg (fun z => hk z.1)]
      exact cellM_st _ (by omega) (by omega)
theorem xg_914 (hexec : p.tables.exec = Jvm.exec) (hb : c.code = cc) {own : String} {index : Nat} (hw : ∀ w ∈ u_ws RX5 TX5 35, w.before args s = true) (hown : s.vm.findClass own = some m.cls) (hK : KC D cy s) (hR : RM D cy A ad mu H) {j : Int} (hd : dmM mu 5 j) (hlink : (Cond.fieldLink own index "TakinghallModel" "kinds" "[I").before args s = true) {v : Int} (hv : mu 914 0 = v) (d : decode cc pc = .ok (.getfield index, 3)) (kk : W p l e R s m args below meth c H locs cells slots Q (F0 m (pc + 3) ls (rv (ad 34) v :: rest))) : W p l e R s m args below meth c H locs cells slots Q (F0 m pc ls (.ref (ad 5 j) :: rest)) := by
  subst hv
  exact wr_get hexec hb hw hown hK hR hd (fs := fsM ad mu) rfl rfl 14 (by decide) hlink rfl d kk
theorem xa_1014 (hexec : p.tables.exec = Jvm.exec) (hb : c.code = cc) (hK : KC D cy s) (hR : RM D cy A ad mu H) (hd : dmM mu 34 0) {i : Int} (hi : 0 ≤ i ∧ i < 24) {v : Int} (hv : mu 1014 i = v) (d : decode cc pc = .ok (.iaload, 1)) (kk : W p l e R s m args below meth c H locs cells slots Q (F0 m (pc + 1) ls (.int (iI v) :: rest))) : W p l e R s m args below meth c H locs cells slots Q (F0 m pc ls (.int (iI i) :: .ref (ad 34 0) :: rest)) := by
  subst hv
  exact wr_iald hexec hb hK hR hd rfl 0 rfl hi (by decide) (by show iI (mu 1014 (i.toNat : Int)) = _; rw [Int.toNat_of_nonneg hi.1]) d kk
theorem xs_1014 (hexec : p.tables.exec = Jvm.exec) (hb : c.code = cc) (hK : KC D cy s) (hR : RM D cy A ad mu H) (hS : va_S A H0 H locs) (hd : dmM mu 34 0) {i v : Int} (hi : 0 ≤ i ∧ i < 24) (d : decode cc pc = .ok (.iastore, 1)) (kk : ∀ (H1 : Heap) (locs1 : List Loc), RM D cy A ad (st mu 1014 i v) H1 → va_S A H0 H1 locs1 → W p l e R s m args below meth c H1 locs1 cells slots Q (F0 m (pc + 1) ls rest)) : W p l e R s m args below meth c H locs cells slots Q (F0 m pc ls (.int (iI v) :: .int (iI i) :: .ref (ad 34 0) :: rest)) := by
  refine wr_iast hexec hb hK hR hS hd rfl 0 rfl hi (by decide) (cell' := cellM cy ad (st mu 1014 i v)) (fun k' j' hd' => ?_) d (fun H1 locs1 h1 h2 => kk H1 locs1 (wr_to h1 (fun k i => dmM_st (by decide) k i) (fun _ _ _ => ⟨rfl, rfl⟩)) h2)
  · by_cases hk : k' = 34
    · subst hk
      rw [if_pos ⟨rfl, hd'.1⟩, upd_i hi.1]
      rfl
    · rw [if_neg (fun z => hk z.1)]
      exact cellM_st _ (by omega) (by omega)
theorem xg_915 (hexec : p.tables.exec = Jvm.exec) (hb : c.code = cc) {own : String} {index : Nat} (hw : ∀ w ∈ u_ws RX5 TX5 35, w.before args s = true) (hown : s.vm.findClass own = some m.cls) (hK : KC D cy s) (hR : RM D cy A ad mu H) {j : Int} (hd : dmM mu 5 j) (hlink : (Cond.fieldLink own index "TakinghallModel" "plots" "[I").before args s = true) {v : Int} (hv : mu 915 0 = v) (d : decode cc pc = .ok (.getfield index, 3)) (kk : W p l e R s m args below meth c H locs cells slots Q (F0 m (pc + 3) ls (rv (ad 35) v :: rest))) : W p l e R s m args below meth c H locs cells slots Q (F0 m pc ls (.ref (ad 5 j) :: rest)) := by
  subst hv
  exact wr_get hexec hb hw hown hK hR hd (fs := fsM ad mu) rfl rfl 15 (by decide) hlink rfl d kk
theorem xa_1015 (hexec : p.tables.exec = Jvm.exec) (hb : c.code = cc) (hK : KC D cy s) (hR : RM D cy A ad mu H) (hd : dmM mu 35 0) {i : Int} (hi : 0 ≤ i ∧ i < 24) {v : Int} (hv : mu 1015 i = v) (d : decode cc pc = .ok (.iaload, 1)) (kk : W p l e R s m args below meth c H locs cells slots Q (F0 m (pc + 1) ls (.int (iI v) :: rest))) : W p l e R s m args below meth c H locs cells slots Q (F0 m pc ls (.int (iI i) :: .ref (ad 35 0) :: rest)) := by
  subst hv
  exact wr_iald hexec hb hK hR hd rfl 0 rfl hi (by decide) (by show iI (mu 1015 (i.toNat : Int)) = _; rw [Int.toNat_of_nonneg hi.1]) d kk
theorem xs_1015 (hexec : p.tables.exec = Jvm.exec) (hb : c.code = cc) (hK : KC D cy s) (hR : RM D cy A ad mu H) (hS : va_S A H0 H locs) (hd : dmM mu 35 0) {i v : Int} (hi : 0 ≤ i ∧ i < 24) (d : decode cc pc = .ok (.iastore, 1)) (kk : ∀ (H1 : Heap) (locs1 : List Loc), RM D cy A ad (st mu 1015 i v) H1 → va_S A H0 H1 locs1 → W p l e R s m args below meth c H1 locs1 cells slots Q (F0 m (pc + 1) ls rest)) : W p l e R s m args below meth c H locs cells slots Q (F0 m pc ls (.int (iI v) :: .int (iI i) :: .ref (ad 35 0) :: rest)) := by
  refine wr_iast hexec hb hK hR hS hd rfl 0 rfl hi (by decide) (cell' := cellM cy ad (st mu 1015 i v)) (fun k' j' hd' => ?_) d (fun H1 locs1 h1 h2 => kk H1 locs1 (wr_to h1 (fun k i => dmM_st (by decide) k i) (fun _ _ _ => ⟨rfl, rfl⟩)) h2)
  · by_cases hk : k' = 35
    · subst hk
      rw [if_pos ⟨rfl, hd'.1⟩, upd_i hi.1]
      rfl
    · rw [if_neg (fun z => hk z.1)]
      exact cellM_st _ (by omega) (by omega)
theorem xg_916 (hexec : p.tables.exec = Jvm.exec) (hb : c.code = cc) {own : String} {index : Nat} (hw : ∀ w ∈ u_ws RX5 TX5 35, w.before args s = true) (hown : s.vm.findClass own = some m.cls) (hK : KC D cy s) (hR : RM D cy A ad mu H) {j : Int} (hd : dmM mu 5 j) (hlink : (Cond.fieldLink own index "TakinghallModel" "persons" "[I").before args s = true) {v : Int} (hv : mu 916 0 = v) (d : decode cc pc = .ok (.getfield index, 3)) (kk : W p l e R s m args below meth c H locs cells slots Q (F0 m (pc + 3) ls (rv (ad 36) v :: rest))) : W p l e R s m args below meth c H locs cells slots Q (F0 m pc ls (.ref (ad 5 j) :: rest)) := by
  subst hv
  exact wr_get hexec hb hw hown hK hR hd (fs := fsM ad mu) rfl rfl 16 (by decide) hlink rfl d kk
theorem xa_1016 (hexec : p.tables.exec = Jvm.exec) (hb : c.code = cc) (hK : KC D cy s) (hR : RM D cy A ad mu H) (hd : dmM mu 36 0) {i : Int} (hi : 0 ≤ i ∧ i < 24) {v : Int} (hv : mu 1016 i = v) (d : decode cc pc = .ok (.iaload, 1)) (kk : W p l e R s m args below meth c H locs cells slots Q (F0 m (pc + 1) ls (.int (iI v) :: rest))) : W p l e R s m args below meth c H locs cells slots Q (F0 m pc ls (.int (iI i) :: .ref (ad 36 0) :: rest)) := by
  subst hv
  exact wr_iald hexec hb hK hR hd rfl 0 rfl hi (by decide) (by show iI (mu 1016 (i.toNat : Int)) = _; rw [Int.toNat_of_nonneg hi.1]) d kk
theorem xs_1016 (hexec : p.tables.exec = Jvm.exec) (hb : c.code = cc) (hK : KC D cy s) (hR : RM D cy A ad mu H) (hS : va_S A H0 H locs) (hd : dmM mu 36 0) {i v : Int} (hi : 0 ≤ i ∧ i < 24) (d : decode cc pc = .ok (.iastore, 1)) (kk : ∀ (H1 : Heap) (locs1 : List Loc), RM D cy A ad (st mu 1016 i v) H1 → va_S A H0 H1 locs1 → W p l e R s m args below meth c H1 locs1 cells slots Q (F0 m (pc + 1) ls rest)) : W p l e R s m args below meth c H locs cells slots Q (F0 m pc ls (.int (iI v) :: .int (iI i) :: .ref (ad 36 0) :: rest)) := by
  refine wr_iast hexec hb hK hR hS hd rfl 0 rfl hi (by decide) (cell' := cellM cy ad (st mu 1016 i v)) (fun k' j' hd' => ?_) d (fun H1 locs1 h1 h2 => kk H1 locs1 (wr_to h1 (fun k i => dmM_st (by decide) k i) (fun _ _ _ => ⟨rfl, rfl⟩)) h2)
  · by_cases hk : k' = 36
    · subst hk
      rw [if_pos ⟨rfl, hd'.1⟩, upd_i hi.1]
      rfl
    · rw [if_neg (fun z => hk z.1)]
      exact cellM_st _ (by omega) (by omega)
theorem xg_917 (hexec : p.tables.exec = Jvm.exec) (hb : c.code = cc) {own : String} {index : Nat} (hw : ∀ w ∈ u_ws RX5 TX5 35, w.before args s = true) (hown : s.vm.findClass own = some m.cls) (hK : KC D cy s) (hR : RM D cy A ad mu H) {j : Int} (hd : dmM mu 5 j) (hlink : (Cond.fieldLink own index "TakinghallModel" "since" "[I").before args s = true) {v : Int} (hv : mu 917 0 = v) (d : decode cc pc = .ok (.getfield index, 3)) (kk : W p l e R s m args below meth c H locs cells slots Q (F0 m (pc + 3) ls (rv (ad 37) v :: rest))) : W p l e R s m args below meth c H locs cells slots Q (F0 m pc ls (.ref (ad 5 j) :: rest)) := by
  subst hv
  exact wr_get hexec hb hw hown hK hR hd (fs := fsM ad mu) rfl rfl 17 (by decide) hlink rfl d kk
theorem xa_1017 (hexec : p.tables.exec = Jvm.exec) (hb : c.code = cc) (hK : KC D cy s) (hR : RM D cy A ad mu H) (hd : dmM mu 37 0) {i : Int} (hi : 0 ≤ i ∧ i < 24) {v : Int} (hv : mu 1017 i = v) (d : decode cc pc = .ok (.iaload, 1)) (kk : W p l e R s m args below meth c H locs cells slots Q (F0 m (pc + 1) ls (.int (iI v) :: rest))) : W p l e R s m args below meth c H locs cells slots Q (F0 m pc ls (.int (iI i) :: .ref (ad 37 0) :: rest)) := by
  subst hv
  exact wr_iald hexec hb hK hR hd rfl 0 rfl hi (by decide) (by show iI (mu 1017 (i.toNat : Int)) = _; rw [Int.toNat_of_nonneg hi.1]) d kk
theorem xs_1017 (hexec : p.tables.exec = Jvm.exec) (hb : c.code = cc) (hK : KC D cy s) (hR : RM D cy A ad mu H) (hS : va_S A H0 H locs) (hd : dmM mu 37 0) {i v : Int} (hi : 0 ≤ i ∧ i < 24) (d : decode cc pc = .ok (.iastore, 1)) (kk : ∀ (H1 : Heap) (locs1 : List Loc), RM D cy A ad (st mu 1017 i v) H1 → va_S A H0 H1 locs1 → W p l e R s m args below meth c H1 locs1 cells slots Q (F0 m (pc + 1) ls rest)) : W p l e R s m args below meth c H locs cells slots Q (F0 m pc ls (.int (iI v) :: .int (iI i) :: .ref (ad 37 0) :: rest)) := by
  refine wr_iast hexec hb hK hR hS hd rfl 0 rfl hi (by decide) (cell' := cellM cy ad (st mu 1017 i v)) (fun k' j' hd' => ?_) d (fun H1 locs1 h1 h2 => kk H1 locs1 (wr_to h1 (fun k i => dmM_st (by decide) k i) (fun _ _ _ => ⟨rfl, rfl⟩)) h2)
  · by_cases hk : k' = 37
    · subst hk
      rw [if_pos ⟨rfl, hd'.1⟩, upd_i hi.1]
      rfl
    · rw [if_neg (fun z => hk z.1)]
      exact cellM_st _ (by omega) (by omega)
theorem xg_918 (hexec : p.tables.exec = Jvm.exec) (hb : c.code = cc) {own : String} {index : Nat} (hw : ∀ w ∈ u_ws RX5 TX5 35, w.before args s = true) (hown : s.vm.findClass own = some m.cls) (hK : KC D cy s) (hR : RM D cy A ad mu H) {j : Int} (hd : dmM mu 5 j) (hlink : (Cond.fieldLink own index "TakinghallModel" "numbers" "[I").before args s = true) {v : Int} (hv : mu 918 0 = v) (d : decode cc pc = .ok (.getfield index, 3)) (kk : W p l e R s m args below meth c H locs cells slots Q (F0 m (pc + 3) ls (rv (ad 38) v :: rest))) : W p l e R s m args below meth c H locs cells slots Q (F0 m pc ls (.ref (ad 5 j) :: rest)) := by
  subst hv
  exact wr_get hexec hb hw hown hK hR hd (fs := fsM ad mu) rfl rfl 18 (by decide) hlink rfl d kk
theorem xa_1018 (hexec : p.tables.exec = Jvm.exec) (hb : c.code = cc) (hK : KC D cy s) (hR : RM D cy A ad mu H) (hd : dmM mu 38 0) {i : Int} (hi : 0 ≤ i ∧ i < 24) {v : Int} (hv : mu 1018 i = v) (d : decode cc pc = .ok (.iaload, 1)) (kk : W p l e R s m args below meth c H locs cells slots Q (F0 m (pc + 1) ls (.int (iI v) :: rest))) : W p l e R s m args below meth c H locs cells slots Q (F0 m pc ls (.int (iI i) :: .ref (ad 38 0) :: rest)) := by
  subst hv
  exact wr_iald hexec hb hK hR hd rfl 0 rfl hi (by decide) (by show iI (mu 1018 (i.toNat : Int)) = _; rw [Int.toNat_of_nonneg hi.1]) d kk
theorem xs_1018 (hexec : p.tables.exec = Jvm.exec) (hb : c.code = cc) (hK : KC D cy s) (hR : RM D cy A ad mu H) (hS : va_S A H0 H locs) (hd : dmM mu 38 0) {i v : Int} (hi : 0 ≤ i ∧ i < 24) (d : decode cc pc = .ok (.iastore, 1)) (kk : ∀ (H1 : Heap) (locs1 : List Loc), RM D cy A ad (st mu 1018 i v) H1 → va_S A H0 H1 locs1 → W p l e R s m args below meth c H1 locs1 cells slots Q (F0 m (pc + 1) ls rest)) : W p l e R s m args below meth c H locs cells slots Q (F0 m pc ls (.int (iI v) :: .int (iI i) :: .ref (ad 38 0) :: rest)) := by
  refine wr_iast hexec hb hK hR hS hd rfl 0 rfl hi (by decide) (cell' := cellM cy ad (st mu 1018 i v)) (fun k' j' hd' => ?_) d (fun H1 locs1 h1 h2 => kk H1 locs1 (wr_to h1 (fun k i => dmM_st (by decide) k i) (fun _ _ _ => ⟨rfl, rfl⟩)) h2)
  · by_cases hk : k' = 38
    · subst hk
      rw [if_pos ⟨rfl, hd'.1⟩, upd_i hi.1]
      rfl
    · rw [if_neg (fun z => hk z.1)]
      exact cellM_st _ (by omega) (by omega)
theorem xg_919 (hexec : p.tables.exec = Jvm.exec) (hb : c.code = cc) {own : String} {index : Nat} (hw : ∀ w ∈ u_ws RX5 TX5 35, w.before args s = true) (hown : s.vm.findClass own = some m.cls) (hK : KC D cy s) (hR : RM D cy A ad mu H) {j : Int} (hd : dmM mu 5 j) (hlink : (Cond.fieldLink own index "TakinghallModel" "notices" "[I").before args s = true) {v : Int} (hv : mu 919 0 = v) (d : decode cc pc = .ok (.getfield index, 3)) (kk : W p l e R s m args below meth c H locs cells slots Q (F0 m (pc + 3) ls (rv (ad 39) v :: rest))) : W p l e R s m args below meth c H locs cells slots Q (F0 m pc ls (.ref (ad 5 j) :: rest)) := by
  subst hv
  exact wr_get hexec hb hw hown hK hR hd (fs := fsM ad mu) rfl rfl 19 (by decide) hlink rfl d kk
theorem xa_1019 (hexec : p.tables.exec = Jvm.exec) (hb : c.code = cc) (hK : KC D cy s) (hR : RM D cy A ad mu H) (hd : dmM mu 39 0) {i : Int} (hi : 0 ≤ i ∧ i < 24) {v : Int} (hv : mu 1019 i = v) (d : decode cc pc = .ok (.iaload, 1)) (kk : W p l e R s m args below meth c H locs cells slots Q (F0 m (pc + 1) ls (.int (iI v) :: rest))) : W p l e R s m args below meth c H locs cells slots Q (F0 m pc ls (.int (iI i) :: .ref (ad 39 0) :: rest)) := by
  subst hv
  exact wr_iald hexec hb hK hR hd rfl 0 rfl hi (by decide) (by show iI (mu 1019 (i.toNat : Int)) = _; rw [Int.toNat_of_nonneg hi.1]) d kk
theorem xs_1019 (hexec : p.tables.exec = Jvm.exec) (hb : c.code = cc) (hK : KC D cy s) (hR : RM D cy A ad mu H) (hS : va_S A H0 H locs) (hd : dmM mu 39 0) {i v : Int} (hi : 0 ≤ i ∧ i < 24) (d : decode cc pc = .ok (.iastore, 1)) (kk : ∀ (H1 : Heap) (locs1 : List Loc), RM D cy A ad (st mu 1019 i v) H1 → va_S A H0 H1 locs1 → W p l e R s m args below meth c H1 locs1 cells slots Q (F0 m (pc + 1) ls rest)) : W p l e R s m args below meth c H locs cells slots Q (F0 m pc ls (.int (iI v) :: .int (iI i) :: .ref (ad 39 0) :: rest)) := by
  refine wr_iast hexec hb hK hR hS hd rfl 0 rfl hi (by decide) (cell' := cellM cy ad (st mu 1019 i v)) (fun k' j' hd' => ?_) d (fun H1 locs1 h1 h2 => kk H1 locs1 (wr_to h1 (fun k i => dmM_st (by decide) k i) (fun _ _ _ => ⟨rfl, rfl⟩)) h2)
  · by_cases hk : k' = 39
    · subst hk
      rw [if_pos ⟨rfl, hd'.1⟩, upd_i hi.1]
      rfl
    · rw [if_neg (fun z => hk z.1)]
      exact cellM_st _ (by omega) (by omega)
theorem xg_920 (hexec : p.tables.exec = Jvm.exec) (hb : c.code = cc) {own : String} {index : Nat} (hw : ∀ w ∈ u_ws RX5 TX5 35, w.before args s = true) (hown : s.vm.findClass own = some m.cls) (hK : KC D cy s) (hR : RM D cy A ad mu H) {j : Int} (hd : dmM mu 5 j) (hlink : (Cond.fieldLink own index "TakinghallModel" "objections" "[I").before args s = true) {v : Int} (hv : mu 920 0 = v) (d : decode cc pc = .ok (.getfield index, 3)) (kk : W p l e R s m args below meth c H locs cells slots Q (F0 m (pc + 3) ls (rv (ad 40) v :: rest))) : W p l e R s m args below meth c H locs cells slots Q (F0 m pc ls (.ref (ad 5 j) :: rest)) := by
  subst hv
  exact wr_get hexec hb hw hown hK hR hd (fs := fsM ad mu) rfl rfl 20 (by decide) hlink rfl d kk
theorem xa_1020 (hexec : p.tables.exec = Jvm.exec) (hb : c.code = cc) (hK : KC D cy s) (hR : RM D cy A ad mu H) (hd : dmM mu 40 0) {i : Int} (hi : 0 ≤ i ∧ i < 24) {v : Int} (hv : mu 1020 i = v) (d : decode cc pc = .ok (.iaload, 1)) (kk : W p l e R s m args below meth c H locs cells slots Q (F0 m (pc + 1) ls (.int (iI v) :: rest))) : W p l e R s m args below meth c H locs cells slots Q (F0 m pc ls (.int (iI i) :: .ref (ad 40 0) :: rest)) := by
  subst hv
  exact wr_iald hexec hb hK hR hd rfl 0 rfl hi (by decide) (by show iI (mu 1020 (i.toNat : Int)) = _; rw [Int.toNat_of_nonneg hi.1]) d kk
theorem xs_1020 (hexec : p.tables.exec = Jvm.exec) (hb : c.code = cc) (hK : KC D cy s) (hR : RM D cy A ad mu H) (hS : va_S A H0 H locs) (hd : dmM mu 40 0) {i v : Int} (hi : 0 ≤ i ∧ i < 24) (d : decode cc pc = .ok (.iastore, 1)) (kk : ∀ (H1 : Heap) (locs1 : List Loc), RM D cy A ad (st mu 1020 i v) H1 → va_S A H0 H1 locs1 → W p l e R s m args below meth c H1 locs1 cells slots Q (F0 m (pc + 1) ls rest)) : W p l e R s m args below meth c H locs cells slots Q (F0 m pc ls (.int (iI v) :: .int (iI i) :: .ref (ad 40 0) :: rest)) := by
  refine wr_iast hexec hb hK hR hS hd rfl 0 rfl hi (by decide) (cell' := cellM cy ad (st mu 1020 i v)) (fun k' j' hd' => ?_) d (fun H1 locs1 h1 h2 => kk H1 locs1 (wr_to h1 (fun k i => dmM_st (by decide) k i) (fun _ _ _ => ⟨rfl, rfl⟩)) h2)
  · by_cases hk : k' = 40
    · subst hk
      rw [if_pos ⟨rfl, hd'.1⟩, upd_i hi.1]
      rfl
    · rw [if_neg (fun z => hk z.1)]
      exact cellM_st _ (by omega) (by omega)
theorem xg_921 (hexec : p.tables.exec = Jvm.exec) (hb : c.code = cc) {own : String} {index : Nat} (hw : ∀ w ∈ u_ws RX5 TX5 35, w.before args s = true) (hown : s.vm.findClass own = some m.cls) (hK : KC D cy s) (hR : RM D cy A ad mu H) {j : Int} (hd : dmM mu 5 j) (hlink : (Cond.fieldLink own index "TakinghallModel" "sums" "[J").before args s = true) {v : Int} (hv : mu 921 0 = v) (d : decode cc pc = .ok (.getfield index, 3)) (kk : W p l e R s m args below meth c H locs cells slots Q (F0 m (pc + 3) ls (rv (ad 41) v :: rest))) : W p l e R s m args below meth c H locs cells slots Q (F0 m pc ls (.ref (ad 5 j) :: rest)) := by
  subst hv
  exact wr_get hexec hb hw hown hK hR hd (fs := fsM ad mu) rfl rfl 21 (by decide) hlink rfl d kk
theorem xa_1021 (hexec : p.tables.exec = Jvm.exec) (hb : c.code = cc) (hK : KC D cy s) (hR : RM D cy A ad mu H) (hd : dmM mu 41 0) {i : Int} (hi : 0 ≤ i ∧ i < 24) {v : Int} (hv : mu 1021 i = v) (d : decode cc pc = .ok (.laload, 1)) (kk : W p l e R s m args below meth c H locs cells slots Q (F0 m (pc + 1) ls (.long (lI v) :: rest))) : W p l e R s m args below meth c H locs cells slots Q (F0 m pc ls (.int (iI i) :: .ref (ad 41 0) :: rest)) := by
  subst hv
  exact wr_lald hexec hb hK hR hd rfl 1 rfl hi (by decide) (by show lI (mu 1021 (i.toNat : Int)) = _; rw [Int.toNat_of_nonneg hi.1]) d kk
theorem xs_1021 (hexec : p.tables.exec = Jvm.exec) (hb : c.code = cc) (hK : KC D cy s) (hR : RM D cy A ad mu H) (hS : va_S A H0 H locs) (hd : dmM mu 41 0) {i v : Int} (hi : 0 ≤ i ∧ i < 24) (d : decode cc pc = .ok (.lastore, 1)) (kk : ∀ (H1 : Heap) (locs1 : List Loc), RM D cy A ad (st mu 1021 i v) H1 → va_S A H0 H1 locs1 → W p l e R s m args below meth c H1 locs1 cells slots Q (F0 m (pc + 1) ls rest)) : W p l e R s m args below meth c H locs cells slots Q (F0 m pc ls (.long (lI v) :: .int (iI i) :: .ref (ad 41 0) :: rest)) := by
  refine wr_last hexec hb hK hR hS hd rfl 1 rfl hi (by decide) (cell' := cellM cy ad (st mu 1021 i v)) (fun k' j' hd' => ?_) d (fun H1 locs1 h1 h2 => kk H1 locs1 (wr_to h1 (fun k i => dmM_st (by decide) k i) (fun _ _ _ => ⟨rfl, rfl⟩)) h2)
  · by_cases hk : k' = 41
    · subst hk
      rw [if_pos ⟨rfl, hd'.1⟩, upd_l hi.1]
      rfl
    · rw [if_neg (fun z => hk z.1)]
      exact cellM_st _ (by omega) (by omega)
theorem xg_922 (hexec : p.tables.exec = Jvm.exec) (hb : c.code = cc) {own : String} {index : Nat} (hw : ∀ w ∈ u_ws RX5 TX5 35, w.before args s = true) (hown : s.vm.findClass own = some m.cls) (hK : KC D cy s) (hR : RM D cy A ad mu H) {j : Int} (hd : dmM mu 5 j) (hlink : (Cond.fieldLink own index "TakinghallModel" "paid" "[J").before args s = true) {v : Int} (hv : mu 922 0 = v) (d : decode cc pc = .ok (.getfield index, 3)) (kk : W p l e R s m args below meth c H locs cells slots Q (F0 m (pc + 3) ls (rv (ad 42) v :: rest))) : W p l e R s m args below meth c H locs cells slots Q (F0 m pc ls (.ref (ad 5 j) :: rest)) := by
  subst hv
  exact wr_get hexec hb hw hown hK hR hd (fs := fsM ad mu) rfl rfl 22 (by decide) hlink rfl d kk
theorem xa_1022 (hexec : p.tables.exec = Jvm.exec) (hb : c.code = cc) (hK : KC D cy s) (hR : RM D cy A ad mu H) (hd : dmM mu 42 0) {i : Int} (hi : 0 ≤ i ∧ i < 24) {v : Int} (hv : mu 1022 i = v) (d : decode cc pc = .ok (.laload, 1)) (kk : W p l e R s m args below meth c H locs cells slots Q (F0 m (pc + 1) ls (.long (lI v) :: rest))) : W p l e R s m args below meth c H locs cells slots Q (F0 m pc ls (.int (iI i) :: .ref (ad 42 0) :: rest)) := by
  subst hv
  exact wr_lald hexec hb hK hR hd rfl 1 rfl hi (by decide) (by show lI (mu 1022 (i.toNat : Int)) = _; rw [Int.toNat_of_nonneg hi.1]) d kk
theorem xs_1022 (hexec : p.tables.exec = Jvm.exec) (hb : c.code = cc) (hK : KC D cy s) (hR : RM D cy A ad mu H) (hS : va_S A H0 H locs) (hd : dmM mu 42 0) {i v : Int} (hi : 0 ≤ i ∧ i < 24) (d : decode cc pc = .ok (.lastore, 1)) (kk : ∀ (H1 : Heap) (locs1 : List Loc), RM D cy A ad (st mu 1022 i v) H1 → va_S A H0 H1 locs1 → W p l e R s m args below meth c H1 locs1 cells slots Q (F0 m (pc + 1) ls rest)) : W p l e R s m args below meth c H locs cells slots Q (F0 m pc ls (.long (lI v) :: .int (iI i) :: .ref (ad 42 0) :: rest)) := by
  refine wr_last hexec hb hK hR hS hd rfl 1 rfl hi (by decide) (cell' := cellM cy ad (st mu 1022 i v)) (fun k' j' hd' => ?_) d (fun H1 locs1 h1 h2 => kk H1 locs1 (wr_to h1 (fun k i => dmM_st (by decide) k i) (fun _ _ _ => ⟨rfl, rfl⟩)) h2)
  · by_cases hk : k' = 42
    · subst hk
      rw [if_pos ⟨rfl, hd'.1⟩, upd_l hi.1]
      rfl
    · rw [if_neg (fun z => hk z.1)]
      exact cellM_st _ (by omega) (by omega)
theorem xg_923 (hexec : p.tables.exec = Jvm.exec) (hb : c.code = cc) {own : String} {index : Nat} (hw : ∀ w ∈ u_ws RX5 TX5 35, w.before args s = true) (hown : s.vm.findClass own = some m.cls) (hK : KC D cy s) (hR : RM D cy A ad mu H) {j : Int} (hd : dmM mu 5 j) (hlink : (Cond.fieldLink own index "TakinghallModel" "advances" "[J").before args s = true) {v : Int} (hv : mu 923 0 = v) (d : decode cc pc = .ok (.getfield index, 3)) (kk : W p l e R s m args below meth c H locs cells slots Q (F0 m (pc + 3) ls (rv (ad 43) v :: rest))) : W p l e R s m args below meth c H locs cells slots Q (F0 m pc ls (.ref (ad 5 j) :: rest)) := by
  subst hv
  exact wr_get hexec hb hw hown hK hR hd (fs := fsM ad mu) rfl rfl 23 (by decide) hlink rfl d kk
theorem xa_1023 (hexec : p.tables.exec = Jvm.exec) (hb : c.code = cc) (hK : KC D cy s) (hR : RM D cy A ad mu H) (hd : dmM mu 43 0) {i : Int} (hi : 0 ≤ i ∧ i < 24) {v : Int} (hv : mu 1023 i = v) (d : decode cc pc = .ok (.laload, 1)) (kk : W p l e R s m args below meth c H locs cells slots Q (F0 m (pc + 1) ls (.long (lI v) :: rest))) : W p l e R s m args below meth c H locs cells slots Q (F0 m pc ls (.int (iI i) :: .ref (ad 43 0) :: rest)) := by
  subst hv
  exact wr_lald hexec hb hK hR hd rfl 1 rfl hi (by decide) (by show lI (mu 1023 (i.toNat : Int)) = _; rw [Int.toNat_of_nonneg hi.1]) d kk
theorem xs_1023 (hexec : p.tables.exec = Jvm.exec) (hb : c.code = cc) (hK : KC D cy s) (hR : RM D cy A ad mu H) (hS : va_S A H0 H locs) (hd : dmM mu 43 0) {i v : Int} (hi : 0 ≤ i ∧ i < 24) (d : decode cc pc = .ok (.lastore, 1)) (kk : ∀ (H1 : Heap) (locs1 : List Loc), RM D cy A ad (st mu 1023 i v) H1 → va_S A H0 H1 locs1 → W p l e R s m args below meth c H1 locs1 cells slots Q (F0 m (pc + 1) ls rest)) : W p l e R s m args below meth c H locs cells slots Q (F0 m pc ls (.long (lI v) :: .int (iI i) :: .ref (ad 43 0) :: rest)) := by
  refine wr_last hexec hb hK hR hS hd rfl 1 rfl hi (by decide) (cell' := cellM cy ad (st mu 1023 i v)) (fun k' j' hd' => ?_) d (fun H1 locs1 h1 h2 => kk H1 locs1 (wr_to h1 (fun k i => dmM_st (by decide) k i) (fun _ _ _ => ⟨rfl, rfl⟩)) h2)
  · by_cases hk : k' = 43
    · subst hk
      rw [if_pos ⟨rfl, hd'.1⟩, upd_l hi.1]
      rfl
    · rw [if_neg (fun z => hk z.1)]
      exact cellM_st _ (by omega) (by omega)
theorem xg_924 (hexec : p.tables.exec = Jvm.exec) (hb : c.code = cc) {own : String} {index : Nat} (hw : ∀ w ∈ u_ws RX5 TX5 35, w.before args s = true) (hown : s.vm.findClass own = some m.cls) (hK : KC D cy s) (hR : RM D cy A ad mu H) {j : Int} (hd : dmM mu 5 j) (hlink : (Cond.fieldLink own index "TakinghallModel" "advanceDays" "[I").before args s = true) {v : Int} (hv : mu 924 0 = v) (d : decode cc pc = .ok (.getfield index, 3)) (kk : W p l e R s m args below meth c H locs cells slots Q (F0 m (pc + 3) ls (rv (ad 44) v :: rest))) : W p l e R s m args below meth c H locs cells slots Q (F0 m pc ls (.ref (ad 5 j) :: rest)) := by
  subst hv
  exact wr_get hexec hb hw hown hK hR hd (fs := fsM ad mu) rfl rfl 24 (by decide) hlink rfl d kk
theorem xa_1024 (hexec : p.tables.exec = Jvm.exec) (hb : c.code = cc) (hK : KC D cy s) (hR : RM D cy A ad mu H) (hd : dmM mu 44 0) {i : Int} (hi : 0 ≤ i ∧ i < 24) {v : Int} (hv : mu 1024 i = v) (d : decode cc pc = .ok (.iaload, 1)) (kk : W p l e R s m args below meth c H locs cells slots Q (F0 m (pc + 1) ls (.int (iI v) :: rest))) : W p l e R s m args below meth c H locs cells slots Q (F0 m pc ls (.int (iI i) :: .ref (ad 44 0) :: rest)) := by
  subst hv
  exact wr_iald hexec hb hK hR hd rfl 0 rfl hi (by decide) (by show iI (mu 1024 (i.toNat : Int)) = _; rw [Int.toNat_of_nonneg hi.1]) d kk
theorem xs_1024 (hexec : p.tables.exec = Jvm.exec) (hb : c.code = cc) (hK : KC D cy s) (hR : RM D cy A ad mu H) (hS : va_S A H0 H locs) (hd : dmM mu 44 0) {i v : Int} (hi : 0 ≤ i ∧ i < 24) (d : decode cc pc = .ok (.iastore, 1)) (kk : ∀ (H1 : Heap) (locs1 : List Loc), RM D cy A ad (st mu 1024 i v) H1 → va_S A H0 H1 locs1 → W p l e R s m args below meth c H1 locs1 cells slots Q (F0 m (pc + 1) ls rest)) : W p l e R s m args below meth c H locs cells slots Q (F0 m pc ls (.int (iI v) :: .int (iI i) :: .ref (ad 44 0) :: rest)) := by
  refine wr_iast hexec hb hK hR hS hd rfl 0 rfl hi (by decide) (cell' := cellM cy ad (st mu 1024 i v)) (fun k' j' hd' => ?_) d (fun H1 locs1 h1 h2 => kk H1 locs1 (wr_to h1 (fun k i => dmM_st (by decide) k i) (fun _ _ _ => ⟨rfl, rfl⟩)) h2)
  · by_cases hk : k' = 44
    · subst hk
      rw [if_pos ⟨rfl, hd'.1⟩, upd_i hi.1]
      rfl
    · rw [if_neg (fun z => hk z.1)]
      exact cellM_st _ (by omega) (by omega)
theorem xg_925 (hexec : p.tables.exec = Jvm.exec) (hb : c.code = cc) {own : String} {index : Nat} (hw : ∀ w ∈ u_ws RX5 TX5 35, w.before args s = true) (hown : s.vm.findClass own = some m.cls) (hK : KC D cy s) (hR : RM D cy A ad mu H) {j : Int} (hd : dmM mu 5 j) (hlink : (Cond.fieldLink own index "TakinghallModel" "isSettled" "[Z").before args s = true) {v : Int} (hv : mu 925 0 = v) (d : decode cc pc = .ok (.getfield index, 3)) (kk : W p l e R s m args below meth c H locs cells slots Q (F0 m (pc + 3) ls (rv (ad 45) v :: rest))) : W p l e R s m args below meth c H locs cells slots Q (F0 m pc ls (.ref (ad 5 j) :: rest)) := by
  subst hv
  exact wr_get hexec hb hw hown hK hR hd (fs := fsM ad mu) rfl rfl 25 (by decide) hlink rfl d kk
theorem xa_1025 (hexec : p.tables.exec = Jvm.exec) (hb : c.code = cc) (hK : KC D cy s) (hR : RM D cy A ad mu H) (hd : dmM mu 45 0) {i : Int} (hi : 0 ≤ i ∧ i < 24) {v : Int} (hv : mu 1025 i = v) (d : decode cc pc = .ok (.baload, 1)) (kk : W p l e R s m args below meth c H locs cells slots Q (F0 m (pc + 1) ls (.int (iI v) :: rest))) : W p l e R s m args below meth c H locs cells slots Q (F0 m pc ls (.int (iI i) :: .ref (ad 45 0) :: rest)) := by
  subst hv
  exact wr_zald hexec hb hK hR hd rfl 2 rfl hi (by decide) (by show iI (mu 1025 (i.toNat : Int)) = _; rw [Int.toNat_of_nonneg hi.1]) d kk
theorem xs_1025 (hexec : p.tables.exec = Jvm.exec) (hb : c.code = cc) (hK : KC D cy s) (hR : RM D cy A ad mu H) (hS : va_S A H0 H locs) (hd : dmM mu 45 0) {i v : Int} (hi : 0 ≤ i ∧ i < 24) (hz : 0 ≤ v ∧ v ≤ 1) (d : decode cc pc = .ok (.bastore, 1)) (kk : ∀ (H1 : Heap) (locs1 : List Loc), RM D cy A ad (st mu 1025 i v) H1 → va_S A H0 H1 locs1 → W p l e R s m args below meth c H1 locs1 cells slots Q (F0 m (pc + 1) ls rest)) : W p l e R s m args below meth c H locs cells slots Q (F0 m pc ls (.int (iI v) :: .int (iI i) :: .ref (ad 45 0) :: rest)) := by
  refine wr_zast hexec hb hK hR hS hd rfl 2 rfl hi (by decide) hz (cell' := cellM cy ad (st mu 1025 i v)) (fun k' j' hd' => ?_) d (fun H1 locs1 h1 h2 => kk H1 locs1 (wr_to h1 (fun k i => dmM_st (by decide) k i) (fun _ _ _ => ⟨rfl, rfl⟩)) h2)
  · by_cases hk : k' = 45
    · subst hk
      rw [if_pos ⟨rfl, hd'.1⟩, upd_i hi.1]
      rfl
    · rw [if_neg (fun z => hk z.1)]
      exact cellM_st _ (by omega) (by omega)
theorem xg_926 (hexec : p.tables.exec = Jvm.exec) (hb : c.code = cc) {own : String} {index : Nat} (hw : ∀ w ∈ u_ws RX5 TX5 35, w.before args s = true) (hown : s.vm.findClass own = some m.cls) (hK : KC D cy s) (hR : RM D cy A ad mu H) {j : Int} (hd : dmM mu 5 j) (hlink : (Cond.fieldLink own index "TakinghallModel" "schemeMany" "I").before args s = true) {v : Int} (hv : mu 926 0 = v) (d : decode cc pc = .ok (.getfield index, 3)) (kk : W p l e R s m args below meth c H locs cells slots Q (F0 m (pc + 3) ls (.int (iI v) :: rest))) : W p l e R s m args below meth c H locs cells slots Q (F0 m pc ls (.ref (ad 5 j) :: rest)) := by
  subst hv
  exact wr_get hexec hb hw hown hK hR hd (fs := fsM ad mu) rfl rfl 26 (by decide) hlink rfl d kk
theorem xp_926 (hexec : p.tables.exec = Jvm.exec) (hb : c.code = cc) {own : String} {index : Nat} (hw : ∀ w ∈ u_ws RX5 TX5 35, w.before args s = true) (hown : s.vm.findClass own = some m.cls) (hK : KC D cy s) (hR : RM D cy A ad mu H) (hS : va_S A H0 H locs) {v : Int} (hd : dmM mu 5 0) (hlink : (Cond.fieldLink own index "TakinghallModel" "schemeMany" "I").before args s = true) (d : decode cc pc = .ok (.putfield index, 3)) (kk : ∀ (H1 : Heap) (locs1 : List Loc), RM D cy A ad (st mu 926 0 v) H1 → va_S A H0 H1 locs1 → W p l e R s m args below meth c H1 locs1 cells slots Q (F0 m (pc + 3) ls rest)) : W p l e R s m args below meth c H locs cells slots Q (F0 m pc ls ((.int (iI v)) :: .ref (ad 5 0) :: rest)) := by
  refine wr_put hexec hb hw tyX5 tyX5_ok nmX5 hown hK hR hS hd (fs := fsM ad mu) rfl rfl 26 (by decide) hlink rfl (ty := .int) (by decide +kernel) rfl rfl (by show 26 < 35; decide) (cell' := cellM cy ad (st mu 926 0 v)) (fun k' j' hd' => ?_) d (fun H1 locs1 h1 h2 => kk H1 locs1 (wr_to h1 (fun k i => dmM_st (by decide) k i) (fun _ _ _ => ⟨rfl, rfl⟩)) h2)
  · by_cases hk : k' = 5
    · subst hk
      rw [if_pos ⟨rfl, hd'.1⟩]
      show (Sum.inr (5, fsM ad (st mu 926 0 v)) : va_E) = _
      simp [fsM, st]
    · rw [if_neg (fun z => hk z.1)]
      exact cellM_st _ (by omega) (by omega)
theorem xg_927 (hexec : p.tables.exec = Jvm.exec) (hb : c.code = cc) {own : String} {index : Nat} (hw : ∀ w ∈ u_ws RX5 TX5 35, w.before args s = true) (hown : s.vm.findClass own = some m.cls) (hK : KC D cy s) (hR : RM D cy A ad mu H) {j : Int} (hd : dmM mu 5 j) (hlink : (Cond.fieldLink own index "TakinghallModel" "harms" "[I").before args s = true) {v : Int} (hv : mu 927 0 = v) (d : decode cc pc = .ok (.getfield index, 3)) (kk : W p l e R s m args below meth c H locs cells slots Q (F0 m (pc + 3) ls (rv (ad 47) v :: rest))) : W p l e R s m args below meth c H locs cells slots Q (F0 m pc ls (.ref (ad 5 j) :: rest)) := by
  subst hv
  exact wr_get hexec hb hw hown hK hR hd (fs := fsM ad mu) rfl rfl 27 (by decide) hlink rfl d kk
theorem xa_1027 (hexec : p.tables.exec = Jvm.exec) (hb : c.code = cc) (hK : KC D cy s) (hR : RM D cy A ad mu H) (hd : dmM mu 47 0) {i : Int} (hi : 0 ≤ i ∧ i < 4) {v : Int} (hv : mu 1027 i = v) (d : decode cc pc = .ok (.iaload, 1)) (kk : W p l e R s m args below meth c H locs cells slots Q (F0 m (pc + 1) ls (.int (iI v) :: rest))) : W p l e R s m args below meth c H locs cells slots Q (F0 m pc ls (.int (iI i) :: .ref (ad 47 0) :: rest)) := by
  subst hv
  exact wr_iald hexec hb hK hR hd rfl 0 rfl hi (by decide) (by show iI (mu 1027 (i.toNat : Int)) = _; rw [Int.toNat_of_nonneg hi.1]) d kk
theorem xs_1027 (hexec : p.tables.exec = Jvm.exec) (hb : c.code = cc) (hK : KC D cy s) (hR : RM D cy A ad mu H) (hS : va_S A H0 H locs) (hd : dmM mu 47 0) {i v : Int} (hi : 0 ≤ i ∧ i < 4) (d : decode cc pc = .ok (.iastore, 1)) (kk : ∀ (H1 : Heap) (locs1 : List Loc), RM D cy A ad (st mu 1027 i v) H1 → va_S A H0 H1 locs1 → W p l e R s m args below meth c H1 locs1 cells slots Q (F0 m (pc + 1) ls rest)) : W p l e R s m args below meth c H locs cells slots Q (F0 m pc ls (.int (iI v) :: .int (iI i) :: .ref (ad 47 0) :: rest)) := by
  refine wr_iast hexec hb hK hR hS hd rfl 0 rfl hi (by decide) (cell' := cellM cy ad (st mu 1027 i v)) (fun k' j' hd' => ?_) d (fun H1 locs1 h1 h2 => kk H1 locs1 (wr_to h1 (fun k i => dmM_st (by decide) k i) (fun _ _ _ => ⟨rfl, rfl⟩)) h2)
  · by_cases hk : k' = 47
    · subst hk
      rw [if_pos ⟨rfl, hd'.1⟩, upd_i hi.1]
      rfl
    · rw [if_neg (fun z => hk z.1)]
      exact cellM_st _ (by omega) (by omega)
theorem xg_928 (hexec : p.tables.exec = Jvm.exec) (hb : c.code = cc) {own : String} {index : Nat} (hw : ∀ w ∈ u_ws RX5 TX5 35, w.before args s = true) (hown : s.vm.findClass own = some m.cls) (hK : KC D cy s) (hR : RM D cy A ad mu H) {j : Int} (hd : dmM mu 5 j) (hlink : (Cond.fieldLink own index "TakinghallModel" "rises" "[I").before args s = true) {v : Int} (hv : mu 928 0 = v) (d : decode cc pc = .ok (.getfield index, 3)) (kk : W p l e R s m args below meth c H locs cells slots Q (F0 m (pc + 3) ls (rv (ad 48) v :: rest))) : W p l e R s m args below meth c H locs cells slots Q (F0 m pc ls (.ref (ad 5 j) :: rest)) := by
  subst hv
  exact wr_get hexec hb hw hown hK hR hd (fs := fsM ad mu) rfl rfl 28 (by decide) hlink rfl d kk
theorem xa_1028 (hexec : p.tables.exec = Jvm.exec) (hb : c.code = cc) (hK : KC D cy s) (hR : RM D cy A ad mu H) (hd : dmM mu 48 0) {i : Int} (hi : 0 ≤ i ∧ i < 4) {v : Int} (hv : mu 1028 i = v) (d : decode cc pc = .ok (.iaload, 1)) (kk : W p l e R s m args below meth c H locs cells slots Q (F0 m (pc + 1) ls (.int (iI v) :: rest))) : W p l e R s m args below meth c H locs cells slots Q (F0 m pc ls (.int (iI i) :: .ref (ad 48 0) :: rest)) := by
  subst hv
  exact wr_iald hexec hb hK hR hd rfl 0 rfl hi (by decide) (by show iI (mu 1028 (i.toNat : Int)) = _; rw [Int.toNat_of_nonneg hi.1]) d kk
theorem xs_1028 (hexec : p.tables.exec = Jvm.exec) (hb : c.code = cc) (hK : KC D cy s) (hR : RM D cy A ad mu H) (hS : va_S A H0 H locs) (hd : dmM mu 48 0) {i v : Int} (hi : 0 ≤ i ∧ i < 4) (d : decode cc pc = .ok (.iastore, 1)) (kk : ∀ (H1 : Heap) (locs1 : List Loc), RM D cy A ad (st mu 1028 i v) H1 → va_S A H0 H1 locs1 → W p l e R s m args below meth c H1 locs1 cells slots Q (F0 m (pc + 1) ls rest)) : W p l e R s m args below meth c H locs cells slots Q (F0 m pc ls (.int (iI v) :: .int (iI i) :: .ref (ad 48 0) :: rest)) := by
  refine wr_iast hexec hb hK hR hS hd rfl 0 rfl hi (by decide) (cell' := cellM cy ad (st mu 1028 i v)) (fun k' j' hd' => ?_) d (fun H1 locs1 h1 h2 => kk H1 locs1 (wr_to h1 (fun k i => dmM_st (by decide) k i) (fun _ _ _ => ⟨rfl, rfl⟩)) h2)
  · by_cases hk : k' = 48
    · subst hk
      rw [if_pos ⟨rfl, hd'.1⟩, upd_i hi.1]
      rfl
    · rw [if_neg (fun z => hk z.1)]
      exact cellM_st _ (by omega) (by omega)
theorem xg_929 (hexec : p.tables.exec = Jvm.exec) (hb : c.code = cc) {own : String} {index : Nat} (hw : ∀ w ∈ u_ws RX5 TX5 35, w.before args s = true) (hown : s.vm.findClass own = some m.cls) (hK : KC D cy s) (hR : RM D cy A ad mu H) {j : Int} (hd : dmM mu 5 j) (hlink : (Cond.fieldLink own index "TakinghallModel" "stages" "[I").before args s = true) {v : Int} (hv : mu 929 0 = v) (d : decode cc pc = .ok (.getfield index, 3)) (kk : W p l e R s m args below meth c H locs cells slots Q (F0 m (pc + 3) ls (rv (ad 49) v :: rest))) : W p l e R s m args below meth c H locs cells slots Q (F0 m pc ls (.ref (ad 5 j) :: rest)) := by
  subst hv
  exact wr_get hexec hb hw hown hK hR hd (fs := fsM ad mu) rfl rfl 29 (by decide) hlink rfl d kk
theorem xa_1029 (hexec : p.tables.exec = Jvm.exec) (hb : c.code = cc) (hK : KC D cy s) (hR : RM D cy A ad mu H) (hd : dmM mu 49 0) {i : Int} (hi : 0 ≤ i ∧ i < 4) {v : Int} (hv : mu 1029 i = v) (d : decode cc pc = .ok (.iaload, 1)) (kk : W p l e R s m args below meth c H locs cells slots Q (F0 m (pc + 1) ls (.int (iI v) :: rest))) : W p l e R s m args below meth c H locs cells slots Q (F0 m pc ls (.int (iI i) :: .ref (ad 49 0) :: rest)) := by
  subst hv
  exact wr_iald hexec hb hK hR hd rfl 0 rfl hi (by decide) (by show iI (mu 1029 (i.toNat : Int)) = _; rw [Int.toNat_of_nonneg hi.1]) d kk
theorem xs_1029 (hexec : p.tables.exec = Jvm.exec) (hb : c.code = cc) (hK : KC D cy s) (hR : RM D cy A ad mu H) (hS : va_S A H0 H locs) (hd : dmM mu 49 0) {i v : Int} (hi : 0 ≤ i ∧ i < 4) (d : decode cc pc = .ok (.iastore, 1)) (kk : ∀ (H1 : Heap) (locs1 : List Loc), RM D cy A ad (st mu 1029 i v) H1 → va_S A H0 H1 locs1 → W p l e R s m args below meth c H1 locs1 cells slots Q (F0 m (pc + 1) ls rest)) : W p l e R s m args below meth c H locs cells slots Q (F0 m pc ls (.int (iI v) :: .int (iI i) :: .ref (ad 49 0) :: rest)) := by
  refine wr_iast hexec hb hK hR hS hd rfl 0 rfl hi (by decide) (cell' := cellM cy ad (st mu 1029 i v)) (fun k' j' hd' => ?_) d (fun H1 locs1 h1 h2 => kk H1 locs1 (wr_to h1 (fun k i => dmM_st (by decide) k i) (fun _ _ _ => ⟨rfl, rfl⟩)) h2)
  · by_cases hk : k' = 49
    · subst hk
      rw [if_pos ⟨rfl, hd'.1⟩, upd_i hi.1]
      rfl
    · rw [if_neg (fun z => hk z.1)]
      exact cellM_st _ (by omega) (by omega)
theorem xg_930 (hexec : p.tables.exec = Jvm.exec) (hb : c.code = cc) {own : String} {index : Nat} (hw : ∀ w ∈ u_ws RX5 TX5 35, w.before args s = true) (hown : s.vm.findClass own = some m.cls) (hK : KC D cy s) (hR : RM D cy A ad mu H) {j : Int} (hd : dmM mu 5 j) (hlink : (Cond.fieldLink own index "TakinghallModel" "confirmDays" "[I").before args s = true) {v : Int} (hv : mu 930 0 = v) (d : decode cc pc = .ok (.getfield index, 3)) (kk : W p l e R s m args below meth c H locs cells slots Q (F0 m (pc + 3) ls (rv (ad 50) v :: rest))) : W p l e R s m args below meth c H locs cells slots Q (F0 m pc ls (.ref (ad 5 j) :: rest)) := by
  subst hv
  exact wr_get hexec hb hw hown hK hR hd (fs := fsM ad mu) rfl rfl 30 (by decide) hlink rfl d kk
theorem xa_1030 (hexec : p.tables.exec = Jvm.exec) (hb : c.code = cc) (hK : KC D cy s) (hR : RM D cy A ad mu H) (hd : dmM mu 50 0) {i : Int} (hi : 0 ≤ i ∧ i < 4) {v : Int} (hv : mu 1030 i = v) (d : decode cc pc = .ok (.iaload, 1)) (kk : W p l e R s m args below meth c H locs cells slots Q (F0 m (pc + 1) ls (.int (iI v) :: rest))) : W p l e R s m args below meth c H locs cells slots Q (F0 m pc ls (.int (iI i) :: .ref (ad 50 0) :: rest)) := by
  subst hv
  exact wr_iald hexec hb hK hR hd rfl 0 rfl hi (by decide) (by show iI (mu 1030 (i.toNat : Int)) = _; rw [Int.toNat_of_nonneg hi.1]) d kk
theorem xs_1030 (hexec : p.tables.exec = Jvm.exec) (hb : c.code = cc) (hK : KC D cy s) (hR : RM D cy A ad mu H) (hS : va_S A H0 H locs) (hd : dmM mu 50 0) {i v : Int} (hi : 0 ≤ i ∧ i < 4) (d : decode cc pc = .ok (.iastore, 1)) (kk : ∀ (H1 : Heap) (locs1 : List Loc), RM D cy A ad (st mu 1030 i v) H1 → va_S A H0 H1 locs1 → W p l e R s m args below meth c H1 locs1 cells slots Q (F0 m (pc + 1) ls rest)) : W p l e R s m args below meth c H locs cells slots Q (F0 m pc ls (.int (iI v) :: .int (iI i) :: .ref (ad 50 0) :: rest)) := by
  refine wr_iast hexec hb hK hR hS hd rfl 0 rfl hi (by decide) (cell' := cellM cy ad (st mu 1030 i v)) (fun k' j' hd' => ?_) d (fun H1 locs1 h1 h2 => kk H1 locs1 (wr_to h1 (fun k i => dmM_st (by decide) k i) (fun _ _ _ => ⟨rfl, rfl⟩)) h2)
  · by_cases hk : k' = 50
    · subst hk
      rw [if_pos ⟨rfl, hd'.1⟩, upd_i hi.1]
      rfl
    · rw [if_neg (fun z => hk z.1)]
      exact cellM_st _ (by omega) (by omega)
theorem xg_931 (hexec : p.tables.exec = Jvm.exec) (hb : c.code = cc) {own : String} {index : Nat} (hw : ∀ w ∈ u_ws RX5 TX5 35, w.before args s = true) (hown : s.vm.findClass own = some m.cls) (hK : KC D cy s) (hR : RM D cy A ad mu H) {j : Int} (hd : dmM mu 5 j) (hlink : (Cond.fieldLink own index "TakinghallModel" "dropDays" "[I").before args s = true) {v : Int} (hv : mu 931 0 = v) (d : decode cc pc = .ok (.getfield index, 3)) (kk : W p l e R s m args below meth c H locs cells slots Q (F0 m (pc + 3) ls (rv (ad 51) v :: rest))) : W p l e R s m args below meth c H locs cells slots Q (F0 m pc ls (.ref (ad 5 j) :: rest)) := by
  subst hv
  exact wr_get hexec hb hw hown hK hR hd (fs := fsM ad mu) rfl rfl 31 (by decide) hlink rfl d kk
theorem xa_1031 (hexec : p.tables.exec = Jvm.exec) (hb : c.code = cc) (hK : KC D cy s) (hR : RM D cy A ad mu H) (hd : dmM mu 51 0) {i : Int} (hi : 0 ≤ i ∧ i < 4) {v : Int} (hv : mu 1031 i = v) (d : decode cc pc = .ok (.iaload, 1)) (kk : W p l e R s m args below meth c H locs cells slots Q (F0 m (pc + 1) ls (.int (iI v) :: rest))) : W p l e R s m args below meth c H locs cells slots Q (F0 m pc ls (.int (iI i) :: .ref (ad 51 0) :: rest)) := by
  subst hv
  exact wr_iald hexec hb hK hR hd rfl 0 rfl hi (by decide) (by show iI (mu 1031 (i.toNat : Int)) = _; rw [Int.toNat_of_nonneg hi.1]) d kk
theorem xs_1031 (hexec : p.tables.exec = Jvm.exec) (hb : c.code = cc) (hK : KC D cy s) (hR : RM D cy A ad mu H) (hS : va_S A H0 H locs) (hd : dmM mu 51 0) {i v : Int} (hi : 0 ≤ i ∧ i < 4) (d : decode cc pc = .ok (.iastore, 1)) (kk : ∀ (H1 : Heap) (locs1 : List Loc), RM D cy A ad (st mu 1031 i v) H1 → va_S A H0 H1 locs1 → W p l e R s m args below meth c H1 locs1 cells slots Q (F0 m (pc + 1) ls rest)) : W p l e R s m args below meth c H locs cells slots Q (F0 m pc ls (.int (iI v) :: .int (iI i) :: .ref (ad 51 0) :: rest)) := by
  refine wr_iast hexec hb hK hR hS hd rfl 0 rfl hi (by decide) (cell' := cellM cy ad (st mu 1031 i v)) (fun k' j' hd' => ?_) d (fun H1 locs1 h1 h2 => kk H1 locs1 (wr_to h1 (fun k i => dmM_st (by decide) k i) (fun _ _ _ => ⟨rfl, rfl⟩)) h2)
  · by_cases hk : k' = 51
    · subst hk
      rw [if_pos ⟨rfl, hd'.1⟩, upd_i hi.1]
      rfl
    · rw [if_neg (fun z => hk z.1)]
      exact cellM_st _ (by omega) (by omega)
theorem xg_932 (hexec : p.tables.exec = Jvm.exec) (hb : c.code = cc) {own : String} {index : Nat} (hw : ∀ w ∈ u_ws RX5 TX5 35, w.before args s = true) (hown : s.vm.findClass own = some m.cls) (hK : KC D cy s) (hR : RM D cy A ad mu H) {j : Int} (hd : dmM mu 5 j) (hlink : (Cond.fieldLink own index "TakinghallModel" "court" "J").before args s = true) {v : Int} (hv : mu 932 0 = v) (d : decode cc pc = .ok (.getfield index, 3)) (kk : W p l e R s m args below meth c H locs cells slots Q (F0 m (pc + 3) ls (.long (lI v) :: rest))) : W p l e R s m args below meth c H locs cells slots Q (F0 m pc ls (.ref (ad 5 j) :: rest)) := by
  subst hv
  exact wr_get hexec hb hw hown hK hR hd (fs := fsM ad mu) rfl rfl 32 (by decide) hlink rfl d kk
theorem xp_932 (hexec : p.tables.exec = Jvm.exec) (hb : c.code = cc) {own : String} {index : Nat} (hw : ∀ w ∈ u_ws RX5 TX5 35, w.before args s = true) (hown : s.vm.findClass own = some m.cls) (hK : KC D cy s) (hR : RM D cy A ad mu H) (hS : va_S A H0 H locs) {v : Int} (hd : dmM mu 5 0) (hlink : (Cond.fieldLink own index "TakinghallModel" "court" "J").before args s = true) (d : decode cc pc = .ok (.putfield index, 3)) (kk : ∀ (H1 : Heap) (locs1 : List Loc), RM D cy A ad (st mu 932 0 v) H1 → va_S A H0 H1 locs1 → W p l e R s m args below meth c H1 locs1 cells slots Q (F0 m (pc + 3) ls rest)) : W p l e R s m args below meth c H locs cells slots Q (F0 m pc ls ((.long (lI v)) :: .ref (ad 5 0) :: rest)) := by
  refine wr_put hexec hb hw tyX5 tyX5_ok nmX5 hown hK hR hS hd (fs := fsM ad mu) rfl rfl 32 (by decide) hlink rfl (ty := .long) (by decide +kernel) rfl rfl (by show 32 < 35; decide) (cell' := cellM cy ad (st mu 932 0 v)) (fun k' j' hd' => ?_) d (fun H1 locs1 h1 h2 => kk H1 locs1 (wr_to h1 (fun k i => dmM_st (by decide) k i) (fun _ _ _ => ⟨rfl, rfl⟩)) h2)
  · by_cases hk : k' = 5
    · subst hk
      rw [if_pos ⟨rfl, hd'.1⟩]
      show (Sum.inr (5, fsM ad (st mu 932 0 v)) : va_E) = _
      simp [fsM, st]
    · rw [if_neg (fun z => hk z.1)]
      exact cellM_st _ (by omega) (by omega)
theorem xg_933 (hexec : p.tables.exec = Jvm.exec) (hb : c.code = cc) {own : String} {index : Nat} (hw : ∀ w ∈ u_ws RX5 TX5 35, w.before args s = true) (hown : s.vm.findClass own = some m.cls) (hK : KC D cy s) (hR : RM D cy A ad mu H) {j : Int} (hd : dmM mu 5 j) (hlink : (Cond.fieldLink own index "TakinghallModel" "forBack" "J").before args s = true) {v : Int} (hv : mu 933 0 = v) (d : decode cc pc = .ok (.getfield index, 3)) (kk : W p l e R s m args below meth c H locs cells slots Q (F0 m (pc + 3) ls (.long (lI v) :: rest))) : W p l e R s m args below meth c H locs cells slots Q (F0 m pc ls (.ref (ad 5 j) :: rest)) := by
  subst hv
  exact wr_get hexec hb hw hown hK hR hd (fs := fsM ad mu) rfl rfl 33 (by decide) hlink rfl d kk
theorem xp_933 (hexec : p.tables.exec = Jvm.exec) (hb : c.code = cc) {own : String} {index : Nat} (hw : ∀ w ∈ u_ws RX5 TX5 35, w.before args s = true) (hown : s.vm.findClass own = some m.cls) (hK : KC D cy s) (hR : RM D cy A ad mu H) (hS : va_S A H0 H locs) {v : Int} (hd : dmM mu 5 0) (hlink : (Cond.fieldLink own index "TakinghallModel" "forBack" "J").before args s = true) (d : decode cc pc = .ok (.putfield index, 3)) (kk : ∀ (H1 : Heap) (locs1 : List Loc), RM D cy A ad (st mu 933 0 v) H1 → va_S A H0 H1 locs1 → W p l e R s m args below meth c H1 locs1 cells slots Q (F0 m (pc + 3) ls rest)) : W p l e R s m args below meth c H locs cells slots Q (F0 m pc ls ((.long (lI v)) :: .ref (ad 5 0) :: rest)) := by
  refine wr_put hexec hb hw tyX5 tyX5_ok nmX5 hown hK hR hS hd (fs := fsM ad mu) rfl rfl 33 (by decide) hlink rfl (ty := .long) (by decide +kernel) rfl rfl (by show 33 < 35; decide) (cell' := cellM cy ad (st mu 933 0 v)) (fun k' j' hd' => ?_) d (fun H1 locs1 h1 h2 => kk H1 locs1 (wr_to h1 (fun k i => dmM_st (by decide) k i) (fun _ _ _ => ⟨rfl, rfl⟩)) h2)
  · by_cases hk : k' = 5
    · subst hk
      rw [if_pos ⟨rfl, hd'.1⟩]
      show (Sum.inr (5, fsM ad (st mu 933 0 v)) : va_E) = _
      simp [fsM, st]
    · rw [if_neg (fun z => hk z.1)]
      exact cellM_st _ (by omega) (by omega)
theorem xg_934 (hexec : p.tables.exec = Jvm.exec) (hb : c.code = cc) {own : String} {index : Nat} (hw : ∀ w ∈ u_ws RX5 TX5 35, w.before args s = true) (hown : s.vm.findClass own = some m.cls) (hK : KC D cy s) (hR : RM D cy A ad mu H) {j : Int} (hd : dmM mu 5 j) (hlink : (Cond.fieldLink own index "TakinghallModel" "profits" "[I").before args s = true) {v : Int} (hv : mu 934 0 = v) (d : decode cc pc = .ok (.getfield index, 3)) (kk : W p l e R s m args below meth c H locs cells slots Q (F0 m (pc + 3) ls (rv (ad 54) v :: rest))) : W p l e R s m args below meth c H locs cells slots Q (F0 m pc ls (.ref (ad 5 j) :: rest)) := by
  subst hv
  exact wr_get hexec hb hw hown hK hR hd (fs := fsM ad mu) rfl rfl 34 (by decide) hlink rfl d kk
theorem xa_1034 (hexec : p.tables.exec = Jvm.exec) (hb : c.code = cc) (hK : KC D cy s) (hR : RM D cy A ad mu H) (hd : dmM mu 54 0) {i : Int} (hi : 0 ≤ i ∧ i < 24) {v : Int} (hv : mu 1034 i = v) (d : decode cc pc = .ok (.iaload, 1)) (kk : W p l e R s m args below meth c H locs cells slots Q (F0 m (pc + 1) ls (.int (iI v) :: rest))) : W p l e R s m args below meth c H locs cells slots Q (F0 m pc ls (.int (iI i) :: .ref (ad 54 0) :: rest)) := by
  subst hv
  exact wr_iald hexec hb hK hR hd rfl 0 rfl hi (by decide) (by show iI (mu 1034 (i.toNat : Int)) = _; rw [Int.toNat_of_nonneg hi.1]) d kk
theorem xs_1034 (hexec : p.tables.exec = Jvm.exec) (hb : c.code = cc) (hK : KC D cy s) (hR : RM D cy A ad mu H) (hS : va_S A H0 H locs) (hd : dmM mu 54 0) {i v : Int} (hi : 0 ≤ i ∧ i < 24) (d : decode cc pc = .ok (.iastore, 1)) (kk : ∀ (H1 : Heap) (locs1 : List Loc), RM D cy A ad (st mu 1034 i v) H1 → va_S A H0 H1 locs1 → W p l e R s m args below meth c H1 locs1 cells slots Q (F0 m (pc + 1) ls rest)) : W p l e R s m args below meth c H locs cells slots Q (F0 m pc ls (.int (iI v) :: .int (iI i) :: .ref (ad 54 0) :: rest)) := by
  refine wr_iast hexec hb hK hR hS hd rfl 0 rfl hi (by decide) (cell' := cellM cy ad (st mu 1034 i v)) (fun k' j' hd' => ?_) d (fun H1 locs1 h1 h2 => kk H1 locs1 (wr_to h1 (fun k i => dmM_st (by decide) k i) (fun _ _ _ => ⟨rfl, rfl⟩)) h2)
  · by_cases hk : k' = 54
    · subst hk
      rw [if_pos ⟨rfl, hd'.1⟩, upd_i hi.1]
      rfl
    · rw [if_neg (fun z => hk z.1)]
      exact cellM_st _ (by omega) (by omega)
end MX
def loM (f : Nat) : Int := if f = 1006 then (-1) else if f = 1008 then (-1) else if f = 1010 then (-1) else if f = 1019 then (-1) else if f = 1024 then (-1) else if f = 1030 then (-1) else if f = 1031 then (-1) else 0
def hiM (f : Nat) : Int := if f = 900 then 3 else if f = 901 then 20000 else if f = 913 then 24 else if f = 926 then 4 else if f = 1002 then 1000 else if f = 1003 then 100 else if f = 1004 then 2 else if f = 1005 then 2 else if f = 1006 then 3 else if f = 1007 then 100 else if f = 1008 then 20000 else if f = 1009 then 1 else if f = 1010 then 23 else if f = 1011 then 100000 else if f = 1012 then 100000 else if f = 1014 then 2 else if f = 1015 then 35 else if f = 1016 then 9 else if f = 1017 then 20000 else if f = 1018 then 100000 else if f = 1019 then 20000 else if f = 1020 then 2 else if f = 1021 then 110000 else if f = 1023 then 110000 else if f = 1024 then 20000 else if f = 1025 then 1 else if f = 1027 then 50 else if f = 1028 then 50 else if f = 1029 then 2 else if f = 1030 then 20000 else if f = 1031 then 20000 else if f = 1034 then 100 else 0
def MRng (mu : Nat → Int → Int) : Prop := ∀ (f : Nat) (j : Int), 900 ≤ f → f ≠ 932 → f ≠ 933 → f ≠ 1022 → loM f ≤ mu f j ∧ mu f j ≤ hiM f
def MCnt (mu : Nat → Int → Int) : Prop := mu 705 0 = 1 ∧ mu 722 0 = 1 ∧ mu 723 0 = 1 ∧ mu 724 0 = 1 ∧ mu 725 0 = 1 ∧ mu 726 0 = 1 ∧ mu 727 0 = 1 ∧ mu 728 0 = 1 ∧ mu 729 0 = 1 ∧ mu 730 0 = 1 ∧ mu 731 0 = 1 ∧ mu 732 0 = 1 ∧ mu 734 0 = 1 ∧ mu 735 0 = 1 ∧ mu 736 0 = 1 ∧ mu 737 0 = 1 ∧ mu 738 0 = 1 ∧ mu 739 0 = 1 ∧ mu 740 0 = 1 ∧ mu 741 0 = 1 ∧ mu 742 0 = 1 ∧ mu 743 0 = 1 ∧ mu 744 0 = 1 ∧ mu 745 0 = 1 ∧ mu 747 0 = 1 ∧ mu 748 0 = 1 ∧ mu 749 0 = 1 ∧ mu 750 0 = 1 ∧ mu 751 0 = 1 ∧ mu 754 0 = 1
def MMea (mu : Nat → Int → Int) : Prop := ∀ i : Int, mu 1014 i = 0 → mu 1018 i ≤ 100
def GM (mu : Nat → Int → Int) : Prop := MRng mu ∧ MCnt mu ∧ MMea mu
theorem mr_900 {mu : Nat → Int → Int} (hG : GM mu) (j : Int) : (0) ≤ mu 900 j ∧ mu 900 j ≤ 3 := hG.1 900 j (by decide) (by decide) (by decide) (by decide)
theorem mr_901 {mu : Nat → Int → Int} (hG : GM mu) (j : Int) : (0) ≤ mu 901 j ∧ mu 901 j ≤ 20000 := hG.1 901 j (by decide) (by decide) (by decide) (by decide)
theorem mr_913 {mu : Nat → Int → Int} (hG : GM mu) (j : Int) : (0) ≤ mu 913 j ∧ mu 913 j ≤ 24 := hG.1 913 j (by decide) (by decide) (by decide) (by decide)
theorem mr_926 {mu : Nat → Int → Int} (hG : GM mu) (j : Int) : (0) ≤ mu 926 j ∧ mu 926 j ≤ 4 := hG.1 926 j (by decide) (by decide) (by decide) (by decide)
theorem mr_1002 {mu : Nat → Int → Int} (hG : GM mu) (j : Int) : (0) ≤ mu 1002 j ∧ mu 1002 j ≤ 1000 := hG.1 1002 j (by decide) (by decide) (by decide) (by decide)
theorem mr_1003 {mu : Nat → Int → Int} (hG : GM mu) (j : Int) : (0) ≤ mu 1003 j ∧ mu 1003 j ≤ 100 := hG.1 1003 j (by decide) (by decide) (by decide) (by decide)
theorem mr_1004 {mu : Nat → Int → Int} (hG : GM mu) (j : Int) : (0) ≤ mu 1004 j ∧ mu 1004 j ≤ 2 := hG.1 1004 j (by decide) (by decide) (by decide) (by decide)
theorem mr_1005 {mu : Nat → Int → Int} (hG : GM mu) (j : Int) : (0) ≤ mu 1005 j ∧ mu 1005 j ≤ 2 := hG.1 1005 j (by decide) (by decide) (by decide) (by decide)
theorem mr_1006 {mu : Nat → Int → Int} (hG : GM mu) (j : Int) : (-1) ≤ mu 1006 j ∧ mu 1006 j ≤ 3 := hG.1 1006 j (by decide) (by decide) (by decide) (by decide)
theorem mr_1007 {mu : Nat → Int → Int} (hG : GM mu) (j : Int) : (0) ≤ mu 1007 j ∧ mu 1007 j ≤ 100 := hG.1 1007 j (by decide) (by decide) (by decide) (by decide)
theorem mr_1008 {mu : Nat → Int → Int} (hG : GM mu) (j : Int) : (-1) ≤ mu 1008 j ∧ mu 1008 j ≤ 20000 := hG.1 1008 j (by decide) (by decide) (by decide) (by decide)
theorem mr_1009 {mu : Nat → Int → Int} (hG : GM mu) (j : Int) : (0) ≤ mu 1009 j ∧ mu 1009 j ≤ 1 := hG.1 1009 j (by decide) (by decide) (by decide) (by decide)
theorem mr_1010 {mu : Nat → Int → Int} (hG : GM mu) (j : Int) : (-1) ≤ mu 1010 j ∧ mu 1010 j ≤ 23 := hG.1 1010 j (by decide) (by decide) (by decide) (by decide)
theorem mr_1011 {mu : Nat → Int → Int} (hG : GM mu) (j : Int) : (0) ≤ mu 1011 j ∧ mu 1011 j ≤ 100000 := hG.1 1011 j (by decide) (by decide) (by decide) (by decide)
theorem mr_1012 {mu : Nat → Int → Int} (hG : GM mu) (j : Int) : (0) ≤ mu 1012 j ∧ mu 1012 j ≤ 100000 := hG.1 1012 j (by decide) (by decide) (by decide) (by decide)
theorem mr_1014 {mu : Nat → Int → Int} (hG : GM mu) (j : Int) : (0) ≤ mu 1014 j ∧ mu 1014 j ≤ 2 := hG.1 1014 j (by decide) (by decide) (by decide) (by decide)
theorem mr_1015 {mu : Nat → Int → Int} (hG : GM mu) (j : Int) : (0) ≤ mu 1015 j ∧ mu 1015 j ≤ 35 := hG.1 1015 j (by decide) (by decide) (by decide) (by decide)
theorem mr_1016 {mu : Nat → Int → Int} (hG : GM mu) (j : Int) : (0) ≤ mu 1016 j ∧ mu 1016 j ≤ 9 := hG.1 1016 j (by decide) (by decide) (by decide) (by decide)
theorem mr_1017 {mu : Nat → Int → Int} (hG : GM mu) (j : Int) : (0) ≤ mu 1017 j ∧ mu 1017 j ≤ 20000 := hG.1 1017 j (by decide) (by decide) (by decide) (by decide)
theorem mr_1018 {mu : Nat → Int → Int} (hG : GM mu) (j : Int) : (0) ≤ mu 1018 j ∧ mu 1018 j ≤ 100000 := hG.1 1018 j (by decide) (by decide) (by decide) (by decide)
theorem mr_1019 {mu : Nat → Int → Int} (hG : GM mu) (j : Int) : (-1) ≤ mu 1019 j ∧ mu 1019 j ≤ 20000 := hG.1 1019 j (by decide) (by decide) (by decide) (by decide)
theorem mr_1020 {mu : Nat → Int → Int} (hG : GM mu) (j : Int) : (0) ≤ mu 1020 j ∧ mu 1020 j ≤ 2 := hG.1 1020 j (by decide) (by decide) (by decide) (by decide)
theorem mr_1021 {mu : Nat → Int → Int} (hG : GM mu) (j : Int) : (0) ≤ mu 1021 j ∧ mu 1021 j ≤ 110000 := hG.1 1021 j (by decide) (by decide) (by decide) (by decide)
theorem mr_1023 {mu : Nat → Int → Int} (hG : GM mu) (j : Int) : (0) ≤ mu 1023 j ∧ mu 1023 j ≤ 110000 := hG.1 1023 j (by decide) (by decide) (by decide) (by decide)
theorem mr_1024 {mu : Nat → Int → Int} (hG : GM mu) (j : Int) : (-1) ≤ mu 1024 j ∧ mu 1024 j ≤ 20000 := hG.1 1024 j (by decide) (by decide) (by decide) (by decide)
theorem mr_1025 {mu : Nat → Int → Int} (hG : GM mu) (j : Int) : (0) ≤ mu 1025 j ∧ mu 1025 j ≤ 1 := hG.1 1025 j (by decide) (by decide) (by decide) (by decide)
theorem mr_1027 {mu : Nat → Int → Int} (hG : GM mu) (j : Int) : (0) ≤ mu 1027 j ∧ mu 1027 j ≤ 50 := hG.1 1027 j (by decide) (by decide) (by decide) (by decide)
theorem mr_1028 {mu : Nat → Int → Int} (hG : GM mu) (j : Int) : (0) ≤ mu 1028 j ∧ mu 1028 j ≤ 50 := hG.1 1028 j (by decide) (by decide) (by decide) (by decide)
theorem mr_1029 {mu : Nat → Int → Int} (hG : GM mu) (j : Int) : (0) ≤ mu 1029 j ∧ mu 1029 j ≤ 2 := hG.1 1029 j (by decide) (by decide) (by decide) (by decide)
theorem mr_1030 {mu : Nat → Int → Int} (hG : GM mu) (j : Int) : (-1) ≤ mu 1030 j ∧ mu 1030 j ≤ 20000 := hG.1 1030 j (by decide) (by decide) (by decide) (by decide)
theorem mr_1031 {mu : Nat → Int → Int} (hG : GM mu) (j : Int) : (-1) ≤ mu 1031 j ∧ mu 1031 j ≤ 20000 := hG.1 1031 j (by decide) (by decide) (by decide) (by decide)
theorem mr_1034 {mu : Nat → Int → Int} (hG : GM mu) (j : Int) : (0) ≤ mu 1034 j ∧ mu 1034 j ≤ 100 := hG.1 1034 j (by decide) (by decide) (by decide) (by decide)
theorem mh_902 {mu : Nat → Int → Int} (hG : GM mu) : mu 902 0 = 0 := by have h : (0 : Int) ≤ mu 902 0 ∧ mu 902 0 ≤ 0 := hG.1 902 0 (by decide) (by decide) (by decide) (by decide); omega
theorem mh_903 {mu : Nat → Int → Int} (hG : GM mu) : mu 903 0 = 0 := by have h : (0 : Int) ≤ mu 903 0 ∧ mu 903 0 ≤ 0 := hG.1 903 0 (by decide) (by decide) (by decide) (by decide); omega
theorem mh_904 {mu : Nat → Int → Int} (hG : GM mu) : mu 904 0 = 0 := by have h : (0 : Int) ≤ mu 904 0 ∧ mu 904 0 ≤ 0 := hG.1 904 0 (by decide) (by decide) (by decide) (by decide); omega
theorem mh_905 {mu : Nat → Int → Int} (hG : GM mu) : mu 905 0 = 0 := by have h : (0 : Int) ≤ mu 905 0 ∧ mu 905 0 ≤ 0 := hG.1 905 0 (by decide) (by decide) (by decide) (by decide); omega
theorem mh_906 {mu : Nat → Int → Int} (hG : GM mu) : mu 906 0 = 0 := by have h : (0 : Int) ≤ mu 906 0 ∧ mu 906 0 ≤ 0 := hG.1 906 0 (by decide) (by decide) (by decide) (by decide); omega
theorem mh_907 {mu : Nat → Int → Int} (hG : GM mu) : mu 907 0 = 0 := by have h : (0 : Int) ≤ mu 907 0 ∧ mu 907 0 ≤ 0 := hG.1 907 0 (by decide) (by decide) (by decide) (by decide); omega
theorem mh_908 {mu : Nat → Int → Int} (hG : GM mu) : mu 908 0 = 0 := by have h : (0 : Int) ≤ mu 908 0 ∧ mu 908 0 ≤ 0 := hG.1 908 0 (by decide) (by decide) (by decide) (by decide); omega
theorem mh_909 {mu : Nat → Int → Int} (hG : GM mu) : mu 909 0 = 0 := by have h : (0 : Int) ≤ mu 909 0 ∧ mu 909 0 ≤ 0 := hG.1 909 0 (by decide) (by decide) (by decide) (by decide); omega
theorem mh_910 {mu : Nat → Int → Int} (hG : GM mu) : mu 910 0 = 0 := by have h : (0 : Int) ≤ mu 910 0 ∧ mu 910 0 ≤ 0 := hG.1 910 0 (by decide) (by decide) (by decide) (by decide); omega
theorem mh_911 {mu : Nat → Int → Int} (hG : GM mu) : mu 911 0 = 0 := by have h : (0 : Int) ≤ mu 911 0 ∧ mu 911 0 ≤ 0 := hG.1 911 0 (by decide) (by decide) (by decide) (by decide); omega
theorem mh_912 {mu : Nat → Int → Int} (hG : GM mu) : mu 912 0 = 0 := by have h : (0 : Int) ≤ mu 912 0 ∧ mu 912 0 ≤ 0 := hG.1 912 0 (by decide) (by decide) (by decide) (by decide); omega
theorem mh_914 {mu : Nat → Int → Int} (hG : GM mu) : mu 914 0 = 0 := by have h : (0 : Int) ≤ mu 914 0 ∧ mu 914 0 ≤ 0 := hG.1 914 0 (by decide) (by decide) (by decide) (by decide); omega
theorem mh_915 {mu : Nat → Int → Int} (hG : GM mu) : mu 915 0 = 0 := by have h : (0 : Int) ≤ mu 915 0 ∧ mu 915 0 ≤ 0 := hG.1 915 0 (by decide) (by decide) (by decide) (by decide); omega
theorem mh_916 {mu : Nat → Int → Int} (hG : GM mu) : mu 916 0 = 0 := by have h : (0 : Int) ≤ mu 916 0 ∧ mu 916 0 ≤ 0 := hG.1 916 0 (by decide) (by decide) (by decide) (by decide); omega
theorem mh_917 {mu : Nat → Int → Int} (hG : GM mu) : mu 917 0 = 0 := by have h : (0 : Int) ≤ mu 917 0 ∧ mu 917 0 ≤ 0 := hG.1 917 0 (by decide) (by decide) (by decide) (by decide); omega
theorem mh_918 {mu : Nat → Int → Int} (hG : GM mu) : mu 918 0 = 0 := by have h : (0 : Int) ≤ mu 918 0 ∧ mu 918 0 ≤ 0 := hG.1 918 0 (by decide) (by decide) (by decide) (by decide); omega
theorem mh_919 {mu : Nat → Int → Int} (hG : GM mu) : mu 919 0 = 0 := by have h : (0 : Int) ≤ mu 919 0 ∧ mu 919 0 ≤ 0 := hG.1 919 0 (by decide) (by decide) (by decide) (by decide); omega
theorem mh_920 {mu : Nat → Int → Int} (hG : GM mu) : mu 920 0 = 0 := by have h : (0 : Int) ≤ mu 920 0 ∧ mu 920 0 ≤ 0 := hG.1 920 0 (by decide) (by decide) (by decide) (by decide); omega
theorem mh_921 {mu : Nat → Int → Int} (hG : GM mu) : mu 921 0 = 0 := by have h : (0 : Int) ≤ mu 921 0 ∧ mu 921 0 ≤ 0 := hG.1 921 0 (by decide) (by decide) (by decide) (by decide); omega
theorem mh_922 {mu : Nat → Int → Int} (hG : GM mu) : mu 922 0 = 0 := by have h : (0 : Int) ≤ mu 922 0 ∧ mu 922 0 ≤ 0 := hG.1 922 0 (by decide) (by decide) (by decide) (by decide); omega
theorem mh_923 {mu : Nat → Int → Int} (hG : GM mu) : mu 923 0 = 0 := by have h : (0 : Int) ≤ mu 923 0 ∧ mu 923 0 ≤ 0 := hG.1 923 0 (by decide) (by decide) (by decide) (by decide); omega
theorem mh_924 {mu : Nat → Int → Int} (hG : GM mu) : mu 924 0 = 0 := by have h : (0 : Int) ≤ mu 924 0 ∧ mu 924 0 ≤ 0 := hG.1 924 0 (by decide) (by decide) (by decide) (by decide); omega
theorem mh_925 {mu : Nat → Int → Int} (hG : GM mu) : mu 925 0 = 0 := by have h : (0 : Int) ≤ mu 925 0 ∧ mu 925 0 ≤ 0 := hG.1 925 0 (by decide) (by decide) (by decide) (by decide); omega
theorem mh_927 {mu : Nat → Int → Int} (hG : GM mu) : mu 927 0 = 0 := by have h : (0 : Int) ≤ mu 927 0 ∧ mu 927 0 ≤ 0 := hG.1 927 0 (by decide) (by decide) (by decide) (by decide); omega
theorem mh_928 {mu : Nat → Int → Int} (hG : GM mu) : mu 928 0 = 0 := by have h : (0 : Int) ≤ mu 928 0 ∧ mu 928 0 ≤ 0 := hG.1 928 0 (by decide) (by decide) (by decide) (by decide); omega
theorem mh_929 {mu : Nat → Int → Int} (hG : GM mu) : mu 929 0 = 0 := by have h : (0 : Int) ≤ mu 929 0 ∧ mu 929 0 ≤ 0 := hG.1 929 0 (by decide) (by decide) (by decide) (by decide); omega
theorem mh_930 {mu : Nat → Int → Int} (hG : GM mu) : mu 930 0 = 0 := by have h : (0 : Int) ≤ mu 930 0 ∧ mu 930 0 ≤ 0 := hG.1 930 0 (by decide) (by decide) (by decide) (by decide); omega
theorem mh_931 {mu : Nat → Int → Int} (hG : GM mu) : mu 931 0 = 0 := by have h : (0 : Int) ≤ mu 931 0 ∧ mu 931 0 ≤ 0 := hG.1 931 0 (by decide) (by decide) (by decide) (by decide); omega
theorem mh_934 {mu : Nat → Int → Int} (hG : GM mu) : mu 934 0 = 0 := by have h : (0 : Int) ≤ mu 934 0 ∧ mu 934 0 ≤ 0 := hG.1 934 0 (by decide) (by decide) (by decide) (by decide); omega
theorem md_5 {mu : Nat → Int → Int} (hG : GM mu) : dmM mu 5 0 := ⟨rfl, hG.2.1.1, by decide⟩
theorem md_22 {mu : Nat → Int → Int} (hG : GM mu) : dmM mu 22 0 := ⟨rfl, hG.2.1.2.1, by decide⟩
theorem md_23 {mu : Nat → Int → Int} (hG : GM mu) : dmM mu 23 0 := ⟨rfl, hG.2.1.2.2.1, by decide⟩
theorem md_24 {mu : Nat → Int → Int} (hG : GM mu) : dmM mu 24 0 := ⟨rfl, hG.2.1.2.2.2.1, by decide⟩
theorem md_25 {mu : Nat → Int → Int} (hG : GM mu) : dmM mu 25 0 := ⟨rfl, hG.2.1.2.2.2.2.1, by decide⟩
theorem md_26 {mu : Nat → Int → Int} (hG : GM mu) : dmM mu 26 0 := ⟨rfl, hG.2.1.2.2.2.2.2.1, by decide⟩
theorem md_27 {mu : Nat → Int → Int} (hG : GM mu) : dmM mu 27 0 := ⟨rfl, hG.2.1.2.2.2.2.2.2.1, by decide⟩
theorem md_28 {mu : Nat → Int → Int} (hG : GM mu) : dmM mu 28 0 := ⟨rfl, hG.2.1.2.2.2.2.2.2.2.1, by decide⟩
theorem md_29 {mu : Nat → Int → Int} (hG : GM mu) : dmM mu 29 0 := ⟨rfl, hG.2.1.2.2.2.2.2.2.2.2.1, by decide⟩
theorem md_30 {mu : Nat → Int → Int} (hG : GM mu) : dmM mu 30 0 := ⟨rfl, hG.2.1.2.2.2.2.2.2.2.2.2.1, by decide⟩
theorem md_31 {mu : Nat → Int → Int} (hG : GM mu) : dmM mu 31 0 := ⟨rfl, hG.2.1.2.2.2.2.2.2.2.2.2.2.1, by decide⟩
theorem md_32 {mu : Nat → Int → Int} (hG : GM mu) : dmM mu 32 0 := ⟨rfl, hG.2.1.2.2.2.2.2.2.2.2.2.2.2.1, by decide⟩
theorem md_34 {mu : Nat → Int → Int} (hG : GM mu) : dmM mu 34 0 := ⟨rfl, hG.2.1.2.2.2.2.2.2.2.2.2.2.2.2.1, by decide⟩
theorem md_35 {mu : Nat → Int → Int} (hG : GM mu) : dmM mu 35 0 := ⟨rfl, hG.2.1.2.2.2.2.2.2.2.2.2.2.2.2.2.1, by decide⟩
theorem md_36 {mu : Nat → Int → Int} (hG : GM mu) : dmM mu 36 0 := ⟨rfl, hG.2.1.2.2.2.2.2.2.2.2.2.2.2.2.2.2.1, by decide⟩
theorem md_37 {mu : Nat → Int → Int} (hG : GM mu) : dmM mu 37 0 := ⟨rfl, hG.2.1.2.2.2.2.2.2.2.2.2.2.2.2.2.2.2.1, by decide⟩
theorem md_38 {mu : Nat → Int → Int} (hG : GM mu) : dmM mu 38 0 := ⟨rfl, hG.2.1.2.2.2.2.2.2.2.2.2.2.2.2.2.2.2.2.1, by decide⟩
theorem md_39 {mu : Nat → Int → Int} (hG : GM mu) : dmM mu 39 0 := ⟨rfl, hG.2.1.2.2.2.2.2.2.2.2.2.2.2.2.2.2.2.2.2.1, by decide⟩
theorem md_40 {mu : Nat → Int → Int} (hG : GM mu) : dmM mu 40 0 := ⟨rfl, hG.2.1.2.2.2.2.2.2.2.2.2.2.2.2.2.2.2.2.2.2.1, by decide⟩
theorem md_41 {mu : Nat → Int → Int} (hG : GM mu) : dmM mu 41 0 := ⟨rfl, hG.2.1.2.2.2.2.2.2.2.2.2.2.2.2.2.2.2.2.2.2.2.1, by decide⟩
theorem md_42 {mu : Nat → Int → Int} (hG : GM mu) : dmM mu 42 0 := ⟨rfl, hG.2.1.2.2.2.2.2.2.2.2.2.2.2.2.2.2.2.2.2.2.2.2.1, by decide⟩
theorem md_43 {mu : Nat → Int → Int} (hG : GM mu) : dmM mu 43 0 := ⟨rfl, hG.2.1.2.2.2.2.2.2.2.2.2.2.2.2.2.2.2.2.2.2.2.2.2.1, by decide⟩
theorem md_44 {mu : Nat → Int → Int} (hG : GM mu) : dmM mu 44 0 := ⟨rfl, hG.2.1.2.2.2.2.2.2.2.2.2.2.2.2.2.2.2.2.2.2.2.2.2.2.1, by decide⟩
theorem md_45 {mu : Nat → Int → Int} (hG : GM mu) : dmM mu 45 0 := ⟨rfl, hG.2.1.2.2.2.2.2.2.2.2.2.2.2.2.2.2.2.2.2.2.2.2.2.2.2.1, by decide⟩
theorem md_47 {mu : Nat → Int → Int} (hG : GM mu) : dmM mu 47 0 := ⟨rfl, hG.2.1.2.2.2.2.2.2.2.2.2.2.2.2.2.2.2.2.2.2.2.2.2.2.2.2.1, by decide⟩
theorem md_48 {mu : Nat → Int → Int} (hG : GM mu) : dmM mu 48 0 := ⟨rfl, hG.2.1.2.2.2.2.2.2.2.2.2.2.2.2.2.2.2.2.2.2.2.2.2.2.2.2.2.1, by decide⟩
theorem md_49 {mu : Nat → Int → Int} (hG : GM mu) : dmM mu 49 0 := ⟨rfl, hG.2.1.2.2.2.2.2.2.2.2.2.2.2.2.2.2.2.2.2.2.2.2.2.2.2.2.2.2.1, by decide⟩
theorem md_50 {mu : Nat → Int → Int} (hG : GM mu) : dmM mu 50 0 := ⟨rfl, hG.2.1.2.2.2.2.2.2.2.2.2.2.2.2.2.2.2.2.2.2.2.2.2.2.2.2.2.2.2.1, by decide⟩
theorem md_51 {mu : Nat → Int → Int} (hG : GM mu) : dmM mu 51 0 := ⟨rfl, hG.2.1.2.2.2.2.2.2.2.2.2.2.2.2.2.2.2.2.2.2.2.2.2.2.2.2.2.2.2.2.1, by decide⟩
theorem md_54 {mu : Nat → Int → Int} (hG : GM mu) : dmM mu 54 0 := ⟨rfl, hG.2.1.2.2.2.2.2.2.2.2.2.2.2.2.2.2.2.2.2.2.2.2.2.2.2.2.2.2.2.2.2, by decide⟩
theorem mm_18 {mu : Nat → Int → Int} (hG : GM mu) (i : Int) : mu 1014 i = 0 → mu 1018 i ≤ 100 := hG.2.2 i
theorem gm_rng {mu : Nat → Int → Int} {f : Nat} {j v : Int} (h : MRng mu) (hv : loM f ≤ v ∧ v ≤ hiM f) : MRng (st mu f j v) := by
  intro f' j' h1 h2 h3 h4
  unfold st
  split
  · rename_i z; rw [z.1]; exact hv
  · exact h f' j' h1 h2 h3 h4
theorem gc_900 {mu : Nat → Int → Int} (hG : GM mu) (j : Int) {v : Int} (hv : (0) ≤ v ∧ v ≤ 3) : GM (st mu 900 j v) := ⟨gm_rng hG.1 hv, hG.2.1, hG.2.2⟩
theorem gc_901 {mu : Nat → Int → Int} (hG : GM mu) (j : Int) {v : Int} (hv : (0) ≤ v ∧ v ≤ 20000) : GM (st mu 901 j v) := ⟨gm_rng hG.1 hv, hG.2.1, hG.2.2⟩
theorem gc_913 {mu : Nat → Int → Int} (hG : GM mu) (j : Int) {v : Int} (hv : (0) ≤ v ∧ v ≤ 24) : GM (st mu 913 j v) := ⟨gm_rng hG.1 hv, hG.2.1, hG.2.2⟩
theorem gc_926 {mu : Nat → Int → Int} (hG : GM mu) (j : Int) {v : Int} (hv : (0) ≤ v ∧ v ≤ 4) : GM (st mu 926 j v) := ⟨gm_rng hG.1 hv, hG.2.1, hG.2.2⟩
theorem gc_1002 {mu : Nat → Int → Int} (hG : GM mu) (j : Int) {v : Int} (hv : (0) ≤ v ∧ v ≤ 1000) : GM (st mu 1002 j v) := ⟨gm_rng hG.1 hv, hG.2.1, hG.2.2⟩
theorem gc_1003 {mu : Nat → Int → Int} (hG : GM mu) (j : Int) {v : Int} (hv : (0) ≤ v ∧ v ≤ 100) : GM (st mu 1003 j v) := ⟨gm_rng hG.1 hv, hG.2.1, hG.2.2⟩
theorem gc_1004 {mu : Nat → Int → Int} (hG : GM mu) (j : Int) {v : Int} (hv : (0) ≤ v ∧ v ≤ 2) : GM (st mu 1004 j v) := ⟨gm_rng hG.1 hv, hG.2.1, hG.2.2⟩
theorem gc_1005 {mu : Nat → Int → Int} (hG : GM mu) (j : Int) {v : Int} (hv : (0) ≤ v ∧ v ≤ 2) : GM (st mu 1005 j v) := ⟨gm_rng hG.1 hv, hG.2.1, hG.2.2⟩
theorem gc_1006 {mu : Nat → Int → Int} (hG : GM mu) (j : Int) {v : Int} (hv : (-1) ≤ v ∧ v ≤ 3) : GM (st mu 1006 j v) := ⟨gm_rng hG.1 hv, hG.2.1, hG.2.2⟩
theorem gc_1007 {mu : Nat → Int → Int} (hG : GM mu) (j : Int) {v : Int} (hv : (0) ≤ v ∧ v ≤ 100) : GM (st mu 1007 j v) := ⟨gm_rng hG.1 hv, hG.2.1, hG.2.2⟩
theorem gc_1008 {mu : Nat → Int → Int} (hG : GM mu) (j : Int) {v : Int} (hv : (-1) ≤ v ∧ v ≤ 20000) : GM (st mu 1008 j v) := ⟨gm_rng hG.1 hv, hG.2.1, hG.2.2⟩
theorem gc_1009 {mu : Nat → Int → Int} (hG : GM mu) (j : Int) {v : Int} (hv : (0) ≤ v ∧ v ≤ 1) : GM (st mu 1009 j v) := ⟨gm_rng hG.1 hv, hG.2.1, hG.2.2⟩
theorem gc_1010 {mu : Nat → Int → Int} (hG : GM mu) (j : Int) {v : Int} (hv : (-1) ≤ v ∧ v ≤ 23) : GM (st mu 1010 j v) := ⟨gm_rng hG.1 hv, hG.2.1, hG.2.2⟩
theorem gc_1011 {mu : Nat → Int → Int} (hG : GM mu) (j : Int) {v : Int} (hv : (0) ≤ v ∧ v ≤ 100000) : GM (st mu 1011 j v) := ⟨gm_rng hG.1 hv, hG.2.1, hG.2.2⟩
theorem gc_1012 {mu : Nat → Int → Int} (hG : GM mu) (j : Int) {v : Int} (hv : (0) ≤ v ∧ v ≤ 100000) : GM (st mu 1012 j v) := ⟨gm_rng hG.1 hv, hG.2.1, hG.2.2⟩
theorem gc_1015 {mu : Nat → Int → Int} (hG : GM mu) (j : Int) {v : Int} (hv : (0) ≤ v ∧ v ≤ 35) : GM (st mu 1015 j v) := ⟨gm_rng hG.1 hv, hG.2.1, hG.2.2⟩
theorem gc_1016 {mu : Nat → Int → Int} (hG : GM mu) (j : Int) {v : Int} (hv : (0) ≤ v ∧ v ≤ 9) : GM (st mu 1016 j v) := ⟨gm_rng hG.1 hv, hG.2.1, hG.2.2⟩
theorem gc_1017 {mu : Nat → Int → Int} (hG : GM mu) (j : Int) {v : Int} (hv : (0) ≤ v ∧ v ≤ 20000) : GM (st mu 1017 j v) := ⟨gm_rng hG.1 hv, hG.2.1, hG.2.2⟩
theorem gc_1019 {mu : Nat → Int → Int} (hG : GM mu) (j : Int) {v : Int} (hv : (-1) ≤ v ∧ v ≤ 20000) : GM (st mu 1019 j v) := ⟨gm_rng hG.1 hv, hG.2.1, hG.2.2⟩
theorem gc_1020 {mu : Nat → Int → Int} (hG : GM mu) (j : Int) {v : Int} (hv : (0) ≤ v ∧ v ≤ 2) : GM (st mu 1020 j v) := ⟨gm_rng hG.1 hv, hG.2.1, hG.2.2⟩
theorem gc_1021 {mu : Nat → Int → Int} (hG : GM mu) (j : Int) {v : Int} (hv : (0) ≤ v ∧ v ≤ 110000) : GM (st mu 1021 j v) := ⟨gm_rng hG.1 hv, hG.2.1, hG.2.2⟩
theorem gc_1023 {mu : Nat → Int → Int} (hG : GM mu) (j : Int) {v : Int} (hv : (0) ≤ v ∧ v ≤ 110000) : GM (st mu 1023 j v) := ⟨gm_rng hG.1 hv, hG.2.1, hG.2.2⟩
theorem gc_1024 {mu : Nat → Int → Int} (hG : GM mu) (j : Int) {v : Int} (hv : (-1) ≤ v ∧ v ≤ 20000) : GM (st mu 1024 j v) := ⟨gm_rng hG.1 hv, hG.2.1, hG.2.2⟩
theorem gc_1025 {mu : Nat → Int → Int} (hG : GM mu) (j : Int) {v : Int} (hv : (0) ≤ v ∧ v ≤ 1) : GM (st mu 1025 j v) := ⟨gm_rng hG.1 hv, hG.2.1, hG.2.2⟩
theorem gc_1027 {mu : Nat → Int → Int} (hG : GM mu) (j : Int) {v : Int} (hv : (0) ≤ v ∧ v ≤ 50) : GM (st mu 1027 j v) := ⟨gm_rng hG.1 hv, hG.2.1, hG.2.2⟩
theorem gc_1028 {mu : Nat → Int → Int} (hG : GM mu) (j : Int) {v : Int} (hv : (0) ≤ v ∧ v ≤ 50) : GM (st mu 1028 j v) := ⟨gm_rng hG.1 hv, hG.2.1, hG.2.2⟩
theorem gc_1029 {mu : Nat → Int → Int} (hG : GM mu) (j : Int) {v : Int} (hv : (0) ≤ v ∧ v ≤ 2) : GM (st mu 1029 j v) := ⟨gm_rng hG.1 hv, hG.2.1, hG.2.2⟩
theorem gc_1030 {mu : Nat → Int → Int} (hG : GM mu) (j : Int) {v : Int} (hv : (-1) ≤ v ∧ v ≤ 20000) : GM (st mu 1030 j v) := ⟨gm_rng hG.1 hv, hG.2.1, hG.2.2⟩
theorem gc_1031 {mu : Nat → Int → Int} (hG : GM mu) (j : Int) {v : Int} (hv : (-1) ≤ v ∧ v ≤ 20000) : GM (st mu 1031 j v) := ⟨gm_rng hG.1 hv, hG.2.1, hG.2.2⟩
theorem gc_1034 {mu : Nat → Int → Int} (hG : GM mu) (j : Int) {v : Int} (hv : (0) ≤ v ∧ v ≤ 100) : GM (st mu 1034 j v) := ⟨gm_rng hG.1 hv, hG.2.1, hG.2.2⟩
theorem gc_932 {mu : Nat → Int → Int} (hG : GM mu) (j : Int) {v : Int} (_ : True) : GM (st mu 932 j v) := ⟨fun f' j' h1 h2 h3 h4 => by rw [st_f (by omega)]; exact hG.1 f' j' h1 h2 h3 h4, hG.2.1, hG.2.2⟩
theorem gc_933 {mu : Nat → Int → Int} (hG : GM mu) (j : Int) {v : Int} (_ : True) : GM (st mu 933 j v) := ⟨fun f' j' h1 h2 h3 h4 => by rw [st_f (by omega)]; exact hG.1 f' j' h1 h2 h3 h4, hG.2.1, hG.2.2⟩
theorem gc_1022 {mu : Nat → Int → Int} (hG : GM mu) (j : Int) {v : Int} (_ : True) : GM (st mu 1022 j v) := ⟨fun f' j' h1 h2 h3 h4 => by rw [st_f (by omega)]; exact hG.1 f' j' h1 h2 h3 h4, hG.2.1, hG.2.2⟩
