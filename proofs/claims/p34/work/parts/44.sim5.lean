theorem r_notice {sg mu : Nat → Int → Int} (h : Rel sg mu) (hG : GC sg) (hM : GM mu) {x : Int} (hx : 0 ≤ x ∧ x < sg 503 0) : Rel (st sg 107 x (sg 506 0)) (st (st mu 900 0 0) 1019 x (mu 901 0)) ∧ GC (st sg 107 x (sg 506 0)) ∧ GM (st (st mu 900 0 0) 1019 x (mu 901 0)) := by
  obtain ⟨hS, hPA, hPS, hPN, hPO, hPL, hJ1, hJ2, hIA, hIN, hIS, hIP, hJ3, hJ8, hJ4, hZ, hK, hPR, hJ5, hT⟩ := h
  have g5 := gr_506 hG 0
  have g9 := mr_901 hM 0
  refine ⟨⟨hS, hPA, hPS, hPN, hPO, hPL, hJ1, hJ2, hIA, fun i p1 p2 => ?_, hIS, hIP, hJ3, hJ8, hJ4, hZ, hK, RPR_ext hPR rfl rfl rfl rfl rfl, hJ5, hT⟩, gc_107 hG x (by omega), gc_1019 (gc_900 hM 0 (by decide)) x (by omega)⟩
  have z := hIN i p1 p2
  refine ⟨?_, z.2⟩
  by_cases e : i = x
  · subst e; exact st_s.trans (hS.1.trans st_s.symm)
  · exact (st_j e).trans (z.1.trans (st_j e).symm)
theorem s_notice {sg mu : Nat → Int → Int} (h : Rel sg mu) (hG : GC sg) (hM : GM mu) (x : Int) : SimW [1, 3] (noticeE sg x) (noticeME mu x) (draftO sg (sg 102 (iAt sg x))) (mu 1006 (mu 1015 x)) sg (st sg 107 (iAt sg x) (sg 506 0)) mu (st (st mu 900 0 0) 1019 x (mu 901 0)) := by
  have hS2 := (show RSc sg mu from h.1).2.1
  by_cases hx : 0 ≤ x ∧ x < sg 503 0
  · have hp := iAt_q hx
    have hd := e_draft h hG hx
    have hIN : RIN sg mu := h.2.2.2.2.2.2.2.2.2.1
    have h1 := (hIN x hx.1 hx.2).1
    rw [hp]
    refine simW_of h hG hM (simP_2 (by decide) (by decide) (by decide) ?_) (fun _ => r_notice h hG hM hx)
    by_cases k1 : mDraft mu x
    · have k2 := hd.1.mp k1
      by_cases k3 : mu 1019 x = -1
      · exact Or.inr (Or.inr ⟨by unfold noticeE; rw [hp, if_neg (by omega), if_neg (by omega)], by unfold noticeME; rw [if_neg (by omega), if_neg (fun z => z.elim (fun y => y k1) (fun y => y k3))], (hd.2 k1).symm⟩)
      · exact Or.inr (Or.inl ⟨by unfold noticeE; rw [hp, if_neg (by omega), if_pos (by omega)], by unfold noticeME; rw [if_neg (by omega), if_pos (Or.inr k3)]⟩)
    · have k2 : draftO sg (sg 102 x) < 0 := by
        refine Classical.byContradiction fun z => k1 (hd.1.mpr (by omega))
      exact Or.inr (Or.inl ⟨by unfold noticeE; rw [hp, if_neg (by omega), if_pos (by omega)], by unfold noticeME; rw [if_neg (by omega), if_pos (Or.inl k1)]⟩)
  · have hp := iAt_n hx
    refine simW_of h hG hM (simP_2 (by decide) (by decide) (by decide) (Or.inl ⟨by unfold noticeE; rw [hp]; rfl, by unfold noticeME; rw [if_pos (by omega)]⟩)) (fun z => ?_)
    unfold noticeE at z
    rw [hp, if_pos (by decide)] at z
    exact absurd z (by decide)
theorem r_object {sg mu : Nat → Int → Int} (h : Rel sg mu) (hG : GC sg) (hM : GM mu) {x : Int} (hx : 0 ≤ x ∧ x < sg 503 0) : Rel (st (st sg 108 x 1) 109 x 1) (st (st mu 900 0 0) 1020 x 1) ∧ GC (st (st sg 108 x 1) 109 x 1) ∧ GM (st (st mu 900 0 0) 1020 x 1) := by
  obtain ⟨hS, hPA, hPS, hPN, hPO, hPL, hJ1, hJ2, hIA, hIN, hIS, hIP, hJ3, hJ8, hJ4, hZ, hK, hPR, hJ5, hT⟩ := h
  refine ⟨⟨hS, hPA, hPS, hPN, hPO, hPL, hJ1, hJ2, hIA, fun i p1 p2 => ?_, hIS, hIP, hJ3, fun i p1 p2 => ?_, hJ4, ⟨fun i p1 p2 => ?_, hZ.2⟩, hK, RPR_ext hPR rfl rfl rfl rfl rfl, hJ5, hT⟩, gc_109 (gc_108 hG x (by decide)) x (by decide), gc_1020 (gc_900 hM 0 (by decide)) x (by decide)⟩
  · have z := hIN i p1 p2
    refine ⟨z.1, ?_⟩
    show st (st mu 900 0 0) 1020 x 1 1020 i = if st (st sg 108 x 1) 109 x 1 109 i ≠ 0 then 1 else if st sg 108 x 1 108 i ≠ 0 then 2 else 0
    by_cases e : i = x
    · subst e
      rw [st_s, st_s, if_pos (by decide)]
    · simp only [st_j e]; exact z.2
  · show st (st sg 108 x 1) 109 x 1 109 i ≠ 0 → st sg 108 x 1 108 i ≠ 0
    by_cases e : i = x
    · subst e
      rw [st_s, st_s]; exact fun z => z
    · simp only [st_j e]; exact hJ8 i p1 p2
  · have z := hZ.1 i p1 p2
    have e : i ≠ x := fun e => by have p3 : sg 503 0 ≤ i := p1; omega
    exact ⟨(st_j e).trans z.1, z.2⟩
theorem s_object {sg mu : Nat → Int → Int} (h : Rel sg mu) (hG : GC sg) (hM : GM mu) (x : Int) : SimW [1, 3] (objectE sg x) (objectME mu x) (cntOpen (st (st sg 108 (iAt sg x) 1) 109 (iAt sg x) 1) (draftO sg (sg 102 (iAt sg x)))) (mOpen (st (st mu 900 0 0) 1020 x 1) (mu 1006 (mu 1015 x))) sg (st (st sg 108 (iAt sg x) 1) 109 (iAt sg x) 1) mu (st (st mu 900 0 0) 1020 x 1) := by
  have hS2 := (show RSc sg mu from h.1).2.1
  have hS1 := (show RSc sg mu from h.1).1
  by_cases hx : 0 ≤ x ∧ x < sg 503 0
  · have hp := iAt_q hx
    have hd := e_draft h hG hx
    have hIN : RIN sg mu := h.2.2.2.2.2.2.2.2.2.1
    have hJ8 : J8 sg := h.2.2.2.2.2.2.2.2.2.2.2.2.2.1
    have h1 := hIN x hx.1 hx.2
    have h8 := hJ8 x hx.1 hx.2
    have hr := r_object h hG hM hx
    rw [hp]
    refine simW_of h hG hM (simP_2 (by decide) (by decide) (by decide) ?_) (fun _ => hr)
    have k4 : mu 1020 x = 0 ↔ sg 108 x = 0 := by
      rw [h1.2]
      by_cases y : sg 109 x ≠ 0
      · rw [if_pos y]; have := h8 y; omega
      · rw [if_neg y]
        split <;> omega
    by_cases k1 : mDraft mu x
    · have k2 := hd.1.mp k1
      by_cases k3 : mu 1019 x ≠ -1 ∧ mu 901 0 - mu 1019 x ≤ 21 ∧ mu 1020 x = 0
      · refine Or.inr (Or.inr ⟨by unfold objectE; rw [hp, if_neg (by omega), if_neg (by omega)], by unfold objectME; rw [if_neg (by omega), if_neg (fun z => z.elim (fun y => y k3) (fun y => y k1))], ?_⟩)
        have y := hr.1
        rw [hd.2 k1]
        exact (e_open y.1 y.2.2.2.1 y.2.2.1 y.2.2.2.2.2.2.2.2.1 y.2.2.2.2.2.2.2.2.2.1 hr.2.1 k2).symm
      · exact Or.inr (Or.inl ⟨by unfold objectE; rw [hp, if_neg (by omega), if_pos (by omega)], by unfold objectME; rw [if_neg (by omega), if_pos (Or.inl k3)]⟩)
    · have k2 : draftO sg (sg 102 x) < 0 := by
        refine Classical.byContradiction fun z => k1 (hd.1.mpr (by omega))
      exact Or.inr (Or.inl ⟨by unfold objectE; rw [hp, if_neg (by omega), if_pos (by omega)], by unfold objectME; rw [if_neg (by omega), if_pos (Or.inr k1)]⟩)
  · have hp := iAt_n hx
    refine simW_of h hG hM (simP_2 (by decide) (by decide) (by decide) (Or.inl ⟨by unfold objectE; rw [hp]; rfl, by unfold objectME; rw [if_pos (by omega)]⟩)) (fun z => ?_)
    unfold objectE at z
    rw [hp, if_pos (by decide)] at z
    exact absurd z (by decide)
/-- a plot let go -/
theorem r_rel {sg mu : Nat → Int → Int} (h : Rel sg mu) (hG : GC sg) (hM : GM mu) {j : Int} (hj : 0 ≤ j ∧ j < 36) (h3 : sg 203 j = 0) : Rel (relT sg j) (mLgT mu j) ∧ GC (relT sg j) ∧ GM (mLgT mu j) := by
  obtain ⟨hS, hPA, hPS, hPN, hPO, hPL, hJ1, hJ2, hIA, hIN, hIS, hIP, hJ3, hJ8, hJ4, hZ, hK, hPR, hJ5, hT⟩ := h
  have g3 := gr_503 hG 0
  have f : ∀ F : Nat, F ≠ 204 → F ≠ 205 → F ≠ 107 → F ≠ 108 → F ≠ 109 → relT sg j F = sg F := by
    intro F h1 h2 h3 h4 h5
    funext k
    unfold relT relN
    rw [if_neg (by omega), if_neg (by omega), if_neg (by omega), if_neg (by omega)]
  have g : ∀ F : Nat, F ≠ 1006 → F ≠ 1007 → F ≠ 1019 → F ≠ 1020 → mLgT mu j F = mu F := by
    intro F h1 h2 h3 h4
    funext k
    exact mLg_f2 h1 h2 h3 h4
  have a4 : ∀ k : Int, relT sg j 204 k = if k = j then -1 else sg 204 k := by
    intro k; unfold relT relN
    by_cases e : k = j
    · rw [if_pos ⟨rfl, e⟩, if_pos e]
    · rw [if_neg (fun z => e z.2), if_neg (by omega), if_neg (by omega), if_neg (by omega), if_neg e]
  have a5 : ∀ k : Int, relT sg j 205 k = if k = j then 0 else sg 205 k := by
    intro k; unfold relT relN
    by_cases e : k = j
    · rw [if_neg (by omega), if_pos ⟨rfl, e⟩, if_pos e]
    · rw [if_neg (by omega), if_neg (fun z => e z.2), if_neg (by omega), if_neg (by omega), if_neg e]
  have a7 : ∀ k : Int, 0 ≤ k → k < sg 503 0 → relT sg j 107 k = if sg 102 k = j then -1 else sg 107 k := by
    intro k k0 k1; unfold relT relN
    by_cases e : sg 102 k = j
    · rw [if_neg (by omega), if_neg (by omega), if_pos ⟨rfl, k0, by omega, k1, e⟩, if_pos e]
    · rw [if_neg (by omega), if_neg (by omega), if_neg (fun z => e z.2.2.2.2), if_neg (fun z => e z.2.2.2.2), if_neg e]
  have a89 : ∀ (F : Nat), F = 108 ∨ F = 109 → ∀ k : Int, 0 ≤ k → k < sg 503 0 → relT sg j F k = if sg 102 k = j then 0 else sg F k := by
    intro F hF k k0 k1; unfold relT relN
    by_cases e : sg 102 k = j
    · rw [if_neg (by omega), if_neg (by omega), if_neg (by omega), if_pos ⟨hF, k0, by omega, k1, e⟩, if_pos e]
    · rw [if_neg (by omega), if_neg (by omega), if_neg (fun z => e z.2.2.2.2), if_neg (fun z => e z.2.2.2.2), if_neg e]
  have b6 : ∀ k : Int, mLgT mu j 1006 k = if k = j then -1 else mu 1006 k := by
    intro k; unfold mLgT mLgN
    by_cases e : k = j
    · rw [if_pos ⟨rfl, e⟩, if_pos e]
    · rw [if_neg (fun z => e z.2), if_neg (by omega), if_neg (by omega), if_neg (by omega), if_neg e]
  have b7 : ∀ k : Int, mLgT mu j 1007 k = if k = j then 0 else mu 1007 k := by
    intro k; unfold mLgT mLgN
    by_cases e : k = j
    · rw [if_neg (by omega), if_pos ⟨rfl, e⟩, if_pos e]
    · rw [if_neg (by omega), if_neg (fun z => e z.2), if_neg (by omega), if_neg (by omega), if_neg e]
  have b19 : ∀ k : Int, 0 ≤ k → k < mu 913 0 → mLgT mu j 1019 k = if mu 1015 k = j then -1 else mu 1019 k := by
    intro k k0 k1; unfold mLgT mLgN
    by_cases e : mu 1015 k = j
    · rw [if_neg (by omega), if_neg (by omega), if_pos ⟨rfl, k0, k1, e⟩, if_pos e]
    · rw [if_neg (by omega), if_neg (by omega), if_neg (fun z => e z.2.2.2), if_neg (fun z => e z.2.2.2), if_neg e]
  have b20 : ∀ k : Int, 0 ≤ k → mLgT mu j 1020 k = if k < mu 913 0 ∧ mu 1015 k = j then 0 else mu 1020 k := by
    intro k k0; unfold mLgT mLgN
    by_cases e : k < mu 913 0 ∧ mu 1015 k = j
    · rw [if_neg (by omega), if_neg (by omega), if_neg (by omega), if_pos ⟨rfl, k0, e⟩, if_pos e]
    · rw [if_neg (by omega), if_neg (by omega), if_neg (by omega), if_neg (fun z => e z.2.2), if_neg e]
  have hn : ∀ p : Int, 0 ≤ p → needO (relT sg j) p = if p = j then -1 else needO sg p := by
    intro p p1
    rw [needO_q p1, needO_q p1, a4, f 403 (by decide) (by decide) (by decide) (by decide) (by decide)]
    by_cases e : p = j
    · rw [if_pos e, if_pos e, if_pos (by decide)]
    · rw [if_neg e, if_neg e]
  have hS2 := hS.2.1
  refine ⟨⟨?_, ?_, fun p p1 p2 => ?_, fun p p1 p2 => ?_, ?_, fun p p1 p2 => ?_, ?_, fun p p1 p2 => ?_, ?_, fun i p1 p2 => ?_, ?_, ?_, ?_, fun i p1 p2 => ?_, ?_, ⟨fun i p1 p2 => ?_, ?_⟩, ?_, RPR_ext (b := sg) ?_ (f _ (by decide) (by decide) (by decide) (by decide) (by decide)) (f _ (by decide) (by decide) (by decide) (by decide) (by decide)) (f _ (by decide) (by decide) (by decide) (by decide) (by decide)) (f _ (by decide) (by decide) (by decide) (by decide) (by decide)) (by rw [f 506 (by decide) (by decide) (by decide) (by decide) (by decide)]), ?_, ?_⟩, gc_relN hG j 24, gm_lgN hM j _⟩
  · unfold RSc
    rw [f 506 (by decide) (by decide) (by decide) (by decide) (by decide), f 503 (by decide) (by decide) (by decide) (by decide) (by decide), f 505 (by decide) (by decide) (by decide) (by decide) (by decide), g 901 (by decide) (by decide) (by decide) (by decide), g 913 (by decide) (by decide) (by decide) (by decide), g 926 (by decide) (by decide) (by decide) (by decide)]
    exact hS
  · unfold RPA
    rw [f 201 (by decide) (by decide) (by decide) (by decide) (by decide), f 202 (by decide) (by decide) (by decide) (by decide) (by decide), g 1003 (by decide) (by decide) (by decide) (by decide), g 1004 (by decide) (by decide) (by decide) (by decide)]
    exact hPA
  · have z := hPS p p1 p2
    rw [f 203 (by decide) (by decide) (by decide) (by decide) (by decide), f 206 (by decide) (by decide) (by decide) (by decide) (by decide), f 208 (by decide) (by decide) (by decide) (by decide) (by decide), g 1005 (by decide) (by decide) (by decide) (by decide), g 1008 (by decide) (by decide) (by decide) (by decide), g 1009 (by decide) (by decide) (by decide) (by decide), a5, b7, z.2.1]
    exact ⟨z.1, rfl, z.2.2⟩
  · rw [b6, hn p p1, hPN p p1 p2]
  · unfold RPO
    rw [f 209 (by decide) (by decide) (by decide) (by decide) (by decide), f 210 (by decide) (by decide) (by decide) (by decide) (by decide), g 1010 (by decide) (by decide) (by decide) (by decide), g 1011 (by decide) (by decide) (by decide) (by decide)]
    exact hPO
  · have z := hPL p p1 p2
    rw [f 206 (by decide) (by decide) (by decide) (by decide) (by decide), g 1012 (by decide) (by decide) (by decide) (by decide), z]
    by_cases e : p = j
    · have y := (hJ1 p p1 p2).mp (by rw [e]; exact h3)
      rw [if_pos y, if_pos y]
    · have y1 := f 201 (by decide) (by decide) (by decide) (by decide) (by decide)
      have y2 := f 207 (by decide) (by decide) (by decide) (by decide) (by decide)
      have y3 := f 301 (by decide) (by decide) (by decide) (by decide) (by decide)
      have y4 := f 401 (by decide) (by decide) (by decide) (by decide) (by decide)
      have y5 := f 402 (by decide) (by decide) (by decide) (by decide) (by decide)
      rw [landO_at (a := relT sg j) (b := sg) (by rw [y1]) (by rw [y2]) (by rw [a5, if_neg e]) (by rw [a4, if_neg e]) (fun _ => by rw [y3]) (fun _ => ⟨by rw [y4], by rw [y5]⟩)]
  · unfold J1
    rw [f 203 (by decide) (by decide) (by decide) (by decide) (by decide), f 206 (by decide) (by decide) (by decide) (by decide) (by decide)]
    exact hJ1
  · have z := hJ2 p p1 p2
    rw [hn p p1, f 209 (by decide) (by decide) (by decide) (by decide) (by decide), f 210 (by decide) (by decide) (by decide) (by decide) (by decide), f 203 (by decide) (by decide) (by decide) (by decide) (by decide)]
    refine ⟨fun y => ?_, z.2⟩
    by_cases e : p = j
    · rw [if_pos e] at y; exact absurd y (by decide)
    · rw [if_neg e] at y; exact z.1 y
  · unfold RIA
    rw [f 503 (by decide) (by decide) (by decide) (by decide) (by decide), f 101 (by decide) (by decide) (by decide) (by decide) (by decide), f 102 (by decide) (by decide) (by decide) (by decide) (by decide), f 103 (by decide) (by decide) (by decide) (by decide) (by decide), f 104 (by decide) (by decide) (by decide) (by decide) (by decide), f 105 (by decide) (by decide) (by decide) (by decide) (by decide), f 106 (by decide) (by decide) (by decide) (by decide) (by decide), g 1014 (by decide) (by decide) (by decide) (by decide), g 1015 (by decide) (by decide) (by decide) (by decide), g 1016 (by decide) (by decide) (by decide) (by decide), g 1017 (by decide) (by decide) (by decide) (by decide), g 1018 (by decide) (by decide) (by decide) (by decide), g 1034 (by decide) (by decide) (by decide) (by decide)]
    exact hIA
  · rw [f 503 (by decide) (by decide) (by decide) (by decide) (by decide)] at p2
    have z := hIN i p1 p2
    have y := (hIA i p1 p2).2.1
    rw [b19 i p1 (by omega), b20 i p1, a7 i p1 p2, a89 109 (Or.inr rfl) i p1 p2, a89 108 (Or.inl rfl) i p1 p2, y]
    by_cases e : sg 102 i = j
    · rw [if_pos e, if_pos e, if_pos (show i < mu 913 0 ∧ sg 102 i = j from ⟨by omega, e⟩), if_pos e, if_pos e]
      exact ⟨rfl, rfl⟩
    · rw [if_neg e, if_neg e, if_neg (show ¬ (i < mu 913 0 ∧ sg 102 i = j) from fun y => e y.2), if_neg e, if_neg e]
      exact z
  · unfold RIS
    rw [f 503 (by decide) (by decide) (by decide) (by decide) (by decide), f 110 (by decide) (by decide) (by decide) (by decide) (by decide), g 1021 (by decide) (by decide) (by decide) (by decide)]
    exact hIS
  · unfold RIP
    rw [f 503 (by decide) (by decide) (by decide) (by decide) (by decide), f 111 (by decide) (by decide) (by decide) (by decide) (by decide), f 112 (by decide) (by decide) (by decide) (by decide) (by decide), f 113 (by decide) (by decide) (by decide) (by decide) (by decide), f 114 (by decide) (by decide) (by decide) (by decide) (by decide), g 1022 (by decide) (by decide) (by decide) (by decide), g 1023 (by decide) (by decide) (by decide) (by decide), g 1024 (by decide) (by decide) (by decide) (by decide), g 1025 (by decide) (by decide) (by decide) (by decide)]
    exact hIP
  · unfold J3
    rw [f 503 (by decide) (by decide) (by decide) (by decide) (by decide), f 111 (by decide) (by decide) (by decide) (by decide) (by decide), f 112 (by decide) (by decide) (by decide) (by decide) (by decide), f 113 (by decide) (by decide) (by decide) (by decide) (by decide), f 114 (by decide) (by decide) (by decide) (by decide) (by decide)]
    exact hJ3
  · rw [f 503 (by decide) (by decide) (by decide) (by decide) (by decide)] at p2
    rw [a89 109 (Or.inr rfl) i p1 p2, a89 108 (Or.inl rfl) i p1 p2]
    by_cases e : sg 102 i = j
    · rw [if_pos e, if_pos e]; exact fun z => z
    · rw [if_neg e, if_neg e]; exact hJ8 i p1 p2
  · unfold J4
    rw [f 503 (by decide) (by decide) (by decide) (by decide) (by decide), f 110 (by decide) (by decide) (by decide) (by decide) (by decide), f 206 (by decide) (by decide) (by decide) (by decide) (by decide), f 102 (by decide) (by decide) (by decide) (by decide) (by decide)]
    exact hJ4
  · rw [f 503 (by decide) (by decide) (by decide) (by decide) (by decide)] at p1
    have z := hZ.1 i p1 p2
    rw [b20 i (by omega), if_neg (by omega), g 1021 (by decide) (by decide) (by decide) (by decide), g 1022 (by decide) (by decide) (by decide) (by decide), g 1023 (by decide) (by decide) (by decide) (by decide), g 1025 (by decide) (by decide) (by decide) (by decide), g 1034 (by decide) (by decide) (by decide) (by decide)]
    exact z
  · rw [f 505 (by decide) (by decide) (by decide) (by decide) (by decide), g 1029 (by decide) (by decide) (by decide) (by decide)]
    exact hZ.2
  · unfold RK
    rw [f 505 (by decide) (by decide) (by decide) (by decide) (by decide), f 401 (by decide) (by decide) (by decide) (by decide) (by decide), f 402 (by decide) (by decide) (by decide) (by decide) (by decide), f 403 (by decide) (by decide) (by decide) (by decide) (by decide), f 404 (by decide) (by decide) (by decide) (by decide) (by decide), f 405 (by decide) (by decide) (by decide) (by decide) (by decide), g 1027 (by decide) (by decide) (by decide) (by decide), g 1028 (by decide) (by decide) (by decide) (by decide), g 1029 (by decide) (by decide) (by decide) (by decide), g 1030 (by decide) (by decide) (by decide) (by decide), g 1031 (by decide) (by decide) (by decide) (by decide)]
    exact hK
  · unfold RPR
    rw [g 1002 (by decide) (by decide) (by decide) (by decide)]
    exact hPR
  · unfold J5
    rw [f 506 (by decide) (by decide) (by decide) (by decide) (by decide), f 300 (by decide) (by decide) (by decide) (by decide) (by decide), f 602 (by decide) (by decide) (by decide) (by decide) (by decide)]
    exact hJ5
  · unfold RTo
    rw [f 507 (by decide) (by decide) (by decide) (by decide) (by decide), f 508 (by decide) (by decide) (by decide) (by decide) (by decide), f 509 (by decide) (by decide) (by decide) (by decide) (by decide), f 510 (by decide) (by decide) (by decide) (by decide) (by decide), f 511 (by decide) (by decide) (by decide) (by decide) (by decide), f 503 (by decide) (by decide) (by decide) (by decide) (by decide), g 1021 (by decide) (by decide) (by decide) (by decide), g 1022 (by decide) (by decide) (by decide) (by decide), g 932 (by decide) (by decide) (by decide) (by decide), g 933 (by decide) (by decide) (by decide) (by decide), g 1012 (by decide) (by decide) (by decide) (by decide)]
    exact hT
