/-! rows put behind: the tables of the calls that make objects -/
theorem nw_f {sg : Nat → Int → Int} {base cnt : Nat} {n : Int} {vs : List Int} {F : Nat} (h : ¬ (base ≤ F ∧ F < base + vs.length)) (h2 : F ≠ cnt) : nw sg base cnt n vs F = sg F := funext fun _ => nw_o (Or.inl h) (Or.inl h2)
theorem nw_r {sg : Nat → Int → Int} {base cnt : Nat} {n : Int} {vs : List Int} {F : Nat} {v : Int} (h : base ≤ F ∧ F < base + vs.length) (hv : vs.getD (F - base) 0 = v) (h2 : F ≠ cnt) (i : Int) : nw sg base cnt n vs F i = if i = n then v else sg F i := by
  by_cases e : i = n
  · rw [if_pos e, e]
    exact (if_pos ⟨rfl, h⟩).trans hv
  · rw [if_neg e]
    exact nw_o (Or.inr e) (Or.inl h2)
theorem nw_c {sg : Nat → Int → Int} {base cnt : Nat} {n : Int} {vs : List Int} (h : ¬ (base ≤ cnt ∧ cnt < base + vs.length)) : nw sg base cnt n vs cnt 0 = n + 1 := by
  unfold nw
  rw [if_neg (fun z => h z.2), if_pos ⟨rfl, rfl⟩]
theorem rng_nw {sg : Nat → Int → Int} {base cnt : Nat} {n : Int} {vs : List Int} (h : GRng sg) (hc : 507 ≤ cnt) (hv : ∀ i : Nat, i < vs.length → loC (base + i) ≤ vs.getD i 0 ∧ vs.getD i 0 ≤ hiC (base + i)) : GRng (nw sg base cnt n vs) := by
  intro F j hF
  by_cases e : base ≤ F ∧ F < base + vs.length
  · rw [nw_r e rfl (by omega)]
    have z := hv (F - base) (by omega)
    rw [show base + (F - base) = F by omega] at z
    split
    · exact z
    · exact h F j hF
  · rw [nw_f e (by omega)]
    exact h F j hF
theorem rng_hi {sg : Nat → Int → Int} {f : Nat} {j v : Int} (h : GRng sg) (hf : 507 ≤ f) : GRng (st sg f j v) := fun F k hF => by
  rw [st_f (by omega)]; exact h F k hF
theorem st_id {sg : Nat → Int → Int} {f : Nat} {j v : Int} (h : sg f j = v) : st sg f j v = sg := by
  funext F k
  unfold st
  split
  · rename_i z; rw [z.1, z.2, h]
  · rfl
theorem st_i {sg : Nat → Int → Int} {f : Nat} {j v : Int} (i : Int) : st sg f j v f i = if i = j then v else sg f i := by
  by_cases e : i = j
  · rw [if_pos e, e, st_s]
  · rw [if_neg e, st_j e]
theorem st_F {sg : Nat → Int → Int} {f g : Nat} {j v : Int} (h : g ≠ f) : st sg f j v g = sg g := funext fun _ => st_f h
/-! scheme -/
theorem sc_f {sg : Nat → Int → Int} {a b : Int} {F : Nat} (h1 : ¬ (400 ≤ F ∧ F < 406)) (h2 : F ≠ 703) (h3 : F ≠ 603) (h4 : F ≠ 505) : schemeT sg a b F = sg F := by
  unfold schemeT
  rw [st_F h4, st_F h3, nw_f (by simp only [List.length_cons, List.length_nil]; omega) h2]
theorem sc_r {sg : Nat → Int → Int} {a b v : Int} {F : Nat} (h1 : 400 ≤ F ∧ F < 406) (hv : [sg 505 0, a, b, 0, -1, -1].getD (F - 400) 0 = v) (i : Int) : schemeT sg a b F i = if i = sg 505 0 then v else sg F i := by
  unfold schemeT
  rw [st_F (by omega), st_F (by omega)]
  exact nw_r (by simp only [List.length_cons, List.length_nil]; omega) hv (by omega) i
theorem sc_603 {sg : Nat → Int → Int} {a b : Int} (i : Int) : schemeT sg a b 603 i = if i = sg 505 0 then sg 505 0 else sg 603 i := by
  unfold schemeT
  rw [st_f (by decide), st_i, nw_f (by simp only [List.length_cons, List.length_nil]; omega) (by decide)]
theorem sc_703 {sg : Nat → Int → Int} {a b : Int} : schemeT sg a b 703 0 = sg 505 0 + 1 := by
  unfold schemeT
  rw [st_f (by decide), st_f (by decide)]
  exact nw_c (by simp only [List.length_cons, List.length_nil]; omega)
theorem sc_505 {sg : Nat → Int → Int} {a b : Int} : schemeT sg a b 505 0 = sg 505 0 + 1 := st_s
theorem gc_scheme {sg : Nat → Int → Int} (hG : GC sg) {a b : Int} (ha : 0 ≤ a ∧ a ≤ 50) (hb : 0 ≤ b ∧ b ≤ 50) (hn : sg 505 0 < 4) : GC (schemeT sg a b) := by
  have g5 := gr_505 hG 0
  have hR : GRng (schemeT sg a b) := by
    refine gc_rng (rng_hi (rng_nw hG.1 (by decide) ?_) (by decide)) (show (0 : Int) ≤ sg 505 0 + 1 ∧ sg 505 0 + 1 ≤ 4 by omega)
    intro i hi
    match i, hi with
    | 0, _ => exact (show (0 : Int) ≤ sg 505 0 ∧ sg 505 0 ≤ 3 by omega)
    | 1, _ => exact ha
    | 2, _ => exact hb
    | 3, _ => exact (show (0 : Int) ≤ 0 ∧ (0 : Int) ≤ 2 by decide)
    | 4, _ => exact (show (-1 : Int) ≤ -1 ∧ (-1 : Int) ≤ 20000 by decide)
    | 5, _ => exact (show (-1 : Int) ≤ -1 ∧ (-1 : Int) ≤ 20000 by decide)
    | i + 6, hi => exact absurd hi (by simp only [List.length_cons, List.length_nil]; omega)
  obtain ⟨-, a1, a2, a3, a4, a5, a6⟩ := hG
  refine ⟨hR, ⟨?_, ?_, fun q q1 q2 => ?_, ?_⟩, ?_, ⟨fun j => ?_, ?_, ?_, ?_⟩, ⟨?_, ?_, fun k k1 k2 => ?_⟩, ?_, ⟨?_, ?_, fun q => ?_, ?_, ?_, ?_, ?_, fun q => ?_⟩⟩
  · rw [sc_f (F := 601) (by decide) (by decide) (by decide) (by decide)]; exact a1.1
  · rw [sc_f (F := 600) (by decide) (by decide) (by decide) (by decide), sc_f (F := 503) (by decide) (by decide) (by decide) (by decide)]; exact a1.2.1
  · rw [sc_505, sc_603]
    have z := a1.2.2.1 q q1 q2
    by_cases e : q = sg 505 0
    · rw [if_pos e, if_pos (by omega), e]
    · rw [if_neg e, z]
      (repeat' split) <;> omega
  · rw [sc_f (F := 602) (by decide) (by decide) (by decide) (by decide), sc_f (F := 702) (by decide) (by decide) (by decide) (by decide)]; exact a1.2.2.2
  · unfold GCnt
    rw [sc_505, sc_703, sc_f (F := 700) (by decide) (by decide) (by decide) (by decide), sc_f (F := 701) (by decide) (by decide) (by decide) (by decide), sc_f (F := 503) (by decide) (by decide) (by decide) (by decide), sc_f (F := 704) (by decide) (by decide) (by decide) (by decide), sc_f (F := 709) (by decide) (by decide) (by decide) (by decide), sc_f (F := 710) (by decide) (by decide) (by decide) (by decide), sc_f (F := 711) (by decide) (by decide) (by decide) (by decide), sc_f (F := 712) (by decide) (by decide) (by decide) (by decide)]
    exact ⟨a2.1, a2.2.1, rfl, a2.2.2.2⟩
  · rw [sc_505, sc_f (F := 204) (by decide) (by decide) (by decide) (by decide)]
    have := a3.1 j; omega
  · rw [sc_f (F := 207) (by decide) (by decide) (by decide) (by decide), sc_f (F := 702) (by decide) (by decide) (by decide) (by decide)]; exact a3.2.1
  · rw [sc_f (F := 209) (by decide) (by decide) (by decide) (by decide), sc_f (F := 503) (by decide) (by decide) (by decide) (by decide)]; exact a3.2.2.1
  · rw [sc_f (F := 302) (by decide) (by decide) (by decide) (by decide)]; exact a3.2.2.2
  · rw [sc_f (F := 503) (by decide) (by decide) (by decide) (by decide), sc_f (F := 100) (by decide) (by decide) (by decide) (by decide)]; exact a4.1
  · rw [sc_f (F := 200) (by decide) (by decide) (by decide) (by decide)]; exact a4.2.1
  · rw [sc_505] at k2
    rw [sc_r (F := 400) (by decide) rfl]
    split
    · rename_i e; exact e.symm
    · exact a4.2.2 k k1 (by omega)
  · unfold GMea
    rw [sc_f (F := 101) (by decide) (by decide) (by decide) (by decide), sc_f (F := 105) (by decide) (by decide) (by decide) (by decide)]; exact a5
  · rw [sc_f (F := 600) (by decide) (by decide) (by decide) (by decide), sc_f (F := 503) (by decide) (by decide) (by decide) (by decide)]; exact a6.1
  · rw [sc_f (F := 602) (by decide) (by decide) (by decide) (by decide), sc_f (F := 702) (by decide) (by decide) (by decide) (by decide)]; exact a6.2.1
  · rw [sc_505, sc_603]
    have := a6.2.2.1 q
    split <;> omega
  · rw [sc_f (F := 302) (by decide) (by decide) (by decide) (by decide), sc_f (F := 702) (by decide) (by decide) (by decide) (by decide)]; exact a6.2.2.2.1
  · rw [sc_f (F := 601) (by decide) (by decide) (by decide) (by decide)]; exact a6.2.2.2.2.1
  · rw [sc_f (F := 600) (by decide) (by decide) (by decide) (by decide)]; exact a6.2.2.2.2.2.1
  · rw [sc_f (F := 602) (by decide) (by decide) (by decide) (by decide)]; exact a6.2.2.2.2.2.2.1
  · rw [sc_603]
    have := a6.2.2.2.2.2.2.2 q
    split <;> omega
theorem r_scheme {sg mu : Nat → Int → Int} (h : Rel sg mu) (hG : GC sg) (hM : GM mu) {a b : Int} (ha : 0 ≤ a ∧ a ≤ 50) (hb : 0 ≤ b ∧ b ≤ 50) (hn : sg 505 0 < 4) :
    Rel (schemeT sg a b) (st (st (st (st (st (st mu 900 0 0) 1027 (mu 926 0) a) 1028 (mu 926 0) b) 1030 (mu 926 0) (-1)) 1031 (mu 926 0) (-1)) 926 0 (mu 926 0 + 1)) ∧ GC (schemeT sg a b) ∧ GM (st (st (st (st (st (st mu 900 0 0) 1027 (mu 926 0) a) 1028 (mu 926 0) b) 1030 (mu 926 0) (-1)) 1031 (mu 926 0) (-1)) 926 0 (mu 926 0 + 1)) := by
  have hGp := hG
  obtain ⟨hS, hPA, hPS, hPN, hPO, hPL, hJ1, hJ2, hIA, hIN, hIS, hIP, hJ3, hJ8, hJ4, hZ, hK, hPR, hJ5, hT⟩ := h
  have g5 := gr_505 hG 0
  have hS2 := hS.2.2
  rw [hS2]
  have f : ∀ {F : Nat}, ¬ (400 ≤ F ∧ F < 406) → F ≠ 703 → F ≠ 603 → F ≠ 505 → schemeT sg a b F = sg F := fun h1 h2 h3 h4 => sc_f h1 h2 h3 h4
  have hn4 : ∀ p : Int, 0 ≤ p → needO (schemeT sg a b) p = needO sg p := by
    intro p p1
    rw [needO_q p1, needO_q p1, f (F := 204) (by decide) (by decide) (by decide) (by decide), sc_r (F := 403) (by decide) rfl]
    have y := gp_204 hG p
    by_cases e : sg 204 p < 0
    · rw [if_pos e, if_pos e]
    · rw [if_neg e, if_neg e, if_neg (show ¬ sg 204 p = sg 505 0 by omega)]
  refine ⟨⟨?_, ?_, ?_, fun p p1 p2 => ?_, ?_, fun p p1 p2 => ?_, ?_, fun p p1 p2 => ?_, ?_, ?_, ?_, ?_, ?_, ?_, ?_, ⟨?_, fun k p1 p2 => ?_⟩, fun k p1 p2 => ?_, RPR_ext (b := sg) ?_ (f (by decide) (by decide) (by decide) (by decide)) (f (by decide) (by decide) (by decide) (by decide)) (f (by decide) (by decide) (by decide) (by decide)) (f (by decide) (by decide) (by decide) (by decide)) (by rw [f (F := 506) (by decide) (by decide) (by decide) (by decide)]), ?_, ?_⟩, gc_scheme hG ha hb hn, gc_926 (gc_1031 (gc_1030 (gc_1028 (gc_1027 (gc_900 hM 0 (by decide)) _ ha) _ hb) _ (by decide)) _ (by decide)) 0 (by omega)⟩
  · unfold RSc
    rw [sc_505, f (F := 506) (by decide) (by decide) (by decide) (by decide), f (F := 503) (by decide) (by decide) (by decide) (by decide)]
    exact ⟨hS.1, hS.2.1, rfl⟩
  · unfold RPA
    rw [f (F := 201) (by decide) (by decide) (by decide) (by decide), f (F := 202) (by decide) (by decide) (by decide) (by decide)]; exact hPA
  · unfold RPS
    rw [f (F := 203) (by decide) (by decide) (by decide) (by decide), f (F := 205) (by decide) (by decide) (by decide) (by decide), f (F := 206) (by decide) (by decide) (by decide) (by decide), f (F := 208) (by decide) (by decide) (by decide) (by decide)]; exact hPS
  · rw [hn4 p p1]; exact hPN p p1 p2
  · unfold RPO
    rw [f (F := 209) (by decide) (by decide) (by decide) (by decide), f (F := 210) (by decide) (by decide) (by decide) (by decide)]; exact hPO
  · have y := gp_204 hG p
    rw [f (F := 206) (by decide) (by decide) (by decide) (by decide), landO_at (a := schemeT sg a b) (b := sg) (by rw [f (F := 201) (by decide) (by decide) (by decide) (by decide)]) (by rw [f (F := 207) (by decide) (by decide) (by decide) (by decide)]) (by rw [f (F := 205) (by decide) (by decide) (by decide) (by decide)]) (by rw [f (F := 204) (by decide) (by decide) (by decide) (by decide)]) (fun _ => by rw [f (F := 301) (by decide) (by decide) (by decide) (by decide)]) (fun _ => ⟨by rw [sc_r (F := 401) (by decide) rfl, if_neg (by omega)], by rw [sc_r (F := 402) (by decide) rfl, if_neg (by omega)]⟩)]
    exact hPL p p1 p2
  · unfold J1
    rw [f (F := 203) (by decide) (by decide) (by decide) (by decide), f (F := 206) (by decide) (by decide) (by decide) (by decide)]; exact hJ1
  · rw [hn4 p p1, f (F := 209) (by decide) (by decide) (by decide) (by decide), f (F := 210) (by decide) (by decide) (by decide) (by decide), f (F := 203) (by decide) (by decide) (by decide) (by decide)]; exact hJ2 p p1 p2
  · unfold RIA
    rw [f (F := 503) (by decide) (by decide) (by decide) (by decide), f (F := 101) (by decide) (by decide) (by decide) (by decide), f (F := 102) (by decide) (by decide) (by decide) (by decide), f (F := 103) (by decide) (by decide) (by decide) (by decide), f (F := 104) (by decide) (by decide) (by decide) (by decide), f (F := 105) (by decide) (by decide) (by decide) (by decide), f (F := 106) (by decide) (by decide) (by decide) (by decide)]; exact hIA
  · unfold RIN
    rw [f (F := 503) (by decide) (by decide) (by decide) (by decide), f (F := 107) (by decide) (by decide) (by decide) (by decide), f (F := 108) (by decide) (by decide) (by decide) (by decide), f (F := 109) (by decide) (by decide) (by decide) (by decide)]; exact hIN
  · unfold RIS
    rw [f (F := 503) (by decide) (by decide) (by decide) (by decide), f (F := 110) (by decide) (by decide) (by decide) (by decide)]; exact hIS
  · unfold RIP
    rw [f (F := 503) (by decide) (by decide) (by decide) (by decide), f (F := 111) (by decide) (by decide) (by decide) (by decide), f (F := 112) (by decide) (by decide) (by decide) (by decide), f (F := 113) (by decide) (by decide) (by decide) (by decide), f (F := 114) (by decide) (by decide) (by decide) (by decide)]; exact hIP
  · unfold J3
    rw [f (F := 503) (by decide) (by decide) (by decide) (by decide), f (F := 111) (by decide) (by decide) (by decide) (by decide), f (F := 112) (by decide) (by decide) (by decide) (by decide), f (F := 113) (by decide) (by decide) (by decide) (by decide), f (F := 114) (by decide) (by decide) (by decide) (by decide)]; exact hJ3
  · unfold J8
    rw [f (F := 503) (by decide) (by decide) (by decide) (by decide), f (F := 108) (by decide) (by decide) (by decide) (by decide), f (F := 109) (by decide) (by decide) (by decide) (by decide)]; exact hJ8
  · unfold J4
    rw [f (F := 503) (by decide) (by decide) (by decide) (by decide), f (F := 206) (by decide) (by decide) (by decide) (by decide), f (F := 102) (by decide) (by decide) (by decide) (by decide), f (F := 110) (by decide) (by decide) (by decide) (by decide)]; exact hJ4
  · rw [f (F := 503) (by decide) (by decide) (by decide) (by decide)]; exact hZ.1
  · rw [sc_505] at p1
    exact hZ.2 k (by omega) p2
  · rw [sc_505] at p2
    rw [sc_r (F := 401) (by decide) rfl, sc_r (F := 402) (by decide) rfl, sc_r (F := 403) (by decide) rfl, sc_r (F := 404) (by decide) rfl, sc_r (F := 405) (by decide) rfl]
    show st (st mu 900 0 0) 1027 (sg 505 0) a 1027 k = _ ∧ st (st (st mu 900 0 0) 1027 (sg 505 0) a) 1028 (sg 505 0) b 1028 k = _ ∧ mu 1029 k = _ ∧ st (st (st (st mu 900 0 0) 1027 (sg 505 0) a) 1028 (sg 505 0) b) 1030 (sg 505 0) (-1) 1030 k = _ ∧ st (st (st (st (st mu 900 0 0) 1027 (sg 505 0) a) 1028 (sg 505 0) b) 1030 (sg 505 0) (-1)) 1031 (sg 505 0) (-1) 1031 k = _
    rw [st_i, st_i, st_i, st_i]
    by_cases e : k = sg 505 0
    · simp only [if_pos e]
      exact ⟨rfl, rfl, hZ.2 k (by omega) (by omega), rfl, rfl⟩
    · have z := hK k p1 (by omega)
      simp only [if_neg e]
      exact z
  · exact hPR
  · unfold J5
    rw [f (F := 506) (by decide) (by decide) (by decide) (by decide), f (F := 300) (by decide) (by decide) (by decide) (by decide), f (F := 602) (by decide) (by decide) (by decide) (by decide)]; exact hJ5
  · unfold RTo
    rw [f (F := 507) (by decide) (by decide) (by decide) (by decide), f (F := 508) (by decide) (by decide) (by decide) (by decide), f (F := 509) (by decide) (by decide) (by decide) (by decide), f (F := 510) (by decide) (by decide) (by decide) (by decide), f (F := 511) (by decide) (by decide) (by decide) (by decide), f (F := 503) (by decide) (by decide) (by decide) (by decide)]; exact hT
theorem s_scheme {sg mu : Nat → Int → Int} (h : Rel sg mu) (hG : GC sg) (hM : GM mu) (a b : Int) : SimW [2, 3] (schemeE sg a b) (schemeME mu a b) (sg 505 0) (mu 926 0) sg (schemeT sg a b) mu (st (st (st (st (st (st mu 900 0 0) 1027 (mu 926 0) a) 1028 (mu 926 0) b) 1030 (mu 926 0) (-1)) 1031 (mu 926 0) (-1)) 926 0 (mu 926 0 + 1)) := by
  have hS : RSc sg mu := h.1
  have hS2 := hS.2.2
  have g5 := gr_505 hG 0
  have e : (schemeE sg a b = 0 ∧ schemeME mu a b = 0 ∧ (0 ≤ a ∧ a ≤ 50) ∧ (0 ≤ b ∧ b ≤ 50) ∧ sg 505 0 < 4) ∨ (schemeE sg a b = 2 ∧ schemeME mu a b = 1) ∨ (schemeE sg a b = 3 ∧ schemeME mu a b = 2) := by
    unfold schemeE schemeME
    rw [hS2]
    (repeat' split) <;> omega
  rcases e with ⟨z1, z2, z3, z4, z5⟩ | ⟨z1, z2⟩ | ⟨z1, z2⟩
  · exact w23_0 h hG hM z1 z2 hS2.symm (r_scheme h hG hM z3 z4 z5)
  · exact w23_1 h hG hM z1 z2
  · exact w23_2 h hG hM z1 z2
