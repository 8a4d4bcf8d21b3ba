theorem needO_ext {a b : Nat → Int → Int} (h4 : a 204 = b 204) (h3 : a 403 = b 403) : needO a = needO b := by
  funext v
  unfold needO
  rw [h4, h3]
theorem landO_at {a b : Nat → Int → Int} {p : Int} (h1 : a 201 p = b 201 p) (h2 : a 207 p = b 207 p) (h3 : a 205 p = b 205 p) (h4 : a 204 p = b 204 p) (h5 : 0 ≤ b 207 p → a 301 (b 207 p) = b 301 (b 207 p)) (h6 : 0 ≤ b 204 p → a 401 (b 204 p) = b 401 (b 204 p) ∧ a 402 (b 204 p) = b 402 (b 204 p)) : landO a p = landO b p := by
  unfold landO
  rw [h4]
  by_cases z : p < 0
  · rw [if_pos z, if_pos z]
  · rw [if_neg z, if_neg z]
    by_cases y : b 204 p < 0
    · rw [if_pos y, if_pos y]
    · rw [if_neg y, if_neg y]
      have h7 := h6 (by omega)
      have e : worthB a p (a 207 p) = worthB b p (b 207 p) := by
        unfold worthB centsO
        rw [h1, h2]
        by_cases x : b 207 p < 0
        · rw [if_pos x, if_pos x]
        · rw [if_neg x, if_neg x, h5 (by omega)]
      rw [e, h3, h7.1, h7.2]
theorem prW_ext {a b : Nat → Int → Int} (h0 : a 300 = b 300) (h2 : a 302 = b 302) (d : Int) : ∀ (k : Nat) (n : Int), prW a d k n = prW b d k n := by
  intro k
  induction k with
  | zero => intro n; rfl
  | succ k ih =>
    intro n
    unfold prW
    rw [h0, h2]
    simp only [ih]
theorem prOn_ext {a b : Nat → Int → Int} (h0 : a 300 = b 300) (h2 : a 302 = b 302) (h6 : a 602 = b 602) : prOn a = prOn b := by
  funext u d
  unfold prOn prN
  rw [h6]
  simp only [prW_ext h0 h2]
theorem RPR_ext {a b mu : Nat → Int → Int} (h : RPR b mu) (h0 : a 300 = b 300) (h1 : a 301 = b 301) (h2 : a 302 = b 302) (h6 : a 602 = b 602) (h5 : a 506 0 = b 506 0) : RPR a mu := by
  intro u d u1 u2 d1 d2
  have z := h u d u1 u2 d1 (by omega)
  rw [z, prOn_ext h0 h2 h6]
  unfold centsO
  rw [h1]
theorem sumN_st {mu : Nat → Int → Int} {F : Nat} {x v : Int} (hx : 0 ≤ x) : ∀ n : Nat, sumN (fun q => st mu F x v F q) n = sumN (fun q => mu F q) n + (if x < n then v - mu F x else 0)
  | 0 => by rw [if_neg (by omega)]; rfl
  | n + 1 => by
    have e := sumN_st (mu := mu) (F := F) (v := v) hx n
    show sumN (fun q => st mu F x v F q) n + st mu F x v F n = sumN (fun q => mu F q) n + mu F n + _
    rw [e]
    by_cases z : (n : Int) = x
    · subst z
      rw [st_s, if_neg (by omega), if_pos (by omega)]; omega
    · rw [st_j z]
      by_cases y : x < n
      · rw [if_pos y, if_pos (by omega)]; omega
      · rw [if_neg y, if_neg (by omega)]; omega
theorem r_plot {sg mu : Nat → Int → Int} (h : Rel sg mu) (hG : GC sg) (hM : GM mu) {x a u : Int} (hx : 0 ≤ x ∧ x ≤ 35) (ha : 1 ≤ a ∧ a ≤ 100) (hu : 0 ≤ u ∧ u ≤ 2) (h3 : sg 203 x = 0) : Rel (st (st sg 201 x a) 202 x u) (st (st (st mu 900 0 0) 1003 x a) 1004 x u) ∧ GC (st (st sg 201 x a) 202 x u) ∧ GM (st (st (st mu 900 0 0) 1003 x a) 1004 x u) := by
  obtain ⟨hS, hPA, hPS, hPN, hPO, hPL, hJ1, hJ2, hIA, hIN, hIS, hIP, hJ3, hJ8, hJ4, hZ, hK, hPR, hJ5, hT⟩ := h
  refine ⟨⟨hS, fun p p1 p2 => ?_, hPS, hPN, hPO, fun p p1 p2 => ?_, hJ1, hJ2, hIA, hIN, hIS, hIP, hJ3, hJ8, hJ4, hZ, hK, RPR_ext hPR rfl rfl rfl rfl rfl, hJ5, hT⟩, gc_202 (gc_201 hG x ha) x hu, gc_1004 (gc_1003 (gc_900 hM 0 (by decide)) x (by omega)) x hu⟩
  · have z := hPA p p1 p2
    by_cases e : p = x
    · subst e
      exact ⟨((st_f (by decide)).trans st_s).trans ((st_f (by decide)).trans st_s).symm, st_s.trans st_s.symm⟩
    · exact ⟨((st_f (by decide)).trans (st_j e)).trans (z.1.trans ((st_f (by decide)).trans (st_j e)).symm), (st_j e).trans (z.2.trans (st_j e).symm)⟩
  · have z := hPL p p1 p2
    show mu 1012 p = if sg 206 p = -1 then 0 else _
    by_cases e : p = x
    · subst e
      have y := (hJ1 p p1 p2).mp h3
      rw [if_pos y] at z ⊢
      exact z
    · rw [z, landO_at (a := st (st sg 201 x a) 202 x u) (b := sg) ((st_f (by decide)).trans (st_j e)) rfl rfl rfl (fun _ => rfl) (fun _ => ⟨rfl, rfl⟩)]
theorem s_plot {sg mu : Nat → Int → Int} (h : Rel sg mu) (hG : GC sg) (hM : GM mu) (x a u : Int) : SimW [1, 2, 3] (plotE sg x a u) (plotME mu x a u) (sg 201 (pAt x)) (mu 1003 x) sg (st (st sg 201 (pAt x) a) 202 (pAt x) u) mu (st (st (st mu 900 0 0) 1003 x a) 1004 x u) := by
  by_cases hx : 0 ≤ x ∧ x ≤ 35
  · have hp := pAt_q hx
    have h1 := h.2.1 x hx.1 (by omega)
    have h2 := h.2.2.1 x hx.1 (by omega)
    have h4 : mu 1006 x = needO sg x := h.2.2.2.1 x hx.1 (by omega)
    have h5 := needO_rng hG x
    rw [hp]
    refine simW_of h hG hM (simP_3 ?_) (fun z => ?_)
    · unfold plotE plotME
      rw [hp]
      (repeat' split) <;> omega
    · unfold plotE at z
      rw [hp] at z
      refine r_plot h hG hM hx ?_ ?_ ?_ <;> ((repeat' split at z) <;> omega)
  · have hp := pAt_n hx
    refine simW_of h hG hM (simP_3 (Or.inl ⟨by unfold plotE; rw [hp]; rfl, by unfold plotME; rw [if_pos hx]⟩)) (fun z => ?_)
    unfold plotE at z
    rw [hp, if_pos (by decide)] at z
    exact absurd z (by decide)
theorem r_draw {sg mu : Nat → Int → Int} (h : Rel sg mu) (hG : GC sg) (hM : GM mu) {w x a : Int} (hw : 0 ≤ w ∧ w < sg 505 0) (hx : 0 ≤ x ∧ x ≤ 35) (ha : 1 ≤ a ∧ a ≤ 100) (h3 : sg 203 x = 0) (h4 : sg 403 w = 0) : Rel (st (st sg 204 x w) 205 x a) (st (st (st mu 900 0 0) 1006 x w) 1007 x a) ∧ GC (st (st sg 204 x w) 205 x a) ∧ GM (st (st (st mu 900 0 0) 1006 x w) 1007 x a) := by
  obtain ⟨hS, hPA, hPS, hPN, hPO, hPL, hJ1, hJ2, hIA, hIN, hIS, hIP, hJ3, hJ8, hJ4, hZ, hK, hPR, hJ5, hT⟩ := h
  have h5 := gr_505 hG 0
  have hn : ∀ p : Int, 0 ≤ p → needO (st (st sg 204 x w) 205 x a) p = if p = x then w else needO sg p := by
    intro p p1
    rw [needO_q p1, needO_q p1]
    show (if st sg 204 x w 204 p < 0 then -1 else if sg 403 (st sg 204 x w 204 p) = 2 then -1 else st sg 204 x w 204 p) = _
    by_cases e : p = x
    · subst e
      rw [st_s, if_pos rfl, if_neg (by omega), if_neg (by omega)]
    · rw [st_j e, if_neg e]
  refine ⟨⟨hS, hPA, fun p p1 p2 => ?_, fun p p1 p2 => ?_, hPO, fun p p1 p2 => ?_, hJ1, fun p p1 p2 => ?_, hIA, hIN, hIS, hIP, hJ3, hJ8, hJ4, hZ, hK, RPR_ext hPR rfl rfl rfl rfl rfl, hJ5, hT⟩, gc_205 (gc_204 hG x (by omega)) x (by omega), gc_1007 (gc_1006 (gc_900 hM 0 (by decide)) x (by omega)) x (by omega)⟩
  · have z := hPS p p1 p2
    refine ⟨z.1, ?_, z.2.2⟩
    by_cases e : p = x
    · subst e; exact st_s.trans st_s.symm
    · exact (st_j e).trans (z.2.1.trans (st_j e).symm)
  · rw [hn p p1]
    show st (st mu 900 0 0) 1006 x w 1006 p = _
    by_cases e : p = x
    · subst e; rw [st_s, if_pos rfl]
    · rw [st_j e, if_neg e]; exact hPN p p1 p2
  · have z := hPL p p1 p2
    show mu 1012 p = if sg 206 p = -1 then 0 else _
    by_cases e : p = x
    · subst e
      have y := (hJ1 p p1 p2).mp h3
      rw [if_pos y] at z ⊢
      exact z
    · rw [z, landO_at (a := st (st sg 204 x w) 205 x a) (b := sg) rfl rfl (st_j e) ((st_f (by decide)).trans (st_j e)) (fun _ => rfl) (fun _ => ⟨rfl, rfl⟩)]
  · have z := hJ2 p p1 p2
    rw [hn p p1]
    refine ⟨fun y => ?_, z.2.1, z.2.2⟩
    by_cases e : p = x
    · exact z.2.1 (by rw [e]; exact h3)
    · rw [if_neg e] at y
      exact z.1 y
theorem s_draw {sg mu : Nat → Int → Int} (h : Rel sg mu) (hG : GC sg) (hM : GM mu) (w x a : Int) : SimW [1, 2, 3] (drawE sg w x a) (drawME mu w x a) (cntNeed (st (st sg 204 (pAt x) (sAt sg w)) 205 (pAt x) a) (sAt sg w)) (mNeed (st (st (st mu 900 0 0) 1006 x w) 1007 x a) w 0) sg (st (st sg 204 (pAt x) (sAt sg w)) 205 (pAt x) a) mu (st (st (st mu 900 0 0) 1006 x w) 1007 x a) := by
  have hS : RSc sg mu := h.1
  have hS2 := hS.2.2
  by_cases hx : 0 ≤ x ∧ x ≤ 35
  · have hp := pAt_q hx
    by_cases hw : 0 ≤ w ∧ w < sg 505 0
    · have hq := sAt_q hw
      have h2 := h.2.2.1 x hx.1 (by omega)
      have h4 : mu 1006 x = needO sg x := h.2.2.2.1 x hx.1 (by omega)
      have h5 := needO_rng hG x
      have hK : RK sg mu := h.2.2.2.2.2.2.2.2.2.2.2.2.2.2.2.2.1
      have h6 := (hK w hw.1 hw.2).2.2.1
      have hr : drawE sg w x a = 0 → Rel (st (st sg 204 x w) 205 x a) (st (st (st mu 900 0 0) 1006 x w) 1007 x a) ∧ GC (st (st sg 204 x w) 205 x a) ∧ GM (st (st (st mu 900 0 0) 1006 x w) 1007 x a) := by
        intro z
        unfold drawE at z
        rw [hp, hq] at z
        refine r_draw h hG hM hw hx ?_ ?_ ?_ <;> ((repeat' split at z) <;> omega)
      rw [hp, hq]
      refine simW_of h hG hM (simP_3 ?_) hr
      by_cases z : drawE sg w x a = 0
      · have y := (hr z).1
        have e : mNeed (st (st (st mu 900 0 0) 1006 x w) 1007 x a) w 0 = cntNeed (st (st sg 204 x w) 205 x a) w := e_need y.2.2.2.1 hw.1
        refine Or.inr (Or.inr (Or.inr ⟨z, ?_, e.symm⟩))
        unfold drawE at z
        unfold drawME
        rw [hp, hq] at z
        (repeat' split at z) <;> (repeat' split) <;> omega
      · have e : drawE sg w x a = drawME mu w x a ∧ drawE sg w x a ≤ 3 ∧ 0 ≤ drawE sg w x a := by
          unfold drawE drawME
          rw [hp, hq]
          (repeat' split) <;> omega
        omega
    · have hq := sAt_n hw
      refine simW_of h hG hM (simP_3 (Or.inl ⟨by unfold drawE; rw [hq]; exact if_pos (Or.inl (by decide)), by unfold drawME; exact if_pos (by omega)⟩)) (fun z => ?_)
      unfold drawE at z
      rw [hq, if_pos (Or.inl (by decide))] at z
      exact absurd z (by decide)
  · have hp := pAt_n hx
    refine simW_of h hG hM (simP_3 (Or.inl ⟨by unfold drawE; rw [hp]; exact if_pos (Or.inr (by decide)), by unfold drawME; exact if_pos (Or.inr hx)⟩)) (fun z => ?_)
    unfold drawE at z
    rw [hp, if_pos (Or.inr (by decide))] at z
    exact absurd z (by decide)
