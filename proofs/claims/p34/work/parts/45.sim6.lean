/-! ends of a simulated call -/
theorem w13_1 {E EM r rM : Int} {sg T mu TM : Nat → Int → Int} (h : Rel sg mu) (hG : GC sg) (hM : GM mu) (e1 : E = 1) (e2 : EM = 1) : SimW [1, 3] E EM r rM sg T mu TM :=
  simW_of h hG hM (simP_2 (by decide) (by decide) (by decide) (Or.inl ⟨e1, e2⟩)) (fun z => absurd (e1.symm.trans z) (by decide))
theorem w13_2 {E EM r rM : Int} {sg T mu TM : Nat → Int → Int} (h : Rel sg mu) (hG : GC sg) (hM : GM mu) (e1 : E = 3) (e2 : EM = 2) : SimW [1, 3] E EM r rM sg T mu TM :=
  simW_of h hG hM (simP_2 (by decide) (by decide) (by decide) (Or.inr (Or.inl ⟨e1, e2⟩))) (fun z => absurd (e1.symm.trans z) (by decide))
theorem w13_0 {E EM r rM : Int} {sg T mu TM : Nat → Int → Int} (h : Rel sg mu) (hG : GC sg) (hM : GM mu) (e1 : E = 0) (e2 : EM = 0) (e3 : r = rM) (h0 : Rel T TM ∧ GC T ∧ GM TM) : SimW [1, 3] E EM r rM sg T mu TM :=
  simW_of h hG hM (simP_2 (by decide) (by decide) (by decide) (Or.inr (Or.inr ⟨e1, e2, e3⟩))) (fun _ => h0)
theorem w23_1 {E EM r rM : Int} {sg T mu TM : Nat → Int → Int} (h : Rel sg mu) (hG : GC sg) (hM : GM mu) (e1 : E = 2) (e2 : EM = 1) : SimW [2, 3] E EM r rM sg T mu TM :=
  simW_of h hG hM (simP_2 (by decide) (by decide) (by decide) (Or.inl ⟨e1, e2⟩)) (fun z => absurd (e1.symm.trans z) (by decide))
theorem w23_2 {E EM r rM : Int} {sg T mu TM : Nat → Int → Int} (h : Rel sg mu) (hG : GC sg) (hM : GM mu) (e1 : E = 3) (e2 : EM = 2) : SimW [2, 3] E EM r rM sg T mu TM :=
  simW_of h hG hM (simP_2 (by decide) (by decide) (by decide) (Or.inr (Or.inl ⟨e1, e2⟩))) (fun z => absurd (e1.symm.trans z) (by decide))
theorem w23_0 {E EM r rM : Int} {sg T mu TM : Nat → Int → Int} (h : Rel sg mu) (hG : GC sg) (hM : GM mu) (e1 : E = 0) (e2 : EM = 0) (e3 : r = rM) (h0 : Rel T TM ∧ GC T ∧ GM TM) : SimW [2, 3] E EM r rM sg T mu TM :=
  simW_of h hG hM (simP_2 (by decide) (by decide) (by decide) (Or.inr (Or.inr ⟨e1, e2, e3⟩))) (fun _ => h0)
theorem w123_k {E EM r rM : Int} {sg T mu TM : Nat → Int → Int} (h : Rel sg mu) (hG : GC sg) (hM : GM mu) (e1 : E = EM) (e2 : EM = 1 ∨ EM = 2 ∨ EM = 3) : SimW [1, 2, 3] E EM r rM sg T mu TM :=
  simW_of h hG hM (simP_3 (by omega)) (fun z => by omega)
theorem w123_0 {E EM r rM : Int} {sg T mu TM : Nat → Int → Int} (h : Rel sg mu) (hG : GC sg) (hM : GM mu) (e1 : E = 0) (e2 : EM = 0) (e3 : r = rM) (h0 : Rel T TM ∧ GC T ∧ GM TM) : SimW [1, 2, 3] E EM r rM sg T mu TM :=
  simW_of h hG hM (simP_3 (Or.inr (Or.inr (Or.inr ⟨e1, e2, e3⟩)))) (fun _ => h0)
/-! hear -/
theorem r_hear0 {sg mu : Nat → Int → Int} (h : Rel sg mu) (hG : GC sg) (hM : GM mu) {x : Int} (hx : 0 ≤ x ∧ x < sg 503 0) (h9 : sg 109 x ≠ 0) : Rel (st sg 109 x 0) (st (st mu 900 0 0) 1020 x 2) ∧ GC (st sg 109 x 0) ∧ GM (st (st mu 900 0 0) 1020 x 2) := by
  obtain ⟨hS, hPA, hPS, hPN, hPO, hPL, hJ1, hJ2, hIA, hIN, hIS, hIP, hJ3, hJ8, hJ4, hZ, hK, hPR, hJ5, hT⟩ := h
  refine ⟨⟨hS, hPA, hPS, hPN, hPO, hPL, hJ1, hJ2, hIA, fun i p1 p2 => ?_, hIS, hIP, hJ3, fun i p1 p2 => ?_, hJ4, ⟨fun i p1 p2 => ?_, hZ.2⟩, hK, RPR_ext hPR rfl rfl rfl rfl rfl, hJ5, hT⟩, gc_109 hG x (by decide), gc_1020 (gc_900 hM 0 (by decide)) x (by decide)⟩
  · have z := hIN i p1 p2
    refine ⟨z.1, ?_⟩
    show st (st mu 900 0 0) 1020 x 2 1020 i = if st sg 109 x 0 109 i ≠ 0 then 1 else if sg 108 i ≠ 0 then 2 else 0
    by_cases e : i = x
    · subst e
      rw [st_s, st_s, if_neg (by decide), if_pos (hJ8 i p1 p2 h9)]
    · rw [st_j e, st_j e]; exact z.2
  · show st sg 109 x 0 109 i ≠ 0 → sg 108 i ≠ 0
    by_cases e : i = x
    · subst e
      rw [st_s]; exact fun z => absurd rfl z
    · rw [st_j e]; exact hJ8 i p1 p2
  · have z := hZ.1 i p1 p2
    have e : i ≠ x := fun e => by have p3 : sg 503 0 ≤ i := p1; omega
    exact ⟨(st_j e).trans z.1, z.2⟩
theorem r_hear {sg mu : Nat → Int → Int} (h : Rel sg mu) (hG : GC sg) (hM : GM mu) {x b : Int} (hx : 0 ≤ x ∧ x < sg 503 0) (hd : mDraft mu x) (h9 : sg 109 x ≠ 0) : Rel (hearT sg x b) (mHearT mu x b) ∧ GC (hearT sg x b) ∧ GM (mHearT mu x b) := by
  have hp := iAt_q hx
  have hIA : RIA sg mu := h.2.2.2.2.2.2.2.2.1
  have hPS : RPS sg mu := h.2.2.1
  have h1 := (hIA x hx.1 hx.2).2.1
  have h2 := gr_102 hG x
  have h3 := (hPS (sg 102 x) (by omega) (by omega)).1
  have h4 : mu 1005 (mu 1015 x) = 0 := hd.1
  rw [h1] at h4
  unfold hearT mHearT
  rw [hp]
  by_cases e : b = 0
  · rw [if_pos e, if_pos e]
    exact r_hear0 h hG hM hx h9
  · rw [if_neg e, if_neg e, h1]
    exact r_rel (Rel9 h 0) hG (gc_900 hM 0 (by decide)) (by omega) (h3.symm.trans h4)
theorem s_hear {sg mu : Nat → Int → Int} (h : Rel sg mu) (hG : GC sg) (hM : GM mu) (x b : Int) : SimW [1, 3] (hearE sg x) (hearME mu x) (cntOpen (hearT sg x b) (draftO sg (sg 102 (iAt sg x)))) (mOpen (mHearT mu x b) (mu 1006 (mu 1015 x))) sg (hearT sg x b) mu (mHearT mu x b) := by
  have hS2 := (show RSc sg mu from h.1).2.1
  by_cases hx : 0 ≤ x ∧ x < sg 503 0
  · have hp := iAt_q hx
    have hd := e_draft h hG hx
    have hIN : RIN sg mu := h.2.2.2.2.2.2.2.2.2.1
    have h1 := hIN x hx.1 hx.2
    rw [hp]
    have k4 : mu 1020 x = 1 ↔ sg 109 x ≠ 0 := by
      rw [h1.2]
      by_cases y : sg 109 x ≠ 0
      · rw [if_pos y]; exact ⟨fun _ => y, fun _ => rfl⟩
      · rw [if_neg y]
        split <;> omega
    by_cases k1 : mDraft mu x
    · have k2 := hd.1.mp k1
      by_cases k3 : sg 109 x ≠ 0
      · have hr := r_hear (b := b) h hG hM hx k1 k3
        refine w13_0 h hG hM (by unfold hearE; rw [hp, if_neg (by omega), if_neg (by omega)]) (by unfold hearME; rw [if_neg (by omega), if_neg (fun z => z.elim (fun y => y (k4.mpr k3)) (fun y => y k1))]) ?_ hr
        have y := hr.1
        rw [hd.2 k1]
        exact (e_open y.1 y.2.2.2.1 y.2.2.1 y.2.2.2.2.2.2.2.2.1 y.2.2.2.2.2.2.2.2.2.1 hr.2.1 k2).symm
      · exact w13_2 h hG hM (by unfold hearE; rw [hp, if_neg (by omega), if_pos (by omega)]) (by unfold hearME; rw [if_neg (by omega), if_pos (Or.inl (fun z => k3 (k4.mp z)))])
    · have k2 : draftO sg (sg 102 x) < 0 := by
        refine Classical.byContradiction fun z => k1 (hd.1.mpr (by omega))
      exact w13_2 h hG hM (by unfold hearE; rw [hp, if_neg (by omega), if_pos (by omega)]) (by unfold hearME; rw [if_neg (by omega), if_pos (Or.inr k1)])
  · have hp := iAt_n hx
    exact w13_1 h hG hM (by unfold hearE; rw [hp, if_pos (by decide)]) (by unfold hearME; rw [if_pos (by omega)])
/-! confirm -/
theorem r_confirm {sg mu : Nat → Int → Int} (h : Rel sg mu) (hG : GC sg) (hM : GM mu) {w : Int} (hw : 0 ≤ w ∧ w < sg 505 0) (h4 : sg 403 w = 0) : Rel (st (st sg 403 w 1) 404 w (sg 506 0)) (st (st (st mu 900 0 0) 1029 w 1) 1030 w (mu 901 0)) ∧ GC (st (st sg 403 w 1) 404 w (sg 506 0)) ∧ GM (st (st (st mu 900 0 0) 1029 w 1) 1030 w (mu 901 0)) := by
  obtain ⟨hS, hPA, hPS, hPN, hPO, hPL, hJ1, hJ2, hIA, hIN, hIS, hIP, hJ3, hJ8, hJ4, hZ, hK, hPR, hJ5, hT⟩ := h
  have g5 := gr_506 hG 0
  have g9 := mr_901 hM 0
  have hn : ∀ p : Int, 0 ≤ p → needO (st (st sg 403 w 1) 404 w (sg 506 0)) p = needO sg p := by
    intro p p1
    rw [needO_q p1, needO_q p1]
    show (if sg 204 p < 0 then -1 else if st sg 403 w 1 403 (sg 204 p) = 2 then -1 else sg 204 p) = _
    by_cases e : sg 204 p = w
    · rw [e, st_s, h4]
      (repeat' split) <;> omega
    · rw [st_j e]
  refine ⟨⟨hS, hPA, hPS, fun p p1 p2 => (hPN p p1 p2).trans (hn p p1).symm, hPO, hPL, hJ1, fun p p1 p2 => ?_, hIA, hIN, hIS, hIP, hJ3, hJ8, hJ4, ⟨hZ.1, fun k p1 p2 => ?_⟩, fun k p1 p2 => ?_, RPR_ext hPR rfl rfl rfl rfl rfl, hJ5, hT⟩, gc_404 (gc_403 hG w (by decide)) w (by omega), gc_1030 (gc_1029 (gc_900 hM 0 (by decide)) w (by decide)) w (by omega)⟩
  · rw [hn p p1]; exact hJ2 p p1 p2
  · have e : k ≠ w := fun e => by have p3 : sg 505 0 ≤ k := p1; omega
    show st (st mu 900 0 0) 1029 w 1 1029 k = 0
    rw [st_j e]; exact hZ.2 k p1 p2
  · have z := hK k p1 p2
    refine ⟨z.1, z.2.1, ?_, ?_, z.2.2.2.2⟩
    · show st (st mu 900 0 0) 1029 w 1 1029 k = st sg 403 w 1 403 k
      by_cases e : k = w
      · subst e; rw [st_s, st_s]
      · rw [st_j e, st_j e]; exact z.2.2.1
    · show st (st (st mu 900 0 0) 1029 w 1) 1030 w (mu 901 0) 1030 k = st (st sg 403 w 1) 404 w (sg 506 0) 404 k
      by_cases e : k = w
      · subst e; rw [st_s, st_s]; exact hS.1
      · simp only [st_j e]; exact z.2.2.2.1
theorem s_confirm {sg mu : Nat → Int → Int} (h : Rel sg mu) (hG : GC sg) (hM : GM mu) (w : Int) : SimW [1, 3] (confirmE sg w) (confirmME mu w) (cntFree sg (sAt sg w)) (mNeed (st (st (st mu 900 0 0) 1029 w 1) 1030 w (mu 901 0)) w 1) sg (st (st sg 403 (sAt sg w) 1) 404 (sAt sg w) (sg 506 0)) mu (st (st (st mu 900 0 0) 1029 w 1) 1030 w (mu 901 0)) := by
  have hS : RSc sg mu := h.1
  have hS2 := hS.2.2
  by_cases hw : 0 ≤ w ∧ w < sg 505 0
  · have hq := sAt_q hw
    have hPS : RPS sg mu := h.2.2.1
    have hPN : RPN sg mu := h.2.2.2.1
    have hIA : RIA sg mu := h.2.2.2.2.2.2.2.2.1
    have hIN : RIN sg mu := h.2.2.2.2.2.2.2.2.2.1
    have hK : RK sg mu := h.2.2.2.2.2.2.2.2.2.2.2.2.2.2.2.2.1
    have k3 := (hK w hw.1 hw.2).2.2.1
    have e1 : mStopper mu w = stopper sg w := e_stop hS hPN hPS hIA hIN hG hw.1
    have e2 : mNeed mu w 1 = cntFree sg w := e_free hPN hPS hw.1
    have e3 : mNeed (st (st (st mu 900 0 0) 1029 w 1) 1030 w (mu 901 0)) w 1 = cntFree sg w := e2
    have e4 := stopper_rng (sg := sg) w
    have e : (confirmE sg w = 0 ∧ confirmME mu w = 0 ∧ sg 403 w = 0) ∨ (confirmE sg w = 3 ∧ confirmME mu w = 2) := by
      unfold confirmE confirmME
      rw [hq, e1, e2, k3]
      (repeat' split) <;> omega
    rw [hq]
    rcases e with ⟨z1, z2, z3⟩ | ⟨z1, z2⟩
    · exact w13_0 h hG hM z1 z2 e3.symm (r_confirm h hG hM hw z3)
    · exact w13_2 h hG hM z1 z2
  · have hq := sAt_n hw
    exact w13_1 h hG hM (by unfold confirmE; rw [hq, if_pos (by decide)]) (by unfold confirmME; rw [if_pos (by omega)])
/-! refuse, accept -/
theorem r_offer {sg mu : Nat → Int → Int} (h : Rel sg mu) (hG : GC sg) (hM : GM mu) {x o pr : Int} (hx : 0 ≤ x ∧ x < 36) (ho : -1 ≤ o ∧ o < sg 503 0) (hpr : 0 ≤ pr ∧ pr ≤ 100000) (h3 : sg 203 x ≠ 0) (h4 : needO sg x < 0) : Rel (offT sg x o pr) (st (st mu 1010 x o) 1011 x (if o = -1 then 0 else pr)) ∧ GC (offT sg x o pr) ∧ GM (st (st mu 1010 x o) 1011 x (if o = -1 then 0 else pr)) := by
  obtain ⟨hS, hPA, hPS, hPN, hPO, hPL, hJ1, hJ2, hIA, hIN, hIS, hIP, hJ3, hJ8, hJ4, hZ, hK, hPR, hJ5, hT⟩ := h
  have g3 := gr_503 hG 0
  refine ⟨⟨hS, hPA, hPS, hPN, fun p p1 p2 => ?_, hPL, hJ1, fun p p1 p2 => ?_, hIA, hIN, hIS, hIP, hJ3, hJ8, hJ4, hZ, hK, RPR_ext hPR rfl rfl rfl rfl rfl, hJ5, hT⟩, gc_offT hG ho hpr, gc_1011 (gc_1010 hM x (by omega)) x (by split <;> omega)⟩
  · have z := hPO p p1 p2
    show st mu 1010 x o 1010 p = st sg 209 x o 209 p ∧ st (st mu 1010 x o) 1011 x (if o = -1 then 0 else pr) 1011 p = st (st sg 209 x o) 210 x (if o < 0 then 0 else pr) 210 p
    by_cases e : p = x
    · subst e
      rw [st_s, st_s, st_s, st_s]
      refine ⟨rfl, ?_⟩
      (repeat' split) <;> omega
    · simp only [st_j e]; exact z
  · have z := hJ2 p p1 p2
    show (0 ≤ needO sg p → st sg 209 x o 209 p = -1) ∧ (sg 203 p = 0 → st sg 209 x o 209 p = -1) ∧ (st sg 209 x o 209 p = -1 → st (st sg 209 x o) 210 x (if o < 0 then 0 else pr) 210 p = 0)
    by_cases e : p = x
    · subst e
      refine ⟨fun y => by omega, fun y => absurd y h3, fun y => ?_⟩
      rw [st_s] at y
      rw [st_s, if_pos (by omega)]
    · simp only [st_j e]; exact z
theorem s_refuse {sg mu : Nat → Int → Int} (h : Rel sg mu) (hG : GC sg) (hM : GM mu) (x : Int) : SimW [1, 3] (offE sg x) (offME mu x) (opt (ownBeh sg (pAt x) (sg 209 (pAt x)))) (mOwnB mu x (mu 1010 x)) sg (offT sg (pAt x) (ownBeh sg (pAt x) (sg 209 (pAt x))) (sg 210 (pAt x))) mu (st (st (st mu 900 0 0) 1010 x (mOwnB mu x (mu 1010 x))) 1011 x (if mOwnB mu x (mu 1010 x) = -1 then 0 else mu 1011 x)) := by
  by_cases hx : 0 ≤ x ∧ x ≤ 35
  · have hp := pAt_q hx
    have hS : RSc sg mu := h.1
    have hIA : RIA sg mu := h.2.2.2.2.2.2.2.2.1
    have hPO : RPO sg mu := h.2.2.2.2.1
    have hJ2 : J2 sg := h.2.2.2.2.2.2.2.1
    have z := hPO x hx.1 (by omega)
    have j := hJ2 x hx.1 (by omega)
    have g9 := gp_209 hG x
    have g10 := gr_210 hG x
    have n := needO_rng hG x
    have eo : mOwnB mu x (mu 1010 x) = ownBeh sg x (sg 209 x) := by
      rw [z.1]; exact e_own hS hIA hG g9
    have hor := ownBeh_rng hG x (sg 209 x)
    rw [hp, eo, z.2]
    by_cases k : 0 ≤ sg 209 x
    · have h3 : sg 203 x ≠ 0 := fun y => by have := j.2.1 y; omega
      have h4 : needO sg x < 0 := by
        refine Classical.byContradiction fun y => ?_
        have := j.1 (by omega); omega
      exact w13_0 h hG hM (by unfold offE; rw [hp]; (repeat' split) <;> omega) (by unfold offME; (repeat' split) <;> omega) (by unfold opt; split <;> omega) (r_offer (Rel9 h 0) hG (gc_900 hM 0 (by decide)) (by omega) hor g10 h3 h4)
    · exact w13_2 h hG hM (by unfold offE; rw [hp]; (repeat' split) <;> omega) (by unfold offME; (repeat' split) <;> omega)
  · have hp := pAt_n hx
    exact w13_1 h hG hM (by unfold offE; rw [hp, if_pos (by decide)]) (by unfold offME; rw [if_pos hx])
theorem r_accept {sg mu : Nat → Int → Int} (h : Rel sg mu) (hG : GC sg) (hM : GM mu) {x : Int} (hx : 0 ≤ x ∧ x ≤ 35) (h9 : 0 ≤ sg 209 x) : Rel (st (offT (st sg 203 x 2) x (-1) 0) 510 0 (sg 510 0 + sg 210 x)) (st (st (st (st (st mu 900 0 0) 933 0 (mu 933 0 + mu 1011 x)) 1005 x 2) 1010 x (-1)) 1011 x 0) ∧ GC (st (offT (st sg 203 x 2) x (-1) 0) 510 0 (sg 510 0 + sg 210 x)) ∧ GM (st (st (st (st (st mu 900 0 0) 933 0 (mu 933 0 + mu 1011 x)) 1005 x 2) 1010 x (-1)) 1011 x 0) := by
  obtain ⟨hS, hPA, hPS, hPN, hPO, hPL, hJ1, hJ2, hIA, hIN, hIS, hIP, hJ3, hJ8, hJ4, hZ, hK, hPR, hJ5, hT⟩ := h
  have j := hJ2 x hx.1 (by omega)
  have h3 : sg 203 x ≠ 0 := fun z => by have := j.2.1 z; omega
  have g3 := gr_503 hG 0
  refine ⟨⟨hS, hPA, fun p p1 p2 => ?_, hPN, fun p p1 p2 => ?_, hPL, fun p p1 p2 => ?_, fun p p1 p2 => ?_, hIA, hIN, hIS, hIP, hJ3, hJ8, hJ4, hZ, hK, RPR_ext hPR rfl rfl rfl rfl rfl, hJ5, ⟨hT.1, hT.2.1, hT.2.2.1, ?_, hT.2.2.2.2⟩⟩, gc_510 (gc_offT (gc_203 hG x (by decide)) ⟨by decide, (by show (-1 : Int) < sg 503 0; omega)⟩ (by decide)) 0 trivial, gc_1011 (gc_1010 (gc_1005 (gc_933 (gc_900 hM 0 (by decide)) 0 trivial) x (by decide)) x (by decide)) x (by decide)⟩
  · have z := hPS p p1 p2
    refine ⟨?_, z.2⟩
    show st (st (st mu 900 0 0) 933 0 (mu 933 0 + mu 1011 x)) 1005 x 2 1005 p = st sg 203 x 2 203 p
    by_cases e : p = x
    · subst e; rw [st_s, st_s]
    · rw [st_j e, st_j e]; exact z.1
  · have z := hPO p p1 p2
    show st (st (st (st mu 900 0 0) 933 0 (mu 933 0 + mu 1011 x)) 1005 x 2) 1010 x (-1) 1010 p = st (st sg 203 x 2) 209 x (-1) 209 p ∧ st (st (st (st (st mu 900 0 0) 933 0 (mu 933 0 + mu 1011 x)) 1005 x 2) 1010 x (-1)) 1011 x 0 1011 p = st (st (st sg 203 x 2) 209 x (-1)) 210 x (if (-1 : Int) < 0 then 0 else 0) 210 p
    by_cases e : p = x
    · subst e
      rw [st_s, st_s, st_s, st_s]
      exact ⟨rfl, rfl⟩
    · simp only [st_j e]; exact z
  · show st sg 203 x 2 203 p = 0 ↔ sg 206 p = -1
    have y := hJ1 p p1 p2
    by_cases e : p = x
    · subst e
      rw [st_s]
      exact ⟨fun z => absurd z (by decide), fun z => absurd (y.mpr z) h3⟩
    · rw [st_j e]; exact y
  · have z := hJ2 p p1 p2
    show (0 ≤ needO sg p → st (st sg 203 x 2) 209 x (-1) 209 p = -1) ∧ (st sg 203 x 2 203 p = 0 → st (st sg 203 x 2) 209 x (-1) 209 p = -1) ∧ (st (st sg 203 x 2) 209 x (-1) 209 p = -1 → st (st (st sg 203 x 2) 209 x (-1)) 210 x (if (-1 : Int) < 0 then 0 else 0) 210 p = 0)
    by_cases e : p = x
    · subst e
      refine ⟨fun _ => st_s, fun _ => st_s, fun _ => ?_⟩
      rw [st_s]; rfl
    · simp only [st_j e]; exact z
  · show sg 510 0 + sg 210 x = mu 933 0 + mu 1011 x
    rw [hT.2.2.2.1, (hPO x hx.1 (by omega)).2]
theorem s_accept {sg mu : Nat → Int → Int} (h : Rel sg mu) (hG : GC sg) (hM : GM mu) (x : Int) : SimW [1, 3] (offE sg x) (offME mu x) (sg 210 (pAt x)) (mu 1011 x) sg (st (offT (st sg 203 (pAt x) 2) (pAt x) (-1) 0) 510 0 (sg 510 0 + sg 210 (pAt x))) mu (st (st (st (st (st mu 900 0 0) 933 0 (mu 933 0 + mu 1011 x)) 1005 x 2) 1010 x (-1)) 1011 x 0) := by
  by_cases hx : 0 ≤ x ∧ x ≤ 35
  · have hp := pAt_q hx
    have hPO : RPO sg mu := h.2.2.2.2.1
    have z := hPO x hx.1 (by omega)
    have g9 := gp_209 hG x
    rw [hp]
    by_cases k : 0 ≤ sg 209 x
    · exact w13_0 h hG hM (by unfold offE; rw [hp]; (repeat' split) <;> omega) (by unfold offME; (repeat' split) <;> omega) z.2.symm (r_accept h hG hM hx k)
    · exact w13_2 h hG hM (by unfold offE; rw [hp]; (repeat' split) <;> omega) (by unfold offME; (repeat' split) <;> omega)
  · have hp := pAt_n hx
    exact w13_1 h hG hM (by unfold offE; rw [hp, if_pos (by decide)]) (by unfold offME; rw [if_pos hx])
/-! works -/
theorem e_works {sg mu : Nat → Int → Int} (hPS : RPS sg mu) : mWorks mu = cntWorks sg := by
  unfold mWorks cntWorks
  refine sumN_congr _ (fun i hi => bI_congr ?_)
  rw [(hPS i (by omega) (by omega)).2.2.2]
theorem r_works {sg mu : Nat → Int → Int} (h : Rel sg mu) (hG : GC sg) (hM : GM mu) {x : Int} : Rel (st sg 208 x 1) (st (st mu 900 0 0) 1009 x 1) ∧ GC (st sg 208 x 1) ∧ GM (st (st mu 900 0 0) 1009 x 1) := by
  obtain ⟨hS, hPA, hPS, hPN, hPO, hPL, hJ1, hJ2, hIA, hIN, hIS, hIP, hJ3, hJ8, hJ4, hZ, hK, hPR, hJ5, hT⟩ := h
  refine ⟨⟨hS, hPA, fun p p1 p2 => ?_, hPN, hPO, hPL, hJ1, hJ2, hIA, hIN, hIS, hIP, hJ3, hJ8, hJ4, hZ, hK, RPR_ext hPR rfl rfl rfl rfl rfl, hJ5, hT⟩, gc_208 hG x (by decide), gc_1009 (gc_900 hM 0 (by decide)) x (by decide)⟩
  have z := hPS p p1 p2
  refine ⟨z.1, z.2.1, z.2.2.1, ?_⟩
  show st (st mu 900 0 0) 1009 x 1 1009 p = st sg 208 x 1 208 p
  by_cases e : p = x
  · subst e; rw [st_s, st_s]
  · rw [st_j e, st_j e]; exact z.2.2.2
theorem s_works {sg mu : Nat → Int → Int} (h : Rel sg mu) (hG : GC sg) (hM : GM mu) (x : Int) : SimW [1, 3] (worksE sg x) (worksME mu x) (cntWorks (st sg 208 (pAt x) 1)) (mWorks (st (st mu 900 0 0) 1009 x 1)) sg (st sg 208 (pAt x) 1) mu (st (st mu 900 0 0) 1009 x 1) := by
  by_cases hx : 0 ≤ x ∧ x ≤ 35
  · have hp := pAt_q hx
    have hPS : RPS sg mu := h.2.2.1
    have hPN : RPN sg mu := h.2.2.2.1
    have z := hPS x hx.1 (by omega)
    have y := hPN x hx.1 (by omega)
    have n := needO_rng hG x
    have hr := r_works (x := x) h hG hM
    have e : (worksE sg x = 0 ∧ worksME mu x = 0) ∨ (worksE sg x = 3 ∧ worksME mu x = 2) := by
      unfold worksE worksME
      rw [hp, z.1, z.2.2.2, y]
      (repeat' split) <;> omega
    rw [hp]
    rcases e with ⟨z1, z2⟩ | ⟨z1, z2⟩
    · exact w13_0 h hG hM z1 z2 (e_works hr.1.2.2.1).symm hr
    · exact w13_2 h hG hM z1 z2
  · have hp := pAt_n hx
    exact w13_1 h hG hM (by unfold worksE; rw [hp, if_pos (by decide)]) (by unfold worksME; rw [if_pos hx])
/-! advance, settle -/
theorem r_advance {sg mu : Nat → Int → Int} (h : Rel sg mu) (hG : GC sg) (hM : GM mu) {x : Int} (hx : 0 ≤ x ∧ x < sg 503 0) (k2 : sg 112 x = -1) (k4 : sg 114 x = 0) :
    Rel (st (st (st sg 111 x (sg 110 x * 90 / 100)) 112 x (sg 506 0)) 508 0 (sg 508 0 + sg 110 x * 90 / 100)) (st (st (st (st mu 900 0 0) 1023 x (mu 1021 x * 90 / 100)) 1024 x (mu 901 0)) 1022 x (mu 1022 x + mu 1021 x * 90 / 100)) ∧ GC (st (st (st sg 111 x (sg 110 x * 90 / 100)) 112 x (sg 506 0)) 508 0 (sg 508 0 + sg 110 x * 90 / 100)) ∧ GM (st (st (st (st mu 900 0 0) 1023 x (mu 1021 x * 90 / 100)) 1024 x (mu 901 0)) 1022 x (mu 1022 x + mu 1021 x * 90 / 100)) := by
  obtain ⟨hS, hPA, hPS, hPN, hPO, hPL, hJ1, hJ2, hIA, hIN, hIS, hIP, hJ3, hJ8, hJ4, hZ, hK, hPR, hJ5, hT⟩ := h
  have g5 := gr_506 hG 0
  have g9 := mr_901 hM 0
  have g11 := gr_110 hG x
  have m21 := mr_1021 hM x
  have zx := hIP x hx.1 hx.2
  have jx := hJ3 x hx.1 hx.2
  have sx := hIS x hx.1 hx.2
  have j1 := jx.1 k2
  have j2 := jx.2 k4
  have v1 : mu 1022 x = 0 := by rw [zx.1, j1, j2]; rfl
  refine ⟨⟨hS, hPA, hPS, hPN, hPO, hPL, hJ1, hJ2, hIA, hIN, hIS, fun i p1 p2 => ?_, fun i p1 p2 => ?_, hJ8, hJ4, ⟨fun i p1 p2 => ?_, hZ.2⟩, hK, RPR_ext hPR rfl rfl rfl rfl rfl, hJ5, ⟨hT.1, ?_, hT.2.2⟩⟩, gc_508 (gc_112 (gc_111 hG x (by omega)) x (by omega)) 0 trivial, gc_1022 (gc_1024 (gc_1023 (gc_900 hM 0 (by decide)) x (by omega)) x (by omega)) x trivial⟩
  · have z := hIP i p1 p2
    show st (st (st (st mu 900 0 0) 1023 x (mu 1021 x * 90 / 100)) 1024 x (mu 901 0)) 1022 x (mu 1022 x + mu 1021 x * 90 / 100) 1022 i = st sg 111 x (sg 110 x * 90 / 100) 111 i + sg 113 i ∧ st (st mu 900 0 0) 1023 x (mu 1021 x * 90 / 100) 1023 i = st sg 111 x (sg 110 x * 90 / 100) 111 i ∧ st (st (st mu 900 0 0) 1023 x (mu 1021 x * 90 / 100)) 1024 x (mu 901 0) 1024 i = st (st sg 111 x (sg 110 x * 90 / 100)) 112 x (sg 506 0) 112 i ∧ mu 1025 i = sg 114 i
    by_cases e : i = x
    · subst e
      rw [st_s, st_s, st_s, st_s, st_s, v1, j2, sx]
      exact ⟨by omega, rfl, hS.1, z.2.2.2⟩
    · simp only [st_j e]; exact z
  · have z := hJ3 i p1 p2
    show (st (st sg 111 x (sg 110 x * 90 / 100)) 112 x (sg 506 0) 112 i = -1 → st sg 111 x (sg 110 x * 90 / 100) 111 i = 0) ∧ (sg 114 i = 0 → sg 113 i = 0)
    by_cases e : i = x
    · subst e
      rw [st_s]
      exact ⟨fun y => by omega, z.2⟩
    · simp only [st_j e]; exact z
  · have z := hZ.1 i p1 p2
    have e : i ≠ x := fun e => by have p3 : sg 503 0 ≤ i := p1; omega
    show mu 1020 i = 0 ∧ mu 1021 i = 0 ∧ st (st (st (st mu 900 0 0) 1023 x (mu 1021 x * 90 / 100)) 1024 x (mu 901 0)) 1022 x (mu 1022 x + mu 1021 x * 90 / 100) 1022 i = 0 ∧ st (st mu 900 0 0) 1023 x (mu 1021 x * 90 / 100) 1023 i = 0 ∧ mu 1025 i = 0 ∧ mu 1034 i = 0
    simp only [st_j e]; exact z
  · have z := sumN_st (mu := st (st (st mu 900 0 0) 1023 x (mu 1021 x * 90 / 100)) 1024 x (mu 901 0)) (F := 1022) (v := mu 1022 x + mu 1021 x * 90 / 100) hx.1 (sg 503 0).toNat
    rw [if_pos (by omega)] at z
    have z2 : sumN (fun q => st (st (st mu 900 0 0) 1023 x (mu 1021 x * 90 / 100)) 1024 x (mu 901 0) 1022 q) (sg 503 0).toNat = sumN (fun q => mu 1022 q) (sg 503 0).toNat := rfl
    have z3 : st (st (st mu 900 0 0) 1023 x (mu 1021 x * 90 / 100)) 1024 x (mu 901 0) 1022 x = mu 1022 x := rfl
    rw [z2, z3] at z
    show sg 508 0 + sg 110 x * 90 / 100 = sumN (fun q => st (st (st (st mu 900 0 0) 1023 x (mu 1021 x * 90 / 100)) 1024 x (mu 901 0)) 1022 x (mu 1022 x + mu 1021 x * 90 / 100) 1022 q) (sg 503 0).toNat
    rw [z, hT.2.1, sx]; omega
theorem s_advance {sg mu : Nat → Int → Int} (h : Rel sg mu) (hG : GC sg) (hM : GM mu) (x : Int) : SimW [1, 3] (advE sg x) (advME mu x) (sg 110 (iAt sg x) * 90 / 100) (mu 1021 x * 90 / 100) sg (st (st (st sg 111 (iAt sg x) (sg 110 (iAt sg x) * 90 / 100)) 112 (iAt sg x) (sg 506 0)) 508 0 (sg 508 0 + sg 110 (iAt sg x) * 90 / 100)) mu (st (st (st (st mu 900 0 0) 1023 x (mu 1021 x * 90 / 100)) 1024 x (mu 901 0)) 1022 x (mu 1022 x + mu 1021 x * 90 / 100)) := by
  have hS : RSc sg mu := h.1
  have hS2 := hS.2.1
  by_cases hx : 0 ≤ x ∧ x < sg 503 0
  · have hp := iAt_q hx
    have hPS : RPS sg mu := h.2.2.1
    have hIA : RIA sg mu := h.2.2.2.2.2.2.2.2.1
    have hIS : RIS sg mu := h.2.2.2.2.2.2.2.2.2.2.1
    have hIP : RIP sg mu := h.2.2.2.2.2.2.2.2.2.2.2.1
    have h1 := (hIA x hx.1 hx.2).2.1
    have h2 := gr_102 hG x
    have h3 := (hPS (sg 102 x) (by omega) (by omega)).2.2.1
    have h4 := hIP x hx.1 hx.2
    have e : (advE sg x = 0 ∧ advME mu x = 0 ∧ sg 112 x = -1 ∧ sg 114 x = 0) ∨ (advE sg x = 3 ∧ advME mu x = 2) := by
      unfold advE advME
      rw [hp, h1, h3, h4.2.2.1, h4.2.2.2]
      (repeat' split) <;> omega
    rw [hp]
    rcases e with ⟨z1, z2, z3, z4⟩ | ⟨z1, z2⟩
    · exact w13_0 h hG hM z1 z2 (by rw [hIS x hx.1 hx.2]) (r_advance h hG hM hx z3 z4)
    · exact w13_2 h hG hM z1 z2
  · have hp := iAt_n hx
    exact w13_1 h hG hM (by unfold advE; rw [hp, if_pos (by decide)]) (by unfold advME; rw [if_pos (by omega)])
theorem r_settle {sg mu : Nat → Int → Int} (h : Rel sg mu) (hG : GC sg) (hM : GM mu) {x o : Int} (hx : 0 ≤ x ∧ x < sg 503 0) (ho : -9000000 ≤ o ∧ o ≤ 9000000) (k4 : sg 114 x = 0) :
    Rel (st (st (st sg 113 x o) 114 x 1) 508 0 (sg 508 0 + o)) (st (st (st mu 900 0 0) 1022 x (mu 1022 x + o)) 1025 x 1) ∧ GC (st (st (st sg 113 x o) 114 x 1) 508 0 (sg 508 0 + o)) ∧ GM (st (st (st mu 900 0 0) 1022 x (mu 1022 x + o)) 1025 x 1) := by
  obtain ⟨hS, hPA, hPS, hPN, hPO, hPL, hJ1, hJ2, hIA, hIN, hIS, hIP, hJ3, hJ8, hJ4, hZ, hK, hPR, hJ5, hT⟩ := h
  have zx := hIP x hx.1 hx.2
  have jx := hJ3 x hx.1 hx.2
  have j2 := jx.2 k4
  refine ⟨⟨hS, hPA, hPS, hPN, hPO, hPL, hJ1, hJ2, hIA, hIN, hIS, fun i p1 p2 => ?_, fun i p1 p2 => ?_, hJ8, hJ4, ⟨fun i p1 p2 => ?_, hZ.2⟩, hK, RPR_ext hPR rfl rfl rfl rfl rfl, hJ5, ⟨hT.1, ?_, hT.2.2⟩⟩, gc_508 (gc_114 (gc_113 hG x (by omega)) x (by decide)) 0 trivial, gc_1025 (gc_1022 (gc_900 hM 0 (by decide)) x trivial) x (by decide)⟩
  · have z := hIP i p1 p2
    show st (st mu 900 0 0) 1022 x (mu 1022 x + o) 1022 i = sg 111 i + st sg 113 x o 113 i ∧ mu 1023 i = sg 111 i ∧ mu 1024 i = sg 112 i ∧ st (st (st mu 900 0 0) 1022 x (mu 1022 x + o)) 1025 x 1 1025 i = st (st sg 113 x o) 114 x 1 114 i
    by_cases e : i = x
    · subst e
      rw [st_s, st_s, st_s, st_s]
      exact ⟨by omega, z.2.1, z.2.2.1, rfl⟩
    · simp only [st_j e]; exact z
  · have z := hJ3 i p1 p2
    show (sg 112 i = -1 → sg 111 i = 0) ∧ (st (st sg 113 x o) 114 x 1 114 i = 0 → st sg 113 x o 113 i = 0)
    by_cases e : i = x
    · subst e
      rw [st_s]
      exact ⟨z.1, fun y => absurd y (by decide)⟩
    · simp only [st_j e]; exact z
  · have z := hZ.1 i p1 p2
    have e : i ≠ x := fun e => by have p3 : sg 503 0 ≤ i := p1; omega
    show mu 1020 i = 0 ∧ mu 1021 i = 0 ∧ st (st mu 900 0 0) 1022 x (mu 1022 x + o) 1022 i = 0 ∧ mu 1023 i = 0 ∧ st (st (st mu 900 0 0) 1022 x (mu 1022 x + o)) 1025 x 1 1025 i = 0 ∧ mu 1034 i = 0
    simp only [st_j e]; exact z
  · have z := sumN_st (mu := st mu 900 0 0) (F := 1022) (v := mu 1022 x + o) hx.1 (sg 503 0).toNat
    rw [if_pos (by omega)] at z
    have z2 : sumN (fun q => st mu 900 0 0 1022 q) (sg 503 0).toNat = sumN (fun q => mu 1022 q) (sg 503 0).toNat := rfl
    have z3 : st mu 900 0 0 1022 x = mu 1022 x := rfl
    rw [z2, z3] at z
    show sg 508 0 + o = sumN (fun q => st (st mu 900 0 0) 1022 x (mu 1022 x + o) 1022 q) (sg 503 0).toNat
    rw [z, hT.2.1]; omega
theorem s_settle {sg mu : Nat → Int → Int} (h : Rel sg mu) (hG : GC sg) (hM : GM mu) (x : Int) : SimW [1, 3] (setE sg x) (setME mu x) (owedO sg (iAt sg x)) (mOwed mu x) sg (st (st (st sg 113 (iAt sg x) (owedO sg (iAt sg x))) 114 (iAt sg x) 1) 508 0 (sg 508 0 + owedO sg (iAt sg x))) mu (st (st (st mu 900 0 0) 1022 x (mu 1022 x + mOwed mu x)) 1025 x 1) := by
  have hS : RSc sg mu := h.1
  have hS2 := hS.2.1
  by_cases hx : 0 ≤ x ∧ x < sg 503 0
  · have hp := iAt_q hx
    have hPS : RPS sg mu := h.2.2.1
    have hIA : RIA sg mu := h.2.2.2.2.2.2.2.2.1
    have hIP : RIP sg mu := h.2.2.2.2.2.2.2.2.2.2.2.1
    have h1 := (hIA x hx.1 hx.2).2.1
    have h2 := gr_102 hG x
    have h3 := (hPS (sg 102 x) (by omega) (by omega)).2.2.1
    have h4 := hIP x hx.1 hx.2
    have h5 := owedO_rng hG x
    have e : (setE sg x = 0 ∧ setME mu x = 0 ∧ sg 114 x = 0) ∨ (setE sg x = 3 ∧ setME mu x = 2) := by
      unfold setE setME
      rw [hp, h1, h3, h4.2.2.2]
      (repeat' split) <;> omega
    rw [hp, e_owed h hG hx]
    rcases e with ⟨z1, z2, z3⟩ | ⟨z1, z2⟩
    · exact w13_0 h hG hM z1 z2 rfl (r_settle h hG hM hx (by omega) z3)
    · exact w13_2 h hG hM z1 z2
  · have hp := iAt_n hx
    exact w13_1 h hG hM (by unfold setE; rw [hp, if_pos (by decide)]) (by unfold setME; rw [if_pos (by omega)])
