/-! what the class answers, in the law's words -/
theorem a_draft {sg mu : Nat → Int → Int} (h : LR sg mu) (hG : GC sg) (hL : GL mu) {x K : Int} (hx : 0 ≤ x ∧ x < sg 503 0) (hK : K = mu 1001 (24 + x)) : (0 ≤ K ∧ K ≤ 3) ∧ sg 102 x = pl K ∧ ((mu 1000 (8 * K + 2) = 0 ∧ 0 ≤ mu 1000 (8 * K + 3) ∧ mu 1011 (mu 1000 (8 * K + 3)) = 0) → draftO sg (sg 102 x) = mu 1000 (8 * K + 3) ∧ mu 1000 (8 * K + 3) ≤ 1 ∧ sg 203 (pl K) = 0 ∧ sg 403 (needO sg (pl K)) = 0) ∧ (¬ (mu 1000 (8 * K + 2) = 0 ∧ 0 ≤ mu 1000 (8 * K + 3) ∧ mu 1011 (mu 1000 (8 * K + 3)) = 0) → draftO sg (sg 102 x) = -1) := by
  obtain ⟨hP, hS, hN, hO, hX, hA, hI, hM, hZ, hKK, hQ, hT, hJ⟩ := h
  have y := l_plot hL hA hx
  rw [← hK] at y
  have r := pl_rng K
  have s := (hS K y.1.1 y.1.2).1
  have n := hN K y.1.1 y.1.2
  have nr := needO_in hG (pl K)
  have k5 := hKK.1
  refine ⟨y.1, y.2, fun z => ?_, fun z => ?_⟩
  · obtain ⟨z1, z2, z3⟩ := z
    have k1 := (hKK.2 (mu 1000 (8 * K + 3)) z2 (by omega)).1
    rw [n] at k1
    rw [n] at z3
    unfold draftO
    rw [y.2, if_pos ⟨by omega, by omega, by omega, by omega⟩]
    exact ⟨n.symm, by omega, by omega, by omega⟩
  · unfold draftO
    rw [y.2, if_neg]
    rintro ⟨z1, z2, z3, z4⟩
    have k1 := (hKK.2 (needO sg (pl K)) z3 (by omega)).1
    exact z ⟨by omega, by omega, by rw [n, k1]; exact z4⟩
theorem a_notice {sg mu : Nat → Int → Int} (h : LR sg mu) (hG : GC sg) {x d : Int} (hx : 0 ≤ x ∧ x < sg 503 0) (hd : draftO sg (sg 102 x) = d) : ((0 ≤ d ∧ mu 1004 x < 0) → noticeE sg x = 0) ∧ (¬ (0 ≤ d ∧ mu 1004 x < 0) → noticeE sg x = 3) := by
  obtain ⟨hP, hS, hN, hO, hX, hA, hI, hM, hZ, hKK, hQ, hT, hJ⟩ := h
  have z := (hI x hx.1 hx.2).1
  have r := gr_107 hG x
  unfold noticeE
  rw [iAt_q hx, hd, if_neg (by omega), z]
  constructor
  · intro y; rw [if_neg (by omega)]
  · intro y; rw [if_pos (by omega)]
theorem w_0 {a b : Int} : wO a b = 0 ↔ a = 0 ∧ b = 0 := by unfold wO; (repeat' split) <;> omega
theorem w_1 {a b : Int} : wO a b = 1 ↔ a ≠ 0 := by unfold wO; (repeat' split) <;> omega
theorem a_object {sg mu : Nat → Int → Int} (h : LR sg mu) (hG : GC sg) (hV : Inv sg) {x d : Int} (hx : 0 ≤ x ∧ x < sg 503 0) (hd : draftO sg (sg 102 x) = d) : ((0 ≤ d ∧ 0 ≤ mu 1004 x ∧ sg 506 0 - mu 1004 x ≤ 21 ∧ mu 1005 x = 0) → objectE sg x = 0) ∧ (¬ (0 ≤ d ∧ 0 ≤ mu 1004 x ∧ sg 506 0 - mu 1004 x ≤ 21 ∧ mu 1005 x = 0) → objectE sg x = 3) := by
  obtain ⟨hP, hS, hN, hO, hX, hA, hI, hM, hZ, hKK, hQ, hT, hJ⟩ := h
  have z := hI x hx.1 hx.2
  have r := gr_107 hG x
  have j8 := inv_J8 hV x hx.1 hx.2
  have e0 : mu 1005 x = 0 ↔ sg 108 x = 0 := by
    rw [z.2, w_0]
    constructor
    · exact fun y => y.2
    · intro y; exact ⟨Classical.byContradiction fun q => j8 q y, y⟩
  unfold objectE
  rw [iAt_q hx, hd, if_neg (by omega), z.1]
  constructor
  · rintro ⟨y1, y2, y3, y4⟩
    have y5 := e0.mp y4
    rw [if_neg (by omega)]
  · intro y
    rw [if_pos]
    refine Classical.byContradiction fun q => y ⟨by omega, by omega, by omega, e0.mpr (by omega)⟩
theorem a_hear {sg mu : Nat → Int → Int} (h : LR sg mu) {x d : Int} (hx : 0 ≤ x ∧ x < sg 503 0) (hd : draftO sg (sg 102 x) = d) : ((0 ≤ d ∧ mu 1005 x = 1) → hearE sg x = 0 ∧ sg 109 x ≠ 0) ∧ (¬ (0 ≤ d ∧ mu 1005 x = 1) → hearE sg x = 3) := by
  obtain ⟨hP, hS, hN, hO, hX, hA, hI, hM, hZ, hKK, hQ, hT, hJ⟩ := h
  have z := (hI x hx.1 hx.2).2
  have e1 : mu 1005 x = 1 ↔ sg 109 x ≠ 0 := by rw [z, w_1]
  unfold hearE
  rw [iAt_q hx, hd, if_neg (by omega)]
  constructor
  · rintro ⟨y1, y2⟩
    have y3 := e1.mp y2
    exact ⟨if_neg (by omega), y3⟩
  · intro y
    rw [if_pos]
    refine Classical.byContradiction fun q => y ⟨by omega, e1.mpr (by omega)⟩
theorem a_confirm {sg mu : Nat → Int → Int} (h : LR sg mu) (hG : GC sg) (hL : GL mu) {w : Int} (hw : 0 ≤ w ∧ w ≤ 1) : ((mu 1011 w = 0 ∧ 0 < lNeeds mu w 1 ∧ lStops mu (sg 503 0) w (sg 506 0) < 0) → confirmE sg w = 0) ∧ (¬ (mu 1011 w = 0 ∧ 0 < lNeeds mu w 1 ∧ lStops mu (sg 503 0) w (sg 506 0) < 0) → confirmE sg w = 3) ∧ sg 403 w = mu 1011 w ∧ cntFree sg (sAt sg w) = lNeeds mu w 1 ∧ sE sg w = 0 ∧ whoR sg (sAt sg w) = if mu 1011 w = 0 then lStops mu (sg 503 0) w (sg 506 0) else -1 := by
  obtain ⟨hP, hS, hN, hO, hX, hA, hI, hM, hZ, hKK, hQ, hT, hJ⟩ := h
  have k1 := (hKK.2 w hw.1 hw.2).1
  have k5 := hKK.1
  have es : sAt sg w = w := sAt_q ⟨hw.1, by omega⟩
  have ef := l_free hN hS hX hw.1
  have et := l_stops hG hL hS hN hA hI hw.1
  have cr := cntFree_rng sg w
  have sr := stopper_rng (sg := sg) w
  rw [ef, et, k1, es]
  refine ⟨fun z => ?_, fun z => ?_, rfl, rfl, ?_, ?_⟩
  · unfold confirmE; rw [es, if_neg (by omega), if_neg (by omega)]
  · unfold confirmE; rw [es, if_neg (by omega), if_pos (by omega)]
  · unfold sE; rw [es, if_neg (by omega)]
  · unfold whoR; rw [opt_q sr.1]
theorem a_enter {sg mu : Nat → Int → Int} (h : LR sg mu) (hG : GC sg) {k : Int} (hk : 0 ≤ k ∧ k ≤ 3) : ((mu 1000 (8 * k + 2) = 0 ∧ 0 ≤ mu 1000 (8 * k + 3) ∧ mu 1011 (mu 1000 (8 * k + 3)) = 1 ∧ sg 506 0 - mu 1011 (2 + mu 1000 (8 * k + 3)) ≤ 1095) → enterE sg (pl k) = 0 ∧ sg 203 (pl k) = 0 ∧ 0 ≤ needO sg (pl k)) ∧ (¬ (mu 1000 (8 * k + 2) = 0 ∧ 0 ≤ mu 1000 (8 * k + 3) ∧ mu 1011 (mu 1000 (8 * k + 3)) = 1 ∧ sg 506 0 - mu 1011 (2 + mu 1000 (8 * k + 3)) ≤ 1095) → enterE sg (pl k) = 3) ∧ mu 1000 (8 * k + 3) ≤ 1 := by
  obtain ⟨hP, hS, hN, hO, hX, hA, hI, hM, hZ, hKK, hQ, hT, hJ⟩ := h
  have s := (hS k hk.1 hk.2).1
  have n := hN k hk.1 hk.2
  have nr := needO_in hG (pl k)
  have k5 := hKK.1
  have r := pl_rng k
  unfold enterE
  rw [pl_pAt, if_neg (by omega), s, n]
  refine ⟨fun z => ?_, fun z => ?_, by omega⟩
  · obtain ⟨z1, z2, z3, z4⟩ := z
    obtain ⟨k1, k2, -, -⟩ := hKK.2 (needO sg (pl k)) z2 (by omega)
    rw [k1] at z3
    rw [k2] at z4
    exact ⟨if_neg (by omega), z1, z2⟩
  · rw [if_pos]
    by_cases e : needO sg (pl k) < 0
    · omega
    · obtain ⟨k1, k2, -, -⟩ := hKK.2 (needO sg (pl k)) (by omega) (by omega)
      rw [k1, k2] at z
      omega
theorem a_blight {sg mu : Nat → Int → Int} (h : LR sg mu) (hG : GC sg) (hL : GL mu) {x K : Int} (hx : 0 ≤ x ∧ x < sg 503 0) (hK : K = mu 1001 (24 + x)) : (0 ≤ K ∧ K ≤ 3) ∧ sg 102 x = pl K ∧ mu 1000 (8 * K + 3) ≤ 1 ∧ (mu 1001 x ≠ 0 → blightE sg x = 2) ∧ (mu 1001 x = 0 → (mu 1000 (8 * K + 2) = 0 ∧ mu 1000 (8 * K + 1) = 1 ∧ 0 ≤ mu 1000 (8 * K + 3) ∧ 180 ≤ sg 506 0 - mu 1003 x) → blightE sg x = 0 ∧ sg 203 (pl K) = 0 ∧ 0 ≤ needO sg (pl K)) ∧ (mu 1001 x = 0 → ¬ (mu 1000 (8 * K + 2) = 0 ∧ mu 1000 (8 * K + 1) = 1 ∧ 0 ≤ mu 1000 (8 * K + 3) ∧ 180 ≤ sg 506 0 - mu 1003 x) → blightE sg x = 3) := by
  obtain ⟨hP, hS, hN, hO, hX, hA, hI, hM, hZ, hKK, hQ, hT, hJ⟩ := h
  have y := l_plot hL hA hx
  rw [← hK] at y
  have s := (hS K y.1.1 y.1.2).1
  have n := hN K y.1.1 y.1.2
  have p2 := (hP K y.1.1 y.1.2).2
  have nr := needO_in hG (pl K)
  have k5 := hKK.1
  obtain ⟨y1, y2, y3, y4, y5, y6⟩ := hA x hx.1 hx.2
  unfold blightE
  rw [iAt_q hx, if_neg (by omega), y1, y.2, s, n, p2, y4]
  refine ⟨y.1, rfl, by omega, fun z => if_pos z, fun z1 z => ?_, fun z1 z => ?_⟩
  · exact ⟨by rw [if_neg (by omega), if_neg (by omega)], z.1, z.2.2.1⟩
  · rw [if_neg (by omega), if_pos (by omega)]
theorem a_works {sg mu : Nat → Int → Int} (h : LR sg mu) (hG : GC sg) {k : Int} (hk : 0 ≤ k ∧ k ≤ 3) : ((mu 1000 (8 * k + 2) = 1 ∧ mu 1000 (8 * k + 6) = 0 ∧ 0 ≤ mu 1000 (8 * k + 3)) → worksE sg (pl k) = 0) ∧ (¬ (mu 1000 (8 * k + 2) = 1 ∧ mu 1000 (8 * k + 6) = 0 ∧ 0 ≤ mu 1000 (8 * k + 3)) → worksE sg (pl k) = 3) := by
  obtain ⟨hP, hS, hN, hO, hX, hA, hI, hM, hZ, hKK, hQ, hT, hJ⟩ := h
  have s := hS k hk.1 hk.2
  have n := hN k hk.1 hk.2
  have r := pl_rng k
  unfold worksE
  rw [pl_pAt, if_neg (by omega), s.1, s.2.2.2, n]
  exact ⟨fun z => if_neg (by omega), fun z => if_pos (by omega)⟩
theorem a_drop {sg mu : Nat → Int → Int} (h : LR sg mu) {w : Int} (hw : 0 ≤ w ∧ w ≤ 1) : (mu 1011 w < 2 → dropE sg w = 0) ∧ (¬ mu 1011 w < 2 → dropE sg w = 3 ∨ 2 < sg 403 w) ∧ sAt sg w = w ∧ sg 403 w = mu 1011 w := by
  obtain ⟨hP, hS, hN, hO, hX, hA, hI, hM, hZ, hKK, hQ, hT, hJ⟩ := h
  have k1 := (hKK.2 w hw.1 hw.2).1
  have k5 := hKK.1
  have es : sAt sg w = w := sAt_q ⟨hw.1, by omega⟩
  unfold dropE
  rw [es, if_neg (by omega), k1]
  refine ⟨fun z => if_neg (by omega), fun z => ?_, rfl, rfl⟩
  by_cases e : sg 403 w = 2
  · exact Or.inl (if_pos e)
  · exact Or.inr (by omega)
theorem a_advance {sg mu : Nat → Int → Int} (h : LR sg mu) (hG : GC sg) (hL : GL mu) {x K : Int} (hx : 0 ≤ x ∧ x < sg 503 0) (hK : K = mu 1001 (24 + x)) : (0 ≤ K ∧ K ≤ 3) ∧ mu 1013 x = sg 110 x ∧ ((0 ≤ mu 1000 (8 * K + 5) ∧ mu 1009 x < 0 ∧ mu 1010 x = 0) → advE sg x = 0 ∧ sg 112 x = -1 ∧ sg 114 x = 0) ∧ (¬ (0 ≤ mu 1000 (8 * K + 5) ∧ mu 1009 x < 0 ∧ mu 1010 x = 0) → advE sg x = 3) := by
  obtain ⟨hP, hS, hN, hO, hX, hA, hI, hM, hZ, hKK, hQ, hT, hJ⟩ := h
  have y := l_plot hL hA hx
  rw [← hK] at y
  have s := (hS K y.1.1 y.1.2).2.2.1
  obtain ⟨m1, m2, m3, m4, m5⟩ := hM x hx.1 hx.2
  have r6 := gr_206 hG (pl K)
  have r12 := gr_112 hG x
  unfold advE
  rw [iAt_q hx, if_neg (by omega), y.2, s, m4, m5]
  exact ⟨y.1, m1, fun z => ⟨if_neg (by omega), by omega, by omega⟩, fun z => if_pos (by omega)⟩
theorem a_settle {sg mu : Nat → Int → Int} (h : LR sg mu) (hG : GC sg) (hV : Inv sg) (hL : GL mu) {x K : Int} (hx : 0 ≤ x ∧ x < sg 503 0) (hK : K = mu 1001 (24 + x)) : (0 ≤ K ∧ K ≤ 3) ∧ ((0 ≤ mu 1000 (8 * K + 5) ∧ mu 1010 x = 0) → setE sg x = 0 ∧ sg 114 x = 0 ∧ iE sg x = 0 ∧ owedO sg (iAt sg x) = if mu 1009 x < 0 then mu 1013 x + gainR (mu 1013 x) (sg 506 0 - mu 1000 (8 * K + 5)) else mu 1013 x - mu 1014 x + gainR (mu 1013 x) (mu 1009 x - mu 1000 (8 * K + 5)) + gainR (mu 1013 x - mu 1014 x) (sg 506 0 - mu 1009 x)) ∧ (¬ (0 ≤ mu 1000 (8 * K + 5) ∧ mu 1010 x = 0) → setE sg x = 3) ∧ (0 ≤ mu 1013 x ∧ mu 1013 x ≤ 110000) ∧ (0 ≤ mu 1014 x ∧ mu 1014 x ≤ 110000) := by
  obtain ⟨hP, hS, hN, hO, hX, hA, hI, hM, hZ, hKK, hQ, hT, hJ⟩ := h
  have y := l_plot hL hA hx
  rw [← hK] at y
  have s := (hS K y.1.1 y.1.2).2.2.1
  obtain ⟨m1, m2, m3, m4, m5⟩ := hM x hx.1 hx.2
  have r6 := gr_206 hG (pl K)
  have r10 := gr_110 hG x
  have r11 := gr_111 hG x
  have r12 := gr_112 hG x
  have j3 := (inv_J3 hV x hx.1 hx.2).1
  unfold setE iE owedO gainO
  rw [iAt_q hx, if_neg (by omega), y.2, s, m4, m5, m1, m2]
  refine ⟨y.1, fun z => ⟨if_neg (by omega), by omega, if_neg (by omega), ?_⟩, fun z => if_pos (by omega), r10, r11⟩
  rw [if_neg (by omega)]
  by_cases e : sg 112 x = -1
  · rw [if_pos e, if_pos (by omega), j3 e]; omega
  · rw [if_neg e, if_neg (by omega)]; omega
theorem a_offer {sg mu : Nat → Int → Int} (h : LR sg mu) (hG : GC sg) {k : Int} (hk : 0 ≤ k ∧ k ≤ 3) : (0 ≤ mu 1000 (8 * k + 7) → offE sg (pl k) = 0 ∧ 0 ≤ sg 209 (pl k) ∧ mu 1012 k = sg 210 (pl k)) ∧ (¬ 0 ≤ mu 1000 (8 * k + 7) → offE sg (pl k) = 3) ∧ mu 1000 (8 * k + 7) = sg 209 (pl k) := by
  obtain ⟨hP, hS, hN, hO, hX, hA, hI, hM, hZ, hKK, hQ, hT, hJ⟩ := h
  have o := hO k hk.1 hk.2
  have r := pl_rng k
  unfold offE
  rw [pl_pAt, if_neg (by omega), o.1]
  exact ⟨fun z => ⟨if_neg (by omega), z, o.2 z⟩, fun z => if_pos (by omega), rfl⟩
theorem a_draw {sg mu : Nat → Int → Int} (h : LR sg mu) (hG : GC sg) {w k a : Int} (hw : 0 ≤ w ∧ w ≤ 1) (hk : 0 ≤ k ∧ k ≤ 3) (ha : 1 ≤ a ∧ a ≤ 100) : ((mu 1011 w = 0 ∧ mu 1000 (8 * k + 2) = 0 ∧ mu 1000 (8 * k + 3) < 0) → drawE sg w (pl k) a = 0 ∧ sg 403 w = 0 ∧ sg 203 (pl k) = 0) ∧ (¬ (mu 1011 w = 0 ∧ mu 1000 (8 * k + 2) = 0 ∧ mu 1000 (8 * k + 3) < 0) → drawE sg w (pl k) a = 3) ∧ sAt sg w = w := by
  obtain ⟨hP, hS, hN, hO, hX, hA, hI, hM, hZ, hKK, hQ, hT, hJ⟩ := h
  have s := (hS k hk.1 hk.2).1
  have n := hN k hk.1 hk.2
  have k1 := (hKK.2 w hw.1 hw.2).1
  have k5 := hKK.1
  have r := pl_rng k
  have es : sAt sg w = w := sAt_q ⟨hw.1, by omega⟩
  unfold drawE
  rw [es, pl_pAt, if_neg (by omega), if_neg (by omega), k1, s, n]
  exact ⟨fun z => ⟨if_neg (by omega), z.1, z.2.1⟩, fun z => if_pos (by omega), rfl⟩
theorem a_own {sg mu : Nat → Int → Int} (h : LR sg mu) (hG : GC sg) {k u ms : Int} (hk : 0 ≤ k ∧ k ≤ 3) (hu : 0 ≤ u ∧ u < 10) (hms : 1 ≤ ms ∧ ms ≤ 60) : ownE sg (pl k) u ms = if 100 < ms + shares sg (pl k) then 2 else if mu 1000 (8 * k + 2) ≠ 0 ∨ sg 503 0 = 24 then 3 else 0 := by
  have s := (h.2.1 k hk.1 hk.2).1
  have r := pl_rng k
  unfold ownE
  rw [pl_pAt, if_neg (by omega), s]
  by_cases e : 100 < ms + shares sg (pl k)
  · rw [if_pos e, if_pos (by omega)]
  · rw [if_neg e, if_neg (by omega)]
theorem a_lease {sg mu : Nat → Int → Int} (h : LR sg mu) (hG : GC sg) {k u ms pr : Int} (hk : 0 ≤ k ∧ k ≤ 3) (hu : 0 ≤ u ∧ u < 10) (hms : sg 506 0 + 1 ≤ ms ∧ ms ≤ 30000) (hpr : 0 ≤ pr ∧ pr ≤ 100) : leaseE sg (pl k) u ms pr = if mu 1000 (8 * k + 2) ≠ 0 ∨ sg 503 0 = 24 then 3 else 0 := by
  have s := (h.2.1 k hk.1 hk.2).1
  have r := pl_rng k
  unfold leaseE
  rw [pl_pAt, if_neg (by omega), s, if_neg (by omega)]
theorem a_charge {sg mu : Nat → Int → Int} (h : LR sg mu) (hG : GC sg) {k u ms : Int} (hk : 0 ≤ k ∧ k ≤ 3) (hu : 0 ≤ u ∧ u < 10) (hms : 1 ≤ ms ∧ ms ≤ 100000) : chargeE sg (pl k) u ms = if mu 1000 (8 * k + 2) ≠ 0 ∨ sg 503 0 = 24 then 3 else 0 := by
  have s := (h.2.1 k hk.1 hk.2).1
  have r := pl_rng k
  unfold chargeE
  rw [pl_pAt, if_neg (by omega), s, if_neg (by omega)]
