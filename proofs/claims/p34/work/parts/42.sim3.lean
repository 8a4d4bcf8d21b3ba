def SimP (hk : List Int) (E EM r rM : Int) : Prop := kWo hk E = EM ∧ (E = 0 ↔ EM = 0) ∧ (E = 0 → r = rM) ∧ 0 ≤ EM ∧ EM ≤ 3
def SimW (hk : List Int) (E EM r rM : Int) (sg T mu TM : Nat → Int → Int) : Prop := SimP hk E EM r rM ∧ Rel (if E = 0 then T else sg) (mT mu EM TM) ∧ GC (if E = 0 then T else sg) ∧ GM (mT mu EM TM)
theorem simP_1 {a E EM r rM : Int} (ha : a ≠ 0) (h : (E = a ∧ EM = 1) ∨ (E = 0 ∧ EM = 0 ∧ r = rM)) : SimP [a] E EM r rM := by
  unfold SimP
  rw [kWo_1]
  rcases h with ⟨h1, h2⟩ | ⟨h1, h2, h3⟩
  · exact ⟨by rw [if_pos h1, h2], ⟨fun z => absurd (h1.symm.trans z) ha, fun z => by omega⟩, fun z => absurd (h1.symm.trans z) ha, by omega, by omega⟩
  · exact ⟨by rw [if_neg (fun z => ha (z.symm.trans h1)), h2], ⟨fun _ => h2, fun _ => h1⟩, fun _ => h3, by omega, by omega⟩
theorem simP_2 {a b E EM r rM : Int} (ha : a ≠ 0) (hb : b ≠ 0) (hab : a ≠ b) (h : (E = a ∧ EM = 1) ∨ (E = b ∧ EM = 2) ∨ (E = 0 ∧ EM = 0 ∧ r = rM)) : SimP [a, b] E EM r rM := by
  unfold SimP
  rw [kWo_2]
  rcases h with ⟨h1, h2⟩ | ⟨h1, h2⟩ | ⟨h1, h2, h3⟩
  · exact ⟨by rw [if_pos h1, h2], ⟨fun z => absurd (h1.symm.trans z) ha, fun z => by omega⟩, fun z => absurd (h1.symm.trans z) ha, by omega, by omega⟩
  · exact ⟨by rw [if_neg (by omega), if_pos h1, h2], ⟨fun z => absurd (h1.symm.trans z) hb, fun z => by omega⟩, fun z => absurd (h1.symm.trans z) hb, by omega, by omega⟩
  · exact ⟨by rw [if_neg (by omega), if_neg (by omega), h2], ⟨fun _ => h2, fun _ => h1⟩, fun _ => h3, by omega, by omega⟩
theorem simP_3 {E EM r rM : Int} (h : (E = 1 ∧ EM = 1) ∨ (E = 2 ∧ EM = 2) ∨ (E = 3 ∧ EM = 3) ∨ (E = 0 ∧ EM = 0 ∧ r = rM)) : SimP [1, 2, 3] E EM r rM := by
  unfold SimP
  rw [kWo_3]
  rcases h with ⟨h1, h2⟩ | ⟨h1, h2⟩ | ⟨h1, h2⟩ | ⟨h1, h2, h3⟩ <;> rw [h1, h2]
  · exact ⟨rfl, by decide, fun z => absurd z (by decide), by decide, by decide⟩
  · exact ⟨rfl, by decide, fun z => absurd z (by decide), by decide, by decide⟩
  · exact ⟨rfl, by decide, fun z => absurd z (by decide), by decide, by decide⟩
  · exact ⟨rfl, by decide, fun _ => h3, by decide, by decide⟩
theorem simW_of {hk : List Int} {E EM r rM : Int} {sg T mu TM : Nat → Int → Int} (h : Rel sg mu) (hG : GC sg) (hM : GM mu) (hp : SimP hk E EM r rM) (h0 : E = 0 → Rel T TM ∧ GC T ∧ GM TM) : SimW hk E EM r rM sg T mu TM := by
  refine ⟨hp, ?_⟩
  by_cases z : E = 0
  · have hz := hp.2.1.mp z
    rw [if_pos z, mT_0 hz]
    exact h0 z
  · have hz : EM ≠ 0 := fun y => z (hp.2.1.mpr y)
    unfold mT
    rw [if_neg z, if_neg hz]
    exact ⟨Rel9 h _, hG, gc_900 hM 0 hp.2.2.2⟩
theorem s_worth {sg mu : Nat → Int → Int} (h : Rel sg mu) (hG : GC sg) (x d : Int) : SimP [1, 2] (worthE sg x d) (worthME mu x d) (worthB sg (pAt x) (prOn sg (sg 202 (pAt x)) d)) (mWorth mu x d) := by
  have hS : RSc sg mu := h.1
  have hS1 := hS.1
  refine simP_2 (by decide) (by decide) (by decide) ?_
  by_cases hx : 0 ≤ x ∧ x ≤ 35
  · have hp := pAt_q hx
    by_cases hd : 0 ≤ d ∧ d ≤ sg 506 0
    · exact Or.inr (Or.inr ⟨(by unfold worthE; (repeat' split) <;> omega), (by unfold worthME; (repeat' split) <;> omega), by rw [hp]; exact (e_worth h hG (by omega) hd).symm⟩)
    · exact Or.inr (Or.inl ⟨(by unfold worthE; (repeat' split) <;> omega), (by unfold worthME; (repeat' split) <;> omega)⟩)
  · have hp := pAt_n hx
    exact Or.inl ⟨(by unfold worthE; (repeat' split) <;> omega), (by unfold worthME; (repeat' split) <;> omega)⟩
theorem s_market {sg mu : Nat → Int → Int} (h : Rel sg mu) (hG : GC sg) (x : Int) : SimP [1] (pE x) (pME x) (marketR sg (pAt x)) (mMarket mu x) := by
  refine simP_1 (by decide) ?_
  unfold pE pME
  by_cases hx : 0 ≤ x ∧ x ≤ 35
  · rw [pAt_q hx, if_neg (by omega), if_neg (by omega)]
    refine Or.inr ⟨rfl, rfl, ?_⟩
    have hPS : RPS sg mu := h.2.2.1
    have hPN : RPN sg mu := h.2.2.2.1
    have h1 := (hPS x (by omega) (by omega)).1
    have h2 := hPN x (by omega) (by omega)
    have h3 := needO_rng hG x
    have h4 : bI (mBeside mu x) = bI (beside sg (sg 200 x)) := by
      rw [gn_200 hG (q := x) (by omega)]
      exact bI_congr (e_beside hPN (by omega) hG)
    unfold marketR mMarket
    rw [h1, h2, e_worthT h hG (by omega), h4]
    by_cases z : sg 203 x ≠ 0
    · rw [if_pos z, if_pos z]
    · rw [if_neg z, if_neg z]
      by_cases y : 0 ≤ needO sg x
      · rw [if_pos y, if_pos (show needO sg x ≠ -1 by omega)]
      · rw [if_neg y, if_neg (show ¬ needO sg x ≠ -1 by omega)]
  · rw [pAt_n hx, if_pos (by decide), if_pos hx]
    exact Or.inl ⟨rfl, rfl⟩
theorem s_plotOf {sg mu : Nat → Int → Int} (h : Rel sg mu) (hG : GC sg) (x w : Int) : SimP [1, 2] (plotOfE x w) (plotOfME x w) (plotOfR sg (pAt x) w) (mPlotR mu x w) := by
  refine simP_2 (by decide) (by decide) (by decide) ?_
  by_cases hx : 0 ≤ x ∧ x ≤ 35
  · have hp := pAt_q hx
    by_cases hw : 0 ≤ w ∧ w ≤ 8
    · refine Or.inr (Or.inr ⟨(by unfold plotOfE; (repeat' split) <;> omega), (by unfold plotOfME; (repeat' split) <;> omega), ?_⟩)
      rw [hp]
      obtain ⟨hS, hPA, hPS, hPN, hPO, hPL, hJ1, hJ2, hIA, hIN, hIS, hIP, hJ3, hJ8, hJ4, hZ, hK, hPR, hJ5, hT⟩ := h
      have a1 := hPA x (by omega) (by omega)
      have a2 := hPS x (by omega) (by omega)
      have a3 := hPN x (by omega) (by omega)
      have a4 := hPO x (by omega) (by omega)
      have a5 := needO_rng hG x
      have a6 := gp_209 hG x
      unfold plotOfR mPlotR opt
      rw [a1.1, a1.2, a2.1, a2.2.1, a2.2.2.1, a2.2.2.2, a3, a4.1, a4.2]
      (repeat' split) <;> omega
    · exact Or.inr (Or.inl ⟨(by unfold plotOfE; (repeat' split) <;> omega), (by unfold plotOfME; (repeat' split) <;> omega)⟩)
  · have hp := pAt_n hx
    exact Or.inl ⟨(by unfold plotOfE; (repeat' split) <;> omega), (by unfold plotOfME; (repeat' split) <;> omega)⟩
theorem s_interestOf {sg mu : Nat → Int → Int} (h : Rel sg mu) (hG : GC sg) (x w : Int) : SimP [1, 2] (interE sg x w) (interME mu x w) (interR sg (iAt sg x) w) (mInterR mu x w) := by
  have hS : RSc sg mu := h.1
  refine simP_2 (by decide) (by decide) (by decide) ?_
  have hS1 := hS.2.1
  by_cases hx : 0 ≤ x ∧ x < sg 503 0
  · have hp := iAt_q hx
    by_cases hw : 0 ≤ w ∧ w ≤ 8
    · refine Or.inr (Or.inr ⟨(by unfold interE; (repeat' split) <;> omega), (by unfold interME; (repeat' split) <;> omega), ?_⟩)
      rw [hp]
      obtain ⟨hS, hPA, hPS, hPN, hPO, hPL, hJ1, hJ2, hIA, hIN, hIS, hIP, hJ3, hJ8, hJ4, hZ, hK, hPR, hJ5, hT⟩ := h
      have a1 := hIA x hx.1 hx.2
      have a2 := hIN x hx.1 hx.2
      have a3 := hIS x hx.1 hx.2
      have a4 := hIP x hx.1 hx.2
      have a5 := gr_102 hG x
      unfold interR mInterR opt
      rw [a1.1, a1.2.1, a1.2.2.1, a1.2.2.2.1, a1.2.2.2.2.1, a2.1, a2.2, a3, a4.1]
      (repeat' split) <;> omega
    · exact Or.inr (Or.inl ⟨(by unfold interE; (repeat' split) <;> omega), (by unfold interME; (repeat' split) <;> omega)⟩)
  · have hp := iAt_n hx
    exact Or.inl ⟨(by unfold interE; (repeat' split) <;> omega), (by unfold interME; (repeat' split) <;> omega)⟩
theorem s_whoStops {sg mu : Nat → Int → Int} (h : Rel sg mu) (hG : GC sg) (w : Int) : SimP [1] (sE sg w) (sME mu w) (whoR sg (sAt sg w)) (mWhoR mu w) := by
  have hS : RSc sg mu := h.1
  refine simP_1 (by decide) ?_
  unfold sE sME
  rw [hS.2.2]
  by_cases hx : 0 ≤ w ∧ w < sg 505 0
  · rw [sAt_q hx, if_neg (by omega), if_neg (by omega)]
    refine Or.inr ⟨rfl, rfl, ?_⟩
    obtain ⟨hS, hPA, hPS, hPN, hPO, hPL, hJ1, hJ2, hIA, hIN, hIS, hIP, hJ3, hJ8, hJ4, hZ, hK, hPR, hJ5, hT⟩ := h
    have a1 := (hK w hx.1 hx.2).2.2.1
    have a2 := stopper_rng (sg := sg) w
    unfold whoR mWhoR opt
    rw [a1, e_stop hS hPN hPS hIA hIN hG hx.1]
    (repeat' split) <;> omega
  · rw [sAt_n hx, if_pos (by decide), if_pos (by omega)]
    exact Or.inl ⟨rfl, rfl⟩
theorem s_schemeOf {sg mu : Nat → Int → Int} (h : Rel sg mu) (x w : Int) : SimP [1, 2] (schemeOfE sg x w) (schemeOfME mu x w) (schemeOfR sg (sAt sg x) w) (mSchemeR mu x w) := by
  have hS : RSc sg mu := h.1
  refine simP_2 (by decide) (by decide) (by decide) ?_
  have hS1 := hS.2.2
  by_cases hx : 0 ≤ x ∧ x < sg 505 0
  · have hp := sAt_q hx
    by_cases hw : 0 ≤ w ∧ w ≤ 3
    · refine Or.inr (Or.inr ⟨(by unfold schemeOfE; (repeat' split) <;> omega), (by unfold schemeOfME; (repeat' split) <;> omega), ?_⟩)
      rw [hp]
      have hPN : RPN sg mu := h.2.2.2.1
      obtain ⟨hS, hPA, hPS, -, hPO, hPL, hJ1, hJ2, hIA, hIN, hIS, hIP, hJ3, hJ8, hJ4, hZ, hK, hPR, hJ5, hT⟩ := h
      have a1 := hK x hx.1 hx.2
      unfold schemeOfR mSchemeR
      rw [a1.2.2.1, a1.2.2.2.1, a1.2.2.2.2, e_need hPN hx.1]
    · exact Or.inr (Or.inl ⟨(by unfold schemeOfE; (repeat' split) <;> omega), (by unfold schemeOfME; (repeat' split) <;> omega)⟩)
  · have hp := sAt_n hx
    exact Or.inl ⟨(by unfold schemeOfE; (repeat' split) <;> omega), (by unfold schemeOfME; (repeat' split) <;> omega)⟩
theorem s_owed {sg mu : Nat → Int → Int} (h : Rel sg mu) (hG : GC sg) (x : Int) : SimP [1] (iE sg x) (iME mu x) (owedO sg (iAt sg x)) (mOwed mu x) := by
  have hS : RSc sg mu := h.1
  refine simP_1 (by decide) ?_
  unfold iE iME
  rw [hS.2.1]
  by_cases hx : 0 ≤ x ∧ x < sg 503 0
  · rw [iAt_q hx, if_neg (by omega), if_neg (by omega)]
    exact Or.inr ⟨rfl, rfl, (e_owed h hG hx).symm⟩
  · rw [iAt_n hx, if_pos (by decide), if_pos (by omega)]
    exact Or.inl ⟨rfl, rfl⟩
theorem s_sumAnew {sg mu : Nat → Int → Int} (h : Rel sg mu) (hG : GC sg) (x : Int) : SimP [1] (iE sg x) (iME mu x) (anewR sg (iAt sg x)) (mAnewR mu x) := by
  have hS : RSc sg mu := h.1
  refine simP_1 (by decide) ?_
  unfold iE iME
  rw [hS.2.1]
  by_cases hx : 0 ≤ x ∧ x < sg 503 0
  · rw [iAt_q hx, if_neg (by omega), if_neg (by omega)]
    refine Or.inr ⟨rfl, rfl, ?_⟩
    obtain ⟨hS, hPA, hPS, hPN, hPO, hPL, hJ1, hJ2, hIA, hIN, hIS, hIP, hJ3, hJ8, hJ4, hZ, hK, hPR, hJ5, hT⟩ := h
    have a1 := (hIA x hx.1 hx.2).2.1
    have a2 := gr_102 hG x
    have a3 := (hPS (sg 102 x) (by omega) (by omega)).2.2.1
    have a4 := hPL (sg 102 x) (by omega) (by omega)
    unfold anewR mAnewR
    rw [a1, a3]
    by_cases z : sg 206 (sg 102 x) = -1
    · rw [if_pos z]
      first | rw [if_pos z] | rw [if_neg (by omega)] | rw [if_neg (fun y => y z)]
    · rw [if_neg z]
      rw [if_neg z] at a4
      rw [e_sum hS hPA hPS hIA hG hx a4]
      first | rw [if_neg z] | rw [if_pos z]
  · rw [iAt_n hx, if_pos (by decide), if_pos (by omega)]
    exact Or.inl ⟨rfl, rfl⟩
theorem s_creditors {sg mu : Nat → Int → Int} (h : Rel sg mu) (hG : GC sg) (u : Int) : SimP [1] (credE u) (credME u) (credR sg u) (mCred mu u) := by
  refine simP_1 (by decide) ?_
  by_cases hu : 0 ≤ u ∧ u ≤ 9
  · exact Or.inr ⟨(by unfold credE; (repeat' split) <;> omega), (by unfold credME; (repeat' split) <;> omega), (e_cred h hG).symm⟩
  · exact Or.inl ⟨(by unfold credE; (repeat' split) <;> omega), (by unfold credME; (repeat' split) <;> omega)⟩
theorem sumN_0 : ∀ n : Nat, sumN (fun _ => 0) n = 0
  | 0 => rfl
  | n + 1 => by
    have h := sumN_0 n
    show sumN (fun _ => 0) n + 0 = 0
    omega
theorem s_total {sg mu : Nat → Int → Int} (h : Rel sg mu) (w : Int) : SimP [2] (totalE w) (totME w) (totalR sg w) (mTot2 mu w 36) := by
  refine simP_1 (by decide) ?_
  unfold totalE totME
  by_cases hw : 0 ≤ w ∧ w ≤ 4
  · rw [if_neg (by omega), if_neg (by omega)]
    refine Or.inr ⟨rfl, rfl, ?_⟩
    obtain ⟨hS, hPA, hPS, hPN, hPO, hPL, hJ1, hJ2, hIA, hIN, hIS, hIP, hJ3, hJ8, hJ4, hZ, hK, hPR, hJ5, hT⟩ := h
    obtain ⟨t0, t1, t2, t3, t4⟩ := hT
    have z1 := sumN_0 (sg 503 0).toNat
    have z2 := sumN_0 36
    unfold totalR mTot2 mTot1
    rw [hS.2.1]
    rcases (show w = 0 ∨ w = 1 ∨ w = 2 ∨ w = 3 ∨ w = 4 by omega) with e | e | e | e | e <;> subst e
    · show sg 507 0 = 0 + sumN (fun q => mu 1021 q) (sg 503 0).toNat + sumN (fun _ => 0) 36
      omega
    · show sg 508 0 = 0 + sumN (fun q => mu 1022 q) (sg 503 0).toNat + sumN (fun _ => 0) 36
      omega
    · show sg 509 0 = mu 932 0 + sumN (fun _ => 0) (sg 503 0).toNat + sumN (fun _ => 0) 36
      omega
    · show sg 510 0 = mu 933 0 + sumN (fun _ => 0) (sg 503 0).toNat + sumN (fun _ => 0) 36
      omega
    · show sg 511 0 = 0 + sumN (fun _ => 0) (sg 503 0).toNat + sumN (fun q => mu 1012 q) 36
      omega
  · rw [if_pos (by omega), if_pos hw]
    exact Or.inl ⟨rfl, rfl⟩
