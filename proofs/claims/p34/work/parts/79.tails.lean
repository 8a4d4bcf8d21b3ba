/-! what the law asks at the end of a turn -/
theorem t_inter {sg mu : Nat → Int → Int} (h : LR sg mu) {j : Int} (hj : 0 ≤ j ∧ j < sg 503 0) : iE sg j = 0 ∧ (∀ w : Int, 0 ≤ w → w ≤ 8 → interE sg j w = 0) ∧ interR sg (iAt sg j) 7 = mu 1013 j ∧ interR sg (iAt sg j) 8 = mu 1015 j ∧ interR sg (iAt sg j) 5 = mu 1004 j ∧ interR sg (iAt sg j) 6 = bI (mu 1005 j = 1) := by
  obtain ⟨hP, hS, hN, hO, hX, hA, hI, hM, hZ, hKK, hQ, hT, hJ⟩ := h
  obtain ⟨m1, m2, m3, m4, m5⟩ := hM j hj.1 hj.2
  obtain ⟨i1, i2⟩ := hI j hj.1 hj.2
  rw [iAt_q hj]
  refine ⟨by unfold iE; rw [iAt_q hj, if_neg (by omega)], fun w a b => by unfold interE; rw [iAt_q hj, if_neg (by omega), if_neg (by omega)], m1.symm, m3.symm, i1.symm, ?_⟩
  show (if sg 109 j = 0 then (0 : Int) else 1) = _
  by_cases e : sg 109 j = 0
  · rw [if_pos e, bI_f (fun z => (w_1.mp (i2.symm.trans z)) e)]
  · rw [if_neg e, bI_t (i2.trans (w_1.mpr e))]
theorem t_anew {sg mu : Nat → Int → Int} (h : LR sg mu) (hV : Inv sg) {j : Int} (hj : 0 ≤ j ∧ j < sg 503 0) : anewR sg (iAt sg j) = mu 1013 j := by
  rw [iAt_q hj, l_anew hV h.2.2.2.2.2.2.2.2.2.2.2.2 hj]
  exact (h.2.2.2.2.2.2.2.1 j hj.1 hj.2).1.symm
theorem t_plot {sg mu : Nat → Int → Int} (h : LR sg mu) (hG : GC sg) {k w : Int} (hk : 0 ≤ k ∧ k ≤ 3) (hw : 2 ≤ w ∧ w ≤ 7) : plotOfE (pl k) w = 0 ∧ plotOfR sg (pAt (pl k)) w = mu 1000 (8 * k + w) := by
  obtain ⟨hP, hS, hN, hO, hX, hA, hI, hM, hZ, hKK, hQ, hT, hJ⟩ := h
  have r := pl_rng k
  obtain ⟨s1, s2, s3, s4⟩ := hS k hk.1 hk.2
  have n := hN k hk.1 hk.2
  have o := (hO k hk.1 hk.2).1
  have nr := needO_in hG (pl k)
  have r8 := gr_208 hG (pl k)
  have r9 := gr_209 hG (pl k)
  refine ⟨by unfold plotOfE; rw [pl_pAt, if_neg (by omega), if_neg (by omega)], ?_⟩
  rw [pl_pAt]
  have hv : w = 2 ∨ w = 3 ∨ w = 4 ∨ w = 5 ∨ w = 6 ∨ w = 7 := by omega
  rcases hv with rfl | rfl | rfl | rfl | rfl | rfl
  · exact s1.symm
  · exact (opt_q nr.1).trans n.symm
  · exact s2.symm
  · exact s3.symm
  · refine Eq.trans ?_ s4.symm
    show (if sg 208 (pl k) = 0 then (0 : Int) else 1) = sg 208 (pl k)
    split <;> omega
  · exact (opt_q (by omega)).trans o.symm
theorem t_off {sg mu : Nat → Int → Int} (h : LR sg mu) (hV : Inv sg) (hG : GC sg) {k : Int} (hk : 0 ≤ k ∧ k ≤ 3) : plotOfE (pl k) 8 = 0 ∧ plotOfR sg (pAt (pl k)) 8 = if mu 1000 (8 * k + 7) < 0 then 0 else mu 1012 k := by
  have r := pl_rng k
  obtain ⟨o1, o2⟩ := h.2.2.2.1 k hk.1 hk.2
  have j2 := (inv_J2 hV (pl k) (by omega) (by omega)).2.2
  have r9 := gr_209 hG (pl k)
  refine ⟨by unfold plotOfE; rw [pl_pAt, if_neg (by omega), if_neg (by omega)], ?_⟩
  rw [pl_pAt]
  show sg 210 (pl k) = _
  by_cases e : sg 209 (pl k) < 0
  · rw [if_pos (by omega)]; exact j2 (by omega)
  · rw [if_neg (by omega)]; exact (o2 (by omega)).symm
theorem t_worth {sg mu : Nat → Int → Int} (h : LR sg mu) (hG : GC sg) {k W : Int} (hk : 0 ≤ k ∧ k ≤ 3) (hW : W = mu 1000 (8 * k) * mu 1008 (mu 1000 (8 * k + 1))) : worthE sg (pl k) (sg 506 0) = 0 ∧ worthB sg (pAt (pl k)) (prOn sg (sg 202 (pAt (pl k))) (sg 506 0)) = W := by
  have r := pl_rng k
  have g := gr_506 hG 0
  rw [hW]
  refine ⟨by unfold worthE; rw [pl_pAt, if_neg (by omega), if_neg (by omega)], ?_⟩
  rw [pl_pAt]
  exact l_worth hG h.1 h.2.2.2.2.2.2.2.2.2.2.1 hk
theorem t_market {sg mu : Nat → Int → Int} (h : LR sg mu) (hG : GC sg) {k W : Int} (hk : 0 ≤ k ∧ k ≤ 3) (hW : W = mu 1000 (8 * k) * mu 1008 (mu 1000 (8 * k + 1))) : pE (pl k) = 0 ∧ marketR sg (pAt (pl k)) = if mu 1000 (8 * k + 2) ≠ 0 then W else if 0 ≤ mu 1000 (8 * k + 3) then W * 70 / 100 else if bI (lBes mu k) = 1 then W * 90 / 100 else W := by
  have r := pl_rng k
  refine ⟨by unfold pE; rw [pl_pAt, if_neg (by omega)], ?_⟩
  rw [pl_pAt]
  exact l_market hG h hk hW
theorem t_total {sg mu : Nat → Int → Int} (h : LR sg mu) (hV : Inv sg) : totalR sg 0 = sumN (fun q => mu 1013 q) (sg 503 0).toNat ∧ totalR sg 1 = sumN (fun q => mu 1015 q) (sg 503 0).toNat ∧ totalR sg 2 = mu 1013 24 ∧ totalR sg 3 = sg 510 0 ∧ totalR sg 4 = mu 1013 25 := by
  obtain ⟨hP, hS, hN, hO, hX, hA, hI, hM, hZ, hKK, hQ, hT, hJ⟩ := h
  refine ⟨?_, ?_, hT.1.symm, rfl, hT.2.symm⟩
  · show sg 507 0 = _
    rw [inv_507 hV]
    exact sumN_congr _ (fun i hi => (hM i (by omega) (by omega)).1.symm)
  · show sg 508 0 = _
    rw [inv_508 hV]
    exact sumN_congr _ (fun i hi => (hM i (by omega) (by omega)).2.2.1.symm)
def LK2 (p : Program) (l : Launch) (e : Env) (s : State) (m : MethodId) (below : List Frame) (meth : Method) (c : Code) (b : Nat) (D : va_G) (cy : Nat → ClassId) (A A2 : Nat → Prop) (hh : Nat) (adM : Nat → Int → Nat) (cells slots : Nat) (Q : State → Prop) (ad : Nat → Int → Nat) (sg mu : Nat → Int → Int) (turn : Int) : Prop :=
  ∀ (H' : Heap) (locs' : List Loc) (ls' : Array Slot), RC D cy A ad sg H' → RM D cy A2 adM mu H' → va_S (fun q : Nat => s.heap.size ≤ q) s.heap H' locs' → lv_has ls' 37 (LB b hh adM (sg 503 0) (sg 506 0) (sg 510 0) (turn + 1)) → W p l e room_1 s m #[Value.ref b] below meth c H' locs' (cells + 260) (slots + 1400) Q (F0 m 450 ls' [])
