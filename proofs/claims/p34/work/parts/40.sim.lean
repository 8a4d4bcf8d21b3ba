/-! the class's table and the model's: what they have in common -/
theorem bI_congr {P Q : Prop} (h : P ↔ Q) : bI P = bI Q := by rw [show P = Q from propext h]
theorem sumN_congr {f g : Int → Int} : ∀ n : Nat, (∀ i : Nat, i < n → f i = g i) → sumN f n = sumN g n
  | 0, _ => rfl
  | n + 1, h => by
    have h1 := sumN_congr n (fun i hi => h i (by omega))
    have h2 := h n (by omega)
    show sumN f n + f n = sumN g n + g n
    rw [h1, h2]
theorem sumN_cut {f g : Int → Int} {n : Nat} : ∀ N : Nat, n ≤ N → (∀ i : Nat, i < n → f i = g i) → (∀ i : Nat, n ≤ i → i < N → f i = 0) → sumN f N = sumN g n
  | 0, h, h1, _ => by
    have e : n = 0 := by omega
    subst e; rfl
  | N + 1, h, h1, h2 => by
    by_cases e : n = N + 1
    · subst e; exact sumN_congr _ h1
    · have h3 := sumN_cut N (by omega) h1 (fun i a b => h2 i a (by omega))
      have h4 := h2 N (by omega) (by omega)
      show sumN f N + f N = _
      omega
theorem low_cut {P Q : Int → Prop} {n : Nat} : ∀ N : Nat, n ≤ N → (∀ i : Nat, i < n → (P i ↔ Q i)) → (∀ i : Nat, n ≤ i → i < N → ¬ P i) → low P N = low Q n
  | 0, h, h1, _ => by
    have e : n = 0 := by omega
    subst e; rfl
  | N + 1, h, h1, h2 => by
    by_cases e : n = N + 1
    · subst e
      have h3 := low_cut (P := P) (Q := Q) (n := N) N (Nat.le_refl _) (fun i hi => h1 i (by omega)) (fun i a b => absurd a (by omega))
      show (if 0 ≤ low P N then low P N else @ite Int (P (N : Int)) (Classical.propDecidable _) N (-1)) = (if 0 ≤ low Q N then low Q N else @ite Int (Q (N : Int)) (Classical.propDecidable _) N (-1))
      rw [h3, show P (N : Int) = Q (N : Int) from propext (h1 N (by omega))]
    · have h3 := low_cut N (by omega) h1 (fun i a b => h2 i a (by omega))
      have h4 := h2 N (by omega) (by omega)
      show (if 0 ≤ low P N then low P N else @ite Int (P (N : Int)) (Classical.propDecidable _) N (-1)) = _
      rw [if_neg h4, h3]
      have h5 := low_rng (P := Q) n
      split <;> omega
def RSc (sg mu : Nat → Int → Int) : Prop := mu 901 0 = sg 506 0 ∧ mu 913 0 = sg 503 0 ∧ mu 926 0 = sg 505 0
def RPA (sg mu : Nat → Int → Int) : Prop := ∀ p : Int, 0 ≤ p → p < 36 → mu 1003 p = sg 201 p ∧ mu 1004 p = sg 202 p
def RPS (sg mu : Nat → Int → Int) : Prop := ∀ p : Int, 0 ≤ p → p < 36 → mu 1005 p = sg 203 p ∧ mu 1007 p = sg 205 p ∧ mu 1008 p = sg 206 p ∧ mu 1009 p = sg 208 p
def RPN (sg mu : Nat → Int → Int) : Prop := ∀ p : Int, 0 ≤ p → p < 36 → mu 1006 p = needO sg p
def RPO (sg mu : Nat → Int → Int) : Prop := ∀ p : Int, 0 ≤ p → p < 36 → mu 1010 p = sg 209 p ∧ mu 1011 p = sg 210 p
def RPL (sg mu : Nat → Int → Int) : Prop := ∀ p : Int, 0 ≤ p → p < 36 → mu 1012 p = if sg 206 p = -1 then 0 else landO sg p
def J1 (sg : Nat → Int → Int) : Prop := ∀ p : Int, 0 ≤ p → p < 36 → (sg 203 p = 0 ↔ sg 206 p = -1)
def J2 (sg : Nat → Int → Int) : Prop := ∀ p : Int, 0 ≤ p → p < 36 → (0 ≤ needO sg p → sg 209 p = -1) ∧ (sg 203 p = 0 → sg 209 p = -1) ∧ (sg 209 p = -1 → sg 210 p = 0)
def RIA (sg mu : Nat → Int → Int) : Prop := ∀ i : Int, 0 ≤ i → i < sg 503 0 → mu 1014 i = sg 101 i ∧ mu 1015 i = sg 102 i ∧ mu 1016 i = sg 103 i ∧ mu 1017 i = sg 104 i ∧ mu 1018 i = sg 105 i ∧ mu 1034 i = sg 106 i
def RIN (sg mu : Nat → Int → Int) : Prop := ∀ i : Int, 0 ≤ i → i < sg 503 0 → mu 1019 i = sg 107 i ∧ mu 1020 i = if sg 109 i ≠ 0 then 1 else if sg 108 i ≠ 0 then 2 else 0
def RIS (sg mu : Nat → Int → Int) : Prop := ∀ i : Int, 0 ≤ i → i < sg 503 0 → mu 1021 i = sg 110 i
def RIP (sg mu : Nat → Int → Int) : Prop := ∀ i : Int, 0 ≤ i → i < sg 503 0 → mu 1022 i = sg 111 i + sg 113 i ∧ mu 1023 i = sg 111 i ∧ mu 1024 i = sg 112 i ∧ mu 1025 i = sg 114 i
def J3 (sg : Nat → Int → Int) : Prop := ∀ i : Int, 0 ≤ i → i < sg 503 0 → (sg 112 i = -1 → sg 111 i = 0) ∧ (sg 114 i = 0 → sg 113 i = 0)
def J8 (sg : Nat → Int → Int) : Prop := ∀ i : Int, 0 ≤ i → i < sg 503 0 → sg 109 i ≠ 0 → sg 108 i ≠ 0
def J4 (sg : Nat → Int → Int) : Prop := ∀ i : Int, 0 ≤ i → i < sg 503 0 → sg 206 (sg 102 i) = -1 → sg 110 i = 0
def RZ (sg mu : Nat → Int → Int) : Prop := (∀ i : Int, sg 503 0 ≤ i → i < 24 → mu 1020 i = 0 ∧ mu 1021 i = 0 ∧ mu 1022 i = 0 ∧ mu 1023 i = 0 ∧ mu 1025 i = 0 ∧ mu 1034 i = 0) ∧ ∀ k : Int, sg 505 0 ≤ k → k < 4 → mu 1029 k = 0
def RK (sg mu : Nat → Int → Int) : Prop := ∀ k : Int, 0 ≤ k → k < sg 505 0 → mu 1027 k = sg 401 k ∧ mu 1028 k = sg 402 k ∧ mu 1029 k = sg 403 k ∧ mu 1030 k = sg 404 k ∧ mu 1031 k = sg 405 k
def RPR (sg mu : Nat → Int → Int) : Prop := ∀ u d : Int, 0 ≤ u → u ≤ 2 → 0 ≤ d → d ≤ sg 506 0 → mu 1002 (3 * d + u) = centsO sg (prOn sg u d)
def J5 (sg : Nat → Int → Int) : Prop := ∀ u : Int, 0 ≤ u → u ≤ 2 → sg 300 (sg 602 u) ≤ sg 506 0
def RTo (sg mu : Nat → Int → Int) : Prop := sg 507 0 = sumN (fun q => mu 1021 q) (sg 503 0).toNat ∧ sg 508 0 = sumN (fun q => mu 1022 q) (sg 503 0).toNat ∧ sg 509 0 = mu 932 0 ∧ sg 510 0 = mu 933 0 ∧ sg 511 0 = sumN (fun q => mu 1012 q) 36
def Rel (sg mu : Nat → Int → Int) : Prop := RSc sg mu ∧ RPA sg mu ∧ RPS sg mu ∧ RPN sg mu ∧ RPO sg mu ∧ RPL sg mu ∧ J1 sg ∧ J2 sg ∧ RIA sg mu ∧ RIN sg mu ∧ RIS sg mu ∧ RIP sg mu ∧ J3 sg ∧ J8 sg ∧ J4 sg ∧ RZ sg mu ∧ RK sg mu ∧ RPR sg mu ∧ J5 sg ∧ RTo sg mu
/-! what both answer out of related tables -/
theorem needO_q {sg : Nat → Int → Int} {v : Int} (h : 0 ≤ v) : needO sg v = if sg 204 v < 0 then -1 else if sg 403 (sg 204 v) = 2 then -1 else sg 204 v := by unfold needO; rw [if_neg (by omega)]
theorem pAt_q {x : Int} (h : 0 ≤ x ∧ x ≤ 35) : pAt x = x := by unfold pAt; rw [if_pos (by omega)]
theorem pAt_n {x : Int} (h : ¬ (0 ≤ x ∧ x ≤ 35)) : pAt x = -1 := by unfold pAt; rw [if_neg (by omega)]
theorem e_worth {sg mu : Nat → Int → Int} (h : Rel sg mu) (hG : GC sg) {p d : Int} (hp : 0 ≤ p ∧ p < 36) (hd : 0 ≤ d ∧ d ≤ sg 506 0) : mWorth mu p d = worthB sg p (prOn sg (sg 202 p) d) := by
  obtain ⟨hS, hPA, hPS, hPN, hPO, hPL, hJ1, hJ2, hIA, hIN, hIS, hIP, hJ3, hJ8, hJ4, hZ, hK, hPR, hJ5, hT⟩ := h
  have h1 := hPA p hp.1 hp.2
  have h2 := gr_202 hG p
  have h3 := hPR (sg 202 p) d h2.1 h2.2 hd.1 hd.2
  unfold mWorth worthB
  rw [if_neg (by omega), h1.1, h1.2, h3]
theorem e_worthT {sg mu : Nat → Int → Int} (h : Rel sg mu) (hG : GC sg) {p : Int} (hp : 0 ≤ p ∧ p < 36) : mWorth mu p (mu 901 0) = worthT sg p := by
  have h0 := gr_506 hG 0
  have h1 : mu 901 0 = sg 506 0 := h.1.1
  rw [h1, e_worth h hG hp (by omega)]
  unfold worthT
  rw [if_neg (by omega)]
theorem e_beside {sg mu : Nat → Int → Int} (hPN : RPN sg mu) {x : Int} (hx : 0 ≤ x ∧ x < 36) (hG : GC sg) : mBeside mu x ↔ beside sg x := by
  have hn : ∀ y : Int, 0 ≤ y → y < 36 → (mu 1006 y ≠ -1 ↔ 0 ≤ needO sg (pAt y)) := fun y h1 h2 => by
    have h3 := hPN y h1 h2
    have h4 := needO_rng hG y
    rw [pAt_q ⟨h1, by omega⟩, h3]; omega
  have ho : ∀ y : Int, ¬ (0 ≤ y ∧ y ≤ 35) → ¬ (0 ≤ needO sg (pAt y)) := fun y h1 => by
    rw [pAt_n h1]
    unfold needO
    rw [if_pos (by decide)]; decide
  unfold mBeside beside
  constructor
  · rintro (⟨a, b⟩ | ⟨a, b⟩ | ⟨a, b⟩ | ⟨a, b⟩)
    · exact Or.inl ⟨a, (hn _ (by omega) (by omega)).mp b⟩
    · exact Or.inr (Or.inl ⟨a, (hn _ (by omega) (by omega)).mp b⟩)
    · exact Or.inr (Or.inr (Or.inl ((hn _ (by omega) (by omega)).mp b)))
    · exact Or.inr (Or.inr (Or.inr ((hn _ (by omega) (by omega)).mp b)))
  · rintro (⟨a, b⟩ | ⟨a, b⟩ | b | b)
    · exact Or.inl ⟨a, (hn _ (by omega) (by omega)).mpr b⟩
    · exact Or.inr (Or.inl ⟨a, (hn _ (by omega) (by omega)).mpr b⟩)
    · have h6 : 5 < x := by
        refine Classical.byContradiction fun z => ho (x - 6) (by omega) b
      exact Or.inr (Or.inr (Or.inl ⟨h6, (hn _ (by omega) (by omega)).mpr b⟩))
    · have h6 : x < 30 := by
        refine Classical.byContradiction fun z => ho (x + 6) (by omega) b
      exact Or.inr (Or.inr (Or.inr ⟨h6, (hn _ (by omega) (by omega)).mpr b⟩))
theorem e_need {sg mu : Nat → Int → Int} (hPN : RPN sg mu) {w : Int} (hw : 0 ≤ w) : mNeed mu w 0 = cntNeed sg w := by
  unfold mNeed cntNeed
  refine sumN_congr _ (fun i hi => bI_congr ?_)
  rw [hPN i (by omega) (by omega)]
  exact ⟨fun h => ⟨hw, h.1⟩, fun h => ⟨h.2, Or.inl rfl⟩⟩
theorem e_free {sg mu : Nat → Int → Int} (hPN : RPN sg mu) (hPS : RPS sg mu) {w : Int} (hw : 0 ≤ w) : mNeed mu w 1 = cntFree sg w := by
  unfold mNeed cntFree
  refine sumN_congr _ (fun i hi => bI_congr ?_)
  rw [hPN i (by omega) (by omega), (hPS i (by omega) (by omega)).1]
  unfold freeNeed
  constructor
  · rintro ⟨a, b | b⟩
    · exact absurd b (by decide)
    · exact ⟨by omega, b, hw, a⟩
  · rintro ⟨-, b, -, a⟩
    exact ⟨a, Or.inr b⟩
theorem e_draft {sg mu : Nat → Int → Int} (h : Rel sg mu) (hG : GC sg) {i : Int} (hi : 0 ≤ i ∧ i < sg 503 0) : (mDraft mu i ↔ 0 ≤ draftO sg (sg 102 i)) ∧ (mDraft mu i → mu 1006 (mu 1015 i) = draftO sg (sg 102 i)) := by
  obtain ⟨hS, hPA, hPS, hPN, hPO, hPL, hJ1, hJ2, hIA, hIN, hIS, hIP, hJ3, hJ8, hJ4, hZ, hK, hPR, hJ5, hT⟩ := h
  have h1 := (hIA i hi.1 hi.2).2.1
  have h2 := gr_102 hG i
  have h3 := hPN (sg 102 i) (by omega) (by omega)
  have h4 := (hPS (sg 102 i) (by omega) (by omega)).1
  have h5 := needO_rng hG (sg 102 i)
  have h7 : 0 ≤ needO sg (sg 102 i) → mu 1029 (needO sg (sg 102 i)) = sg 403 (needO sg (sg 102 i)) := fun z => (hK _ z h5.2.1).2.2.1
  unfold mDraft draftO
  rw [h1, h3, h4]
  constructor
  · constructor
    · rintro ⟨a, b, c⟩
      rw [if_pos ⟨by omega, a, by omega, by rw [← h7 (by omega)]; exact c⟩]
      omega
    · intro z
      split at z
      · rename_i y
        exact ⟨y.2.1, by omega, by rw [h7 y.2.2.1]; exact y.2.2.2⟩
      · omega
  · rintro ⟨a, b, c⟩
    rw [if_pos ⟨by omega, a, by omega, by rw [← h7 (by omega)]; exact c⟩]
theorem e_open {sg mu : Nat → Int → Int} (hS : RSc sg mu) (hPN : RPN sg mu) (hPS : RPS sg mu) (hIA : RIA sg mu) (hIN : RIN sg mu) (hG : GC sg) {w : Int} (hw : 0 ≤ w) : mOpen mu w = cntOpen sg w := by
  have hn := gr_503 hG 0
  unfold mOpen cntOpen
  rw [hS.2.1]
  refine (sumN_cut 24 (by omega) (fun i hi => bI_congr ?_) (fun i a b => bI_f (fun z => absurd z.1 (by omega)))).symm
  have h1 := (hIA i (by omega) (by omega)).2.1
  have h2 := gr_102 hG i
  have h3 := (hIN i (by omega) (by omega)).2
  rw [h1, hPN _ (by omega) (by omega), (hPS _ (by omega) (by omega)).1, h3]
  unfold freeNeed
  constructor
  · rintro ⟨-, b, c⟩
    exact ⟨by rw [if_pos b], c.2.1, c.2.2.2⟩
  · rintro ⟨a, b, c⟩
    refine ⟨by omega, fun z => ?_, by omega, b, hw, c⟩
    rw [if_neg (fun y => y z)] at a
    split at a <;> omega
theorem e_stop {sg mu : Nat → Int → Int} (hS : RSc sg mu) (hPN : RPN sg mu) (hPS : RPS sg mu) (hIA : RIA sg mu) (hIN : RIN sg mu) (hG : GC sg) {w : Int} (hw : 0 ≤ w) : mStopper mu w = stopper sg w := by
  have hn := gr_503 hG 0
  unfold mStopper stopper
  rw [hS.2.1]
  refine (low_cut 24 (by omega) (fun i hi => ?_) (fun i a b z => absurd z.1 (by omega))).symm
  have h0 := hIA i (by omega) (by omega)
  have h2 := gr_102 hG i
  have h4 := hIN i (by omega) (by omega)
  unfold mStops
  rw [h0.2.1, hPN _ (by omega) (by omega), (hPS _ (by omega) (by omega)).1, h4.1, h4.2, h0.1, h0.2.2.2.2.1, hS.1]
  unfold freeNeed stopsO overO
  have h6 := gr_101 hG i
  constructor
  · rintro ⟨-, ⟨-, b, -, c⟩, -, e, f⟩
    refine ⟨⟨b, c, by omega⟩, ?_⟩
    rcases f with f | f | f
    · exact Or.inl f
    · exact Or.inr (Or.inl f)
    · exact Or.inr (Or.inr (if_pos f))
  · rintro ⟨⟨b, c, e⟩, f⟩
    refine ⟨by omega, ⟨by omega, b, hw, c⟩, by omega, by omega, ?_⟩
    rcases f with f | f | f
    · exact Or.inl f
    · exact Or.inr (Or.inl f)
    · refine Or.inr (Or.inr fun z => ?_)
      rw [if_neg (fun y => y z)] at f
      split at f <;> omega
theorem e_own {sg mu : Nat → Int → Int} (hS : RSc sg mu) (hIA : RIA sg mu) (hG : GC sg) {p b : Int} (hb : -1 ≤ b ∧ b < sg 503 0) : mOwnB mu p b = ownBeh sg p b := by
  have hn := gr_503 hG 0
  have key : ∀ n : Nat, (n : Int) ≤ sg 503 0 → mOwnN mu p b n = ownerB sg p b n := by
    intro n
    induction n with
    | zero => intro _; rfl
    | succ n ih =>
      intro h
      have e := ih (by omega)
      have h1 := hIA n (by omega) (by omega)
      have hr := ownerB_rng (v := p) (w := b) hG n
      have hb1 : 0 ≤ b → mu 1018 b = sg 105 b := fun z => (hIA b z hb.2).2.2.2.2.1
      have ho1 : 0 ≤ ownerB sg p b n → mu 1018 (ownerB sg p b n) = sg 105 (ownerB sg p b n) := fun z => (hIA _ z (by omega)).2.2.2.2.1
      show @ite Int ((mu 1014 n = 0 ∧ mu 1015 n = p) ∧ mBeh mu n b ∧ (mOwnN mu p b n = -1 ∨ mu 1018 (mOwnN mu p b n) < mu 1018 n)) (Classical.propDecidable _) n (mOwnN mu p b n) = @ite Int ((n : Int) < sg 503 0 ∧ sg 101 n = 0 ∧ sg 102 n = p ∧ behind sg n b ∧ (ownerB sg p b n < 0 ∨ sg 105 (ownerB sg p b n) < sg 105 n)) (Classical.propDecidable _) n (ownerB sg p b n)
      rw [e]
      have hP : ((mu 1014 n = 0 ∧ mu 1015 n = p) ∧ mBeh mu n b ∧ (ownerB sg p b n = -1 ∨ mu 1018 (ownerB sg p b n) < mu 1018 n)) ↔ ((n : Int) < sg 503 0 ∧ sg 101 n = 0 ∧ sg 102 n = p ∧ behind sg n b ∧ (ownerB sg p b n < 0 ∨ sg 105 (ownerB sg p b n) < sg 105 n)) := by
        have h18 := h1.2.2.2.2.1
        rw [h1.1, h1.2.1, h18]
        unfold mBeh behind
        rw [h18]
        by_cases hb0 : 0 ≤ b
        · rw [hb1 hb0]
          by_cases ho0 : 0 ≤ ownerB sg p b n
          · rw [ho1 ho0]; omega
          · constructor
            · rintro ⟨a, b, c⟩; exact ⟨by omega, a.1, a.2, ⟨by omega, fun _ => by omega⟩, Or.inl (by omega)⟩
            · rintro ⟨a, b, c, d, e⟩; exact ⟨⟨b, c⟩, by have := d.2 hb0; omega, Or.inl (by omega)⟩
        · by_cases ho0 : 0 ≤ ownerB sg p b n
          · rw [ho1 ho0]
            constructor
            · rintro ⟨a, b, c⟩; exact ⟨by omega, a.1, a.2, ⟨by omega, fun z => absurd z hb0⟩, by omega⟩
            · rintro ⟨a, b, c, d, e⟩; exact ⟨⟨b, c⟩, Or.inl (by omega), by omega⟩
          · constructor
            · rintro ⟨a, b, c⟩; exact ⟨by omega, a.1, a.2, ⟨by omega, fun z => absurd z hb0⟩, by omega⟩
            · rintro ⟨a, b, c, d, e⟩; exact ⟨⟨b, c⟩, Or.inl (by omega), Or.inl (by omega)⟩
      rw [propext hP]
  have rest : ∀ k : Nat, ownerB sg p b ((sg 503 0).toNat + k) = ownerB sg p b (sg 503 0).toNat := by
    intro k
    induction k with
    | zero => rfl
    | succ k ih =>
      show @ite Int (((((sg 503 0).toNat + k : Nat) : Nat) : Int) < sg 503 0 ∧ _) (Classical.propDecidable _) _ (ownerB sg p b ((sg 503 0).toNat + k)) = _
      rw [if_neg (fun z => absurd z.1 (by omega)), ih]
  unfold mOwnB ownBeh
  rw [hS.2.1, key _ (by omega)]
  have h3 := rest (24 - (sg 503 0).toNat)
  rw [show (sg 503 0).toNat + (24 - (sg 503 0).toNat) = 24 by omega] at h3
  exact h3.symm
