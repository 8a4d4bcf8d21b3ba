/-! the class's table and the law's arrays: what they have in common -/
def Inv (sg : Nat → Int → Int) : Prop := ∃ m : Nat → Int → Int, Rel sg m ∧ GM m
theorem inv_of {hk : List Int} {E EM r rM : Int} {sg T mu TM : Nat → Int → Int} (S : SimW hk E EM r rM sg T mu TM) (hE : E = 0) : Inv T ∧ GC T := by
  obtain ⟨-, h1, h2, h3⟩ := S
  rw [if_pos hE] at h1 h2
  exact ⟨⟨_, h1, h3⟩, h2⟩
theorem inv_J1 {sg : Nat → Int → Int} (h : Inv sg) : J1 sg := h.elim fun _ z => z.1.2.2.2.2.2.2.1
theorem inv_J2 {sg : Nat → Int → Int} (h : Inv sg) : J2 sg := h.elim fun _ z => z.1.2.2.2.2.2.2.2.1
theorem inv_J3 {sg : Nat → Int → Int} (h : Inv sg) : J3 sg := h.elim fun _ z => z.1.2.2.2.2.2.2.2.2.2.2.2.2.1
theorem inv_J8 {sg : Nat → Int → Int} (h : Inv sg) : J8 sg := h.elim fun _ z => z.1.2.2.2.2.2.2.2.2.2.2.2.2.2.1
theorem inv_J4 {sg : Nat → Int → Int} (h : Inv sg) : J4 sg := h.elim fun _ z => z.1.2.2.2.2.2.2.2.2.2.2.2.2.2.2.1
theorem inv_J5 {sg : Nat → Int → Int} (h : Inv sg) : J5 sg := h.elim fun _ z => z.1.2.2.2.2.2.2.2.2.2.2.2.2.2.2.2.2.2.2.1
theorem inv_507 {sg : Nat → Int → Int} (h : Inv sg) : sg 507 0 = sumN (fun q => sg 110 q) (sg 503 0).toNat := by
  obtain ⟨m, z, -⟩ := h
  obtain ⟨hS, hPA, hPS, hPN, hPO, hPL, hJ1, hJ2, hIA, hIN, hIS, hIP, hJ3, hJ8, hJ4, hZ, hK, hPR, hJ5, hT⟩ := z
  rw [hT.1]
  exact sumN_congr _ (fun i hi => hIS i (by omega) (by omega))
theorem inv_508 {sg : Nat → Int → Int} (h : Inv sg) : sg 508 0 = sumN (fun q => sg 111 q + sg 113 q) (sg 503 0).toNat := by
  obtain ⟨m, z, -⟩ := h
  obtain ⟨hS, hPA, hPS, hPN, hPO, hPL, hJ1, hJ2, hIA, hIN, hIS, hIP, hJ3, hJ8, hJ4, hZ, hK, hPR, hJ5, hT⟩ := z
  rw [hT.2.1]
  exact sumN_congr _ (fun i hi => (hIP i (by omega) (by omega)).1)
theorem pl_rng (k : Int) : 14 ≤ pl k ∧ pl k ≤ 35 := by unfold pl; (repeat' split) <;> omega
theorem pl_inj {a b : Int} (ha : 0 ≤ a ∧ a ≤ 3) (hb : 0 ≤ b ∧ b ≤ 3) : pl a = pl b ↔ a = b := by
  unfold pl
  (repeat' split) <;> omega
theorem pl_v {k : Int} (h : 0 ≤ k ∧ k ≤ 3) : pl k = 14 ∨ pl k = 15 ∨ pl k = 20 ∨ pl k = 35 := by unfold pl; (repeat' split) <;> omega
theorem pl_pAt (k : Int) : pAt (pl k) = pl k := pAt_q (by have := pl_rng k; omega)
def RLP (sg mu : Nat → Int → Int) : Prop := ∀ k : Int, 0 ≤ k → k ≤ 3 → mu 1000 (8 * k) = sg 201 (pl k) ∧ mu 1000 (8 * k + 1) = sg 202 (pl k)
def RLS (sg mu : Nat → Int → Int) : Prop := ∀ k : Int, 0 ≤ k → k ≤ 3 → mu 1000 (8 * k + 2) = sg 203 (pl k) ∧ mu 1000 (8 * k + 4) = sg 205 (pl k) ∧ mu 1000 (8 * k + 5) = sg 206 (pl k) ∧ mu 1000 (8 * k + 6) = sg 208 (pl k)
def RLN (sg mu : Nat → Int → Int) : Prop := ∀ k : Int, 0 ≤ k → k ≤ 3 → mu 1000 (8 * k + 3) = needO sg (pl k)
def RLO (sg mu : Nat → Int → Int) : Prop := ∀ k : Int, 0 ≤ k → k ≤ 3 → mu 1000 (8 * k + 7) = sg 209 (pl k) ∧ (0 ≤ sg 209 (pl k) → mu 1012 k = sg 210 (pl k))
def RLX (sg : Nat → Int → Int) : Prop := ∀ v : Int, 0 ≤ v → v < 36 → v ≠ 14 → v ≠ 15 → v ≠ 20 → v ≠ 35 → sg 203 v = 0 ∧ sg 204 v = -1 ∧ sg 208 v = 0
def RLA (sg mu : Nat → Int → Int) : Prop := ∀ j : Int, 0 ≤ j → j < sg 503 0 → mu 1001 j = sg 101 j ∧ sg 102 j = pl (mu 1001 (24 + j)) ∧ mu 1002 j = sg 105 j ∧ mu 1003 j = sg 104 j ∧ (sg 101 j = 1 → mu 1006 j = sg 106 j) ∧ (sg 101 j = 0 → 1 ≤ sg 105 j)
def wO (a b : Int) : Int := if a ≠ 0 then 1 else if b ≠ 0 then 2 else 0
def RLI (sg mu : Nat → Int → Int) : Prop := ∀ j : Int, 0 ≤ j → j < sg 503 0 → mu 1004 j = sg 107 j ∧ mu 1005 j = wO (sg 109 j) (sg 108 j)
def RLM (sg mu : Nat → Int → Int) : Prop := ∀ j : Int, 0 ≤ j → j < sg 503 0 → mu 1013 j = sg 110 j ∧ mu 1014 j = sg 111 j ∧ mu 1015 j = sg 111 j + sg 113 j ∧ mu 1009 j = sg 112 j ∧ mu 1010 j = sg 114 j
def RLZ (sg mu : Nat → Int → Int) : Prop := ∀ j : Int, sg 503 0 ≤ j → j < 24 → mu 1005 j = 0 ∧ mu 1013 j = 0 ∧ mu 1014 j = 0 ∧ mu 1015 j = 0 ∧ mu 1010 j = 0
def RLK (sg mu : Nat → Int → Int) : Prop := sg 505 0 = 2 ∧ ∀ j : Int, 0 ≤ j → j ≤ 1 → mu 1011 j = sg 403 j ∧ mu 1011 (2 + j) = sg 404 j ∧ mu 1007 (3 * j) = sg 401 j ∧ mu 1007 (3 * j + 1) = sg 402 j
def RLQ (sg mu : Nat → Int → Int) : Prop := ∀ u : Int, 0 ≤ u → u ≤ 2 → mu 1008 u = centsO sg (prOn sg u (sg 506 0))
def RLT (sg mu : Nat → Int → Int) : Prop := mu 1013 24 = sg 509 0 ∧ mu 1013 25 = sg 511 0
def RJA (sg : Nat → Int → Int) : Prop := ∀ i : Int, 0 ≤ i → i < sg 503 0 → sg 206 (sg 102 i) ≠ -1 → sumB sg i (landO sg (sg 102 i)) = sg 110 i
def LR (sg mu : Nat → Int → Int) : Prop := RLP sg mu ∧ RLS sg mu ∧ RLN sg mu ∧ RLO sg mu ∧ RLX sg ∧ RLA sg mu ∧ RLI sg mu ∧ RLM sg mu ∧ RLZ sg mu ∧ RLK sg mu ∧ RLQ sg mu ∧ RLT sg mu ∧ RJA sg
theorem lefts_ext {a b : Nat → Int → Int} (e1 : a 101 = b 101) (e2 : a 102 = b 102) (e5 : a 105 = b 105) (en : a 503 0 = b 503 0) {v land bd : Int} : ∀ n : Nat, lefts a v land bd n = lefts b v land bd n
  | 0 => rfl
  | n + 1 => by
    have h := lefts_ext e1 e2 e5 en (v := v) (land := land) (bd := bd) n
    show (if (n : Int) < a 503 0 ∧ a 101 n = 2 ∧ a 102 n = v ∧ (n : Int) < bd then lefts a v land bd n - mn (lefts a v land bd n) (a 105 n) else lefts a v land bd n) = (if (n : Int) < b 503 0 ∧ b 101 n = 2 ∧ b 102 n = v ∧ (n : Int) < bd then lefts b v land bd n - mn (lefts b v land bd n) (b 105 n) else lefts b v land bd n)
    rw [h, e1, e2, e5, en]
theorem sumB_ext {a b : Nat → Int → Int} (e1 : a 101 = b 101) (e2 : a 102 = b 102) (e4 : a 104 = b 104) (e5 : a 105 = b 105) (e6 : a 106 = b 106) (en : a 503 0 = b 503 0) {i land : Int} (h2 : a 202 (b 102 i) = b 202 (b 102 i)) (h5 : a 205 (b 102 i) = b 205 (b 102 i)) (h6 : a 206 (b 102 i) = b 206 (b 102 i)) : sumB a i land = sumB b i land := by
  have hl : ∀ v bd : Int, leftB a v land bd = leftB b v land bd := fun v bd => lefts_ext e1 e2 e5 en 24
  unfold sumB ownS leaS
  rw [e1, e2, e4, e5, e6, hl, hl, h2, h5, h6]
/-- the SUMS found once more, in a table that is the same for what is TAKEN -/
theorem ja_ext {a b : Nat → Int → Int} (hG : GC b) (h : RJA b) (e1 : a 101 = b 101) (e2 : a 102 = b 102) (e4 : a 104 = b 104) (e5 : a 105 = b 105) (e6 : a 106 = b 106) (en : a 503 0 = b 503 0) (e10 : a 110 = b 110) (f6 : a 206 = b 206)
    (hv : ∀ v : Int, 0 ≤ v → v < 36 → b 206 v ≠ -1 → a 201 v = b 201 v ∧ a 202 v = b 202 v ∧ a 204 v = b 204 v ∧ a 205 v = b 205 v ∧ a 207 v = b 207 v) (h3 : ∀ n : Int, 0 ≤ n → n < b 702 0 → a 301 n = b 301 n) (h4 : ∀ n : Int, 0 ≤ n → n < b 505 0 → a 401 n = b 401 n ∧ a 402 n = b 402 n) : RJA a := by
  intro i i0 i1 i2
  rw [e2, f6] at i2
  have r := gr_102 hG i
  obtain ⟨v1, v2, v4, v5, v7⟩ := hv (b 102 i) (by omega) (by omega) i2
  rw [e2, landO_at v1 v7 v5 v4 (fun z => h3 _ z (gp_207 hG _).2) (fun z => h4 _ z (gp_204 hG _).2), e10, sumB_ext e1 e2 e4 e5 e6 en v2 v5 (by rw [f6])]
  exact h i i0 (by omega) i2
/-- what both answer out of related tables -/
theorem needO_in {sg : Nat → Int → Int} (hG : GC sg) (v : Int) : -1 ≤ needO sg v ∧ needO sg v < sg 505 0 := by
  have h := needO_rng hG v
  omega
theorem rl_need {sg mu : Nat → Int → Int} (hN : RLN sg mu) {k : Int} (h : 0 ≤ k ∧ k ≤ 3) : mu 1000 (8 * k + 3) = needO sg (pl k) := hN k h.1 h.2
theorem rlx_need {sg : Nat → Int → Int} (hX : RLX sg) {v : Int} (h : 0 ≤ v ∧ v < 36) (h1 : v ≠ 14) (h2 : v ≠ 15) (h3 : v ≠ 20) (h4 : v ≠ 35) : needO sg v = -1 := by
  have z := (hX v h.1 h.2 h1 h2 h3 h4).2.1
  unfold needO
  rw [if_neg (by omega), z, if_pos (by decide)]
/-- a sum over the 36 of what is 0 but for the four -/
theorem sum36 {f : Int → Int} (h : ∀ v : Int, 0 ≤ v → v < 36 → v ≠ 14 → v ≠ 15 → v ≠ 20 → v ≠ 35 → f v = 0) : sumN f 36 = f 14 + f 15 + f 20 + f 35 := by
  have z : ∀ (a b : Nat), a ≤ b → (∀ i : Nat, a ≤ i → i < b → f (i : Int) = 0) → sumN f b = sumN f a := by
    intro a b hab hz
    induction b with
    | zero => have e : a = 0 := by omega
              rw [e]
    | succ b ih =>
      by_cases e : a = b + 1
      · rw [e]
      · have h1 := ih (by omega) (fun i p q => hz i p (by omega))
        have h2 := hz b (by omega) (by omega)
        show sumN f b + f (b : Int) = _
        omega
  have z0 := z 0 14 (by decide) (fun i p q => h i (by omega) (by omega) (by omega) (by omega) (by omega) (by omega))
  have z1 := z 16 20 (by decide) (fun i p q => h i (by omega) (by omega) (by omega) (by omega) (by omega) (by omega))
  have z2 := z 21 35 (by decide) (fun i p q => h i (by omega) (by omega) (by omega) (by omega) (by omega) (by omega))
  have s0 : sumN f 0 = 0 := rfl
  have s15 : sumN f 15 = sumN f 14 + f 14 := rfl
  have s16 : sumN f 16 = sumN f 15 + f 15 := rfl
  have s21 : sumN f 21 = sumN f 20 + f 20 := rfl
  have s36 : sumN f 36 = sumN f 35 + f 35 := rfl
  omega
theorem sum4 (f : Int → Int) : sumN f 4 = f 0 + f 1 + f 2 + f 3 := by
  have s0 : sumN f 0 = 0 := rfl
  have s1 : sumN f 1 = sumN f 0 + f 0 := rfl
  have s2 : sumN f 2 = sumN f 1 + f 1 := rfl
  have s3 : sumN f 3 = sumN f 2 + f 2 := rfl
  have s4 : sumN f 4 = sumN f 3 + f 3 := rfl
  omega
theorem l_needs {sg mu : Nat → Int → Int} (hN : RLN sg mu) (hX : RLX sg) {w : Int} (hw : 0 ≤ w) : lNeeds mu w 0 = cntNeed sg w := by
  unfold lNeeds cntNeed
  rw [sum4, sum36 (fun v a b c d e g => bI_f (by rw [rlx_need hX ⟨a, b⟩ c d e g]; omega))]
  have e : ∀ k : Int, 0 ≤ k → k ≤ 3 → bI (mu 1000 (8 * k + 3) = w ∧ ((0 : Int) = 0 ∨ mu 1000 (8 * k + 2) = 0)) = bI (0 ≤ w ∧ needO sg (pl k) = w) := fun k a b => bI_congr (by rw [hN k a b]; exact ⟨fun z => ⟨hw, z.1⟩, fun z => ⟨z.2, Or.inl rfl⟩⟩)
  have e0 := e 0 (by decide) (by decide)
  have e1 := e 1 (by decide) (by decide)
  have e2 := e 2 (by decide) (by decide)
  have e3 := e 3 (by decide) (by decide)
  rw [e0, e1, e2, e3]
  rfl
theorem l_free {sg mu : Nat → Int → Int} (hN : RLN sg mu) (hS : RLS sg mu) (hX : RLX sg) {w : Int} (hw : 0 ≤ w) : lNeeds mu w 1 = cntFree sg w := by
  unfold lNeeds cntFree
  rw [sum4, sum36 (fun v a b c d e g => bI_f (by unfold freeNeed; rw [rlx_need hX ⟨a, b⟩ c d e g]; omega))]
  have e : ∀ k : Int, 0 ≤ k → k ≤ 3 → bI (mu 1000 (8 * k + 3) = w ∧ ((1 : Int) = 0 ∨ mu 1000 (8 * k + 2) = 0)) = bI (freeNeed sg (pl k) w) := fun k a b => bI_congr (by
    have r := pl_rng k
    unfold freeNeed
    rw [hN k a b, (hS k a b).1]
    exact ⟨fun z => ⟨by omega, z.2.elim (fun y => absurd y (by decide)) id, hw, z.1⟩, fun z => ⟨z.2.2.2, Or.inr z.2.1⟩⟩)
  have e0 := e 0 (by decide) (by decide)
  have e1 := e 1 (by decide) (by decide)
  have e2 := e 2 (by decide) (by decide)
  have e3 := e 3 (by decide) (by decide)
  rw [e0, e1, e2, e3]
  rfl
theorem l_works {sg mu : Nat → Int → Int} (hG : GC sg) (hS : RLS sg mu) (hX : RLX sg) : mu 1000 6 + mu 1000 14 + mu 1000 22 + mu 1000 30 = cntWorks sg := by
  unfold cntWorks
  rw [sum36 (fun v a b c d e g => bI_f (by rw [(hX v a b c d e g).2.2]; omega))]
  have e : ∀ k : Int, 0 ≤ k → k ≤ 3 → mu 1000 (8 * k + 6) = bI (sg 208 (pl k) ≠ 0) := fun k a b => by
    rw [(hS k a b).2.2.2]
    have r := gr_208 hG (pl k)
    rcases bI_cases (sg 208 (pl k) ≠ 0) with ⟨z, y⟩ | ⟨z, y⟩ <;> rw [y] <;> omega
  have e0 : mu 1000 6 = bI (sg 208 14 ≠ 0) := e 0 (by decide) (by decide)
  have e1 : mu 1000 14 = bI (sg 208 15 ≠ 0) := e 1 (by decide) (by decide)
  have e2 : mu 1000 22 = bI (sg 208 20 ≠ 0) := e 2 (by decide) (by decide)
  have e3 : mu 1000 30 = bI (sg 208 35 ≠ 0) := e 3 (by decide) (by decide)
  rw [e0, e1, e2, e3]
/-- an interest's plot in the law's numbers -/
theorem l_plot {sg mu : Nat → Int → Int} (hL : GL mu) (hA : RLA sg mu) {j : Int} (h : 0 ≤ j ∧ j < sg 503 0) : (0 ≤ mu 1001 (24 + j) ∧ mu 1001 (24 + j) ≤ 3) ∧ sg 102 j = pl (mu 1001 (24 + j)) := ⟨ml_1001 hL (24 + j), (hA j h.1 h.2).2.1⟩
theorem l_same {sg mu : Nat → Int → Int} (hL : GL mu) (hA : RLA sg mu) {j k : Int} (h : 0 ≤ j ∧ j < sg 503 0) (hk : 0 ≤ k ∧ k ≤ 3) : mu 1001 (24 + j) = k ↔ sg 102 j = pl k := by
  obtain ⟨a, b⟩ := l_plot hL hA h
  rw [b, pl_inj a hk]
theorem l_opens {sg mu : Nat → Int → Int} (hG : GC sg) (hL : GL mu) (hS : RLS sg mu) (hN : RLN sg mu) (hA : RLA sg mu) (hI : RLI sg mu) {w : Int} (hw : 0 ≤ w) : lOpens mu (sg 503 0) w = cntOpen sg w := by
  have g := gr_503 hG 0
  unfold lOpens cntOpen
  refine (sumN_cut 24 (by omega) (fun i hi => ?_) (fun i hi _ => bI_f (fun z => by have := z.1; omega))).symm
  refine bI_congr ?_
  obtain ⟨a, b⟩ := l_plot hL hA (j := i) ⟨by omega, by omega⟩
  have z := hI i (by omega) (by omega)
  have r := pl_rng (mu 1001 (24 + i))
  rw [z.2, (hS _ a.1 a.2).1, hN _ a.1 a.2]
  unfold freeNeed wO
  rw [b]
  constructor
  · rintro ⟨-, y, -, y2, -, y3⟩
    exact ⟨if_pos y, y2, y3⟩
  · rintro ⟨y, y2, y3⟩
    refine ⟨by omega, fun e => ?_, by omega, y2, hw, y3⟩
    rw [if_neg (fun q => q e)] at y
    split at y <;> omega
theorem l_stops {sg mu : Nat → Int → Int} (hG : GC sg) (hL : GL mu) (hS : RLS sg mu) (hN : RLN sg mu) (hA : RLA sg mu) (hI : RLI sg mu) {w : Int} (hw : 0 ≤ w) : lStops mu (sg 503 0) w (sg 506 0) = stopper sg w := by
  have g := gr_503 hG 0
  unfold lStops stopper
  refine (low_cut 24 (by omega) (fun i hi => ?_) (fun i hi _ z => by have := z.1; omega)).symm
  obtain ⟨a, b⟩ := l_plot hL hA (j := i) ⟨by omega, by omega⟩
  have z := hI i (by omega) (by omega)
  have y := hA i (by omega) (by omega)
  have r := pl_rng (mu 1001 (24 + i))
  have r7 := gr_107 hG i
  have hw5 : mu 1005 i = 1 ↔ sg 109 i ≠ 0 := by
    rw [z.2]; unfold wO
    constructor
    · intro q e
      rw [if_neg (fun q => q e)] at q
      split at q <;> omega
    · intro q; exact if_pos q
  unfold lStop
  rw [hw5, z.1, (hS _ a.1 a.2).1, hN _ a.1 a.2, y.1, y.2.2.1]
  unfold freeNeed stopsO overO
  rw [b]
  constructor
  · rintro ⟨-, ⟨-, p1, -, p2⟩, -, p3, p4⟩
    exact ⟨p1, p2, by omega, by omega⟩
  · rintro ⟨p1, p2, p3, p4⟩
    exact ⟨by omega, ⟨by omega, p1, hw, p2⟩, by omega, by omega, by omega⟩
theorem opt_q {v : Int} (h : -1 ≤ v) : opt v = v := by unfold opt; split <;> omega
