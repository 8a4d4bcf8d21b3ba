/-! who comes next, what lies beside, what things are worth: the law's words and the class's -/
theorem low_none {P : Int → Prop} : ∀ n : Nat, (∀ i : Int, 0 ≤ i → i < n → ¬ P i) → low P n = -1
  | 0, _ => rfl
  | n + 1, h => by
    have h1 := low_none n (fun i a b => h i a (by omega))
    show (if 0 ≤ low P n then low P n else @ite Int (P (n : Int)) (Classical.propDecidable _) n (-1)) = -1
    rw [h1, if_neg (by decide), if_neg (h n (by omega) (by omega))]
theorem low_is {P : Int → Prop} {j : Int} (h0 : 0 ≤ j) (hp : P j) (hm : ∀ i : Int, 0 ≤ i → i < j → ¬ P i) : ∀ n : Nat, j < n → low P n = j
  | 0, h => absurd h (by omega)
  | n + 1, h => by
    show (if 0 ≤ low P n then low P n else @ite Int (P (n : Int)) (Classical.propDecidable _) n (-1)) = j
    by_cases e : j < n
    · rw [low_is h0 hp hm n e, if_pos h0]
    · have e2 : j = n := by omega
      rw [low_none n (fun i a b => hm i a (by omega)), if_neg (by decide), if_pos (e2 ▸ hp)]
      exact e2.symm
def OC (sg : Nat → Int → Int) (v w q : Int) : Prop := q < sg 503 0 ∧ sg 101 q = 0 ∧ sg 102 q = v ∧ behind sg q w
def OB (sg : Nat → Int → Int) (v w : Int) (n : Nat) (r : Int) : Prop := (r = -1 ∧ ∀ i : Int, 0 ≤ i → i < n → ¬ OC sg v w i) ∨ (0 ≤ r ∧ r < n ∧ OC sg v w r ∧ ∀ i : Int, 0 ≤ i → i < n → OC sg v w i → sg 105 i < sg 105 r ∨ (sg 105 i = sg 105 r ∧ r ≤ i))
theorem ob_n {sg : Nat → Int → Int} {v w : Int} : ∀ n : Nat, OB sg v w n (ownerB sg v w n)
  | 0 => Or.inl ⟨rfl, fun i a b => absurd b (by omega)⟩
  | n + 1 => by
    have h := ob_n (sg := sg) (v := v) (w := w) n
    show OB sg v w (n + 1) (@ite Int ((n : Int) < sg 503 0 ∧ sg 101 n = 0 ∧ sg 102 n = v ∧ behind sg n w ∧ (ownerB sg v w n < 0 ∨ sg 105 (ownerB sg v w n) < sg 105 n)) (Classical.propDecidable _) n (ownerB sg v w n))
    generalize ownerB sg v w n = r at h ⊢
    split
    · rename_i z
      obtain ⟨z1, z2, z3, z4, z5⟩ := z
      refine Or.inr ⟨by omega, by omega, ⟨z1, z2, z3, z4⟩, fun i a b c => ?_⟩
      by_cases e : i = n
      · subst e; exact Or.inr ⟨rfl, Int.le_refl _⟩
      · rcases h with ⟨h1, h2⟩ | ⟨h1, h2, h3, h4⟩
        · exact absurd c (h2 i a (by omega))
        · have h5 := h4 i a (by omega) c
          omega
    · rename_i z
      rcases h with ⟨h1, h2⟩ | ⟨h1, h2, h3, h4⟩
      · refine Or.inl ⟨h1, fun i a b c => ?_⟩
        by_cases e : i = n
        · subst e; exact z ⟨c.1, c.2.1, c.2.2.1, c.2.2.2, Or.inl (by omega)⟩
        · exact h2 i a (by omega) c
      · refine Or.inr ⟨h1, by omega, h3, fun i a b c => ?_⟩
        by_cases e : i = n
        · subst e
          by_cases y : sg 105 r < sg 105 (n : Int)
          · exact absurd ⟨c.1, c.2.1, c.2.2.1, c.2.2.2, Or.inr y⟩ z
          · omega
        · exact h4 i a (by omega) c
theorem l_next {sg mu : Nat → Int → Int} (hG : GC sg) (hL : GL mu) (hA : RLA sg mu) {k b : Int} (hk : 0 ≤ k ∧ k ≤ 3) (hb : -1 ≤ b ∧ b < sg 503 0) : lNx mu (sg 503 0) k b 100 = ownBeh sg (pl k) b := by
  have g := gr_503 hG 0
  have hc : ∀ (sh q : Int), 0 ≤ q → q < sg 503 0 → (lCand mu k b sh q ↔ OC sg (pl k) b q ∧ sg 105 q = sh) := by
    intro sh q q0 q1
    obtain ⟨y1, y2, y3, y4, y5, y6⟩ := hA q q0 q1
    have ys := l_same hL hA ⟨q0, q1⟩ hk
    unfold lCand OC behind
    rw [y1, ys, y3]
    by_cases e : b < 0
    · constructor
      · rintro ⟨p1, p2, p3, -⟩
        exact ⟨⟨q1, p1, p2, q0, fun z => absurd z (by omega)⟩, p3⟩
      · rintro ⟨⟨-, p1, p2, -⟩, p3⟩
        exact ⟨p1, p2, p3, Or.inl e⟩
    · have yb := (hA b (by omega) hb.2).2.2.1
      rw [yb]
      constructor
      · rintro ⟨p1, p2, p3, p4⟩
        exact ⟨⟨q1, p1, p2, q0, fun _ => by omega⟩, p3⟩
      · rintro ⟨⟨-, p1, p2, -, p4⟩, p3⟩
        have := p4 (by omega)
        exact ⟨p1, p2, p3, by omega⟩
  have hob := ob_n (sg := sg) (v := pl k) (w := b) 24
  show _ = ownerB sg (pl k) b 24
  generalize ownerB sg (pl k) b 24 = r at hob ⊢
  rcases hob with ⟨h1, h2⟩ | ⟨h1, h2, h3, h4⟩
  · have : ∀ s : Nat, lNx mu (sg 503 0) k b s = -1 := by
      intro s
      induction s with
      | zero => rfl
      | succ s ih =>
        have z := low_none (P := lCand mu k b ((s + 1 : Nat) : Int)) (sg 503 0).toNat (fun i a c y => h2 i a (by omega) ((hc _ i a (by omega)).mp y).1)
        show (if 0 ≤ low (lCand mu k b ((s + 1 : Nat) : Int)) (sg 503 0).toNat then low (lCand mu k b ((s + 1 : Nat) : Int)) (sg 503 0).toNat else lNx mu (sg 503 0) k b s) = -1
        rw [z, if_neg (by decide), ih]
    rw [this, h1]
  · have hM := gm_105 hG r h3.2.1
    have hM1 := (hA r h1 h3.1).2.2.2.2.2 h3.2.1
    have : ∀ s : Nat, sg 105 r ≤ s → lNx mu (sg 503 0) k b s = r := by
      intro s
      induction s with
      | zero => intro y; exact absurd y (by omega)
      | succ s ih =>
        intro y
        show (if 0 ≤ low (lCand mu k b ((s + 1 : Nat) : Int)) (sg 503 0).toNat then low (lCand mu k b ((s + 1 : Nat) : Int)) (sg 503 0).toNat else lNx mu (sg 503 0) k b s) = r
        by_cases e : sg 105 r = ((s + 1 : Nat) : Int)
        · have z := low_is (P := lCand mu k b ((s + 1 : Nat) : Int)) (j := r) h1 ((hc _ r h1 h3.1).mpr ⟨h3, e⟩) (fun i a c y => by
            have y1 := (hc _ i a (by have := h3.1; omega)).mp y
            have y2 := h4 i a (by omega) y1.1
            omega) (sg 503 0).toNat (by have := h3.1; omega)
          rw [z, if_pos h1]
        · have z := low_none (P := lCand mu k b ((s + 1 : Nat) : Int)) (sg 503 0).toNat (fun i a c y => by
            have y1 := (hc _ i a (by omega)).mp y
            have y2 := h4 i a (by omega) y1.1
            omega)
          rw [z, if_neg (by decide)]
          exact ih (by omega)
    exact this 100 (by omega)
theorem l_beside {sg mu : Nat → Int → Int} (hN : RLN sg mu) (hX : RLX sg) {k : Int} (hk : 0 ≤ k ∧ k ≤ 3) : lBes mu k ↔ beside sg (pl k) := by
  have n0 : mu 1000 3 = needO sg 14 := hN 0 (by decide) (by decide)
  have n1 : mu 1000 11 = needO sg 15 := hN 1 (by decide) (by decide)
  have n2 : mu 1000 19 = needO sg 20 := hN 2 (by decide) (by decide)
  have x := fun (v : Int) (h : 0 ≤ v ∧ v < 36) (h1 : v ≠ 14) (h2 : v ≠ 15) (h3 : v ≠ 20) (h4 : v ≠ 35) => rlx_need hX h h1 h2 h3 h4
  have x13 := x 13 (by decide) (by decide) (by decide) (by decide) (by decide)
  have x8 := x 8 (by decide) (by decide) (by decide) (by decide) (by decide)
  have x16 := x 16 (by decide) (by decide) (by decide) (by decide) (by decide)
  have x9 := x 9 (by decide) (by decide) (by decide) (by decide) (by decide)
  have x21 := x 21 (by decide) (by decide) (by decide) (by decide) (by decide)
  have x19 := x 19 (by decide) (by decide) (by decide) (by decide) (by decide)
  have x26 := x 26 (by decide) (by decide) (by decide) (by decide) (by decide)
  have x34 := x 34 (by decide) (by decide) (by decide) (by decide) (by decide)
  have x29 := x 29 (by decide) (by decide) (by decide) (by decide) (by decide)
  have xm : needO sg (-1) = -1 := by unfold needO; rw [if_pos (by decide)]
  unfold lBes
  rcases (show k = 0 ∨ k = 1 ∨ k = 2 ∨ k = 3 by omega) with e | e | e | e <;> subst e
  · show _ ↔ (0 < (14 : Int) % 6 ∧ 0 ≤ needO sg 13) ∨ ((14 : Int) % 6 < 5 ∧ 0 ≤ needO sg 15) ∨ 0 ≤ needO sg 8 ∨ 0 ≤ needO sg 20
    omega
  · show _ ↔ (0 < (15 : Int) % 6 ∧ 0 ≤ needO sg 14) ∨ ((15 : Int) % 6 < 5 ∧ 0 ≤ needO sg 16) ∨ 0 ≤ needO sg 9 ∨ 0 ≤ needO sg 21
    omega
  · show _ ↔ (0 < (20 : Int) % 6 ∧ 0 ≤ needO sg 19) ∨ ((20 : Int) % 6 < 5 ∧ 0 ≤ needO sg 21) ∨ 0 ≤ needO sg 14 ∨ 0 ≤ needO sg 26
    omega
  · show _ ↔ (0 < (35 : Int) % 6 ∧ 0 ≤ needO sg 34) ∨ ((35 : Int) % 6 < 5 ∧ 0 ≤ needO sg (-1)) ∨ 0 ≤ needO sg 29 ∨ 0 ≤ needO sg (-1)
    omega
theorem l_worth {sg mu : Nat → Int → Int} (hG : GC sg) (hP : RLP sg mu) (hQ : RLQ sg mu) {k : Int} (hk : 0 ≤ k ∧ k ≤ 3) : worthB sg (pl k) (prOn sg (sg 202 (pl k)) (sg 506 0)) = mu 1000 (8 * k) * mu 1008 (mu 1000 (8 * k + 1)) := by
  have r := pl_rng k
  have g := gr_202 hG (pl k)
  unfold worthB
  rw [if_neg (by omega), (hP k hk.1 hk.2).1, (hP k hk.1 hk.2).2, hQ _ g.1 g.2]
theorem l_worthT {sg mu : Nat → Int → Int} (hG : GC sg) (hP : RLP sg mu) (hQ : RLQ sg mu) {k : Int} (hk : 0 ≤ k ∧ k ≤ 3) : worthT sg (pl k) = mu 1000 (8 * k) * mu 1008 (mu 1000 (8 * k + 1)) := by
  have r := pl_rng k
  unfold worthT
  rw [if_neg (by omega), l_worth hG hP hQ hk]
theorem l_market {sg mu : Nat → Int → Int} (hG : GC sg) (h : LR sg mu) {k W : Int} (hk : 0 ≤ k ∧ k ≤ 3) (hW : W = mu 1000 (8 * k) * mu 1008 (mu 1000 (8 * k + 1))) : marketR sg (pl k) = if mu 1000 (8 * k + 2) ≠ 0 then W else if 0 ≤ mu 1000 (8 * k + 3) then W * 70 / 100 else if bI (lBes mu k) = 1 then W * 90 / 100 else W := by
  obtain ⟨hP, hS, hN, hO, hX, hA, hI, hM, hZ, hK, hQ, hT, hJ⟩ := h
  have r := pl_rng k
  unfold marketR
  rw [l_worthT hG hP hQ hk, ← hW, (hS k hk.1 hk.2).1, hN k hk.1 hk.2, gn_200 hG (q := pl k) (by omega), bI_congr (l_beside hN hX hk)]
theorem l_shares {sg mu : Nat → Int → Int} (hG : GC sg) (hL : GL mu) (hA : RLA sg mu) {k : Int} (hk : 0 ≤ k ∧ k ≤ 3) : sumN (fun q => if mu 1001 q = 0 ∧ mu 1001 (24 + q) = k then mu 1002 q else 0) (sg 503 0).toNat = shares sg (pl k) := by
  have g := gr_503 hG 0
  unfold shares
  refine (sumN_cut 24 (by omega) (fun i hi => ?_) (fun i hi _ => if_neg (fun z => by have := z.1; omega))).symm
  obtain ⟨y1, y2, y3, y4, y5, y6⟩ := hA i (by omega) (by omega)
  have ys := l_same hL hA (j := i) ⟨by omega, by omega⟩ hk
  rw [y1, y3]
  by_cases e : sg 101 i = 0 ∧ sg 102 i = pl k
  · rw [if_pos ⟨by omega, e.1, e.2⟩, if_pos ⟨e.1, ys.mpr e.2⟩]
  · rw [if_neg (fun z => e ⟨z.2.1, z.2.2⟩), if_neg (fun z => e ⟨z.1, ys.mp z.2⟩)]
/-- a SUM found anew -/
theorem l_anew {sg : Nat → Int → Int} (hV : Inv sg) (hJ : RJA sg) {i : Int} (h : 0 ≤ i ∧ i < sg 503 0) : anewR sg i = sg 110 i := by
  unfold anewR
  by_cases e : sg 206 (sg 102 i) = -1
  · rw [if_pos e, inv_J4 hV i h.1 h.2 e]
  · rw [if_neg e]; exact hJ i h.1 h.2 e
