theorem lefts_b {sg : Nat → Int → Int} {v land b1 b2 : Int} (h : ∀ i : Int, i < sg 503 0 → (i < b1 ↔ i < b2)) : ∀ n : Nat, lefts sg v land b1 n = lefts sg v land b2 n
  | 0 => rfl
  | n + 1 => by
    have e := lefts_b (v := v) (land := land) h n
    show (if (n : Int) < sg 503 0 ∧ sg 101 n = 2 ∧ sg 102 n = v ∧ (n : Int) < b1 then lefts sg v land b1 n - mn (lefts sg v land b1 n) (sg 105 n) else lefts sg v land b1 n) = (if (n : Int) < sg 503 0 ∧ sg 101 n = 2 ∧ sg 102 n = v ∧ (n : Int) < b2 then lefts sg v land b2 n - mn (lefts sg v land b2 n) (sg 105 n) else lefts sg v land b2 n)
    rw [e]
    by_cases z : (n : Int) < sg 503 0
    · simp only [h n z]
    · rw [if_neg (fun y => z y.1), if_neg (fun y => z y.1)]
theorem lefts_c {sg : Nat → Int → Int} {v land b : Int} {n : Nat} (h : b ≤ n) : ∀ k : Nat, lefts sg v land b (n + k) = lefts sg v land b n
  | 0 => rfl
  | k + 1 => by
    have e := lefts_c (sg := sg) (v := v) (land := land) h k
    show (if ((n + k : Nat) : Int) < sg 503 0 ∧ _ ∧ _ ∧ ((n + k : Nat) : Int) < b then _ else lefts sg v land b (n + k)) = _
    rw [if_neg (fun z => absurd z.2.2.2 (by omega)), e]
theorem e_leftN {sg mu : Nat → Int → Int} (hIA : RIA sg mu) {p land b : Int} (hl : mu 1012 p = land) (hb : b ≤ sg 503 0) : ∀ n : Nat, (n : Int) ≤ b → mLeftN mu p n = lefts sg p land b n
  | 0, _ => hl
  | n + 1, h => by
    have e := e_leftN hIA hl hb n (by omega)
    have h1 := hIA n (by omega) (by omega)
    show (if mu 1014 n = 2 ∧ mu 1015 n = p then mLeftN mu p n - (if mu 1018 n < mLeftN mu p n then mu 1018 n else mLeftN mu p n) else mLeftN mu p n) = (if (n : Int) < sg 503 0 ∧ sg 101 n = 2 ∧ sg 102 n = p ∧ (n : Int) < b then lefts sg p land b n - mn (lefts sg p land b n) (sg 105 n) else lefts sg p land b n)
    rw [e, h1.1, h1.2.1, h1.2.2.2.2.1]
    by_cases z : sg 101 n = 2 ∧ sg 102 n = p
    · have hc : (n : Int) < sg 503 0 ∧ sg 101 n = 2 ∧ sg 102 n = p ∧ (n : Int) < b := ⟨by omega, z.1, z.2, by omega⟩
      rw [if_pos z, if_pos hc]
      unfold mn
      (repeat' split) <;> omega
    · rw [if_neg z, if_neg (fun y => z ⟨y.2.1, y.2.2.1⟩)]
theorem e_left {sg mu : Nat → Int → Int} (hIA : RIA sg mu) (hG : GC sg) {p land b : Int} (hl : mu 1012 p = land) (hb : 0 ≤ b ∧ b ≤ sg 503 0) : mLeft mu p b = leftB sg p land b := by
  have hn := gr_503 hG 0
  unfold mLeft leftB
  rw [e_leftN hIA hl hb.2 _ (by omega)]
  have h3 := lefts_c (sg := sg) (v := p) (land := land) (b := b) (n := b.toNat) (by omega) (24 - b.toNat)
  rw [show b.toNat + (24 - b.toNat) = 24 by omega] at h3
  exact h3.symm
theorem e_leftA {sg mu : Nat → Int → Int} (hS : RSc sg mu) (hIA : RIA sg mu) (hG : GC sg) {p land : Int} (hl : mu 1012 p = land) : mLeft mu p (mu 913 0) = leftB sg p land 24 := by
  have hn := gr_503 hG 0
  rw [hS.2.1, e_left hIA hG hl (by omega)]
  exact lefts_b (fun i hi => by omega) 24
theorem e_share {sg mu : Nat → Int → Int} (hS : RSc sg mu) (hIA : RIA sg mu) (hG : GC sg) {i land : Int} (hi : 0 ≤ i ∧ i < sg 503 0) (hl : mu 1012 (sg 102 i) = land) : mShare mu i = leftB sg (sg 102 i) land 24 * sg 105 i / 100 := by
  have h1 := hIA i hi.1 hi.2
  unfold mShare
  rw [h1.2.1, e_leftA hS hIA hG hl, h1.2.2.2.2.1]
theorem e_sum {sg mu : Nat → Int → Int} (hS : RSc sg mu) (hPA : RPA sg mu) (hPS : RPS sg mu) (hIA : RIA sg mu) (hG : GC sg) {i land : Int} (hi : 0 ≤ i ∧ i < sg 503 0) (hl : mu 1012 (sg 102 i) = land) : mSum mu i = sumB sg i land := by
  have h1 := hIA i hi.1 hi.2
  have h2 := gr_102 hG i
  have h3 := hPA (sg 102 i) (by omega) (by omega)
  have h4 := hPS (sg 102 i) (by omega) (by omega)
  have h5 := gr_101 hG i
  unfold mSum sumB
  rw [h1.1, h1.2.1, h1.2.2.2.2.1, e_left hIA hG hl (by omega), h3.2, h4.2.1, h4.2.2.1, h1.2.2.2.1, h1.2.2.2.2.2]
  by_cases k2 : sg 101 i = 2
  · rw [if_pos k2, if_neg (show ¬ sg 101 i = 0 by omega), if_neg (show ¬ sg 101 i = 1 by omega)]
    unfold mn
    (repeat' split) <;> omega
  · rw [if_neg k2]
    by_cases k0 : sg 101 i = 0
    · rw [if_pos k0, if_pos k0, e_share hS hIA hG hi hl]
      rfl
    · rw [if_neg k0, if_neg k0, if_pos (show sg 101 i = 1 by omega)]
      unfold leaS
      by_cases hd : sg 105 i - sg 206 (sg 102 i) ≤ 0
      · rw [if_pos hd, if_pos (show sg 101 i = 1 ∧ sg 105 i ≤ sg 206 (sg 102 i) by omega)]
      · rw [if_neg hd, if_neg (show ¬ (sg 101 i = 1 ∧ sg 105 i ≤ sg 206 (sg 102 i)) by omega)]
        have e : (if 730 < sg 105 i - sg 206 (sg 102 i) then 730 else sg 105 i - sg 206 (sg 102 i)) = mn 730 (sg 105 i - sg 206 (sg 102 i)) := by unfold mn; split <;> split <;> omega
        rw [e]
theorem e_owed {sg mu : Nat → Int → Int} (h : Rel sg mu) (hG : GC sg) {i : Int} (hi : 0 ≤ i ∧ i < sg 503 0) : mOwed mu i = owedO sg i := by
  obtain ⟨hS, hPA, hPS, hPN, hPO, hPL, hJ1, hJ2, hIA, hIN, hIS, hIP, hJ3, hJ8, hJ4, hZ, hK, hPR, hJ5, hT⟩ := h
  have h1 := hIA i hi.1 hi.2
  have h2 := gr_102 hG i
  have h4 := hPS (sg 102 i) (by omega) (by omega)
  have h5 := hIP i hi.1 hi.2
  have h6 := hIS i hi.1 hi.2
  have h7 := hJ3 i hi.1 hi.2
  unfold mOwed owedO gainO
  rw [h1.2.1, h4.2.2.1, h5.2.2.2, h5.2.2.1, h6, h5.2.1, hS.1]
  by_cases z : sg 206 (sg 102 i) = -1 ∨ sg 114 i ≠ 0
  · rw [if_pos z, if_pos (show i < 0 ∨ sg 206 (sg 102 i) = -1 ∨ sg 114 i ≠ 0 from Or.inr z)]
  · rw [if_neg z, if_neg (show ¬ (i < 0 ∨ sg 206 (sg 102 i) = -1 ∨ sg 114 i ≠ 0) by omega)]
    by_cases k : sg 112 i = -1
    · rw [if_pos k, if_pos k, h7.1 k]; omega
    · rw [if_neg k, if_neg k]; omega
theorem e_cred {sg mu : Nat → Int → Int} (h : Rel sg mu) (hG : GC sg) {u : Int} : mCred mu u = credR sg u := by
  have hn := gr_503 hG 0
  have hS := h.1
  have hIA : RIA sg mu := h.2.2.2.2.2.2.2.2.1
  unfold mCred credR
  rw [hS.2.1]
  refine (sumN_cut 24 (by omega) (fun i hi => bI_congr ?_) (fun i a b => bI_f (fun z => absurd z.1 (by omega)))).symm
  rw [(hIA i (by omega) (by omega)).2.2.1, e_owed h hG (i := (i : Int)) (by omega)]
  exact ⟨fun z => z.2, fun z => ⟨by omega, z⟩⟩
theorem e_shares {sg mu : Nat → Int → Int} (hS : RSc sg mu) (hIA : RIA sg mu) (hG : GC sg) {p : Int} : mShares mu p = shares sg p := by
  have hn := gr_503 hG 0
  unfold mShares shares
  rw [hS.2.1]
  refine (sumN_cut 24 (by omega) (fun i hi => ?_) (fun i a b => if_neg (fun z => absurd z.1 (by omega)))).symm
  have h1 := hIA i (by omega) (by omega)
  rw [h1.1, h1.2.1, h1.2.2.2.2.1]
  by_cases z : sg 101 i = 0 ∧ sg 102 i = p
  · rw [if_pos z, if_pos ⟨by omega, z⟩]
  · rw [if_neg z, if_neg (fun y => z y.2)]
/-! what a method of the class and the model's answer alike -/
theorem kWo_3 {a b c E : Int} : kWo [a, b, c] E = if E = a then 1 else if E = b then 2 else if E = c then 3 else 0 := rfl
theorem kWo_2 {a b E : Int} : kWo [a, b] E = if E = a then 1 else if E = b then 2 else 0 := rfl
theorem kWo_1 {a E : Int} : kWo [a] E = if E = a then 1 else 0 := rfl
theorem iAt_q {sg : Nat → Int → Int} {x : Int} (h : 0 ≤ x ∧ x < sg 503 0) : iAt sg x = x := by unfold iAt; rw [if_pos h]
theorem iAt_n {sg : Nat → Int → Int} {x : Int} (h : ¬ (0 ≤ x ∧ x < sg 503 0)) : iAt sg x = -1 := by unfold iAt; rw [if_neg h]
theorem sAt_q {sg : Nat → Int → Int} {x : Int} (h : 0 ≤ x ∧ x < sg 505 0) : sAt sg x = x := by unfold sAt; rw [if_pos h]
theorem sAt_n {sg : Nat → Int → Int} {x : Int} (h : ¬ (0 ≤ x ∧ x < sg 505 0)) : sAt sg x = -1 := by unfold sAt; rw [if_neg h]
theorem Rel9 {sg mu : Nat → Int → Int} (h : Rel sg mu) (k : Int) : Rel sg (st mu 900 0 k) := h
