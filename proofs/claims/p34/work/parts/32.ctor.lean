/-! the constructors -/
def GW (sg : Nat → Int → Int) : Prop := (∀ j : Int, dmC sg 0 j → sg 102 j < sg 701 0) ∧ (∀ j : Int, dmC sg 1 j → sg 204 j < sg 703 0) ∧ (∀ j : Int, dmC sg 1 j → sg 207 j < sg 702 0) ∧ (∀ j : Int, dmC sg 1 j → sg 209 j < sg 700 0) ∧ (∀ j : Int, dmC sg 2 j → sg 302 j < sg 702 0) ∧ (∀ j : Int, dmC sg 4 j → sg 500 j < sg 710 0) ∧ (∀ j : Int, dmC sg 4 j → sg 501 j < sg 711 0) ∧ (∀ j : Int, dmC sg 4 j → sg 502 j < sg 709 0) ∧ (∀ j : Int, dmC sg 4 j → sg 504 j < sg 712 0) ∧ (∀ j : Int, sg 600 j < sg 700 0) ∧ (∀ j : Int, sg 601 j < sg 701 0) ∧ (∀ j : Int, sg 602 j < sg 702 0) ∧ (∀ j : Int, sg 603 j < sg 703 0)
theorem cell_oldW {cy : Nat → ClassId} {ad ad' : Nat → Int → Nat} {sg sg' : Nat → Int → Int} (hG : GW sg) (ho : ∀ k j, dmC sg k j → ad' k j = ad k j) {k : Nat} {j : Int} (hd : dmC sg k j) (hs : ∀ F i, F < 700 → (F < 600 → (F < 100 * (k + 1) + 100 ∧ 100 * (k + 1) ≤ F ∧ i = j)) → sg' F i = sg F i) : cellC cy ad' sg' k j = cellC cy ad sg k j := by
  have e600 : ∀ i, sg' 600 i = sg 600 i := fun i => hs 600 i (by decide) (fun h => absurd h (by decide))
  have e601 : ∀ i, sg' 601 i = sg 601 i := fun i => hs 601 i (by decide) (fun h => absurd h (by decide))
  have e602 : ∀ i, sg' 602 i = sg 602 i := fun i => hs 602 i (by decide) (fun h => absurd h (by decide))
  have e603 : ∀ i, sg' 603 i = sg 603 i := fun i => hs 603 i (by decide) (fun h => absurd h (by decide))
  unfold cellC
  split
  · have e100 : sg' 100 j = sg 100 j := hs 100 j (by decide) (fun _ => ⟨by decide, by decide, rfl⟩)
    have e101 : sg' 101 j = sg 101 j := hs 101 j (by decide) (fun _ => ⟨by decide, by decide, rfl⟩)
    have e102 : sg' 102 j = sg 102 j := hs 102 j (by decide) (fun _ => ⟨by decide, by decide, rfl⟩)
    have e103 : sg' 103 j = sg 103 j := hs 103 j (by decide) (fun _ => ⟨by decide, by decide, rfl⟩)
    have e104 : sg' 104 j = sg 104 j := hs 104 j (by decide) (fun _ => ⟨by decide, by decide, rfl⟩)
    have e105 : sg' 105 j = sg 105 j := hs 105 j (by decide) (fun _ => ⟨by decide, by decide, rfl⟩)
    have e106 : sg' 106 j = sg 106 j := hs 106 j (by decide) (fun _ => ⟨by decide, by decide, rfl⟩)
    have e107 : sg' 107 j = sg 107 j := hs 107 j (by decide) (fun _ => ⟨by decide, by decide, rfl⟩)
    have e108 : sg' 108 j = sg 108 j := hs 108 j (by decide) (fun _ => ⟨by decide, by decide, rfl⟩)
    have e109 : sg' 109 j = sg 109 j := hs 109 j (by decide) (fun _ => ⟨by decide, by decide, rfl⟩)
    have e110 : sg' 110 j = sg 110 j := hs 110 j (by decide) (fun _ => ⟨by decide, by decide, rfl⟩)
    have e111 : sg' 111 j = sg 111 j := hs 111 j (by decide) (fun _ => ⟨by decide, by decide, rfl⟩)
    have e112 : sg' 112 j = sg 112 j := hs 112 j (by decide) (fun _ => ⟨by decide, by decide, rfl⟩)
    have e113 : sg' 113 j = sg 113 j := hs 113 j (by decide) (fun _ => ⟨by decide, by decide, rfl⟩)
    have e114 : sg' 114 j = sg 114 j := hs 114 j (by decide) (fun _ => ⟨by decide, by decide, rfl⟩)
    have r102 : rv (ad' 1) (sg 102 j) = rv (ad 1) (sg 102 j) := rv_ad fun h => ho 1 _ ⟨h, hG.1 j hd⟩
    show Sum.inr (0, fsC0 ad' sg' j) = Sum.inr (0, fsC0 ad sg j)
    simp only [fsC0, e100, e101, e102, e103, e104, e105, e106, e107, e108, e109, e110, e111, e112, e113, e114, r102]
  · have e200 : sg' 200 j = sg 200 j := hs 200 j (by decide) (fun _ => ⟨by decide, by decide, rfl⟩)
    have e201 : sg' 201 j = sg 201 j := hs 201 j (by decide) (fun _ => ⟨by decide, by decide, rfl⟩)
    have e202 : sg' 202 j = sg 202 j := hs 202 j (by decide) (fun _ => ⟨by decide, by decide, rfl⟩)
    have e203 : sg' 203 j = sg 203 j := hs 203 j (by decide) (fun _ => ⟨by decide, by decide, rfl⟩)
    have e204 : sg' 204 j = sg 204 j := hs 204 j (by decide) (fun _ => ⟨by decide, by decide, rfl⟩)
    have e205 : sg' 205 j = sg 205 j := hs 205 j (by decide) (fun _ => ⟨by decide, by decide, rfl⟩)
    have e206 : sg' 206 j = sg 206 j := hs 206 j (by decide) (fun _ => ⟨by decide, by decide, rfl⟩)
    have e207 : sg' 207 j = sg 207 j := hs 207 j (by decide) (fun _ => ⟨by decide, by decide, rfl⟩)
    have e208 : sg' 208 j = sg 208 j := hs 208 j (by decide) (fun _ => ⟨by decide, by decide, rfl⟩)
    have e209 : sg' 209 j = sg 209 j := hs 209 j (by decide) (fun _ => ⟨by decide, by decide, rfl⟩)
    have e210 : sg' 210 j = sg 210 j := hs 210 j (by decide) (fun _ => ⟨by decide, by decide, rfl⟩)
    have r204 : rv (ad' 3) (sg 204 j) = rv (ad 3) (sg 204 j) := rv_ad fun h => ho 3 _ ⟨h, hG.2.1 j hd⟩
    have r207 : rv (ad' 2) (sg 207 j) = rv (ad 2) (sg 207 j) := rv_ad fun h => ho 2 _ ⟨h, hG.2.2.1 j hd⟩
    have r209 : rv (ad' 0) (sg 209 j) = rv (ad 0) (sg 209 j) := rv_ad fun h => ho 0 _ ⟨h, hG.2.2.2.1 j hd⟩
    show Sum.inr (1, fsC1 ad' sg' j) = Sum.inr (1, fsC1 ad sg j)
    simp only [fsC1, e200, e201, e202, e203, e204, e205, e206, e207, e208, e209, e210, r204, r207, r209]
  · have e300 : sg' 300 j = sg 300 j := hs 300 j (by decide) (fun _ => ⟨by decide, by decide, rfl⟩)
    have e301 : sg' 301 j = sg 301 j := hs 301 j (by decide) (fun _ => ⟨by decide, by decide, rfl⟩)
    have e302 : sg' 302 j = sg 302 j := hs 302 j (by decide) (fun _ => ⟨by decide, by decide, rfl⟩)
    have r302 : rv (ad' 2) (sg 302 j) = rv (ad 2) (sg 302 j) := rv_ad fun h => ho 2 _ ⟨h, hG.2.2.2.2.1 j hd⟩
    show Sum.inr (2, fsC2 ad' sg' j) = Sum.inr (2, fsC2 ad sg j)
    simp only [fsC2, e300, e301, e302, r302]
  · have e400 : sg' 400 j = sg 400 j := hs 400 j (by decide) (fun _ => ⟨by decide, by decide, rfl⟩)
    have e401 : sg' 401 j = sg 401 j := hs 401 j (by decide) (fun _ => ⟨by decide, by decide, rfl⟩)
    have e402 : sg' 402 j = sg 402 j := hs 402 j (by decide) (fun _ => ⟨by decide, by decide, rfl⟩)
    have e403 : sg' 403 j = sg 403 j := hs 403 j (by decide) (fun _ => ⟨by decide, by decide, rfl⟩)
    have e404 : sg' 404 j = sg 404 j := hs 404 j (by decide) (fun _ => ⟨by decide, by decide, rfl⟩)
    have e405 : sg' 405 j = sg 405 j := hs 405 j (by decide) (fun _ => ⟨by decide, by decide, rfl⟩)
    show Sum.inr (3, fsC3 ad' sg' j) = Sum.inr (3, fsC3 ad sg j)
    simp only [fsC3, e400, e401, e402, e403, e404, e405]
  · have e500 : sg' 500 j = sg 500 j := hs 500 j (by decide) (fun _ => ⟨by decide, by decide, rfl⟩)
    have e501 : sg' 501 j = sg 501 j := hs 501 j (by decide) (fun _ => ⟨by decide, by decide, rfl⟩)
    have e502 : sg' 502 j = sg 502 j := hs 502 j (by decide) (fun _ => ⟨by decide, by decide, rfl⟩)
    have e503 : sg' 503 j = sg 503 j := hs 503 j (by decide) (fun _ => ⟨by decide, by decide, rfl⟩)
    have e504 : sg' 504 j = sg 504 j := hs 504 j (by decide) (fun _ => ⟨by decide, by decide, rfl⟩)
    have e505 : sg' 505 j = sg 505 j := hs 505 j (by decide) (fun _ => ⟨by decide, by decide, rfl⟩)
    have e506 : sg' 506 j = sg 506 j := hs 506 j (by decide) (fun _ => ⟨by decide, by decide, rfl⟩)
    have e507 : sg' 507 j = sg 507 j := hs 507 j (by decide) (fun _ => ⟨by decide, by decide, rfl⟩)
    have e508 : sg' 508 j = sg 508 j := hs 508 j (by decide) (fun _ => ⟨by decide, by decide, rfl⟩)
    have e509 : sg' 509 j = sg 509 j := hs 509 j (by decide) (fun _ => ⟨by decide, by decide, rfl⟩)
    have e510 : sg' 510 j = sg 510 j := hs 510 j (by decide) (fun _ => ⟨by decide, by decide, rfl⟩)
    have e511 : sg' 511 j = sg 511 j := hs 511 j (by decide) (fun _ => ⟨by decide, by decide, rfl⟩)
    have r500 : rv (ad' 10) (sg 500 j) = rv (ad 10) (sg 500 j) := rv_ad fun h => ho 10 _ ⟨h, hG.2.2.2.2.2.1 j hd⟩
    have r501 : rv (ad' 11) (sg 501 j) = rv (ad 11) (sg 501 j) := rv_ad fun h => ho 11 _ ⟨h, hG.2.2.2.2.2.2.1 j hd⟩
    have r502 : rv (ad' 9) (sg 502 j) = rv (ad 9) (sg 502 j) := rv_ad fun h => ho 9 _ ⟨h, hG.2.2.2.2.2.2.2.1 j hd⟩
    have r504 : rv (ad' 12) (sg 504 j) = rv (ad 12) (sg 504 j) := rv_ad fun h => ho 12 _ ⟨h, hG.2.2.2.2.2.2.2.2.1 j hd⟩
    show Sum.inr (4, fsC4 ad' sg' j) = Sum.inr (4, fsC4 ad sg j)
    simp only [fsC4, e500, e501, e502, e503, e504, e505, e506, e507, e508, e509, e510, e511, r500, r501, r502, r504]
  · have e : (fun i : Nat => ro (ad' 0) (sg' 600 (i : Int))) = fun i : Nat => ro (ad 0) (sg 600 (i : Int)) := by
      funext i
      rw [e600]
      exact ro_ad fun h => ho 0 _ ⟨h, hG.2.2.2.2.2.2.2.2.2.1 _⟩
    rw [e]
  · have e : (fun i : Nat => ro (ad' 1) (sg' 601 (i : Int))) = fun i : Nat => ro (ad 1) (sg 601 (i : Int)) := by
      funext i
      rw [e601]
      exact ro_ad fun h => ho 1 _ ⟨h, hG.2.2.2.2.2.2.2.2.2.2.1 _⟩
    rw [e]
  · have e : (fun i : Nat => ro (ad' 2) (sg' 602 (i : Int))) = fun i : Nat => ro (ad 2) (sg 602 (i : Int)) := by
      funext i
      rw [e602]
      exact ro_ad fun h => ho 2 _ ⟨h, hG.2.2.2.2.2.2.2.2.2.2.2.1 _⟩
    rw [e]
  · have e : (fun i : Nat => ro (ad' 3) (sg' 603 (i : Int))) = fun i : Nat => ro (ad 3) (sg 603 (i : Int)) := by
      funext i
      rw [e603]
      exact ro_ad fun h => ho 3 _ ⟨h, hG.2.2.2.2.2.2.2.2.2.2.2.2 _⟩
    rw [e]
  · rfl
theorem puW_1 {D : va_G} {cy : Nat → ClassId} {A : Nat → Prop} {ad ad' : Nat → Int → Nat} {sg : Nat → Int → Int} {H : Heap} {q : Nat} {n a0 a1 a2 a3 a4 a5 a6 a7 a8 a9 a10 : Int} (hR : RC D cy A ad sg H) (hG : GW sg) (h7 : sg 701 0 = n) (hn0 : 0 ≤ n) (hn : ad' 1 n = q) (ho : ∀ k j, dmC sg k j → ad' k j = ad k j) (hne : ∀ k j, dmC sg k j → ad k j ≠ q) (hq : A q) (hO : va_at D vwCl (q, .inr (1, [.int (iI (a0)), .int (iI (a1)), .int (iI (a2)), .int (iI (a3)), rv (ad' 3) (a4), .int (iI (a5)), .int (iI (a6)), rv (ad' 2) (a7), .int (iI (a8)), rv (ad' 0) (a9), .int (iI (a10))])) H) : RC D cy A ad' (nw sg 200 701 n [a0, a1, a2, a3, a4, a5, a6, a7, a8, a9, a10]) H := by
  subst hn
  refine wr_push (k := 1) (j := n) (q := ad' 1 n) (e := .inr (1, [.int (iI (a0)), .int (iI (a1)), .int (iI (a2)), .int (iI (a3)), rv (ad' 3) (a4), .int (iI (a5)), .int (iI (a6)), rv (ad' 2) (a7), .int (iI (a8)), rv (ad' 0) (a9), .int (iI (a10))])) hR (fun h => ?_) (fun k' j' => ?_) (fun k' j' hd => ⟨ho k' j' hd, ?_⟩) rfl ?_ hne hq hO
  · have h2 : n < sg 701 0 := h.2
    omega
  · show (0 ≤ j' ∧ j' < nw sg 200 701 n [a0, a1, a2, a3, a4, a5, a6, a7, a8, a9, a10] (700 + k') 0) ↔ ((0 ≤ j' ∧ j' < sg (700 + k') 0) ∨ (k' = 1 ∧ j' = n))
    by_cases hk : k' = 1
    · subst hk
      have e : nw sg 200 701 n [a0, a1, a2, a3, a4, a5, a6, a7, a8, a9, a10] (700 + 1) 0 = n + 1 := by
        unfold nw
        rw [if_neg (by simp), if_pos ⟨rfl, rfl⟩]
      have e2 : sg (700 + 1) 0 = n := h7
      rw [e, e2]
      omega
    · rw [nw_o (Or.inl (by simp; omega)) (Or.inl (by omega))]
      omega
  · refine cell_oldW hG ho hd (fun F i hF hc => nw_o ?_ (Or.inl (by omega)))
    by_cases h6 : F < 600
    · obtain ⟨c1, c2, c3⟩ := hc h6
      by_cases hj : i = n
      · refine Or.inl fun z => ?_
        have hk : k' = 1 := by simp at z; omega
        subst hk
        have h2 : j' < sg 701 0 := hd.2
        omega
      · exact Or.inr hj
    · exact Or.inl (by simp; omega)
  · show (Sum.inr (1, fsC1 ad' (nw sg 200 701 n [a0, a1, a2, a3, a4, a5, a6, a7, a8, a9, a10]) n) : va_E) = _
    simp [fsC1, nw]
theorem puW_2 {D : va_G} {cy : Nat → ClassId} {A : Nat → Prop} {ad ad' : Nat → Int → Nat} {sg : Nat → Int → Int} {H : Heap} {q : Nat} {n a0 a1 a2 : Int} (hR : RC D cy A ad sg H) (hG : GW sg) (h7 : sg 702 0 = n) (hn0 : 0 ≤ n) (hn : ad' 2 n = q) (ho : ∀ k j, dmC sg k j → ad' k j = ad k j) (hne : ∀ k j, dmC sg k j → ad k j ≠ q) (hq : A q) (hO : va_at D vwCl (q, .inr (2, [.int (iI (a0)), .int (iI (a1)), rv (ad' 2) (a2)])) H) : RC D cy A ad' (nw sg 300 702 n [a0, a1, a2]) H := by
  subst hn
  refine wr_push (k := 2) (j := n) (q := ad' 2 n) (e := .inr (2, [.int (iI (a0)), .int (iI (a1)), rv (ad' 2) (a2)])) hR (fun h => ?_) (fun k' j' => ?_) (fun k' j' hd => ⟨ho k' j' hd, ?_⟩) rfl ?_ hne hq hO
  · have h2 : n < sg 702 0 := h.2
    omega
  · show (0 ≤ j' ∧ j' < nw sg 300 702 n [a0, a1, a2] (700 + k') 0) ↔ ((0 ≤ j' ∧ j' < sg (700 + k') 0) ∨ (k' = 2 ∧ j' = n))
    by_cases hk : k' = 2
    · subst hk
      have e : nw sg 300 702 n [a0, a1, a2] (700 + 2) 0 = n + 1 := by
        unfold nw
        rw [if_neg (by simp), if_pos ⟨rfl, rfl⟩]
      have e2 : sg (700 + 2) 0 = n := h7
      rw [e, e2]
      omega
    · rw [nw_o (Or.inl (by simp; omega)) (Or.inl (by omega))]
      omega
  · refine cell_oldW hG ho hd (fun F i hF hc => nw_o ?_ (Or.inl (by omega)))
    by_cases h6 : F < 600
    · obtain ⟨c1, c2, c3⟩ := hc h6
      by_cases hj : i = n
      · refine Or.inl fun z => ?_
        have hk : k' = 2 := by simp at z; omega
        subst hk
        have h2 : j' < sg 702 0 := hd.2
        omega
      · exact Or.inr hj
    · exact Or.inl (by simp; omega)
  · show (Sum.inr (2, fsC2 ad' (nw sg 300 702 n [a0, a1, a2]) n) : va_E) = _
    simp [fsC2, nw]
def zC (f : Nat) (j : Int) : Int := if f = 201 then 10 else if f = 204 ∨ f = 206 ∨ f = 207 ∨ f = 209 ∨ f = 302 ∨ f = 600 ∨ f = 601 ∨ f = 602 ∨ f = 603 then -1 else if (f = 704 ∨ f = 709 ∨ f = 710 ∨ f = 711 ∨ f = 712) ∧ j = 0 then 1 else 0
def zT (a b : Int) (f : Nat) (j : Int) : Int := if f = 601 ∧ 0 ≤ j ∧ j < a then j else if f = 200 ∧ 0 ≤ j ∧ j < a then j else if f = 602 ∧ 0 ≤ j ∧ j < b then j else if f = 301 ∧ 0 ≤ j ∧ j < b then (if j = 0 then 5 else if j = 1 then 20 else 30) else if f = 701 ∧ j = 0 then a else if f = 702 ∧ j = 0 then b else zC f j
theorem zT_p {a b : Int} (h : 0 ≤ a) : st (nw (zT a b) 200 701 a [a, 10, 0, 0, -1, 0, -1, -1, 0, -1, 0]) 601 a a = zT (a + 1) b := by
  funext f j
  by_cases hr : j = a ∧ 200 ≤ f ∧ f < 211
  · obtain ⟨rfl, h1, h2⟩ := hr
    have hf : f = 200 ∨ f = 201 ∨ f = 202 ∨ f = 203 ∨ f = 204 ∨ f = 205 ∨ f = 206 ∨ f = 207 ∨ f = 208 ∨ f = 209 ∨ f = 210 := by omega
    rcases hf with e | e | e | e | e | e | e | e | e | e | e <;> subst e <;> simp [st, nw, zT, zC] <;> omega
  · have hr2 : ¬ (j = a ∧ 200 ≤ f ∧ f < 200 + [a, 10, 0, 0, -1, 0, -1, -1, 0, -1, 0].length) := hr
    simp only [st, nw, if_neg hr2, zT]
    (repeat' split) <;> first | rfl | omega
theorem zT_q {a b ce : Int} (h : 0 ≤ b ∧ b < 3) (hc : ce = if b = 0 then 5 else if b = 1 then 20 else 30) : st (nw (zT a b) 300 702 b [0, ce, -1]) 602 b b = zT a (b + 1) := by
  funext f j
  by_cases hr : j = b ∧ 300 ≤ f ∧ f < 303
  · obtain ⟨rfl, h1, h2⟩ := hr
    have hf : f = 300 ∨ f = 301 ∨ f = 302 := by omega
    rcases hf with e | e | e <;> subst e
    · simp [st, nw, zT, zC]
    · have e : nw (zT a j) 300 702 j [0, ce, -1] 301 j = ce := by simp [nw]
      have e2 : zT a (j + 1) 301 j = if j = 0 then 5 else if j = 1 then 20 else 30 := by
        unfold zT
        rw [if_neg (by omega), if_neg (by omega), if_neg (by omega), if_pos (by omega)]
      rw [st_f (by decide), e, e2, hc]
    · simp [st, nw, zT, zC]
  · have hr2 : ¬ (j = b ∧ 300 ≤ f ∧ f < 300 + [0, ce, -1].length) := hr
    simp only [st, nw, if_neg hr2, zT]
    (repeat' split) <;> first | rfl | omega
theorem zd {a b : Int} {k : Nat} (h : k = 4 ∨ k = 9 ∨ k = 10 ∨ k = 11 ∨ k = 12) : dmC (zT a b) k 0 := by
  refine ⟨Int.le_refl 0, ?_⟩
  rcases h with h | h | h | h | h <;> subst h <;> exact (by decide : (0 : Int) < 1)
theorem gw_zT {a b : Int} (ha : 0 ≤ a) (hb : 0 ≤ b) : GW (zT a b) := by
  have h7 : ∀ k : Nat, 0 ≤ zT a b (700 + k) 0 := by
    intro k
    simp only [zT, zC]
    (repeat' split) <;> omega
  have h0 : ∀ j : Int, ¬ dmC (zT a b) 0 j := fun j h => by
    have h1 : j < zT a b 700 0 := h.2
    have h2 : zT a b 700 0 = 0 := rfl
    have h3 := h.1
    omega
  refine ⟨fun j h => absurd h (h0 j), fun j _ => ?_, fun j _ => ?_, fun j _ => ?_, fun j _ => ?_, fun j _ => ?_, fun j _ => ?_, fun j _ => ?_, fun j _ => ?_, fun j => ?_, fun j => ?_, fun j => ?_, fun j => ?_⟩
  · have z : 0 ≤ zT a b 703 0 := h7 3; show (-1 : Int) < _; omega
  · have z : 0 ≤ zT a b 702 0 := h7 2; show (-1 : Int) < _; omega
  · have z : 0 ≤ zT a b 700 0 := h7 0; show (-1 : Int) < _; omega
  · have z : 0 ≤ zT a b 702 0 := h7 2; show (-1 : Int) < _; omega
  · show (0 : Int) < 1; decide
  · show (0 : Int) < 1; decide
  · show (0 : Int) < 1; decide
  · show (0 : Int) < 1; decide
  · show (-1 : Int) < 0; decide
  · show zT a b 601 j < a; unfold zT; (repeat' split) <;> first | omega | (have e : zC 601 j = -1 := rfl; omega)
  · show zT a b 602 j < b; unfold zT; (repeat' split) <;> first | omega | (have e : zC 602 j = -1 := rfl; omega)
  · show (-1 : Int) < 0; decide
/-- arrays of a class that is known -/
theorem cy_u {cy : Nat → ClassId} {D : va_G} {cA c0 : ClassId} {U : State} {ty : FieldType} (t0 : Nat) (h : (tysC cy)[t0]? = some (c0, ty)) (hK : va_K D vwCl (tysC cy ++ [(cA, ty)]) U) (hu : va_RA U c0 ty → va_RA U cA ty → cA = c0) : cA = c0 := by
  have h0 : t0 < (tysC cy).length := (List.getElem?_eq_some_iff.mp h).1
  exact hu (hK.2 t0 (c0, ty) (by rw [List.getElem?_append_left h0]; exact h)).2 (hK.2 7 (cA, ty) rfl).2
theorem ra_o {U : State} {c0 cA : ClassId} {C : String} (h : va_RA U c0 (.object C)) (h2 : va_RA U cA (.object C)) : cA = c0 := by
  obtain ⟨-, -, -, -, -, e⟩ := h
  obtain ⟨-, -, -, -, -, e2⟩ := h2
  exact Option.some.inj (e2.symm.trans e)
theorem ra_i {U : State} {c0 cA : ClassId} (h : va_RA U c0 .int) (h2 : va_RA U cA .int) : cA = c0 := Option.some.inj ((va_nm_int h2).symm.trans (va_nm_int h))
theorem ra_l {U : State} {c0 cA : ClassId} (h : va_RA U c0 .long) (h2 : va_RA U cA .long) : cA = c0 := Option.some.inj ((va_nm_long h2).symm.trans (va_nm_long h))
theorem ra_z {U : State} {c0 cA : ClassId} (h : va_RA U c0 .boolean) (h2 : va_RA U cA .boolean) : cA = c0 := Option.some.inj ((va_nm_boolean h2).symm.trans (va_nm_boolean h))
/-- what a hall's making needs beside -/
def AOs (U : State) : Prop := va_AO RX1 U ∧ va_AO RX2 U ∧ va_AO RX0 U ∧ va_AO RX3 U
def PcO (D : va_G) (cy : Nat → ClassId) (H : Heap) (as : List Value) : Array Value → State → Prop := va_Pc as (fun U => U.heap = H ∧ KC D cy U ∧ AOs U)
theorem AOs.moved {u U : State} (hvm : u.vm.Alike U.vm) (h : AOs u) : AOs U := ⟨va_AO.moved hvm h.1, va_AO.moved hvm h.2.1, va_AO.moved hvm h.2.2.1, va_AO.moved hvm h.2.2.2⟩
theorem PcO_blind {D : va_G} {cy : Nat → ClassId} {H : Heap} {as : List Value} : FrameBlind (PcO D cy H as) := fun a U g mk h => ⟨h.1, h.2.1, va_K.moved (u := U) (U := U.calling g mk a) (Vm.Alike.refl U.vm) h.2.2.1, AOs.moved (u := U) (U := U.calling g mk a) (Vm.Alike.refl U.vm) h.2.2.2⟩
theorem met_ofO {l : Launch} {D : va_G} {cy : Nat → ClassId} {y : MethodName} {cc : ByteArray} {maxL f lo mc ms : Nat} {ret : Option FieldType} {H : Heap} {as : List Value} {Qc : Array Value → State → Outcome → State → Prop} {free : Addr → Prop} {la : List (Nat × Value)} (hy : plainName y.cls = true) (hlen : (lg_sl as).length ≤ maxL) (hla : lv_args 0 as = la)
    (body : ∀ (p : Program) (e : Env) (R : Room) (s : State) (m : MethodId) (args : Array Value) (below : List Frame) (meth : Method) (c : Code) (ls : Array Slot), R = rmF f lo mc ms → p.tables.exec = Jvm.exec → c.code = cc → c.maxLocals = maxL → meth.sig.returnType = ret → meth.locks = false → (y.name = "<init>" → meth.name = "<init>") → s.vm.findClass y.cls = some m.cls → (∀ w ∈ wG, w.before args s = true) → s.heap = H → KC D cy s → AOs s → lv_has ls maxL la →
      W p l e R s m args below meth c H [] 0 0 (MQ below Qc args s mc ms free) (F0 m 0 ls [])) :
    Met l y (Cond.code y cc maxL ret :: wG) (rmF f lo mc ms) (PcO D cy H as) Qc mc ms free := by
  refine Met.ofW (cc := cc) (maxL := maxL) (ret := ret) hy rfl ?_
  intro p e s m args below meth c s₁ B hml hv
  obtain ⟨rfl, hsH, hK, hO⟩ := hv
  have hts := atoms_spec (ws := Cond.code y cc maxL ret :: wG) B.pre
  have hl := lv_entry as (n := maxL) hlen
  rw [lg_entry_eq]
  rw [hla] at hl
  rw [hsH]
  have hn : y.name = "<init>" → meth.name = "<init>" := fun h => (name_of_methodNamed B.named B.method).1.trans h
  exact body p e _ s m as.toArray below meth c _ rfl B.exec B.bytes hml B.returns B.notSynchronized hn (findClass_of_methodNamed B.named) (fun w hw => hts w (List.mem_cons_of_mem _ hw)) hsH hK hO hl
section XI
variable {p : Program} {l : Launch} {e : Env} {R : Room} {s : State} {m : MethodId} {args : Array Value} {below : List Frame} {meth : Method} {c : Code} {H : Heap} {locs : List Loc} {cells slots mc ms : Nat}
variable {cc : ByteArray} {rest : List Value} {D : va_G} {cy : Nat → ClassId} {own C : String} {index n maxL nL f lo : Nat} {y : MethodName} {bytes : ByteArray} {Qc : Array Value → State → Outcome → State → Prop} {free : Addr → Prop}
theorem xr_IO {As : List Value} {b : Addr} {g : JFrame} (hx : p.tables.exec = Jvm.exec) (hb : c.code = cc) (hml : c.maxLocals = nL) (hown : s.vm.findClass own = some m.cls) (hts : ∀ w ∈ wG, w.before args s = true) (hK : KC D cy s) (hO : AOs s) (hM : Met l y (Cond.code y bytes maxL none :: wG) (rmF f lo mc ms) (PcO D cy H (.ref b :: As)) Qc mc ms free) (hcd : Cond.code y bytes maxL none ∈ wG) (hin : Cond.instanceMethod y ∈ wG) (hini : Cond.initialized y.cls ∈ wG) (hy1 : y.name = "<init>") (hd : y.cls ≠ "java/lang/invoke/MethodHandle" ∧ y.cls ≠ "java/lang/invoke/VarHandle" ∧ (parseMethodDescriptor y.desc).map (fun d => d.parameters.length) = some n) (hk : Cond.methodLink own index y ∈ wG) (hR : f + 1 ≤ R.frames ∧ 8 + (maxL + 11) + lo ≤ R.locals) (hf : cells + mc ≤ R.cells ∧ slots + ms ≤ R.slots) (hn : As.length = n) (hg : g.method = m) (hz : g.locals.size = nL) (hs : g.stack = As.reverse ++ .ref b :: rest) (hW : 2 * g.monitorRoom + (rest.map fun v => v.category).sum ≤ 8) (d : decode cc g.pc = .ok (.invokespecial index, 3)) :
    va_Run p l e R s m args below meth c H locs cells slots mc ms g rest (Qc (Value.ref b :: As).toArray) free := by
  have hG : GoodIn wG (Cond.code y bytes maxL none :: wG) := fun w hw => by
    rcases List.mem_cons.mp hw with z | z
    · subst z; exact ⟨hcd, wG_good hcd⟩
    · exact ⟨z, wG_good z⟩
  exact va_runI ⟨hx, hb, hml, hown, hts⟩ hM (cwI n hts hG rfl rfl rfl (hts _ hini) (hts _ hk) (hts _ hin) hy1 hd hR) ⟨PcO_blind, fun U hU hW => ⟨rfl, hU, va_K.moved hW.alike hK, hO.moved hW.alike⟩⟩ hg hn hz hs hW d hf
end XI
