/-! what the calls do: a SCHEME is dropped -/
theorem lNx_ext {a b : Nat → Int → Int} (e1 : a 1001 = b 1001) (e2 : a 1002 = b 1002) {many k w : Int} : ∀ n : Nat, lNx a many k w n = lNx b many k w n
  | 0 => rfl
  | n + 1 => by
    have h := lNx_ext e1 e2 (many := many) (k := k) (w := w) n
    have hc : lCand a k w ((n + 1 : Nat) : Int) = lCand b k w ((n + 1 : Nat) : Int) := by
      funext q
      unfold lCand
      rw [e1, e2]
    show (if 0 ≤ low (lCand a k w ((n + 1 : Nat) : Int)) many.toNat then low (lCand a k w ((n + 1 : Nat) : Int)) many.toNat else lNx a many k w n) = _
    rw [hc, h]
    rfl
noncomputable def ldX (M : Nat → Int → Int) (many q : Int) : Int := if M 1000 (8 * q + 6) = 1 then -1 else lNx M many q (-1) 100
def ldA (M : Nat → Int → Int) (q : Int) : Int := M 1000 (8 * q + 4) * (M 1000 (8 * q) * M 1008 (M 1000 (8 * q + 1))) / 100
noncomputable def ldO (M : Nat → Int → Int) (many q : Int) : Nat → Int → Int := st (st (st M 1000 (8 * q + 3) (-1)) 1000 (8 * q + 7) (ldX M many q)) 1012 q (ldA M q)
noncomputable def ldN (mu : Nat → Int → Int) (many w : Int) : Nat → Nat → Int → Int
  | 0 => mu
  | n + 1 => if ldN mu many w n 1000 (8 * (n : Int) + 3) = w then (if ldN mu many w n 1000 (8 * (n : Int) + 2) = 0 then lfN (ldN mu many w n) n many else ldO (ldN mu many w n) many n) else ldN mu many w n
noncomputable def ldC (mu : Nat → Int → Int) (many w : Int) : Nat → Int
  | 0 => 0
  | n + 1 => if ldN mu many w n 1000 (8 * (n : Int) + 3) = w then (if ldN mu many w n 1000 (8 * (n : Int) + 2) = 0 then ldC mu many w n else ldC mu many w n + (if ldX (ldN mu many w n) many n < 0 then 0 else 1)) else ldC mu many w n
theorem ldN_s {mu : Nat → Int → Int} {many w i : Int} (hi : 0 ≤ i) : ldN mu many w (i + 1).toNat = if ldN mu many w i.toNat 1000 (8 * i + 3) = w then (if ldN mu many w i.toNat 1000 (8 * i + 2) = 0 then lfN (ldN mu many w i.toNat) i many else ldO (ldN mu many w i.toNat) many i) else ldN mu many w i.toNat := by
  have e : (i + 1).toNat = i.toNat + 1 := by omega
  rw [e]
  show (if ldN mu many w i.toNat 1000 (8 * (i.toNat : Int) + 3) = w then (if ldN mu many w i.toNat 1000 (8 * (i.toNat : Int) + 2) = 0 then lfN (ldN mu many w i.toNat) (i.toNat : Int) many else ldO (ldN mu many w i.toNat) many (i.toNat : Int)) else ldN mu many w i.toNat) = _
  rw [Int.toNat_of_nonneg hi]
theorem ldC_s {mu : Nat → Int → Int} {many w i : Int} (hi : 0 ≤ i) : ldC mu many w (i + 1).toNat = if ldN mu many w i.toNat 1000 (8 * i + 3) = w then (if ldN mu many w i.toNat 1000 (8 * i + 2) = 0 then ldC mu many w i.toNat else ldC mu many w i.toNat + (if ldX (ldN mu many w i.toNat) many i < 0 then 0 else 1)) else ldC mu many w i.toNat := by
  have e : (i + 1).toNat = i.toNat + 1 := by omega
  rw [e]
  show (if ldN mu many w i.toNat 1000 (8 * (i.toNat : Int) + 3) = w then (if ldN mu many w i.toNat 1000 (8 * (i.toNat : Int) + 2) = 0 then ldC mu many w i.toNat else ldC mu many w i.toNat + (if ldX (ldN mu many w i.toNat) many (i.toNat : Int) < 0 then 0 else 1)) else ldC mu many w i.toNat) = _
  rw [Int.toNat_of_nonneg hi]
/-- the table with the needers as the class has them -/
def ovN (M S : Nat → Int → Int) : Nat → Int → Int := fun F j => if F = 1000 ∧ j % 8 = 3 ∧ 0 ≤ j ∧ j < 32 then needO S (pl (j / 8)) else M F j
theorem ovN_3 {M S : Nat → Int → Int} {k : Int} (hk : 0 ≤ k ∧ k ≤ 3) : ovN M S 1000 (8 * k + 3) = needO S (pl k) := by
  unfold ovN
  rw [if_pos ⟨rfl, by omega, by omega, by omega⟩, show (8 * k + 3) / 8 = k by omega]
theorem ovN_o {M S : Nat → Int → Int} {F : Nat} {j : Int} (h : F ≠ 1000 ∨ j % 8 ≠ 3) : ovN M S F j = M F j := if_neg (fun z => h.elim (fun y => y z.1) (fun y => y z.2.1))
theorem ovN_F {M S : Nat → Int → Int} {F : Nat} (h : F ≠ 1000) : ovN M S F = M F := funext fun _ => ovN_o (Or.inl h)
theorem ov_rel {M S : Nat → Int → Int} {k n : Int} (hk : 0 ≤ k ∧ k ≤ 3) : lfN (ovN M S) k n = ovN (lfN M k n) (relT S (pl k)) := by
  funext F j
  by_cases c : F = 1000 ∧ j % 8 = 3 ∧ 0 ≤ j ∧ j < 32
  · obtain ⟨c1, c2, c3, c4⟩ := c
    subst c1
    have ej : j = 8 * (j / 8) + 3 := by omega
    have hq : 0 ≤ j / 8 ∧ j / 8 ≤ 3 := by omega
    generalize j / 8 = q at ej hq
    subst ej
    rw [ovN_3 hq, need_rel (by have := pl_rng q; omega)]
    have e := pl_inj hq hk
    unfold lfN
    by_cases y : q = k
    · rw [if_pos ⟨rfl, by omega⟩, if_pos (e.mpr y)]
    · rw [if_neg (fun z => by omega), if_neg (fun z => by omega), if_neg (fun z => absurd z.1 (by decide)), if_neg (fun z => absurd z.1 (by decide)), if_neg (fun z => y (e.mp z)), ovN_3 hq]
  · have ho : ∀ (N T : Nat → Int → Int), ovN N T F j = N F j := fun N T => if_neg c
    have h1 : ovN M S 1001 (24 + j) = M 1001 (24 + j) := ovN_o (Or.inl (by decide))
    rw [ho]
    unfold lfN
    rw [h1, ho]
theorem ov_off {M S S' : Nat → Int → Int} {k x a : Int} (hk : 0 ≤ k ∧ k ≤ 3) (hn : needO S' = needO S) : st (st (ovN M S) 1000 (8 * k + 7) x) 1012 k a = ovN (st (st (st M 1000 (8 * k + 3) (-1)) 1000 (8 * k + 7) x) 1012 k a) S' := by
  funext F j
  by_cases c : F = 1000 ∧ j % 8 = 3 ∧ 0 ≤ j ∧ j < 32
  · obtain ⟨c1, c2, c3, c4⟩ := c
    subst c1
    have ej : j = 8 * (j / 8) + 3 := by omega
    have hq : 0 ≤ j / 8 ∧ j / 8 ≤ 3 := by omega
    generalize j / 8 = q at ej hq
    subst ej
    rw [ovN_3 hq, hn, st_f (by decide), st_j (by omega), ovN_3 hq]
  · have ho : ∀ (N T : Nat → Int → Int), ovN N T F j = N F j := fun N T => if_neg c
    rw [ho]
    unfold st
    rw [ho]
    (repeat' split) <;> first | rfl | (exfalso; omega)
theorem o_offer {sg mu : Nat → Int → Int} (h : LR sg mu) (hG : GC sg) {k n pr a : Int} (hk : 0 ≤ k ∧ k ≤ 3) (ha : 0 ≤ n → a = pr) : LR (offT sg (pl k) n pr) (st (st mu 1000 (8 * k + 7) n) 1012 k a) := by
  obtain ⟨hP, hS, hN, hO, hX, hA, hI, hM, hZ, hK, hQ, hT, hJ⟩ := h
  refine ⟨fun i p q => ?_, fun i p q => ?_, fun i p q => ?_, fun i p q => ?_, hX, hA, hI, hM, hZ, hK, q_ext hQ rfl rfl rfl rfl rfl, hT, ja_ext hG hJ rfl rfl rfl rfl rfl rfl rfl rfl (fun v _ _ _ => ⟨rfl, rfl, rfl, rfl, rfl⟩) (fun _ _ _ => rfl) (fun _ _ _ => ⟨rfl, rfl⟩)⟩
  · show st mu 1000 (8 * k + 7) n 1000 (8 * i) = sg 201 (pl i) ∧ st mu 1000 (8 * k + 7) n 1000 (8 * i + 1) = sg 202 (pl i)
    rw [st_i, if_neg (by omega), st_i, if_neg (by omega)]; exact hP i p q
  · show st mu 1000 (8 * k + 7) n 1000 (8 * i + 2) = sg 203 (pl i) ∧ st mu 1000 (8 * k + 7) n 1000 (8 * i + 4) = sg 205 (pl i) ∧ st mu 1000 (8 * k + 7) n 1000 (8 * i + 5) = sg 206 (pl i) ∧ st mu 1000 (8 * k + 7) n 1000 (8 * i + 6) = sg 208 (pl i)
    rw [st_i, if_neg (by omega), st_i, if_neg (by omega), st_i, if_neg (by omega), st_i, if_neg (by omega)]; exact hS i p q
  · show st mu 1000 (8 * k + 7) n 1000 (8 * i + 3) = needO sg (pl i)
    rw [st_i, if_neg (by omega)]; exact hN i p q
  · have z := hO i p q
    have e := pl_inj ⟨p, q⟩ hk
    show st mu 1000 (8 * k + 7) n 1000 (8 * i + 7) = st sg 209 (pl k) n 209 (pl i) ∧ (0 ≤ st sg 209 (pl k) n 209 (pl i) → st (st mu 1000 (8 * k + 7) n) 1012 k a 1012 i = st (st sg 209 (pl k) n) 210 (pl k) (if n < 0 then 0 else pr) 210 (pl i))
    rw [st_i, st_i, st_i, st_i]
    by_cases y : i = k
    · subst y
      rw [if_pos rfl, if_pos rfl, if_pos rfl, if_pos rfl]
      exact ⟨rfl, fun y => by rw [if_neg (by omega)]; exact ha y⟩
    · rw [if_neg (by omega), if_neg (fun x => y (e.mp x)), if_neg (fun x => y (e.mp x)), if_neg y]
      exact z
theorem o_asked {sg mu : Nat → Int → Int} (h : LR sg mu) {k a : Int} (hk : 0 ≤ k ∧ k ≤ 3) (h9 : sg 209 (pl k) = -1) : LR sg (st (st mu 1000 (8 * k + 7) (-1)) 1012 k a) := by
  obtain ⟨hP, hS, hN, hO, hX, hA, hI, hM, hZ, hK, hQ, hT, hJ⟩ := h
  rw [st_id (v := -1) (by rw [(hO k hk.1 hk.2).1]; exact h9)]
  refine ⟨hP, hS, hN, fun i p q => ?_, hX, hA, hI, hM, hZ, hK, hQ, hT, hJ⟩
  have z := hO i p q
  refine ⟨z.1, fun y => ?_⟩
  rw [st_i]
  by_cases e : i = k
  · rw [e] at y; omega
  · rw [if_neg e]; exact z.2 y
def bq (q : Int) : Nat := if q = 0 then 0 else if q = 1 then 15 else if q = 2 then 16 else if q = 3 then 21 else 36
theorem dr_skip {sg : Nat → Int → Int} {w : Int} (hw : 0 ≤ w) {a : Nat} (hX : RLX (drN sg w a)) : ∀ n : Nat, (∀ i : Nat, a ≤ i → i < a + n → (i : Int) < 36 ∧ (i : Int) ≠ 14 ∧ (i : Int) ≠ 15 ∧ (i : Int) ≠ 20 ∧ (i : Int) ≠ 35) → drN sg w (a + n) = drN sg w a ∧ drC sg w (a + n) = drC sg w a
  | 0, _ => ⟨rfl, rfl⟩
  | n + 1, h => by
    have ih := dr_skip hw hX n (fun i p q => h i p (by omega))
    obtain ⟨h0, h1, h2, h3, h4⟩ := h (a + n) (by omega) (by omega)
    have z := rlx_need hX (v := ((a + n : Nat) : Int)) ⟨by omega, h0⟩ h1 h2 h3 h4
    constructor
    · show (if needO (drN sg w (a + n)) ((a + n : Nat) : Int) = w then lgT (drN sg w (a + n)) ((a + n : Nat) : Int) else drN sg w (a + n)) = _
      rw [ih.1, z, if_neg (by omega)]
    · show (if needO (drN sg w (a + n)) ((a + n : Nat) : Int) = w then _ else drC sg w (a + n)) = _
      rw [ih.1, z, if_neg (by omega), ih.2]
/-- what holds behind q of the four -/
def DJ (sg mu : Nat → Int → Int) (w q : Int) : Prop := LR (drN sg w (bq q)) (ovN (ldN mu (sg 503 0) w q.toNat) (drN sg w (bq q))) ∧ GL (ldN mu (sg 503 0) w q.toNat) ∧ (∀ k : Int, 0 ≤ k → k ≤ 3 → ldN mu (sg 503 0) w q.toNat 1000 (8 * k + 3) = if k < q ∧ needO sg (pl k) = w then -1 else needO sg (pl k)) ∧ (∀ k : Int, q ≤ k → k ≤ 3 → needO (drN sg w (bq q)) (pl k) = needO sg (pl k)) ∧ (∀ k : Int, 0 ≤ k → k ≤ 3 → needO (drN sg w (bq q)) (pl k) = needO sg (pl k) ∨ (needO sg (pl k) = w ∧ needO (drN sg w (bq q)) (pl k) = -1)) ∧ ldC mu (sg 503 0) w q.toNat = drC sg w (bq q)
theorem dj_0 {sg mu : Nat → Int → Int} (h : LR sg mu) (hL : GL mu) {w : Int} : DJ sg mu w 0 := by
  refine ⟨?_, hL, fun k a b => ?_, fun k a b => rfl, fun k a b => Or.inl rfl, rfl⟩
  · have e : ovN mu sg = mu := by
      funext F j
      unfold ovN
      split
      · rename_i c
        obtain ⟨c1, c2, c3, c4⟩ := c
        have z := h.2.2.1 (j / 8) (by omega) (by omega)
        rw [show 8 * (j / 8) + 3 = j by omega] at z
        rw [c1, z]
      · rfl
    show LR sg (ovN mu sg)
    rw [e]; exact h
  · rw [if_neg (fun z => by omega)]
    exact h.2.2.1 k a b
theorem bq_to (q : Int) (hq : 0 ≤ q ∧ q ≤ 3) : bq q ≤ (pl q).toNat ∧ (∀ i : Nat, bq q ≤ i → i < (pl q).toNat → (i : Int) < 36 ∧ (i : Int) ≠ 14 ∧ (i : Int) ≠ 15 ∧ (i : Int) ≠ 20 ∧ (i : Int) ≠ 35) ∧ bq (q + 1) = (pl q).toNat + 1 := by
  rcases (show q = 0 ∨ q = 1 ∨ q = 2 ∨ q = 3 by omega) with e | e | e | e <;> subst e
  · exact ⟨by decide, fun i a b => by have a : 0 ≤ i := a; have b : i < 14 := b; omega, rfl⟩
  · exact ⟨by decide, fun i a b => by have a : 15 ≤ i := a; have b : i < 15 := b; omega, rfl⟩
  · exact ⟨by decide, fun i a b => by have a : 16 ≤ i := a; have b : i < 20 := b; omega, rfl⟩
  · exact ⟨by decide, fun i a b => by have a : 21 ≤ i := a; have b : i < 35 := b; omega, rfl⟩
theorem dj_s {sg mu : Nat → Int → Int} (hG : GC sg) (hV : Inv sg) {w q : Int} (hw : 0 ≤ w) (hq : 0 ≤ q ∧ q ≤ 3) (D : DJ sg mu w q) : DJ sg mu w (q + 1) := by
  obtain ⟨d1, d2, d3, d4, d5, d6⟩ := D
  obtain ⟨b1, b2, b3⟩ := bq_to q hq
  have r := pl_rng q
  have hS : GC (drN sg w (bq q)) := gc_drN hG _
  obtain ⟨e1, e2⟩ := dr_skip hw d1.2.2.2.2.1 ((pl q).toNat - bq q) (fun i a b => b2 i a (by omega))
  rw [show bq q + ((pl q).toNat - bq q) = (pl q).toNat by omega] at e1 e2
  have ep : (((pl q).toNat : Nat) : Int) = pl q := by omega
  have sN : drN sg w (bq (q + 1)) = if needO (drN sg w (bq q)) (pl q) = w then lgT (drN sg w (bq q)) (pl q) else drN sg w (bq q) := by
    rw [b3]
    show (if needO (drN sg w (pl q).toNat) (((pl q).toNat : Nat) : Int) = w then lgT (drN sg w (pl q).toNat) (((pl q).toNat : Nat) : Int) else drN sg w (pl q).toNat) = _
    rw [ep, e1]
  have sC : drC sg w (bq (q + 1)) = if needO (drN sg w (bq q)) (pl q) = w then drC sg w (bq q) + bI (drN sg w (bq q) 203 (pl q) ≠ 0 ∧ drN sg w (bq q) 208 (pl q) = 0 ∧ 0 ≤ ownBeh (drN sg w (bq q)) (pl q) (-1)) else drC sg w (bq q) := by
    rw [b3]
    show (if needO (drN sg w (pl q).toNat) (((pl q).toNat : Nat) : Int) = w then drC sg w (pl q).toNat + bI (drN sg w (pl q).toNat 203 (((pl q).toNat : Nat) : Int) ≠ 0 ∧ drN sg w (pl q).toNat 208 (((pl q).toNat : Nat) : Int) = 0 ∧ 0 ≤ ownBeh (drN sg w (pl q).toNat) (((pl q).toNat : Nat) : Int) (-1)) else drC sg w (pl q).toNat) = _
    rw [ep, e1, e2]
  have lN := ldN_s (mu := mu) (many := sg 503 0) (w := w) hq.1
  have lC := ldC_s (mu := mu) (many := sg 503 0) (w := w) hq.1
  have en : drN sg w (bq q) 503 0 = sg 503 0 := dr_f (by decide) (by decide) (by decide) (by decide) (by decide) (by decide) (by decide) _
  have f3 : drN sg w (bq q) 203 (pl q) = sg 203 (pl q) := dr_f (by decide) (by decide) (by decide) (by decide) (by decide) (by decide) (by decide) _
  have f6 : drN sg w (bq q) 206 (pl q) = sg 206 (pl q) := dr_f (by decide) (by decide) (by decide) (by decide) (by decide) (by decide) (by decide) _
  have f8 : drN sg w (bq q) 208 (pl q) = sg 208 (pl q) := dr_f (by decide) (by decide) (by decide) (by decide) (by decide) (by decide) (by decide) _
  have f9 : drN sg w (bq q) 209 (pl q) = sg 209 (pl q) := dr_ge (Or.inr (Or.inr (Or.inl rfl))) _ (by omega)
  have n1 : needO (drN sg w (bq q)) (pl q) = needO sg (pl q) := d4 q (Int.le_refl _) hq.2
  have n2 : ldN mu (sg 503 0) w q.toNat 1000 (8 * q + 3) = needO sg (pl q) := by rw [d3 q hq.1 hq.2, if_neg (fun z => by omega)]
  have n3 : ldN mu (sg 503 0) w q.toNat 1000 (8 * q + 2) = sg 203 (pl q) := by
    have z := (d1.2.1 q hq.1 hq.2).1
    rw [ovN_o (Or.inr (by omega)), f3] at z
    exact z
  rw [n2, n3] at lN lC
  rw [n1] at sN sC
  unfold DJ
  by_cases c : needO sg (pl q) = w
  · rw [if_pos c] at sN sC lN lC
    have g4 : ∀ k : Int, q + 1 ≤ k → k ≤ 3 → pl k ≠ pl q := fun k a b z => by have := (pl_inj (a := k) (b := q) ⟨by omega, b⟩ hq).mp z; omega
    by_cases c3 : sg 203 (pl q) = 0
    · rw [if_pos c3] at lN lC
      have sN2 : drN sg w (bq (q + 1)) = relT (drN sg w (bq q)) (pl q) := by rw [sN]; unfold lgT; rw [if_pos (by rw [f3]; exact c3)]
      rw [sN2, lN, lC, sC]
      have h6 : drN sg w (bq q) 206 (pl q) = -1 := by rw [f6]; exact (inv_J1 hV (pl q) (by omega) (by omega)).mp c3
      have glo : GL (ovN (ldN mu (sg 503 0) w q.toNat) (drN sg w (bq q))) := by
        intro F j a b
        unfold ovN
        split
        · rename_i z
          rw [z.1]
          have := needO_in hS (pl (j / 8))
          have := gr_505 hS 0
          show (-1 : Int) ≤ _ ∧ _ ≤ (20000 : Int)
          omega
        · exact d2 F j a b
      have z := o_rel d1 hS glo hq h6
      rw [en, ov_rel hq] at z
      refine ⟨z, gl_lfN d2 q _, fun k a b => ?_, fun k a b => ?_, fun k a b => ?_, ?_⟩
      · unfold lfN
        by_cases y : k = q
        · rw [if_pos ⟨rfl, by omega⟩, if_pos ⟨by omega, by rw [y]; exact c⟩]
        · rw [if_neg (fun z => by omega), if_neg (fun z => by omega), if_neg (fun z => absurd z.1 (by decide)), if_neg (fun z => absurd z.1 (by decide)), d3 k a b]
          have t : (k < q ∧ needO sg (pl k) = w) ↔ (k < q + 1 ∧ needO sg (pl k) = w) := ⟨fun z => ⟨by omega, z.2⟩, fun z => ⟨by omega, z.2⟩⟩
          simp only [t]
      · rw [need_rel (by have := pl_rng k; omega), if_neg (g4 k a b)]
        exact d4 k (by omega) b
      · rw [need_rel (by have := pl_rng k; omega)]
        by_cases y : pl k = pl q
        · rw [if_pos y]; exact Or.inr ⟨by rw [y]; exact c, rfl⟩
        · rw [if_neg y]; exact d5 k a b
      · rw [d6, bI_f (fun z => by rw [f3] at z; exact z.1 c3)]; omega
    · rw [if_neg c3] at lN lC
      rw [lN, lC, sC]
      have gm := d1.2.1 q hq.1 hq.2
      have n8 : ldN mu (sg 503 0) w q.toNat 1000 (8 * q + 6) = sg 208 (pl q) := by
        have z := gm.2.2.2
        rw [ovN_o (Or.inr (by omega)), f8] at z
        exact z
      have hAo : RLA (drN sg w (bq q)) (ldN mu (sg 503 0) w q.toNat) := d1.2.2.2.2.2.1
      have nx : lNx (ldN mu (sg 503 0) w q.toNat) (sg 503 0) q (-1) 100 = ownBeh (drN sg w (bq q)) (pl q) (-1) := by
        have z := l_next hS d2 hAo hq (b := -1) ⟨by omega, by have := gr_503 hS 0; omega⟩
        rw [en] at z
        exact z
      have g8 := gr_208 hG (pl q)
      have orng := ownBeh_rng hS (pl q) (-1)
      have hPo := d1.1 q hq.1 hq.2
      rw [ovN_o (Or.inr (by omega)), ovN_o (Or.inr (by omega))] at hPo
      have hp4 := gm.2.1
      rw [ovN_o (Or.inr (by omega))] at hp4
      have hQo : RLQ (drN sg w (bq q)) (ldN mu (sg 503 0) w q.toNat) := d1.2.2.2.2.2.2.2.2.2.2.1
      have hA2 : ldA (ldN mu (sg 503 0) w q.toNat) q = worthT (drN sg w (bq q)) (pl q) * drN sg w (bq q) 205 (pl q) / 100 := by
        unfold ldA worthT
        rw [if_neg (by omega)]
        unfold worthB
        rw [if_neg (by omega), hPo.1, hPo.2, hp4, hQo _ (gr_202 hS (pl q)).1 (gr_202 hS (pl q)).2, Int.mul_comm]
      have g5 := gr_205 hS (pl q)
      have wr := worthT_rng hS (pl q)
      have m1 := mul_rng wr g5
      have m2 : worthT (drN sg w (bq q)) (pl q) * drN sg w (bq q) 205 (pl q) ≤ worthT (drN sg w (bq q)) (pl q) * 100 := Int.mul_le_mul_of_nonneg_left g5.2 wr.1
      have xr : -1 ≤ ldX (ldN mu (sg 503 0) w q.toNat) (sg 503 0) q ∧ ldX (ldN mu (sg 503 0) w q.toNat) (sg 503 0) q ≤ 23 := by
        unfold ldX
        rw [nx]
        have := gr_503 hS 0
        split <;> omega
      have glO : GL (ldO (ldN mu (sg 503 0) w q.toNat) (sg 503 0) q) := gl_1012 (gl_1000 (gl_1000 d2 (8 * q + 3) (v := -1) (by omega)) (8 * q + 7) (by omega)) q (by rw [hA2]; omega)
      have key : ∀ T : Nat → Int → Int, drN sg w (bq (q + 1)) = T → needO T = needO (drN sg w (bq q)) → LR T (ovN (ldO (ldN mu (sg 503 0) w q.toNat) (sg 503 0) q) T) → (ldC mu (sg 503 0) w q.toNat + (if ldX (ldN mu (sg 503 0) w q.toNat) (sg 503 0) q < 0 then 0 else 1) = drC sg w (bq q) + bI (drN sg w (bq q) 203 (pl q) ≠ 0 ∧ drN sg w (bq q) 208 (pl q) = 0 ∧ 0 ≤ ownBeh (drN sg w (bq q)) (pl q) (-1))) → LR (drN sg w (bq (q + 1))) (ovN (ldO (ldN mu (sg 503 0) w q.toNat) (sg 503 0) q) (drN sg w (bq (q + 1)))) ∧ GL (ldO (ldN mu (sg 503 0) w q.toNat) (sg 503 0) q) ∧ (∀ k : Int, 0 ≤ k → k ≤ 3 → ldO (ldN mu (sg 503 0) w q.toNat) (sg 503 0) q 1000 (8 * k + 3) = if k < q + 1 ∧ needO sg (pl k) = w then -1 else needO sg (pl k)) ∧ (∀ k : Int, q + 1 ≤ k → k ≤ 3 → needO (drN sg w (bq (q + 1))) (pl k) = needO sg (pl k)) ∧ (∀ k : Int, 0 ≤ k → k ≤ 3 → needO (drN sg w (bq (q + 1))) (pl k) = needO sg (pl k) ∨ (needO sg (pl k) = w ∧ needO (drN sg w (bq (q + 1))) (pl k) = -1)) ∧ ldC mu (sg 503 0) w q.toNat + (if ldX (ldN mu (sg 503 0) w q.toNat) (sg 503 0) q < 0 then 0 else 1) = drC sg w (bq q) + bI (drN sg w (bq q) 203 (pl q) ≠ 0 ∧ drN sg w (bq q) 208 (pl q) = 0 ∧ 0 ≤ ownBeh (drN sg w (bq q)) (pl q) (-1)) := by
        intro T t1 t2 t3 t4
        rw [t1]
        refine ⟨t3, glO, fun k a b => ?_, fun k a b => by rw [t2]; exact d4 k (by omega) b, fun k a b => by rw [t2]; exact d5 k a b, t4⟩
        unfold ldO
        rw [st_f (by decide), st_j (by omega), st_i]
        by_cases y : k = q
        · rw [if_pos (by omega), if_pos ⟨by omega, by rw [y]; exact c⟩]
        · rw [if_neg (by omega), d3 k a b]
          have t : (k < q ∧ needO sg (pl k) = w) ↔ (k < q + 1 ∧ needO sg (pl k) = w) := ⟨fun z => ⟨by omega, z.2⟩, fun z => ⟨by omega, z.2⟩⟩
          simp only [t]
      by_cases c8 : sg 208 (pl q) = 0
      · have hx : ldX (ldN mu (sg 503 0) w q.toNat) (sg 503 0) q = ownBeh (drN sg w (bq q)) (pl q) (-1) := by unfold ldX; rw [n8, if_neg (by omega), nx]
        refine key (offT (drN sg w (bq q)) (pl q) (ownBeh (drN sg w (bq q)) (pl q) (-1)) (worthT (drN sg w (bq q)) (pl q) * drN sg w (bq q) 205 (pl q) / 100)) ?_ (needO_ext rfl rfl) ?_ ?_
        · rw [sN]; unfold lgT
          rw [if_neg (by rw [f3]; exact c3), if_neg (by rw [f8]; omega)]
        · have z := o_offer d1 hS hq (n := ownBeh (drN sg w (bq q)) (pl q) (-1)) (pr := worthT (drN sg w (bq q)) (pl q) * drN sg w (bq q) 205 (pl q) / 100) (a := worthT (drN sg w (bq q)) (pl q) * drN sg w (bq q) 205 (pl q) / 100) (fun _ => rfl)
          rw [ov_off (S := drN sg w (bq q)) (S' := offT (drN sg w (bq q)) (pl q) (ownBeh (drN sg w (bq q)) (pl q) (-1)) (worthT (drN sg w (bq q)) (pl q) * drN sg w (bq q) 205 (pl q) / 100)) hq (needO_ext rfl rfl)] at z
          unfold ldO
          rw [hx, hA2]
          exact z
        · rw [d6, hx]
          by_cases y : ownBeh (drN sg w (bq q)) (pl q) (-1) < 0
          · rw [if_pos y, bI_f (fun z => by omega)]
          · rw [if_neg y, bI_t ⟨by rw [f3]; exact c3, by rw [f8]; exact c8, by omega⟩]
      · have hx : ldX (ldN mu (sg 503 0) w q.toNat) (sg 503 0) q = -1 := by unfold ldX; rw [n8, if_pos (by omega)]
        refine key (drN sg w (bq q)) ?_ rfl ?_ ?_
        · rw [sN]; unfold lgT
          rw [if_neg (by rw [f3]; exact c3), if_pos (by rw [f8]; exact c8)]
        · have j2 := (inv_J2 hV (pl q) (by omega) (by omega)).1 (by omega)
          have z := o_asked d1 hq (a := ldA (ldN mu (sg 503 0) w q.toNat) q) (by rw [f9]; exact j2)
          rw [ov_off (S' := drN sg w (bq q)) hq rfl] at z
          unfold ldO
          rw [hx]
          exact z
        · rw [d6, hx, if_pos (by decide), bI_f (fun z => by rw [f8] at z; exact c8 z.2.1)]
  · rw [if_neg c] at sN sC lN lC
    rw [sN, sC, lN, lC]
    refine ⟨d1, d2, fun k a b => ?_, fun k a b => d4 k (by omega) b, d5, d6⟩
    rw [d3 k a b]
    by_cases y : k = q
    · rw [if_neg (fun z => by omega), if_neg (fun z => by rw [y] at z; exact c z.2)]
    · have t : (k < q ∧ needO sg (pl k) = w) ↔ (k < q + 1 ∧ needO sg (pl k) = w) := ⟨fun z => ⟨by omega, z.2⟩, fun z => ⟨by omega, z.2⟩⟩
      simp only [t]
theorem o_drop {sg mu : Nat → Int → Int} (hG : GC sg) {w : Int} (hw : 0 ≤ w ∧ w ≤ 1) (D : DJ sg mu w 4) : LR (dropT sg w) (st (ldN mu (sg 503 0) w 4) 1011 w 2) := by
  obtain ⟨d1, d2, d3, d4, d5, d6⟩ := D
  have hS : GC (drN sg w 36) := gc_drN hG _
  obtain ⟨hP, hS1, hN, hO, hX, hA, hI, hM, hZ, hK, hQ, hT, hJ⟩ := d1
  obtain ⟨M, hMM⟩ : ∃ z, z = ldN mu (sg 503 0) w 4 := ⟨_, rfl⟩
  have hP : RLP (drN sg w 36) (ovN (ldN mu (sg 503 0) w 4) (drN sg w 36)) := hP
  have hS1 : RLS (drN sg w 36) (ovN (ldN mu (sg 503 0) w 4) (drN sg w 36)) := hS1
  have hO : RLO (drN sg w 36) (ovN (ldN mu (sg 503 0) w 4) (drN sg w 36)) := hO
  have hA : RLA (drN sg w 36) (ldN mu (sg 503 0) w 4) := hA
  have hI : RLI (drN sg w 36) (ldN mu (sg 503 0) w 4) := hI
  have hM : RLM (drN sg w 36) (ldN mu (sg 503 0) w 4) := hM
  have hZ : RLZ (drN sg w 36) (ldN mu (sg 503 0) w 4) := hZ
  have hK : RLK (drN sg w 36) (ldN mu (sg 503 0) w 4) := hK
  have hQ : RLQ (drN sg w 36) (ldN mu (sg 503 0) w 4) := hQ
  have hT : RLT (drN sg w 36) (ldN mu (sg 503 0) w 4) := hT
  have d3 : ∀ k : Int, 0 ≤ k → k ≤ 3 → ldN mu (sg 503 0) w 4 1000 (8 * k + 3) = if k < 4 ∧ needO sg (pl k) = w then -1 else needO sg (pl k) := d3
  have d5 : ∀ k : Int, 0 ≤ k → k ≤ 3 → needO (drN sg w 36) (pl k) = needO sg (pl k) ∨ (needO sg (pl k) = w ∧ needO (drN sg w 36) (pl k) = -1) := d5
  rw [← hMM] at hP hS1 hO hA hI hM hZ hK hQ hT d3 ⊢
  have hJ : RJA (drN sg w 36) := hJ
  have hX : RLX (drN sg w 36) := hX
  show LR (st (st (drN sg w 36) 403 w 2) 405 w (drN sg w 36 506 0)) _
  generalize drN sg w 36 = S at hS hP hS1 hO hA hI hM hZ hK hQ hT d5 hJ hX ⊢
  refine ⟨fun i p q => ?_, fun i p q => ?_, fun i p q => ?_, fun i p q => ?_, hX, hA, hI, hM, hZ, ⟨hK.1, fun j p q => ?_⟩, q_ext hQ rfl rfl rfl rfl rfl, hT, ja_ext hS hJ rfl rfl rfl rfl rfl rfl rfl rfl (fun v _ _ _ => ⟨rfl, rfl, rfl, rfl, rfl⟩) (fun _ _ _ => rfl) (fun _ _ _ => ⟨rfl, rfl⟩)⟩
  · have z := hP i p q
    rw [ovN_o (Or.inr (by omega)), ovN_o (Or.inr (by omega))] at z
    exact z
  · have z := hS1 i p q
    rw [ovN_o (Or.inr (by omega)), ovN_o (Or.inr (by omega)), ovN_o (Or.inr (by omega)), ovN_o (Or.inr (by omega))] at z
    exact z
  · show M 1000 (8 * i + 3) = needO (st (S) 403 w 2) (pl i)
    have r := pl_rng i
    rw [d3 i p q]
    have z := d5 i p q
    have hn : needO (st (S) 403 w 2) (pl i) = if needO (S) (pl i) = w then -1 else needO (S) (pl i) := by
      show (if pl i < 0 then -1 else if S 204 (pl i) < 0 then -1 else if st (S) 403 w 2 403 (S 204 (pl i)) = 2 then -1 else S 204 (pl i)) = (if (if pl i < 0 then -1 else if S 204 (pl i) < 0 then -1 else if S 403 (S 204 (pl i)) = 2 then -1 else S 204 (pl i)) = w then -1 else (if pl i < 0 then -1 else if S 204 (pl i) < 0 then -1 else if S 403 (S 204 (pl i)) = 2 then -1 else S 204 (pl i)))
      rw [if_neg (show ¬ pl i < 0 by omega), if_neg (show ¬ pl i < 0 by omega), st_i]
      generalize S 204 (pl i) = x
      generalize S 403 x = y
      (repeat' split) <;> omega
    rw [hn]
    by_cases c : needO sg (pl i) = w
    · rw [if_pos ⟨by omega, c⟩]
      rcases z with z | ⟨-, z⟩
      · rw [if_pos (by omega)]
      · rw [z, if_neg (by omega)]
    · rw [if_neg (fun y => c y.2)]
      rcases z with z | ⟨z, -⟩
      · rw [if_neg (by omega), z]
      · exact absurd z c
  · have z := hO i p q
    rw [ovN_o (Or.inr (by omega)), ovN_F (by decide)] at z
    exact z
  · obtain ⟨k1, k2, k3, k4⟩ := hK.2 j p q
    show st M 1011 w 2 1011 j = st (S) 403 w 2 403 j ∧ st M 1011 w 2 1011 (2 + j) = S 404 j ∧ M 1007 (3 * j) = S 401 j ∧ M 1007 (3 * j + 1) = S 402 j
    rw [st_i, st_i, st_i, if_neg (by omega : ¬ 2 + j = w), k1]
    exact ⟨rfl, k2, k3, k4⟩
