/-! what the calls do: the taking -/
theorem tq_land {sg mu : Nat → Int → Int} (hG : GC sg) (h : LR sg mu) {k : Int} (hk : 0 ≤ k ∧ k ≤ 3) (hn : 0 ≤ needO sg (pl k)) : lLand mu k (mu 1008 (mu 1000 (8 * k + 1))) = landO (tk2 sg (pl k)) (pl k) := by
  obtain ⟨hP, hS, hN, hO, hX, hA, hI, hM, hZ, hK, hQ, hT, hJ⟩ := h
  have r := pl_rng k
  have hp := hP k hk.1 hk.2
  have hs := hS k hk.1 hk.2
  have hnn := hN k hk.1 hk.2
  have g2 := gr_202 hG (pl k)
  have hrn := needO_in hG (pl k)
  have h4 : sg 204 (pl k) = needO sg (pl k) := by
    unfold needO at hn ⊢
    rw [if_neg (by omega)] at hn ⊢
    split at hn
    · omega
    · rename_i a
      rw [if_neg a]
      split at hn
      · omega
      · rename_i b
        rw [if_neg b]
  have hw : worthB (tk2 sg (pl k)) (pl k) (tk2 sg (pl k) 207 (pl k)) = lWo mu k (mu 1008 (mu 1000 (8 * k + 1))) := by
    have e7 : tk2 sg (pl k) 207 (pl k) = prOn sg (sg 202 (pl k)) (sg 506 0) := by
      unfold tk2
      rw [st_s, prOn_ext (a := tk1 sg (pl k)) (b := sg) rfl rfl rfl]
    rw [e7]
    show (if pl k < 0 then 0 else sg 201 (pl k) * centsO sg (prOn sg (sg 202 (pl k)) (sg 506 0))) = _
    rw [if_neg (by omega)]
    unfold lWo
    rw [hp.1, hp.2, hQ _ g2.1 g2.2]
  have k1 := hK.2 (needO sg (pl k)) hn (by have := hK.1; omega)
  have hpa : lPa mu k (mu 1008 (mu 1000 (8 * k + 1))) = lWo mu k (mu 1008 (mu 1000 (8 * k + 1))) * sg 205 (pl k) / 100 := by
    unfold lPa
    rw [hs.2.1]
  unfold landO
  rw [if_neg (by omega), if_neg (by show ¬ sg 204 (pl k) < 0; omega), hw]
  show lLand mu k _ = mx 0 (lWo mu k (mu 1008 (mu 1000 (8 * k + 1))) * sg 205 (pl k) / 100 + (lWo mu k (mu 1008 (mu 1000 (8 * k + 1))) - lWo mu k (mu 1008 (mu 1000 (8 * k + 1))) * sg 205 (pl k) / 100) * sg 401 (sg 204 (pl k)) / 100 - (lWo mu k (mu 1008 (mu 1000 (8 * k + 1))) - lWo mu k (mu 1008 (mu 1000 (8 * k + 1))) * sg 205 (pl k) / 100) * sg 402 (sg 204 (pl k)) / 100)
  rw [← hpa, h4]
  unfold lLand lRaw lRe mx
  rw [hnn, k1.2.2.1, k1.2.2.2]
  (repeat' split) <;> omega
theorem tq_left {sg mu T : Nat → Int → Int} (hL : GL mu) (hA : RLA sg mu) (e1 : T 101 = sg 101) (e2 : T 102 = sg 102) (e5 : T 105 = sg 105) (en : T 503 0 = sg 503 0) {k pr land b : Int} (hk : 0 ≤ k ∧ k ≤ 3) (hl : lLand mu k pr = land) (hb : b ≤ sg 503 0) : ∀ n : Nat, (n : Int) ≤ b → lLf mu k pr n = lefts T (pl k) land b n
  | 0, _ => hl
  | n + 1, h => by
    have ih := tq_left hL hA e1 e2 e5 en hk hl hb n (by omega)
    obtain ⟨y1, y2, y3, y4, y5, y6⟩ := hA n (by omega) (by omega)
    have ys := l_same hL hA (j := n) ⟨by omega, by omega⟩ hk
    show (if mu 1001 (n : Int) = 2 ∧ mu 1001 (24 + (n : Int)) = k then lLf mu k pr n - (if lLf mu k pr n < mu 1002 (n : Int) then lLf mu k pr n else mu 1002 (n : Int)) else lLf mu k pr n) = (if (n : Int) < T 503 0 ∧ T 101 n = 2 ∧ T 102 n = pl k ∧ (n : Int) < b then lefts T (pl k) land b n - mn (lefts T (pl k) land b n) (T 105 n) else lefts T (pl k) land b n)
    rw [← ih, e1, e2, e5, en, y1, y3]
    have t : (sg 101 n = 2 ∧ mu 1001 (24 + (n : Int)) = k) ↔ ((n : Int) < sg 503 0 ∧ sg 101 n = 2 ∧ sg 102 n = pl k ∧ (n : Int) < b) := ⟨fun z => ⟨by omega, z.1, ys.mp z.2, by omega⟩, fun z => ⟨z.2.1, ys.mpr z.2.2.1⟩⟩
    by_cases c : (n : Int) < sg 503 0 ∧ sg 101 n = 2 ∧ sg 102 n = pl k ∧ (n : Int) < b
    · rw [if_pos c, if_pos (t.mpr c)]
      unfold mn
      (repeat' split) <;> omega
    · rw [if_neg c, if_neg (fun z => c (t.mp z))]
theorem tq_leftB {sg mu T : Nat → Int → Int} (hG : GC sg) (hL : GL mu) (hA : RLA sg mu) (e1 : T 101 = sg 101) (e2 : T 102 = sg 102) (e5 : T 105 = sg 105) (en : T 503 0 = sg 503 0) {k pr land b : Int} (hk : 0 ≤ k ∧ k ≤ 3) (hl : lLand mu k pr = land) (hb : 0 ≤ b ∧ b ≤ sg 503 0) : lLf mu k pr b.toNat = leftB T (pl k) land b := by
  have g := gr_503 hG 0
  rw [tq_left hL hA e1 e2 e5 en hk hl hb.2 b.toNat (by omega)]
  unfold leftB
  rw [show 24 = b.toNat + (24 - b.toNat) by omega, lefts_c (by omega)]
theorem tq_leftA {sg mu T : Nat → Int → Int} (hG : GC sg) (hL : GL mu) (hA : RLA sg mu) (e1 : T 101 = sg 101) (e2 : T 102 = sg 102) (e5 : T 105 = sg 105) (en : T 503 0 = sg 503 0) {k pr land : Int} (hk : 0 ≤ k ∧ k ≤ 3) (hl : lLand mu k pr = land) : lLf mu k pr (sg 503 0).toNat = leftB T (pl k) land 24 := by
  have g := gr_503 hG 0
  rw [tq_leftB hG hL hA e1 e2 e5 en hk hl (b := sg 503 0) ⟨by omega, by omega⟩]
  exact lefts_b (fun i hi => by omega) 24
theorem tq_sum {sg mu : Nat → Int → Int} (hG : GC sg) (hL : GL mu) (h : LR sg mu) {k : Int} (hk : 0 ≤ k ∧ k ≤ 3) (hn : 0 ≤ needO sg (pl k)) {j : Int} (hj : 0 ≤ j ∧ j < sg 503 0) (hj2 : sg 102 j = pl k) : lT3 mu (sg 503 0) k (mu 1008 (mu 1000 (8 * k + 1))) (sg 506 0) 1013 j = sumB (tk2 sg (pl k)) j (landO (tk2 sg (pl k)) (pl k)) := by
  have hl := tq_land hG h hk hn
  obtain ⟨hP, hS, hN, hO, hX, hA, hI, hM, hZ, hK, hQ, hT, hJ⟩ := h
  have r := pl_rng k
  have hp := hP k hk.1 hk.2
  have hs := hS k hk.1 hk.2
  obtain ⟨y1, y2, y3, y4, y5, y6⟩ := hA j hj.1 hj.2
  have ys := l_same hL hA hj hk
  have g1 := gr_101 hG j
  have la := tq_leftA hG hL hA (T := tk2 sg (pl k)) rfl rfl rfl rfl hk hl
  have lb := tq_leftB hG hL hA (T := tk2 sg (pl k)) rfl rfl rfl rfl hk hl (b := j) ⟨hj.1, by omega⟩
  have d6 : tk2 sg (pl k) 206 (pl k) = sg 506 0 := by
    show st (st sg 203 (pl k) 1) 206 (pl k) (sg 506 0) 206 (pl k) = _
    exact st_s
  have z : sumB (tk2 sg (pl k)) j (landO (tk2 sg (pl k)) (pl k)) = if sg 101 j = 0 then ownS (tk2 sg (pl k)) j (pl k) (landO (tk2 sg (pl k)) (pl k)) else if sg 101 j = 1 then leaS (tk2 sg (pl k)) j (pl k) else mn (sg 105 j) (leftB (tk2 sg (pl k)) (pl k) (landO (tk2 sg (pl k)) (pl k)) j) := by
    unfold sumB
    show (if sg 101 j = 0 then ownS (tk2 sg (pl k)) j (sg 102 j) _ else if sg 101 j = 1 then leaS (tk2 sg (pl k)) j (sg 102 j) else mn (sg 105 j) (leftB (tk2 sg (pl k)) (sg 102 j) _ j)) = _
    rw [hj2]
  rw [z]
  unfold lT3 lT2
  by_cases c0 : sg 101 j = 0
  · rw [if_pos ⟨rfl, hj.1, hj.2, ys.mpr hj2, by omega⟩, if_pos c0]
    unfold lOwn lBy lLeft
    rw [la, hp.2, hs.2.1, y3, y4]
    show _ = leftB (tk2 sg (pl k)) (pl k) _ 24 * sg 105 j / 100 + (if sg 202 (pl k) = 1 ∧ sg 205 (pl k) = 100 ∧ 365 ≤ tk2 sg (pl k) 206 (pl k) - sg 104 j then leftB (tk2 sg (pl k)) (pl k) _ 24 * sg 105 j / 100 / 10 else 0)
    rw [d6]
  · rw [if_neg (fun z => by omega), if_neg c0]
    unfold lT1
    rw [if_pos ⟨rfl, hj.1, hj.2, ys.mpr hj2, by omega⟩]
    unfold lV1
    by_cases c1 : sg 101 j = 1
    · rw [if_pos c1, if_neg (by omega)]
      show lLea mu k (sg 506 0) j = (if sg 101 j = 1 ∧ sg 105 j ≤ tk2 sg (pl k) 206 (pl k) then 0 else (mn 730 (sg 105 j - tk2 sg (pl k) 206 (pl k)) + (if sg 202 (pl k) = 2 then 90 else 0)) * sg 106 j)
      rw [d6]
      unfold lLea
      have ed : lDay mu (sg 506 0) j = mn 730 (sg 105 j - sg 506 0) := by
        unfold lDay mn
        rw [y3]
        (repeat' split) <;> omega
      rw [ed, hp.2, y5 c1]
      by_cases c2 : sg 105 j ≤ sg 506 0
      · rw [if_pos (show mn 730 (sg 105 j - sg 506 0) ≤ 0 by unfold mn; split <;> omega), if_pos (show sg 101 j = 1 ∧ sg 105 j ≤ sg 506 0 from ⟨c1, c2⟩)]
      · rw [if_neg (show ¬ mn 730 (sg 105 j - sg 506 0) ≤ 0 by unfold mn; split <;> omega), if_neg (show ¬ (sg 101 j = 1 ∧ sg 105 j ≤ sg 506 0) from fun z => c2 z.2)]
    · rw [if_neg c1, if_pos (by omega), lb, y3]
      unfold mn
      (repeat' split) <;> omega
theorem tq_court {sg mu T : Nat → Int → Int} (hL : GL mu) (hA : RLA sg mu) (e1 : T 101 = sg 101) (e2 : T 102 = sg 102) (e5 : T 105 = sg 105) (en : T 503 0 = sg 503 0) {k land left : Int} (hk : 0 ≤ k ∧ k ≤ 3) (hl : left = leftB T (pl k) land 24) : ∀ n : Nat, (n : Int) ≤ sg 503 0 → lCt mu k left n = courtN T (pl k) land n
  | 0, _ => hl
  | n + 1, h => by
    have ih := tq_court hL hA e1 e2 e5 en hk hl n (by omega)
    obtain ⟨y1, y2, y3, y4, y5, y6⟩ := hA n (by omega) (by omega)
    have ys := l_same hL hA (j := n) ⟨by omega, by omega⟩ hk
    show (if mu 1001 (n : Int) = 0 ∧ mu 1001 (24 + (n : Int)) = k then lCt mu k left n - left * (mu 1002 (n : Int)) / 100 else lCt mu k left n) = (if (n : Int) < T 503 0 ∧ T 101 n = 0 ∧ T 102 n = pl k then courtN T (pl k) land n - leftB T (pl k) land 24 * T 105 n / 100 else courtN T (pl k) land n)
    rw [ih, ← hl, e1, e2, e5, en, y1, y3]
    by_cases c : sg 101 n = 0 ∧ sg 102 n = pl k
    · rw [if_pos ⟨c.1, ys.mpr c.2⟩, if_pos ⟨by omega, c.1, c.2⟩]
    · rw [if_neg (fun z => c ⟨z.1, ys.mp z.2⟩), if_neg (fun z => c ⟨z.2.1, z.2.2⟩)]
theorem court_c {a : Nat → Int → Int} {v land : Int} {n : Nat} (h : a 503 0 ≤ n) : ∀ k : Nat, courtN a v land (n + k) = courtN a v land n
  | 0 => rfl
  | k + 1 => by
    have ih := court_c (v := v) (land := land) h k
    show (if ((n + k : Nat) : Int) < a 503 0 ∧ a 101 ((n + k : Nat) : Int) = 0 ∧ a 102 ((n + k : Nat) : Int) = v then _ else courtN a v land (n + k)) = _
    rw [if_neg (fun z => by have := z.1; omega), ih]
theorem o_take {sg mu : Nat → Int → Int} (h : LR sg mu) (hG : GC sg) (hV : Inv sg) (hL : GL mu) {k : Int} (hk : 0 ≤ k ∧ k ≤ 3) (h3 : sg 203 (pl k) = 0) (hn : 0 ≤ needO sg (pl k)) : LR (tkT sg (pl k)) (lTkT mu (sg 503 0) k (mu 1008 (mu 1000 (8 * k + 1))) (sg 506 0)) := by
  have hl := tq_land hG h hk hn
  have hsum := fun (j : Int) (a : 0 ≤ j ∧ j < sg 503 0) (b : sg 102 j = pl k) => tq_sum hG hL h hk hn a b
  obtain ⟨hP, hS, hN, hO, hX, hA, hI, hM, hZ, hK, hQ, hT, hJ⟩ := h
  have r := pl_rng k
  have g := gr_503 hG 0
  have h6 := (inv_J1 hV (pl k) (by omega) (by omega)).mp h3
  obtain ⟨land, hland⟩ : ∃ z, z = landO (tk2 sg (pl k)) (pl k) := ⟨_, rfl⟩
  obtain ⟨pr, hpr⟩ : ∃ z, z = mu 1008 (mu 1000 (8 * k + 1)) := ⟨_, rfl⟩
  obtain ⟨M, hMM⟩ : ∃ z, z = lTkT mu (sg 503 0) k pr (sg 506 0) := ⟨_, rfl⟩
  obtain ⟨T, hTT⟩ : ∃ z, z = tkT sg (pl k) := ⟨_, rfl⟩
  rw [← hland, ← hpr] at hl
  rw [← hland, ← hpr] at hsum
  rw [← hpr, ← hMM, ← hTT]
  have tx : ∀ F : Nat, F ≠ 110 → F ≠ 507 → F ≠ 509 → F ≠ 511 → F ≠ 203 → F ≠ 206 → F ≠ 207 → T F = sg F := fun F a b c d e f g => by
    rw [hTT]
    unfold tkT tk3
    rw [st_F d, st_F c, tk_x 24 F a b]
    unfold tk2 tk1
    rw [st_F g, st_F f, st_F e]
  have t3 : T 203 = st sg 203 (pl k) 1 203 := by rw [hTT]; unfold tkT tk3; rw [st_F (by decide), st_F (by decide), tk_x 24 203 (by decide) (by decide)]; rfl
  have t6 : T 206 = st sg 206 (pl k) (sg 506 0) 206 := by
    rw [hTT]; unfold tkT tk3; rw [st_F (by decide), st_F (by decide), tk_x 24 206 (by decide) (by decide)]
    funext i
    show st (st sg 203 (pl k) 1) 206 (pl k) (sg 506 0) 206 i = _
    rw [st_i, st_i]; rfl
  have t7 : T 207 = tk2 sg (pl k) 207 := by rw [hTT]; unfold tkT tk3; rw [st_F (by decide), st_F (by decide), tk_x 24 207 (by decide) (by decide)]
  have t10 : ∀ i : Int, T 110 i = if 0 ≤ i ∧ i < 24 ∧ i < sg 503 0 ∧ sg 102 i = pl k then sumB (tk2 sg (pl k)) i land else sg 110 i := fun i => by
    rw [hTT, hland]; unfold tkT tk3; rw [st_f (by decide), st_f (by decide), tk_110 i 24]; rfl
  have e1 := tx 101 (by decide) (by decide) (by decide) (by decide) (by decide) (by decide) (by decide)
  have e2 := tx 102 (by decide) (by decide) (by decide) (by decide) (by decide) (by decide) (by decide)
  have e4 := tx 104 (by decide) (by decide) (by decide) (by decide) (by decide) (by decide) (by decide)
  have e5 := tx 105 (by decide) (by decide) (by decide) (by decide) (by decide) (by decide) (by decide)
  have e66 := tx 106 (by decide) (by decide) (by decide) (by decide) (by decide) (by decide) (by decide)
  have en := congrFun (tx 503 (by decide) (by decide) (by decide) (by decide) (by decide) (by decide) (by decide)) 0
  have s1 := tx 201 (by decide) (by decide) (by decide) (by decide) (by decide) (by decide) (by decide)
  have s2 := tx 202 (by decide) (by decide) (by decide) (by decide) (by decide) (by decide) (by decide)
  have s4 := tx 204 (by decide) (by decide) (by decide) (by decide) (by decide) (by decide) (by decide)
  have s5 := tx 205 (by decide) (by decide) (by decide) (by decide) (by decide) (by decide) (by decide)
  have s8 := tx 208 (by decide) (by decide) (by decide) (by decide) (by decide) (by decide) (by decide)
  have c301 := tx 301 (by decide) (by decide) (by decide) (by decide) (by decide) (by decide) (by decide)
  have c401 := tx 401 (by decide) (by decide) (by decide) (by decide) (by decide) (by decide) (by decide)
  have c402 := tx 402 (by decide) (by decide) (by decide) (by decide) (by decide) (by decide) (by decide)
  have mo : ∀ (F : Nat) (j : Int), F ≠ 1000 → F ≠ 1013 → M F j = mu F j := fun F j a b => by
    rw [hMM]; unfold lTkT lT3; rw [st_f b, st_f b, lT2_f b a]
  have m0 : ∀ j : Int, j ≠ 8 * k + 2 → j ≠ 8 * k + 5 → M 1000 j = mu 1000 j := fun j a b => by
    rw [hMM]; unfold lTkT lT3; rw [st_f (by decide), st_f (by decide), lT2_p a b]
  have mb : ∀ j : Int, M 1000 j = lB mu k (sg 506 0) 1000 j := fun j => by
    rw [hMM]; unfold lTkT lT3 lT2 lT1
    rw [st_f (by decide), st_f (by decide), if_neg (fun z => absurd z.1 (by decide)), if_neg (fun z => absurd z.1 (by decide))]
  have m13 : ∀ j : Int, 0 ≤ j → j < 24 → M 1013 j = lT3 mu (sg 503 0) k pr (sg 506 0) 1013 j := fun j a b => by
    rw [hMM]; unfold lTkT; rw [st_j (by omega), st_j (by omega)]
  have mno : ∀ j : Int, 0 ≤ j → ¬ (j < sg 503 0 ∧ mu 1001 (24 + j) = k) → lT3 mu (sg 503 0) k pr (sg 506 0) 1013 j = mu 1013 j := fun j a b => by
    unfold lT3 lT2 lT1 lB
    rw [if_neg (fun z => b ⟨z.2.2.1, z.2.2.2.1⟩), if_neg (fun z => b ⟨z.2.2.1, z.2.2.2.1⟩), st_f (by decide), st_f (by decide)]
  refine ⟨fun i p q => ?_, fun i p q => ?_, fun i p q => ?_, fun i p q => ?_, fun v p q v1 v2 v3 v4 => ?_, fun j p q => ?_, fun j p q => ?_, fun j p q => ?_, fun j p q => ?_, ⟨?_, fun j p q => ?_⟩, fun u p q => ?_, ⟨?_, ?_⟩, fun i p q e6 => ?_⟩
  · rw [m0 _ (by omega) (by omega), m0 _ (by omega) (by omega), s1, s2]
    exact hP i p q
  · have z := hS i p q
    have e := pl_inj ⟨p, q⟩ hk
    rw [m0 (8 * i + 4) (by omega) (by omega), m0 (8 * i + 6) (by omega) (by omega), mb, mb, t3, t6, s5, s8]
    unfold lB
    rw [st_i, st_i, st_i, st_i, st_i, st_i, if_neg (by omega), z.1, z.2.2.1]
    refine ⟨?_, z.2.1, ?_, z.2.2.2⟩
    · by_cases y : i = k
      · rw [if_pos (by omega), if_pos (e.mpr y)]
      · rw [if_neg (by omega), if_neg (fun x => y (e.mp x))]
    · by_cases y : i = k
      · rw [if_pos (by omega), if_pos (e.mpr y)]
      · rw [if_neg (by omega), if_neg (by omega), if_neg (fun x => y (e.mp x))]
  · rw [m0 _ (by omega) (by omega), needO_ext s4 (tx 403 (by decide) (by decide) (by decide) (by decide) (by decide) (by decide) (by decide))]
    exact hN i p q
  · rw [m0 _ (by omega) (by omega), mo 1012 i (by decide) (by decide), tx 209 (by decide) (by decide) (by decide) (by decide) (by decide) (by decide) (by decide), tx 210 (by decide) (by decide) (by decide) (by decide) (by decide) (by decide) (by decide)]
    exact hO i p q
  · have z := hX v p q v1 v2 v3 v4
    have y := pl_v hk
    rw [t3, s4, s8, st_i, if_neg (by omega)]
    exact z
  · rw [en] at q
    rw [mo 1001 j (by decide) (by decide), mo 1001 (24 + j) (by decide) (by decide), mo 1002 j (by decide) (by decide), mo 1003 j (by decide) (by decide), mo 1006 j (by decide) (by decide), e1, e2, e4, e5, e66]
    exact hA j p q
  · rw [en] at q
    rw [mo 1004 j (by decide) (by decide), mo 1005 j (by decide) (by decide), tx 107 (by decide) (by decide) (by decide) (by decide) (by decide) (by decide) (by decide), tx 108 (by decide) (by decide) (by decide) (by decide) (by decide) (by decide) (by decide), tx 109 (by decide) (by decide) (by decide) (by decide) (by decide) (by decide) (by decide)]
    exact hI j p q
  · rw [en] at q
    have z := hM j p q
    have ys := l_same hL hA ⟨p, q⟩ hk
    rw [mo 1014 j (by decide) (by decide), mo 1015 j (by decide) (by decide), mo 1009 j (by decide) (by decide), mo 1010 j (by decide) (by decide), tx 111 (by decide) (by decide) (by decide) (by decide) (by decide) (by decide) (by decide), tx 112 (by decide) (by decide) (by decide) (by decide) (by decide) (by decide) (by decide), tx 113 (by decide) (by decide) (by decide) (by decide) (by decide) (by decide) (by decide), tx 114 (by decide) (by decide) (by decide) (by decide) (by decide) (by decide) (by decide)]
    refine ⟨?_, z.2⟩
    rw [m13 j p (by omega), t10]
    by_cases y : sg 102 j = pl k
    · rw [if_pos ⟨p, by omega, q, y⟩, hsum j ⟨p, q⟩ y]
    · rw [if_neg (fun x => y x.2.2.2), mno j p (fun x => y (ys.mp x.2))]
      exact z.1
  · rw [en] at p
    have z := hZ j p q
    rw [m13 j (by omega) q, mno j (by omega) (fun x => by omega), mo 1005 j (by decide) (by decide), mo 1014 j (by decide) (by decide), mo 1015 j (by decide) (by decide), mo 1010 j (by decide) (by decide)]
    exact z
  · rw [tx 505 (by decide) (by decide) (by decide) (by decide) (by decide) (by decide) (by decide)]; exact hK.1
  · rw [mo 1011 j (by decide) (by decide), mo 1011 (2 + j) (by decide) (by decide), mo 1007 (3 * j) (by decide) (by decide), mo 1007 (3 * j + 1) (by decide) (by decide), c401, c402, tx 403 (by decide) (by decide) (by decide) (by decide) (by decide) (by decide) (by decide), tx 404 (by decide) (by decide) (by decide) (by decide) (by decide) (by decide) (by decide)]
    exact hK.2 j p q
  · rw [mo 1008 u (by decide) (by decide)]
    exact q_ext (a := T) hQ (tx 300 (by decide) (by decide) (by decide) (by decide) (by decide) (by decide) (by decide)) c301 (tx 302 (by decide) (by decide) (by decide) (by decide) (by decide) (by decide) (by decide)) (tx 602 (by decide) (by decide) (by decide) (by decide) (by decide) (by decide) (by decide)) (congrFun (tx 506 (by decide) (by decide) (by decide) (by decide) (by decide) (by decide) (by decide)) 0) u p q
  · have k9 : T 509 0 = sg 509 0 + courtL (tk3 sg (pl k)) (pl k) land := by
      rw [hTT, hland]; unfold tkT; rw [st_f (by decide), st_s]
      have : tk3 sg (pl k) 509 0 = sg 509 0 := by unfold tk3; rw [tk_x 24 509 (by decide) (by decide)]; rfl
      rw [this]
    have kM : M 1013 24 = mu 1013 24 + lCt mu k (lLeft mu (sg 503 0) k pr) (sg 503 0).toNat := by
      rw [hMM]; unfold lTkT; rw [st_j (by decide), st_s, mno 24 (by decide) (fun x => by omega)]
    rw [k9, kM, hT.1]
    have x1 : tk3 sg (pl k) 101 = sg 101 := by unfold tk3; rw [tk_x 24 101 (by decide) (by decide)]; rfl
    have x2 : tk3 sg (pl k) 102 = sg 102 := by unfold tk3; rw [tk_x 24 102 (by decide) (by decide)]; rfl
    have x5 : tk3 sg (pl k) 105 = sg 105 := by unfold tk3; rw [tk_x 24 105 (by decide) (by decide)]; rfl
    have xn : tk3 sg (pl k) 503 0 = sg 503 0 := by unfold tk3; rw [tk_x 24 503 (by decide) (by decide)]; rfl
    have la := tq_leftA hG hL hA (T := tk3 sg (pl k)) x1 x2 x5 xn hk hl
    have z := tq_court hL hA (T := tk3 sg (pl k)) x1 x2 x5 xn hk (land := land) (left := lLeft mu (sg 503 0) k pr) la (sg 503 0).toNat (by omega)
    rw [z]
    unfold courtL
    rw [show 24 = (sg 503 0).toNat + (24 - (sg 503 0).toNat) by omega, court_c (by rw [xn]; omega)]
  · have k9 : T 511 0 = sg 511 0 + land := by
      rw [hTT, hland]; unfold tkT; rw [st_s]
      have : tk3 sg (pl k) 511 0 = sg 511 0 := by unfold tk3; rw [tk_x 24 511 (by decide) (by decide)]; rfl
      rw [this]
    have kM : M 1013 25 = mu 1013 25 + lLand mu k pr := by
      rw [hMM]; unfold lTkT; rw [st_s, mno 25 (by decide) (fun x => by omega)]
    rw [k9, kM, hT.2, hl]
  · rw [en] at q
    rw [e2, t6, st_i] at e6
    have r2 := gr_102 hG i
    have hp7 := gp_207 hG (sg 102 i)
    rw [e2, t10]
    by_cases y : sg 102 i = pl k
    · rw [if_pos ⟨p, by omega, q, y⟩, sumB_ext (a := T) (b := tk2 sg (pl k)) e1 e2 e4 e5 e66 en (by rw [s2]; rfl) (by rw [s5]; rfl) (by
        rw [t6]
        show st sg 206 (pl k) (sg 506 0) 206 (sg 102 i) = st (st sg 203 (pl k) 1) 206 (pl k) (sg 506 0) 206 (sg 102 i)
        rw [st_i, st_i]; rfl)]
      rw [y, landO_at (a := T) (b := tk2 sg (pl k)) (by rw [s1]; rfl) (by rw [t7]) (by rw [s5]; rfl) (by rw [s4]; rfl) (fun _ => by rw [c301]; rfl) (fun _ => ⟨by rw [c401]; rfl, by rw [c402]; rfl⟩), ← hland]
    · rw [if_neg (fun x => y x.2.2.2)]
      rw [if_neg y] at e6
      have v7 : T 207 (sg 102 i) = sg 207 (sg 102 i) := by
        rw [t7]
        show st (tk1 sg (pl k)) 207 (pl k) _ 207 (sg 102 i) = _
        rw [st_j y]; rfl
      rw [landO_at (a := T) (b := sg) (by rw [s1]) v7 (by rw [s5]) (by rw [s4]) (fun _ => by rw [c301]) (fun _ => ⟨by rw [c401], by rw [c402]⟩), sumB_ext (a := T) (b := sg) e1 e2 e4 e5 e66 en (by rw [s2]) (by rw [s5]) (by rw [t6, st_j y])]
      exact hJ i p q e6
