/-! what the calls do: release, price, own, lease, charge -/
theorem P_ext {a b m : Nat → Int → Int} (h : RLP b m) (e1 : a 201 = b 201) (e2 : a 202 = b 202) : RLP a m := fun k p q => by rw [e1, e2]; exact h k p q
theorem S_ext {a b m : Nat → Int → Int} (h : RLS b m) (e3 : a 203 = b 203) (e5 : a 205 = b 205) (e6 : a 206 = b 206) (e8 : a 208 = b 208) : RLS a m := fun k p q => by rw [e3, e5, e6, e8]; exact h k p q
theorem N_ext {a b m : Nat → Int → Int} (h : RLN b m) (e4 : a 204 = b 204) (e3 : a 403 = b 403) : RLN a m := fun k p q => by rw [needO_ext e4 e3]; exact h k p q
theorem O_ext {a b m : Nat → Int → Int} (h : RLO b m) (e9 : a 209 = b 209) (e0 : a 210 = b 210) : RLO a m := fun k p q => by rw [e9, e0]; exact h k p q
theorem X_ext {a b : Nat → Int → Int} (h : RLX b) (e3 : a 203 = b 203) (e4 : a 204 = b 204) (e8 : a 208 = b 208) : RLX a := fun v p q v1 v2 v3 v4 => by rw [e3, e4, e8]; exact h v p q v1 v2 v3 v4
theorem A_ext {a b m : Nat → Int → Int} (h : RLA b m) (e1 : a 101 = b 101) (e2 : a 102 = b 102) (e4 : a 104 = b 104) (e5 : a 105 = b 105) (e6 : a 106 = b 106) (en : a 503 0 = b 503 0) : RLA a m := fun j p q => by rw [e1, e2, e4, e5, e6]; exact h j p (by omega)
theorem I_ext {a b m : Nat → Int → Int} (h : RLI b m) (e7 : a 107 = b 107) (e8 : a 108 = b 108) (e9 : a 109 = b 109) (en : a 503 0 = b 503 0) : RLI a m := fun j p q => by rw [e7, e8, e9]; exact h j p (by omega)
theorem M_ext {a b m : Nat → Int → Int} (h : RLM b m) (e0 : a 110 = b 110) (e1 : a 111 = b 111) (e2 : a 112 = b 112) (e3 : a 113 = b 113) (e4 : a 114 = b 114) (en : a 503 0 = b 503 0) : RLM a m := fun j p q => by rw [e0, e1, e2, e3, e4]; exact h j p (by omega)
theorem Z_ext {a b m : Nat → Int → Int} (h : RLZ b m) (en : a 503 0 = b 503 0) : RLZ a m := fun j p q => h j (by omega) q
theorem K_ext {a b m : Nat → Int → Int} (h : RLK b m) (e1 : a 401 = b 401) (e2 : a 402 = b 402) (e3 : a 403 = b 403) (e4 : a 404 = b 404) (en : a 505 0 = b 505 0) : RLK a m := ⟨by rw [en]; exact h.1, fun j p q => by rw [e1, e2, e3, e4]; exact h.2 j p q⟩
theorem T_ext {a b m : Nat → Int → Int} (h : RLT b m) (e1 : a 509 0 = b 509 0) (e2 : a 511 0 = b 511 0) : RLT a m := ⟨by rw [e1]; exact h.1, by rw [e2]; exact h.2⟩
theorem o_rel {sg mu : Nat → Int → Int} (h : LR sg mu) (hG : GC sg) (hL : GL mu) {k : Int} (hk : 0 ≤ k ∧ k ≤ 3) (h6 : sg 206 (pl k) = -1) : LR (relT sg (pl k)) (lfN mu k (sg 503 0)) := by
  obtain ⟨hP, hS, hN, hO, hX, hA, hI, hM, hZ, hK, hQ, hT, hJ⟩ := h
  have r := pl_rng k
  have g := gr_503 hG 0
  have ro : ∀ F : Nat, F ≠ 204 → F ≠ 205 → F ≠ 107 → F ≠ 108 → F ≠ 109 → relT sg (pl k) F = sg F := fun F a b c d e => funext fun i => relT_o a b c d e
  have en : relT sg (pl k) 503 0 = sg 503 0 := relT_o (by decide) (by decide) (by decide) (by decide) (by decide)
  have m0 : ∀ j : Int, j ≠ 8 * k + 3 → j ≠ 8 * k + 4 → lfN mu k (sg 503 0) 1000 j = mu 1000 j := fun j a b => by
    unfold lfN
    rw [if_neg (fun z => a z.2), if_neg (fun z => b z.2), if_neg (fun z => absurd z.1 (by decide)), if_neg (fun z => absurd z.1 (by decide))]
  have mf : ∀ (F : Nat) (j : Int), F ≠ 1000 → F ≠ 1004 → F ≠ 1005 → lfN mu k (sg 503 0) F j = mu F j := fun F j a b c => lf_f a b c
  refine ⟨fun i p q => ?_, fun i p q => ?_, fun i p q => ?_, fun i p q => ?_, fun v p q v1 v2 v3 v4 => ?_, fun j p q => ?_, fun j p q => ?_, fun j p q => ?_, fun j p q => ?_, ⟨?_, fun j p q => ?_⟩, fun u p q => ?_, ⟨?_, ?_⟩, ?_⟩
  · rw [m0 _ (by omega) (by omega), m0 _ (by omega) (by omega), ro 201 (by decide) (by decide) (by decide) (by decide) (by decide), ro 202 (by decide) (by decide) (by decide) (by decide) (by decide)]
    exact hP i p q
  · have z := hS i p q
    have e := pl_inj ⟨p, q⟩ hk
    rw [m0 (8 * i + 2) (by omega) (by omega), m0 (8 * i + 5) (by omega) (by omega), m0 (8 * i + 6) (by omega) (by omega), ro 203 (by decide) (by decide) (by decide) (by decide) (by decide), ro 206 (by decide) (by decide) (by decide) (by decide) (by decide), ro 208 (by decide) (by decide) (by decide) (by decide) (by decide)]
    refine ⟨z.1, ?_, z.2.2⟩
    by_cases y : i = k
    · subst y
      unfold lfN relT relN
      rw [if_neg (fun z => by omega), if_pos ⟨rfl, rfl⟩, if_neg (fun z => absurd z.1 (by decide)), if_pos ⟨rfl, rfl⟩]
    · rw [m0 _ (by omega) (by omega), z.2.1]
      unfold relT relN
      have e' : pl i ≠ pl k := fun x => y (e.mp x)
      rw [if_neg (fun z => absurd z.1 (by decide)), if_neg (fun z => e' z.2), if_neg (fun z => absurd z.1 (by decide)), if_neg (fun z => by have := z.1; omega)]
  · have z := hN i p q
    have e := pl_inj ⟨p, q⟩ hk
    rw [need_rel (by have := pl_rng i; omega)]
    by_cases y : i = k
    · subst y
      unfold lfN
      rw [if_pos ⟨rfl, rfl⟩, if_pos rfl]
    · rw [m0 _ (by omega) (by omega), z, if_neg (fun x => y (e.mp x))]
  · rw [m0 _ (by omega) (by omega), mf 1012 i (by decide) (by decide) (by decide), ro 209 (by decide) (by decide) (by decide) (by decide) (by decide), ro 210 (by decide) (by decide) (by decide) (by decide) (by decide)]
    exact hO i p q
  · have z := hX v p q v1 v2 v3 v4
    have y := pl_v hk
    rw [ro 203 (by decide) (by decide) (by decide) (by decide) (by decide), ro 208 (by decide) (by decide) (by decide) (by decide) (by decide), relT_204, if_neg (by omega)]
    exact z
  · rw [en] at q
    rw [mf 1001 j (by decide) (by decide) (by decide), mf 1001 (24 + j) (by decide) (by decide) (by decide), mf 1002 j (by decide) (by decide) (by decide), mf 1003 j (by decide) (by decide) (by decide), mf 1006 j (by decide) (by decide) (by decide), ro 101 (by decide) (by decide) (by decide) (by decide) (by decide), ro 102 (by decide) (by decide) (by decide) (by decide) (by decide), ro 104 (by decide) (by decide) (by decide) (by decide) (by decide), ro 105 (by decide) (by decide) (by decide) (by decide) (by decide), ro 106 (by decide) (by decide) (by decide) (by decide) (by decide)]
    exact hA j p q
  · rw [en] at q
    have z := hI j p q
    have ys := l_same hL hA ⟨p, q⟩ hk
    unfold lfN relT relN
    by_cases y : sg 102 j = pl k
    · rw [if_neg (fun z => absurd z.1 (by decide)), if_neg (fun z => absurd z.1 (by decide)), if_pos ⟨rfl, p, q, ys.mpr y⟩, if_neg (fun z => absurd z.1 (by decide)), if_neg (fun z => absurd z.1 (by decide)), if_pos ⟨rfl, p, by omega, q, y⟩, if_neg (fun z => absurd z.1 (by decide)), if_neg (fun z => absurd z.1 (by decide)), if_neg (fun z => absurd z.1 (by decide)), if_pos ⟨rfl, p, q, ys.mpr y⟩]
      refine ⟨rfl, ?_⟩
      rw [if_neg (fun z => absurd z.1 (by decide)), if_neg (fun z => absurd z.1 (by decide)), if_neg (fun z => absurd z.1 (by decide)), if_pos ⟨Or.inr rfl, p, by omega, q, y⟩, if_neg (fun z => absurd z.1 (by decide)), if_neg (fun z => absurd z.1 (by decide)), if_neg (fun z => absurd z.1 (by decide)), if_pos ⟨Or.inl rfl, p, by omega, q, y⟩]
      rfl
    · have y2 : mu 1001 (24 + j) ≠ k := fun x => y (ys.mp x)
      rw [if_neg (fun z => absurd z.1 (by decide)), if_neg (fun z => absurd z.1 (by decide)), if_neg (fun z => y2 z.2.2.2), if_neg (fun z => absurd z.1 (by decide)), if_neg (fun z => absurd z.1 (by decide)), if_neg (fun z => absurd z.1 (by decide)), if_neg (fun z => y z.2.2.2.2), if_neg (fun z => by have := z.1; omega), if_neg (fun z => absurd z.1 (by decide)), if_neg (fun z => absurd z.1 (by decide)), if_neg (fun z => absurd z.1 (by decide)), if_neg (fun z => y2 z.2.2.2)]
      rw [if_neg (fun z => absurd z.1 (by decide)), if_neg (fun z => absurd z.1 (by decide)), if_neg (fun z => absurd z.1 (by decide)), if_neg (fun z => y z.2.2.2.2), if_neg (fun z => absurd z.1 (by decide)), if_neg (fun z => absurd z.1 (by decide)), if_neg (fun z => absurd z.1 (by decide)), if_neg (fun z => y z.2.2.2.2)]
      exact z
  · rw [en] at q
    rw [mf 1013 j (by decide) (by decide) (by decide), mf 1014 j (by decide) (by decide) (by decide), mf 1015 j (by decide) (by decide) (by decide), mf 1009 j (by decide) (by decide) (by decide), mf 1010 j (by decide) (by decide) (by decide), ro 110 (by decide) (by decide) (by decide) (by decide) (by decide), ro 111 (by decide) (by decide) (by decide) (by decide) (by decide), ro 112 (by decide) (by decide) (by decide) (by decide) (by decide), ro 113 (by decide) (by decide) (by decide) (by decide) (by decide), ro 114 (by decide) (by decide) (by decide) (by decide) (by decide)]
    exact hM j p q
  · rw [en] at p
    have z := hZ j p q
    rw [mf 1013 j (by decide) (by decide) (by decide), mf 1014 j (by decide) (by decide) (by decide), mf 1015 j (by decide) (by decide) (by decide), mf 1010 j (by decide) (by decide) (by decide)]
    refine ⟨?_, z.2⟩
    unfold lfN
    rw [if_neg (fun z => absurd z.1 (by decide)), if_neg (fun z => absurd z.1 (by decide)), if_neg (fun z => absurd z.1 (by decide)), if_neg (fun z => by omega)]
    exact z.1
  · rw [ro 505 (by decide) (by decide) (by decide) (by decide) (by decide)]; exact hK.1
  · rw [mf 1011 j (by decide) (by decide) (by decide), mf 1011 (2 + j) (by decide) (by decide) (by decide), mf 1007 (3 * j) (by decide) (by decide) (by decide), mf 1007 (3 * j + 1) (by decide) (by decide) (by decide), ro 401 (by decide) (by decide) (by decide) (by decide) (by decide), ro 402 (by decide) (by decide) (by decide) (by decide) (by decide), ro 403 (by decide) (by decide) (by decide) (by decide) (by decide), ro 404 (by decide) (by decide) (by decide) (by decide) (by decide)]
    exact hK.2 j p q
  · have z := q_ext (a := relT sg (pl k)) hQ (ro 300 (by decide) (by decide) (by decide) (by decide) (by decide)) (ro 301 (by decide) (by decide) (by decide) (by decide) (by decide)) (ro 302 (by decide) (by decide) (by decide) (by decide) (by decide)) (ro 602 (by decide) (by decide) (by decide) (by decide) (by decide)) (relT_o (by decide) (by decide) (by decide) (by decide) (by decide)) u p q
    rw [mf 1008 u (by decide) (by decide) (by decide)]
    exact z
  · rw [mf 1013 24 (by decide) (by decide) (by decide), ro 509 (by decide) (by decide) (by decide) (by decide) (by decide)]; exact hT.1
  · rw [mf 1013 25 (by decide) (by decide) (by decide), ro 511 (by decide) (by decide) (by decide) (by decide) (by decide)]; exact hT.2
  · have r2 := fun F a b c d e => ro F a b c d e
    refine ja_ext hG hJ (ro 101 (by decide) (by decide) (by decide) (by decide) (by decide)) (ro 102 (by decide) (by decide) (by decide) (by decide) (by decide)) (ro 104 (by decide) (by decide) (by decide) (by decide) (by decide)) (ro 105 (by decide) (by decide) (by decide) (by decide) (by decide)) (ro 106 (by decide) (by decide) (by decide) (by decide) (by decide)) en (ro 110 (by decide) (by decide) (by decide) (by decide) (by decide)) (ro 206 (by decide) (by decide) (by decide) (by decide) (by decide)) (fun v p q v6 => ?_) (fun n _ _ => by rw [ro 301 (by decide) (by decide) (by decide) (by decide) (by decide)]) (fun n _ _ => by rw [ro 401 (by decide) (by decide) (by decide) (by decide) (by decide), ro 402 (by decide) (by decide) (by decide) (by decide) (by decide)]; exact ⟨rfl, rfl⟩)
    have e : v ≠ pl k := fun x => v6 (by rw [x]; exact h6)
    rw [ro 201 (by decide) (by decide) (by decide) (by decide) (by decide), ro 202 (by decide) (by decide) (by decide) (by decide) (by decide), ro 207 (by decide) (by decide) (by decide) (by decide) (by decide), relT_204, if_neg e]
    refine ⟨rfl, rfl, rfl, ?_, rfl⟩
    unfold relT relN
    rw [if_neg (fun z => absurd z.1 (by decide)), if_neg (fun z => e z.2), if_neg (fun z => absurd z.1 (by decide)), if_neg (fun z => by have := z.1; omega)]
theorem o_price {sg mu : Nat → Int → Int} (h : LR sg mu) (hG : GC sg) {u ce : Int} (hu : 0 ≤ u ∧ u ≤ 2) (hce : 0 ≤ ce ∧ ce ≤ 1000) (hn : sg 702 0 ≤ 1000000) : LR (priceT sg u ce) (st mu 1008 u ce) := by
  obtain ⟨hP, hS, hN, hO, hX, hA, hI, hM, hZ, hK, hQ, hT, hJ⟩ := h
  have pf : ∀ F : Nat, ¬ (300 ≤ F ∧ F < 303) → F ≠ 702 → F ≠ 602 → priceT sg u ce F = sg F := fun F a b c => pr_f a b c
  have p503 : priceT sg u ce 503 0 = sg 503 0 := congrFun (pf 503 (by decide) (by decide) (by decide)) 0
  refine ⟨P_ext (b := sg) hP (pf _ (by decide) (by decide) (by decide)) (pf _ (by decide) (by decide) (by decide)), S_ext (b := sg) hS (pf _ (by decide) (by decide) (by decide)) (pf _ (by decide) (by decide) (by decide)) (pf _ (by decide) (by decide) (by decide)) (pf _ (by decide) (by decide) (by decide)), N_ext (b := sg) hN (pf _ (by decide) (by decide) (by decide)) (pf _ (by decide) (by decide) (by decide)), O_ext (b := sg) hO (pf _ (by decide) (by decide) (by decide)) (pf _ (by decide) (by decide) (by decide)), X_ext hX (pf _ (by decide) (by decide) (by decide)) (pf _ (by decide) (by decide) (by decide)) (pf _ (by decide) (by decide) (by decide)), A_ext (b := sg) hA (pf _ (by decide) (by decide) (by decide)) (pf _ (by decide) (by decide) (by decide)) (pf _ (by decide) (by decide) (by decide)) (pf _ (by decide) (by decide) (by decide)) (pf _ (by decide) (by decide) (by decide)) p503, I_ext (b := sg) hI (pf _ (by decide) (by decide) (by decide)) (pf _ (by decide) (by decide) (by decide)) (pf _ (by decide) (by decide) (by decide)) p503, M_ext (b := sg) hM (pf _ (by decide) (by decide) (by decide)) (pf _ (by decide) (by decide) (by decide)) (pf _ (by decide) (by decide) (by decide)) (pf _ (by decide) (by decide) (by decide)) (pf _ (by decide) (by decide) (by decide)) p503, Z_ext (b := sg) hZ p503, K_ext (b := sg) hK (pf _ (by decide) (by decide) (by decide)) (pf _ (by decide) (by decide) (by decide)) (pf _ (by decide) (by decide) (by decide)) (pf _ (by decide) (by decide) (by decide)) (congrFun (pf 505 (by decide) (by decide) (by decide)) 0), fun v p q => ?_, T_ext (b := sg) hT (congrFun (pf 509 (by decide) (by decide) (by decide)) 0) (congrFun (pf 511 (by decide) (by decide) (by decide)) 0), ?_⟩
  · rw [pf 506 (by decide) (by decide) (by decide), prOn_new hG hu hce hn ⟨p, q⟩ (Int.le_refl _), st_i]
    have g7 := ga_602 hG (q := u) ⟨hu.1, by omega⟩
    by_cases e : v = u
    · rw [if_pos e, if_pos ⟨e, rfl⟩]
      unfold centsO
      rw [if_neg (by omega), pr_301, if_pos rfl]
    · rw [if_neg e, if_neg (fun z => e z.1), hQ v p q]
      unfold centsO
      have y := prOn_rng hG v (sg 506 0)
      by_cases e2 : prOn sg v (sg 506 0) < 0
      · rw [if_pos e2, if_pos e2]
      · rw [if_neg e2, if_neg e2, pr_301, if_neg (by omega)]
  · refine ja_ext hG hJ (pf _ (by decide) (by decide) (by decide)) (pf _ (by decide) (by decide) (by decide)) (pf _ (by decide) (by decide) (by decide)) (pf _ (by decide) (by decide) (by decide)) (pf _ (by decide) (by decide) (by decide)) p503 (pf _ (by decide) (by decide) (by decide)) (pf _ (by decide) (by decide) (by decide)) (fun v _ _ _ => ?_) (fun n p q => ?_) (fun n _ _ => ?_)
    · rw [pf 201 (by decide) (by decide) (by decide), pf 202 (by decide) (by decide) (by decide), pf 204 (by decide) (by decide) (by decide), pf 205 (by decide) (by decide) (by decide), pf 207 (by decide) (by decide) (by decide)]
      exact ⟨rfl, rfl, rfl, rfl, rfl⟩
    · rw [pr_301, if_neg (by omega)]
    · rw [pf 401 (by decide) (by decide) (by decide), pf 402 (by decide) (by decide) (by decide)]
      exact ⟨rfl, rfl⟩
