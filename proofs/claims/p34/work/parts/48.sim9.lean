/-! price, pass -/
theorem pr_f {sg : Nat → Int → Int} {u ce : Int} {F : Nat} (h1 : ¬ (300 ≤ F ∧ F < 303)) (h2 : F ≠ 702) (h3 : F ≠ 602) : priceT sg u ce F = sg F := by
  unfold priceT
  rw [st_F h3, nw_f (by simp only [List.length_cons, List.length_nil]; omega) h2]
theorem pr_r {sg : Nat → Int → Int} {u ce v : Int} {F : Nat} (h1 : 300 ≤ F ∧ F < 303) (hv : [sg 506 0, ce, prOn sg u (sg 506 0 - 1)].getD (F - 300) 0 = v) (i : Int) : priceT sg u ce F i = if i = sg 702 0 then v else sg F i := by
  unfold priceT
  rw [st_F (by omega)]
  exact nw_r (by simp only [List.length_cons, List.length_nil]; omega) hv (by omega) i
theorem pr_300 {sg : Nat → Int → Int} {u ce : Int} (i : Int) : priceT sg u ce 300 i = if i = sg 702 0 then sg 506 0 else sg 300 i := pr_r (by decide) rfl i
theorem pr_301 {sg : Nat → Int → Int} {u ce : Int} (i : Int) : priceT sg u ce 301 i = if i = sg 702 0 then ce else sg 301 i := pr_r (by decide) rfl i
theorem pr_302 {sg : Nat → Int → Int} {u ce : Int} (i : Int) : priceT sg u ce 302 i = if i = sg 702 0 then prOn sg u (sg 506 0 - 1) else sg 302 i := pr_r (by decide) rfl i
theorem pr_602 {sg : Nat → Int → Int} {u ce : Int} (i : Int) : priceT sg u ce 602 i = if i = u then sg 702 0 else sg 602 i := by
  unfold priceT
  rw [st_i, nw_f (by simp only [List.length_cons, List.length_nil]; omega) (by decide)]
theorem pr_702 {sg : Nat → Int → Int} {u ce : Int} : priceT sg u ce 702 0 = sg 702 0 + 1 := by
  unfold priceT
  rw [st_f (by decide)]
  exact nw_c (by simp only [List.length_cons, List.length_nil]; omega)
theorem gc_price {sg : Nat → Int → Int} (hG : GC sg) {u ce : Int} (hu : 0 ≤ u ∧ u ≤ 2) (hce : 0 ≤ ce ∧ ce ≤ 1000) (hn : sg 702 0 ≤ 1000000) : GC (priceT sg u ce) := by
  have g6 := gr_506 hG 0
  have gp := prOn_lt hG u (sg 506 0 - 1)
  have gn := np_pos hG
  have hR : GRng (priceT sg u ce) := by
    refine rng_hi (rng_nw hG.1 (by decide) ?_) (by decide)
    intro i hi
    match i, hi with
    | 0, _ => exact (show (0 : Int) ≤ sg 506 0 ∧ sg 506 0 ≤ 20000 by omega)
    | 1, _ => exact hce
    | 2, _ => exact (show (-1 : Int) ≤ prOn sg u (sg 506 0 - 1) ∧ prOn sg u (sg 506 0 - 1) ≤ 1000000000 by omega)
    | i + 3, hi => exact absurd hi (by simp only [List.length_cons, List.length_nil]; omega)
  have f : ∀ {F : Nat}, ¬ (300 ≤ F ∧ F < 303) → F ≠ 702 → F ≠ 602 → priceT sg u ce F = sg F := fun h1 h2 h3 => pr_f h1 h2 h3
  obtain ⟨-, a1, a2, a3, a4, a5, a6⟩ := hG
  refine ⟨hR, ⟨?_, ?_, ?_, fun q q1 q2 => ?_⟩, ?_, ⟨?_, fun j => ?_, ?_, fun n n0 => ?_⟩, ⟨?_, ?_, ?_⟩, ?_, ⟨?_, fun q => ?_, ?_, fun q => ?_, ?_, ?_, fun q => ?_, ?_⟩⟩
  · rw [f (F := 601) (by decide) (by decide) (by decide)]; exact a1.1
  · rw [f (F := 600) (by decide) (by decide) (by decide), f (F := 503) (by decide) (by decide) (by decide)]; exact a1.2.1
  · rw [f (F := 603) (by decide) (by decide) (by decide), f (F := 505) (by decide) (by decide) (by decide)]; exact a1.2.2.1
  · rw [pr_602, pr_702]
    have z := a1.2.2.2 q q1 q2
    split <;> omega
  · unfold GCnt
    rw [f (F := 700) (by decide) (by decide) (by decide), f (F := 503) (by decide) (by decide) (by decide), f (F := 701) (by decide) (by decide) (by decide), f (F := 703) (by decide) (by decide) (by decide), f (F := 505) (by decide) (by decide) (by decide), f (F := 704) (by decide) (by decide) (by decide), f (F := 709) (by decide) (by decide) (by decide), f (F := 710) (by decide) (by decide) (by decide), f (F := 711) (by decide) (by decide) (by decide), f (F := 712) (by decide) (by decide) (by decide)]
    exact a2
  · rw [f (F := 204) (by decide) (by decide) (by decide), f (F := 505) (by decide) (by decide) (by decide)]; exact a3.1
  · rw [f (F := 207) (by decide) (by decide) (by decide), pr_702]
    have := a3.2.1 j; omega
  · rw [f (F := 209) (by decide) (by decide) (by decide), f (F := 503) (by decide) (by decide) (by decide)]; exact a3.2.2.1
  · rw [pr_302]
    have := a3.2.2.2 n n0
    split <;> omega
  · rw [f (F := 503) (by decide) (by decide) (by decide), f (F := 100) (by decide) (by decide) (by decide)]; exact a4.1
  · rw [f (F := 200) (by decide) (by decide) (by decide)]; exact a4.2.1
  · rw [f (F := 505) (by decide) (by decide) (by decide), f (F := 400) (by decide) (by decide) (by decide)]; exact a4.2.2
  · unfold GMea
    rw [f (F := 101) (by decide) (by decide) (by decide), f (F := 105) (by decide) (by decide) (by decide)]; exact a5
  · rw [f (F := 600) (by decide) (by decide) (by decide), f (F := 503) (by decide) (by decide) (by decide)]; exact a6.1
  · rw [pr_602, pr_702]
    have := a6.2.1 q
    split <;> omega
  · rw [f (F := 603) (by decide) (by decide) (by decide), f (F := 505) (by decide) (by decide) (by decide)]; exact a6.2.2.1
  · rw [pr_302, pr_702]
    have := a6.2.2.2.1 q
    split <;> omega
  · rw [f (F := 601) (by decide) (by decide) (by decide)]; exact a6.2.2.2.2.1
  · rw [f (F := 600) (by decide) (by decide) (by decide)]; exact a6.2.2.2.2.2.1
  · rw [pr_602]
    have := a6.2.2.2.2.2.2.1 q
    split <;> omega
  · rw [f (F := 603) (by decide) (by decide) (by decide)]; exact a6.2.2.2.2.2.2.2
theorem prW_new {sg : Nat → Int → Int} (hG : GC sg) {u ce d : Int} : ∀ (k : Nat) (n : Int), n < sg 702 0 → prW (priceT sg u ce) d k n = prW sg d k n := by
  intro k
  induction k with
  | zero => intro n _; rfl
  | succ k ih =>
    intro n hn
    show (if n < 0 then (-1 : Int) else if d < priceT sg u ce 300 n then prW (priceT sg u ce) d k (priceT sg u ce 302 n) else n) = (if n < 0 then (-1 : Int) else if d < sg 300 n then prW sg d k (sg 302 n) else n)
    rw [pr_300, pr_302, if_neg (show ¬ n = sg 702 0 by omega), if_neg (show ¬ n = sg 702 0 by omega)]
    by_cases h0 : n < 0
    · rw [if_pos h0, if_pos h0]
    · have := gp_302 hG (j := n) (by omega)
      rw [ih (sg 302 n) (by omega)]
theorem prN_new {sg : Nat → Int → Int} (hG : GC sg) {u ce d n : Int} (hn : n < sg 702 0) : prN (priceT sg u ce) d n = prN sg d n := prW_new hG _ n hn
theorem prN_prN {sg : Nat → Int → Int} (hG : GC sg) {d d2 : Int} (hd : d ≤ d2) : ∀ (k : Nat) (n : Int), n < k → prN sg d (prN sg d2 n) = prN sg d n := by
  intro k
  induction k with
  | zero => intro n hn; rw [prN_n d2 (by omega), prN_n d (by omega), prN_n d (by omega)]
  | succ k ih =>
    intro n hn
    by_cases h0 : n < 0
    · rw [prN_n d2 h0, prN_n d (by omega), prN_n d h0]
    · have h3 := gp_302 hG (j := n) (by omega)
      by_cases h1 : d2 < sg 300 n
      · rw [prN_p hG d2 (by omega), if_pos h1, ih _ (by omega), prN_p hG d (n := n) (by omega), if_pos (by omega)]
      · rw [prN_p hG d2 (by omega), if_neg h1]
theorem prOn_new {sg : Nat → Int → Int} (hG : GC sg) {u ce d v : Int} (hu : 0 ≤ u ∧ u ≤ 2) (hce : 0 ≤ ce ∧ ce ≤ 1000) (hn : sg 702 0 ≤ 1000000) (hv : 0 ≤ v ∧ v ≤ 2) (hd : d ≤ sg 506 0) : prOn (priceT sg u ce) v d = if v = u ∧ d = sg 506 0 then sg 702 0 else prOn sg v d := by
  have hG2 := gc_price hG hu hce hn
  have gn := np_pos hG
  have ga := ga_602 hG (q := v) (by omega)
  unfold prOn
  rw [if_pos (show 0 ≤ v ∧ v < 3 by omega), if_pos (show 0 ≤ v ∧ v < 3 by omega), pr_602]
  by_cases e : v = u
  · rw [if_pos e, prN_p hG2 d (by omega), pr_300, pr_302, if_pos rfl, if_pos rfl]
    by_cases e2 : d = sg 506 0
    · rw [if_neg (by omega), if_pos ⟨e, e2⟩]
    · rw [if_pos (by omega), if_neg (fun z => e2 z.2)]
      have gp := prOn_lt hG u (sg 506 0 - 1)
      rw [prN_new hG gp.2]
      unfold prOn
      rw [if_pos (by omega), e]
      rw [e] at ga
      exact prN_prN hG (by omega) ((sg 602 u).toNat + 1) (sg 602 u) (by omega)
  · rw [if_neg e, if_neg (fun z => e z.1)]
    exact prN_new hG ga.2
theorem r_price {sg mu : Nat → Int → Int} (h : Rel sg mu) (hG : GC sg) (hM : GM mu) {u ce : Int} (hu : 0 ≤ u ∧ u ≤ 2) (hce : 0 ≤ ce ∧ ce ≤ 1000) (hn : sg 702 0 ≤ 1000000) : Rel (priceT sg u ce) (st (st mu 900 0 0) 1002 (3 * mu 901 0 + u) ce) ∧ GC (priceT sg u ce) ∧ GM (st (st mu 900 0 0) 1002 (3 * mu 901 0 + u) ce) := by
  have hG0 := hG
  obtain ⟨hS, hPA, hPS, hPN, hPO, hPL, hJ1, hJ2, hIA, hIN, hIS, hIP, hJ3, hJ8, hJ4, hZ, hK, hPR, hJ5, hT⟩ := h
  have f : ∀ {F : Nat}, ¬ (300 ≤ F ∧ F < 303) → F ≠ 702 → F ≠ 602 → priceT sg u ce F = sg F := fun h1 h2 h3 => pr_f h1 h2 h3
  have hneed : needO (priceT sg u ce) = needO sg := needO_ext (f (F := 204) (by decide) (by decide) (by decide)) (f (F := 403) (by decide) (by decide) (by decide))
  have hland : ∀ p, landO (priceT sg u ce) p = landO sg p := fun p => landO_at (a := priceT sg u ce) (b := sg) (by rw [f (F := 201) (by decide) (by decide) (by decide)]) (by rw [f (F := 207) (by decide) (by decide) (by decide)]) (by rw [f (F := 205) (by decide) (by decide) (by decide)]) (by rw [f (F := 204) (by decide) (by decide) (by decide)]) (fun z => by have := gp_207 hG0 p; rw [pr_301, if_neg (by omega)]) (fun _ => ⟨by rw [f (F := 401) (by decide) (by decide) (by decide)], by rw [f (F := 402) (by decide) (by decide) (by decide)]⟩)
  have hc : ∀ k : Int, k < sg 702 0 → centsO (priceT sg u ce) k = centsO sg k := by
    intro k hk
    unfold centsO
    rw [pr_301, if_neg (show ¬ k = sg 702 0 by omega)]
  refine ⟨⟨?_, ?_, ?_, ?_, ?_, ?_, ?_, ?_, ?_, ?_, ?_, ?_, ?_, ?_, ?_, ?_, ?_, ?_, ?_, ?_⟩, gc_price hG hu hce hn, gc_1002 (gc_900 hM 0 (by decide)) _ hce⟩
  · unfold RSc
    rw [f (F := 506) (by decide) (by decide) (by decide), f (F := 503) (by decide) (by decide) (by decide), f (F := 505) (by decide) (by decide) (by decide)]; exact hS
  · unfold RPA
    rw [f (F := 201) (by decide) (by decide) (by decide), f (F := 202) (by decide) (by decide) (by decide)]; exact hPA
  · unfold RPS
    rw [f (F := 203) (by decide) (by decide) (by decide), f (F := 205) (by decide) (by decide) (by decide), f (F := 206) (by decide) (by decide) (by decide), f (F := 208) (by decide) (by decide) (by decide)]; exact hPS
  · unfold RPN
    rw [hneed]; exact hPN
  · unfold RPO
    rw [f (F := 209) (by decide) (by decide) (by decide), f (F := 210) (by decide) (by decide) (by decide)]; exact hPO
  · intro p p1 p2
    rw [hland, f (F := 206) (by decide) (by decide) (by decide)]; exact hPL p p1 p2
  · unfold J1
    rw [f (F := 203) (by decide) (by decide) (by decide), f (F := 206) (by decide) (by decide) (by decide)]; exact hJ1
  · unfold J2
    rw [hneed, f (F := 209) (by decide) (by decide) (by decide), f (F := 203) (by decide) (by decide) (by decide), f (F := 210) (by decide) (by decide) (by decide)]; exact hJ2
  · unfold RIA
    rw [f (F := 503) (by decide) (by decide) (by decide), f (F := 101) (by decide) (by decide) (by decide), f (F := 102) (by decide) (by decide) (by decide), f (F := 103) (by decide) (by decide) (by decide), f (F := 104) (by decide) (by decide) (by decide), f (F := 105) (by decide) (by decide) (by decide), f (F := 106) (by decide) (by decide) (by decide)]; exact hIA
  · unfold RIN
    rw [f (F := 503) (by decide) (by decide) (by decide), f (F := 107) (by decide) (by decide) (by decide), f (F := 108) (by decide) (by decide) (by decide), f (F := 109) (by decide) (by decide) (by decide)]; exact hIN
  · unfold RIS
    rw [f (F := 503) (by decide) (by decide) (by decide), f (F := 110) (by decide) (by decide) (by decide)]; exact hIS
  · unfold RIP
    rw [f (F := 503) (by decide) (by decide) (by decide), f (F := 111) (by decide) (by decide) (by decide), f (F := 112) (by decide) (by decide) (by decide), f (F := 113) (by decide) (by decide) (by decide), f (F := 114) (by decide) (by decide) (by decide)]; exact hIP
  · unfold J3
    rw [f (F := 503) (by decide) (by decide) (by decide), f (F := 111) (by decide) (by decide) (by decide), f (F := 112) (by decide) (by decide) (by decide), f (F := 113) (by decide) (by decide) (by decide), f (F := 114) (by decide) (by decide) (by decide)]; exact hJ3
  · unfold J8
    rw [f (F := 503) (by decide) (by decide) (by decide), f (F := 108) (by decide) (by decide) (by decide), f (F := 109) (by decide) (by decide) (by decide)]; exact hJ8
  · unfold J4
    rw [f (F := 503) (by decide) (by decide) (by decide), f (F := 206) (by decide) (by decide) (by decide), f (F := 102) (by decide) (by decide) (by decide), f (F := 110) (by decide) (by decide) (by decide)]; exact hJ4
  · unfold RZ
    rw [f (F := 503) (by decide) (by decide) (by decide), f (F := 505) (by decide) (by decide) (by decide)]; exact hZ
  · unfold RK
    rw [f (F := 505) (by decide) (by decide) (by decide), f (F := 401) (by decide) (by decide) (by decide), f (F := 402) (by decide) (by decide) (by decide), f (F := 403) (by decide) (by decide) (by decide), f (F := 404) (by decide) (by decide) (by decide), f (F := 405) (by decide) (by decide) (by decide)]; exact hK
  · intro v d v0 v2 d0 d1
    rw [f (F := 506) (by decide) (by decide) (by decide)] at d1
    rw [prOn_new hG hu hce hn ⟨v0, v2⟩ d1]
    show st (st mu 900 0 0) 1002 (3 * mu 901 0 + u) ce 1002 (3 * d + v) = _
    have z := hPR v d v0 v2 d0 d1
    have hS1 := hS.1
    by_cases e : v = u ∧ d = sg 506 0
    · rw [if_pos e, show 3 * d + v = 3 * mu 901 0 + u by omega, st_s]
      have gn := np_pos hG
      unfold centsO
      rw [if_neg (by omega), pr_301, if_pos rfl]
    · have gp := prOn_lt hG v d
      rw [if_neg e, st_j (show 3 * d + v ≠ 3 * mu 901 0 + u by omega), hc _ gp.2]
      exact z
  · intro v v0 v2
    have g6 := gr_506 hG 0
    have ga := ga_602 hG (q := v) (by omega)
    rw [pr_602, f (F := 506) (by decide) (by decide) (by decide), pr_300]
    by_cases e : v = u
    · rw [if_pos e, if_pos rfl]; exact Int.le_refl _
    · rw [if_neg e, if_neg (by omega)]; exact hJ5 v v0 v2
  · unfold RTo
    rw [f (F := 507) (by decide) (by decide) (by decide), f (F := 508) (by decide) (by decide) (by decide), f (F := 509) (by decide) (by decide) (by decide), f (F := 510) (by decide) (by decide) (by decide), f (F := 511) (by decide) (by decide) (by decide), f (F := 503) (by decide) (by decide) (by decide)]; exact hT
theorem s_price {sg mu : Nat → Int → Int} (h : Rel sg mu) (hG : GC sg) (hM : GM mu) (hn : sg 702 0 ≤ 1000000) (u ce : Int) : SimW [2] (priceE u ce) (priceME u ce) (centsO sg (prOn sg u (sg 506 0))) (mu 1002 (3 * mu 901 0 + u)) sg (priceT sg u ce) mu (st (st mu 900 0 0) 1002 (3 * mu 901 0 + u) ce) := by
  have hS : RSc sg mu := h.1
  have hPR : RPR sg mu := h.2.2.2.2.2.2.2.2.2.2.2.2.2.2.2.2.2.1
  have g6 := gr_506 hG 0
  by_cases k : (0 ≤ u ∧ u ≤ 2) ∧ (0 ≤ ce ∧ ce ≤ 1000)
  · have z1 : priceE u ce = 0 := by unfold priceE; rw [if_neg (by omega)]
    have z2 : priceME u ce = 0 := by unfold priceME; rw [if_neg (by omega)]
    refine simW_of h hG hM (simP_1 (by decide) (Or.inr ⟨z1, z2, ?_⟩)) (fun _ => r_price h hG hM k.1 k.2 hn)
    have z := hPR u (sg 506 0) k.1.1 k.1.2 g6.1 (Int.le_refl _)
    rw [hS.1]; exact z.symm
  · have z1 : priceE u ce = 2 := by unfold priceE; rw [if_pos (by omega)]
    have z2 : priceME u ce = 1 := by unfold priceME; rw [if_pos (by omega)]
    exact simW_of h hG hM (simP_1 (by decide) (Or.inl ⟨z1, z2⟩)) (fun y => absurd (z1.symm.trans y) (by decide))
theorem prOn_top {sg : Nat → Int → Int} (hG : GC sg) {u d : Int} (hu : 0 ≤ u ∧ u ≤ 2) (h : sg 300 (sg 602 u) ≤ d) : prOn sg u d = sg 602 u := by
  have ga := ga_602 hG (q := u) (by omega)
  unfold prOn
  rw [if_pos (by omega), prN_p hG d ga.1, if_neg (by omega)]
theorem r_day {sg mu : Nat → Int → Int} (h : Rel sg mu) (hG : GC sg) (hM : GM mu) (hd : sg 506 0 + 1 ≤ 20000) : Rel (st sg 506 0 (sg 506 0 + 1)) (mps mu) ∧ GC (st sg 506 0 (sg 506 0 + 1)) ∧ GM (mps mu) := by
  obtain ⟨hS, hPA, hPS, hPN, hPO, hPL, hJ1, hJ2, hIA, hIN, hIS, hIP, hJ3, hJ8, hJ4, hZ, hK, hPR, hJ5, hT⟩ := h
  have g6 := gr_506 hG 0
  have hS1 := hS.1
  refine ⟨⟨⟨?_, hS.2⟩, hPA, hPS, hPN, hPO, hPL, hJ1, hJ2, hIA, hIN, hIS, hIP, hJ3, hJ8, hJ4, hZ, hK, fun v d v0 v2 d0 d1 => ?_, fun v v0 v2 => ?_, hT⟩, gc_506 hG 0 (by omega), gc_901 (gc_1002 (gc_1002 (gc_1002 hM _ (mr_1002 hM _)) _ (mr_1002 hM _)) _ (mr_1002 hM _)) 0 (by omega)⟩
  · show st (st (st (st mu 1002 (3 * mu 901 0 + 3 + 0) (mu 1002 (3 * mu 901 0 + 0))) 1002 (3 * mu 901 0 + 3 + 1) (mu 1002 (3 * mu 901 0 + 1))) 1002 (3 * mu 901 0 + 3 + 2) (mu 1002 (3 * mu 901 0 + 2))) 901 0 (mu 901 0 + 1) 901 0 = st sg 506 0 (sg 506 0 + 1) 506 0
    rw [st_s, st_s]; omega
  · have d2 : d ≤ sg 506 0 + 1 := by
      have d3 : d ≤ st sg 506 0 (sg 506 0 + 1) 506 0 := d1
      rw [st_s] at d3; exact d3
    have ep : prOn (st sg 506 0 (sg 506 0 + 1)) v d = prOn sg v d := by rw [prOn_ext (a := st sg 506 0 (sg 506 0 + 1)) (b := sg) rfl rfl rfl]
    have ec : centsO (st sg 506 0 (sg 506 0 + 1)) (prOn (st sg 506 0 (sg 506 0 + 1)) v d) = centsO sg (prOn sg v d) := by rw [ep]; rfl
    rw [ec]
    show st (st (st mu 1002 (3 * mu 901 0 + 3 + 0) (mu 1002 (3 * mu 901 0 + 0))) 1002 (3 * mu 901 0 + 3 + 1) (mu 1002 (3 * mu 901 0 + 1))) 1002 (3 * mu 901 0 + 3 + 2) (mu 1002 (3 * mu 901 0 + 2)) 1002 (3 * d + v) = _
    rw [st_i, st_i, st_i]
    by_cases e : d ≤ sg 506 0
    · rw [if_neg (by omega), if_neg (by omega), if_neg (by omega)]
      exact hPR v d v0 v2 d0 e
    · have j5 := hJ5 v v0 v2
      have z := hPR v (sg 506 0) v0 v2 g6.1 (Int.le_refl _)
      rw [prOn_top hG ⟨v0, v2⟩ (d := d) (by omega)]
      rw [prOn_top hG ⟨v0, v2⟩ (d := sg 506 0) j5, ← hS1] at z
      rcases (show v = 0 ∨ v = 1 ∨ v = 2 by omega) with y | y | y
      · rw [if_neg (by omega), if_neg (by omega), if_pos (by omega), show 3 * mu 901 0 + 0 = 3 * mu 901 0 + v by omega]; exact z
      · rw [if_neg (by omega), if_pos (by omega), show 3 * mu 901 0 + 1 = 3 * mu 901 0 + v by omega]; exact z
      · rw [if_pos (by omega), show 3 * mu 901 0 + 2 = 3 * mu 901 0 + v by omega]; exact z
  · have j5 := hJ5 v v0 v2
    show sg 300 (sg 602 v) ≤ st sg 506 0 (sg 506 0 + 1) 506 0
    rw [st_s]; omega
theorem r_pass {sg mu : Nat → Int → Int} (h : Rel sg mu) (hG : GC sg) (hM : GM mu) : ∀ n : Nat, sg 506 0 + (n : Int) ≤ 20000 → Rel (st sg 506 0 (sg 506 0 + (n : Int))) (mpsN mu n) ∧ GC (st sg 506 0 (sg 506 0 + (n : Int))) ∧ GM (mpsN mu n)
  | 0, _ => by
    rw [st_id (v := sg 506 0 + ((0 : Nat) : Int)) (by omega)]
    exact ⟨h, hG, hM⟩
  | n + 1, hn => by
    obtain ⟨a1, a2, a3⟩ := r_pass h hG hM n (by omega)
    have e : st sg 506 0 (sg 506 0 + (n : Int)) 506 0 = sg 506 0 + (n : Int) := st_s
    have z := r_day a1 a2 a3 (by rw [e]; omega)
    rw [e, st_st] at z
    rw [show sg 506 0 + ((n + 1 : Nat) : Int) = sg 506 0 + (n : Int) + 1 by omega]
    exact z
theorem s_pass {sg mu : Nat → Int → Int} (h : Rel sg mu) (hG : GC sg) (hM : GM mu) (d : Int) : SimW [2, 3] (passE sg d) (passME mu d) (sg 506 0 + d) (mu 901 0 + d) sg (st sg 506 0 (sg 506 0 + d)) mu (mpsN (st mu 900 0 0) d.toNat) := by
  have hS : RSc sg mu := h.1
  have hS1 := hS.1
  have e : (passE sg d = 0 ∧ passME mu d = 0 ∧ 1 ≤ d ∧ sg 506 0 + d ≤ 20000) ∨ (passE sg d = 2 ∧ passME mu d = 1) ∨ (passE sg d = 3 ∧ passME mu d = 2) := by
    unfold passE passME
    (repeat' split) <;> omega
  rcases e with ⟨z1, z2, z3, z4⟩ | ⟨z1, z2⟩ | ⟨z1, z2⟩
  · have z := r_pass (Rel9 h 0) hG (gc_900 hM 0 (by decide)) d.toNat (by omega)
    rw [show ((d.toNat : Nat) : Int) = d by omega] at z
    exact w23_0 h hG hM z1 z2 (by omega) z
  · exact w23_1 h hG hM z1 z2
  · exact w23_2 h hG hM z1 z2
