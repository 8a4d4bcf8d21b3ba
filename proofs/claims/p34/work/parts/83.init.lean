/-! the tables at the start: plots, prices, schemes -/
abbrev izF (F : Nat) : Prop := F ≠ 201 ∧ F ≠ 202 ∧ ¬ (300 ≤ F ∧ F < 303) ∧ F ≠ 602 ∧ ¬ (400 ≤ F ∧ F < 406) ∧ F ≠ 505 ∧ F ≠ 603 ∧ F ≠ 702 ∧ F ≠ 703
def FRi (sg mu : Nat → Int → Int) : Prop := (∀ F : Nat, izF F → sg F = zT 36 3 F) ∧ ∀ F : Nat, F ≠ 1000 → F ≠ 1007 → F ≠ 1008 → F ≠ 1011 → ∀ j : Int, mu F j = 0
def PPi (sg mu : Nat → Int → Int) (i : Int) : Prop := (∀ k : Int, 0 ≤ k → k ≤ 3 → mu 1000 (8 * k + 2) = 0 ∧ mu 1000 (8 * k + 4) = 0 ∧ mu 1000 (8 * k + 6) = 0) ∧ (∀ k : Int, 0 ≤ k → k < i → k ≤ 3 → mu 1000 (8 * k) = sg 201 (pl k) ∧ mu 1000 (8 * k + 1) = sg 202 (pl k) ∧ mu 1000 (8 * k + 3) = -1 ∧ mu 1000 (8 * k + 5) = -1 ∧ mu 1000 (8 * k + 7) = -1) ∧ ∀ k : Int, i ≤ k → 0 ≤ k → k ≤ 3 → sg 201 (pl k) = 10
def ovq (mu : Nat → Int → Int) (u : Int) : Nat → Int → Int := fun F j => if F = 1008 ∧ u ≤ j then (if j = 0 then 5 else if j = 1 then 20 else 30) else mu F j
def KKi (sg mu : Nat → Int → Int) (w : Int) : Prop := sg 505 0 = w ∧ (∀ j : Int, 0 ≤ j → j ≤ 1 → mu 1011 j = 0) ∧ ∀ j : Int, 0 ≤ j → j < w → sg 401 j = mu 1007 (3 * j) ∧ sg 402 j = mu 1007 (3 * j + 1) ∧ sg 403 j = 0 ∧ sg 404 j = -1 ∧ mu 1011 (2 + j) = -1
def IZ (sg mu : Nat → Int → Int) (i u w : Int) : Prop := Inv sg ∧ GC sg ∧ GL mu ∧ FRi sg mu ∧ PPi sg mu i ∧ RLQ sg (ovq mu u) ∧ KKi sg mu w ∧ sg 702 0 = 3 + u
theorem gl_z : GL (fun _ _ => 0) := by
  intro f j a b
  show loL f ≤ 0 ∧ 0 ≤ hiL f
  have h : f = 1000 ∨ f = 1001 ∨ f = 1002 ∨ f = 1003 ∨ f = 1004 ∨ f = 1005 ∨ f = 1006 ∨ f = 1007 ∨ f = 1008 ∨ f = 1009 ∨ f = 1010 ∨ f = 1011 ∨ f = 1012 := by omega
  rcases h with h | h | h | h | h | h | h | h | h | h | h | h | h <;> subst h <;> exact ⟨by decide, by decide⟩
theorem iz_0 : IZ (zT 36 3) (fun _ _ => 0) 0 0 0 := by
  refine ⟨⟨miN 36, rel_z0, gm_miN 36⟩, gc_z0, gl_z, ⟨fun F _ => rfl, fun F _ _ _ _ j => rfl⟩, ⟨fun k _ _ => ⟨rfl, rfl, rfl⟩, fun k a b _ => absurd b (by omega), fun k _ _ _ => rfl⟩, ?_, ⟨rfl, fun j _ _ => rfl, fun j a b => absurd b (by omega)⟩, rfl⟩
  intro u u1 u2
  have hp : prOn (zT 36 3) u (zT 36 3 506 0) = u := (prOn_top gc_z0 ⟨u1, u2⟩ (show (0 : Int) ≤ 0 from Int.le_refl 0)).trans (z_602 ⟨u1, by omega⟩)
  rw [hp]
  unfold centsO
  rw [if_neg (by omega), z_301 ⟨u1, by omega⟩]
  exact if_pos ⟨rfl, u1⟩
theorem iz_p {sg mu : Nat → Int → Int} {i a v : Int} (h : IZ sg mu i 0 0) (hi : 0 ≤ i ∧ i ≤ 3) (ha : 1 ≤ a ∧ a ≤ 100) (hv : 0 ≤ v ∧ v ≤ 2) (hz : Inv (st (st sg 201 (pl i) a) 202 (pl i) v) ∧ GC (st (st sg 201 (pl i) a) 202 (pl i) v)) : IZ (st (st sg 201 (pl i) a) 202 (pl i) v) (st (st (st (st (st mu 1000 (8 * i) a) 1000 (8 * i + 1) v) 1000 (8 * i + 3) (-1)) 1000 (8 * i + 5) (-1)) 1000 (8 * i + 7) (-1)) (i + 1) 0 0 := by
  obtain ⟨hV, hG, hL, hF, hP, hQ, hK, h7⟩ := h
  have to : ∀ (F : Nat) (j : Int), F ≠ 201 → F ≠ 202 → st (st sg 201 (pl i) a) 202 (pl i) v F j = sg F j := fun F j h1 h2 => by rw [st_f h2, st_f h1]
  have mo : ∀ (F : Nat) (j : Int), F ≠ 1000 → st (st (st (st (st mu 1000 (8 * i) a) 1000 (8 * i + 1) v) 1000 (8 * i + 3) (-1)) 1000 (8 * i + 5) (-1)) 1000 (8 * i + 7) (-1) F j = mu F j := fun F j h1 => by rw [st_f h1, st_f h1, st_f h1, st_f h1, st_f h1]
  have mk : ∀ j : Int, j ≠ 8 * i → j ≠ 8 * i + 1 → j ≠ 8 * i + 3 → j ≠ 8 * i + 5 → j ≠ 8 * i + 7 → st (st (st (st (st mu 1000 (8 * i) a) 1000 (8 * i + 1) v) 1000 (8 * i + 3) (-1)) 1000 (8 * i + 5) (-1)) 1000 (8 * i + 7) (-1) 1000 j = mu 1000 j := fun j h1 h2 h3 h4 h5 => by rw [st_j h5, st_j h4, st_j h3, st_j h2, st_j h1]
  refine ⟨hz.1, hz.2, gl_1000 (gl_1000 (gl_1000 (gl_1000 (gl_1000 hL _ (by omega)) _ (by omega)) _ (by omega)) _ (by omega)) _ (by omega), ⟨fun F h1 => funext fun q => (to F q h1.1 h1.2.1).trans (congrFun (hF.1 F h1) q), fun F g1 g2 g3 g4 j => (mo F j g1).trans (hF.2 F g1 g2 g3 g4 j)⟩, ⟨fun k k0 k3 => ?_, fun k k0 k1 k3 => ?_, fun k k1 k0 k3 => ?_⟩, fun u p q => ?_, ⟨(to 505 0 (by decide) (by decide)).trans hK.1, fun j p q => (mo 1011 j (by decide)).trans (hK.2.1 j p q), fun j p q => absurd q (by omega)⟩, (to 702 0 (by decide) (by decide)).trans h7⟩
  · obtain ⟨z1, z2, z3⟩ := hP.1 k k0 k3
    exact ⟨(mk _ (by omega) (by omega) (by omega) (by omega) (by omega)).trans z1, (mk _ (by omega) (by omega) (by omega) (by omega) (by omega)).trans z2, (mk _ (by omega) (by omega) (by omega) (by omega) (by omega)).trans z3⟩
  · by_cases e : k = i
    · subst e
      refine ⟨?_, ?_, ?_, ?_, st_s⟩
      · rw [st_j (by omega), st_j (by omega), st_j (by omega), st_j (by omega), st_s, st_f (by decide), st_s]
      · rw [st_j (by omega), st_j (by omega), st_j (by omega), st_s, st_s]
      · rw [st_j (by omega), st_j (by omega), st_s]
      · rw [st_j (by omega), st_s]
    · obtain ⟨z1, z2, z3, z4, z5⟩ := hP.2.1 k k0 (by omega) k3
      have ne : pl k ≠ pl i := fun z => e ((pl_inj ⟨k0, k3⟩ hi).mp z)
      refine ⟨(mk _ (by omega) (by omega) (by omega) (by omega) (by omega)).trans (z1.trans ?_), (mk _ (by omega) (by omega) (by omega) (by omega) (by omega)).trans (z2.trans ?_), (mk _ (by omega) (by omega) (by omega) (by omega) (by omega)).trans z3, (mk _ (by omega) (by omega) (by omega) (by omega) (by omega)).trans z4, (mk _ (by omega) (by omega) (by omega) (by omega) (by omega)).trans z5⟩
      · rw [st_f (by decide), st_j ne]
      · rw [st_j ne, st_f (by decide)]
  · have ne : pl k ≠ pl i := fun z => absurd ((pl_inj ⟨k0, k3⟩ hi).mp z) (by omega)
    rw [st_f (by decide), st_j ne]
    exact hP.2.2 k (by omega) k0 k3
  · have e1 : ovq (st (st (st (st (st mu 1000 (8 * i) a) 1000 (8 * i + 1) v) 1000 (8 * i + 3) (-1)) 1000 (8 * i + 5) (-1)) 1000 (8 * i + 7) (-1)) 0 1008 u = ovq mu 0 1008 u := (if_pos ⟨rfl, p⟩).trans (if_pos ⟨rfl, p⟩).symm
    rw [e1]
    exact q_ext hQ (funext fun x => to 300 x (by decide) (by decide)) (funext fun x => to 301 x (by decide) (by decide)) (funext fun x => to 302 x (by decide) (by decide)) (funext fun x => to 602 x (by decide) (by decide)) (to 506 0 (by decide) (by decide)) u p q
theorem q_price {sg mu : Nat → Int → Int} (hQ : RLQ sg mu) (hG : GC sg) {u ce : Int} (hu : 0 ≤ u ∧ u ≤ 2) (hce : 0 ≤ ce ∧ ce ≤ 1000) (hn : sg 702 0 ≤ 1000000) : RLQ (priceT sg u ce) (st mu 1008 u ce) := by
  have pf : ∀ F : Nat, ¬ (300 ≤ F ∧ F < 303) → F ≠ 702 → F ≠ 602 → priceT sg u ce F = sg F := fun F a b c => pr_f a b c
  intro v p q
  rw [pf 506 (by decide) (by decide) (by decide), prOn_new hG hu hce hn ⟨p, q⟩ (Int.le_refl _), st_i]
  have g7 := ga_602 hG (q := u) ⟨hu.1, by omega⟩
  by_cases e : v = u
  · rw [if_pos e, if_pos ⟨e, rfl⟩]
    unfold centsO
    rw [if_neg (by omega), pr_301, if_pos rfl]
  · rw [if_neg e, if_neg (fun z => e z.1), hQ v p q]
    unfold centsO
    have y := prOn_rng hG v (sg 506 0)
    by_cases e2 : prOn sg v (sg 506 0) < 0
    · rw [if_pos e2, if_pos e2]
    · rw [if_neg e2, if_neg e2, pr_301, if_neg (by omega)]
theorem iz_q {sg mu : Nat → Int → Int} {u ce : Int} (h : IZ sg mu 4 u 0) (hu : 0 ≤ u ∧ u ≤ 2) (hce : 0 ≤ ce ∧ ce ≤ 1000) (hz : Inv (priceT sg u ce) ∧ GC (priceT sg u ce)) : IZ (priceT sg u ce) (st mu 1008 u ce) 4 (u + 1) 0 := by
  obtain ⟨hV, hG, hL, hF, hP, hQ, hK, h7⟩ := h
  have pf : ∀ F : Nat, ¬ (300 ≤ F ∧ F < 303) → F ≠ 702 → F ≠ 602 → priceT sg u ce F = sg F := fun F a b c => pr_f a b c
  refine ⟨hz.1, hz.2, gl_1008 hL _ (by omega), ⟨fun F h1 => (pf F h1.2.2.1 h1.2.2.2.2.2.2.2.1 h1.2.2.2.1).trans (hF.1 F h1), fun F g1 g2 g3 g4 j => (st_f g3).trans (hF.2 F g1 g2 g3 g4 j)⟩, ⟨fun k k0 k3 => ?_, fun k k0 k1 k3 => ?_, fun k k1 k0 k3 => absurd k1 (by omega)⟩, fun v p q => ?_, ⟨?_, fun j p q => (st_f (by decide)).trans (hK.2.1 j p q), fun j p q => absurd q (by omega)⟩, ?_⟩
  · rw [st_f (by decide), st_f (by decide), st_f (by decide)]
    exact hP.1 k k0 k3
  · rw [st_f (by decide), st_f (by decide), st_f (by decide), st_f (by decide), st_f (by decide), pf 201 (by decide) (by decide) (by decide), pf 202 (by decide) (by decide) (by decide)]
    exact hP.2.1 k k0 k1 k3
  · have z := q_price hQ hG hu hce (by omega) v p q
    rw [← z]
    by_cases e : v = u
    · subst e
      rw [st_s]
      refine Eq.trans (if_neg ?_) st_s
      intro z
      have := z.2
      omega
    · rw [st_j e]
      by_cases e2 : u ≤ v
      · exact (if_pos ⟨rfl, by omega⟩).trans (if_pos ⟨rfl, e2⟩).symm
      · refine Eq.trans (if_neg ?_) ((st_j e).trans (if_neg ?_).symm)
        · intro z
          have := z.2
          omega
        · intro z
          exact e2 z.2
  · rw [pf 505 (by decide) (by decide) (by decide)]; exact hK.1
  · rw [pr_702]; omega
theorem iz_k {sg mu : Nat → Int → Int} {w a b : Int} (h : IZ sg mu 4 3 w) (hw : 0 ≤ w ∧ w ≤ 1) (ha : 0 ≤ a ∧ a ≤ 50) (hb : 0 ≤ b ∧ b ≤ 50) (hz : Inv (schemeT sg a b) ∧ GC (schemeT sg a b)) : IZ (schemeT sg a b) (st (st (st mu 1007 (3 * w) a) 1007 (3 * w + 1) b) 1011 (2 + w) (-1)) 4 3 (w + 1) := by
  obtain ⟨hV, hG, hL, hF, hP, hQ, hK, h7⟩ := h
  have sf : ∀ F : Nat, ¬ (400 ≤ F ∧ F < 406) → F ≠ 703 → F ≠ 603 → F ≠ 505 → schemeT sg a b F = sg F := fun F h1 h2 h3 h4 => sc_f h1 h2 h3 h4
  have mo : ∀ (F : Nat) (j : Int), F ≠ 1007 → F ≠ 1011 → st (st (st mu 1007 (3 * w) a) 1007 (3 * w + 1) b) 1011 (2 + w) (-1) F j = mu F j := fun F j h1 h2 => by rw [st_f h2, st_f h1, st_f h1]
  refine ⟨hz.1, hz.2, gl_1011 (gl_1007 (gl_1007 hL _ (by omega)) _ (by omega)) _ (by omega), ⟨fun F h1 => (sf F h1.2.2.2.2.1 h1.2.2.2.2.2.2.2.2 h1.2.2.2.2.2.2.1 h1.2.2.2.2.2.1).trans (hF.1 F h1), fun F g1 g2 g3 g4 j => (mo F j g2 g4).trans (hF.2 F g1 g2 g3 g4 j)⟩, ⟨fun k k0 k3 => ?_, fun k k0 k1 k3 => ?_, fun k k1 k0 k3 => absurd k1 (by omega)⟩, fun v p q => ?_, ⟨?_, fun j p q => ?_, fun j p q => ?_⟩, ?_⟩
  · rw [mo _ _ (by decide) (by decide), mo _ _ (by decide) (by decide), mo _ _ (by decide) (by decide)]
    exact hP.1 k k0 k3
  · rw [mo _ _ (by decide) (by decide), mo _ _ (by decide) (by decide), mo _ _ (by decide) (by decide), mo _ _ (by decide) (by decide), mo _ _ (by decide) (by decide), sf 201 (by decide) (by decide) (by decide) (by decide), sf 202 (by decide) (by decide) (by decide) (by decide)]
    exact hP.2.1 k k0 k1 k3
  · have e1 : ovq (st (st (st mu 1007 (3 * w) a) 1007 (3 * w + 1) b) 1011 (2 + w) (-1)) 3 1008 v = ovq mu 3 1008 v := by
      unfold ovq
      rw [mo 1008 v (by decide) (by decide)]
    rw [e1]
    exact q_ext hQ (sf 300 (by decide) (by decide) (by decide) (by decide)) (sf 301 (by decide) (by decide) (by decide) (by decide)) (sf 302 (by decide) (by decide) (by decide) (by decide)) (sf 602 (by decide) (by decide) (by decide) (by decide)) (congrFun (sf 506 (by decide) (by decide) (by decide) (by decide)) 0) v p q
  · rw [sc_505]; have := hK.1; omega
  · rw [st_j (by omega), st_f (by decide), st_f (by decide)]; exact hK.2.1 j p q
  · have h5 := hK.1
    rw [sc_r (F := 401) (v := a) (by decide) rfl, sc_r (F := 402) (v := b) (by decide) rfl, sc_r (F := 403) (v := 0) (by decide) rfl, sc_r (F := 404) (v := -1) (by decide) rfl, h5]
    by_cases e : j = w
    · subst e
      rw [if_pos rfl, if_pos rfl, if_pos rfl, if_pos rfl]
      refine ⟨?_, ?_, rfl, rfl, st_s⟩
      · rw [st_f (by decide), st_j (by omega), st_s]
      · rw [st_f (by decide), st_s]
    · obtain ⟨z1, z2, z3, z4, z5⟩ := hK.2.2 j p (by omega)
      rw [if_neg e, if_neg e, if_neg e, if_neg e]
      refine ⟨z1.trans ?_, z2.trans ?_, z3, z4, ?_⟩
      · rw [st_f (by decide), st_j (by omega), st_j (by omega)]
      · rw [st_f (by decide), st_j (by omega), st_j (by omega)]
      · rw [st_j (by omega), st_f (by decide), st_f (by decide)]; exact z5
  · rw [sf 702 (by decide) (by decide) (by decide) (by decide)]; exact h7
theorem iz_lr {sg mu : Nat → Int → Int} (h : IZ sg mu 4 3 2) : LR sg mu ∧ sg 503 0 = 0 ∧ sg 506 0 = 0 ∧ sg 510 0 = 0 := by
  obtain ⟨hV, hG, hL, hF, hP, hQ, hK, h7⟩ := h
  have fz : ∀ (F : Nat) (j : Int), izF F → sg F j = zT 36 3 F j := fun F j z => congrFun (hF.1 F z) j
  have e5 : sg 503 0 = 0 := fz 503 0 (by decide)
  have n0 : ∀ p : Int, needO sg p = -1 := fun p => by
    unfold needO
    split
    · rfl
    · rw [if_pos (show sg 204 p < 0 by rw [fz 204 p (by decide)]; exact (by decide : (-1 : Int) < 0))]
  refine ⟨⟨fun k a b => ?_, fun k a b => ?_, fun k a b => ?_, fun k a b => ?_, fun v a b _ _ _ _ => ⟨fz 203 v (by decide), fz 204 v (by decide), fz 208 v (by decide)⟩, fun j a b => absurd b (by omega), fun j a b => absurd b (by omega), fun j a b => absurd b (by omega), fun j a b => ⟨hF.2 1005 (by decide) (by decide) (by decide) (by decide) j, hF.2 1013 (by decide) (by decide) (by decide) (by decide) j, hF.2 1014 (by decide) (by decide) (by decide) (by decide) j, hF.2 1015 (by decide) (by decide) (by decide) (by decide) j, hF.2 1010 (by decide) (by decide) (by decide) (by decide) j⟩, ⟨hK.1, fun j a b => ?_⟩, fun u a b => ?_, ⟨(hF.2 1013 (by decide) (by decide) (by decide) (by decide) 24).trans (fz 509 0 (by decide)).symm, (hF.2 1013 (by decide) (by decide) (by decide) (by decide) 25).trans (fz 511 0 (by decide)).symm⟩, fun i a b => absurd b (by omega)⟩, e5, fz 506 0 (by decide), fz 510 0 (by decide)⟩
  · obtain ⟨z1, z2, -⟩ := hP.2.1 k a (by omega) b
    exact ⟨z1, z2⟩
  · obtain ⟨z1, z2, z3⟩ := hP.1 k a b
    obtain ⟨-, -, -, y5, -⟩ := hP.2.1 k a (by omega) b
    exact ⟨z1.trans (fz 203 _ (by decide)).symm, z2.trans (fz 205 _ (by decide)).symm, y5.trans (fz 206 _ (by decide)).symm, z3.trans (fz 208 _ (by decide)).symm⟩
  · exact (hP.2.1 k a (by omega) b).2.2.1.trans (n0 _).symm
  · have e9 : sg 209 (pl k) = -1 := fz 209 _ (by decide)
    exact ⟨(hP.2.1 k a (by omega) b).2.2.2.2.trans e9.symm, fun z => absurd z (by omega)⟩
  · obtain ⟨z1, z2, z3, z4, z5⟩ := hK.2.2 j a (by omega)
    exact ⟨(hK.2.1 j a b).trans z3.symm, z5.trans z4.symm, z1.symm, z2.symm⟩
  · have z := hQ u a b
    rw [← z]
    exact (if_neg (fun y => absurd y.2 (by omega))).symm
/-! the law's arrays, one behind the other -/
def NA (D : va_G) (cy : Nat → ClassId) (base n : Nat) (H : Heap) : Prop := H.size = base + n ∧ ∀ k : Nat, k < n → va_at D vwCl (base + k, cellM cy (fun _ _ => 0) (20 + k) 0) H
theorem na_0 {D : va_G} {cy : Nat → ClassId} {H : Heap} : NA D cy H.size 0 H := ⟨rfl, fun k h => absurd h (Nat.not_lt_zero k)⟩
theorem na_s {D : va_G} {cy : Nat → ClassId} {base n : Nat} {H H1 : Heap} {a : ClassId × vp_A} (h : NA D cy base n H) (hc : cellM cy (fun _ _ => 0) (20 + n) 0 = .inl a) (e : H1[base + n]? = some (vp_cell a.1 a.2)) (z : H1.size = base + n + 1) (o : ∀ q, q < base + n → H1[q]? = H[q]?) : NA D cy base (n + 1) H1 := by
  refine ⟨z, fun k hk => ?_⟩
  by_cases e2 : k = n
  · subst e2
    rw [hc]
    exact e
  · exact (h.2 k (by omega)).kept (o (base + k) (by omega))
theorem na_rm {D : va_G} {cy : Nat → ClassId} {base : Nat} {H : Heap} (h : NA D cy base 16 H) : RM D cy (fun q : Nat => base ≤ q ∧ q < base + 16) (fun (k : Nat) (_ : Int) => base + (k - 20)) (fun _ _ => 0) H := by
  have get : ∀ (i : Nat) (q : Nat × va_E), (((List.range 16).map (fun k : Nat => (20 + k, (0 : Int)))).map (fun q : Nat × Int => (base + (q.1 - 20), cellM cy (fun _ _ => 0) q.1 q.2)))[i]? = some q → i < 16 ∧ q = (base + i, cellM cy (fun _ _ => 0) (20 + i) 0) := by
    intro i q hi
    rw [List.getElem?_map, List.getElem?_map] at hi
    by_cases hl : i < 16
    · rw [List.getElem?_range hl] at hi
      have hi2 : (base + (20 + i - 20), cellM cy (fun _ _ => 0) (20 + i) 0) = q := Option.some.inj hi
      refine ⟨hl, ?_⟩
      rw [← hi2, show 20 + i - 20 = i by omega]
    · rw [List.getElem?_eq_none (by rw [List.length_range]; omega)] at hi
      cases hi
  refine ⟨(List.range 16).map (fun k : Nat => (20 + k, (0 : Int))), by decide, fun k j => ⟨fun hm => ?_, fun hm => ?_⟩, fun i q hi => ?_, ⟨fun i i2 p p2 hi hi2 e => ?_, fun i p hi => ?_⟩⟩
  · obtain ⟨x, hx, e⟩ := List.mem_map.mp hm
    have hx2 := List.mem_range.mp hx
    cases e
    exact ⟨rfl, by omega, by omega⟩
  · obtain ⟨h0, h1, h2⟩ := hm
    subst h0
    exact List.mem_map.mpr ⟨k - 20, List.mem_range.mpr (by omega), by rw [show 20 + (k - 20) = k by omega]⟩
  · obtain ⟨hl, rfl⟩ := get i q hi
    exact h.2 i hl
  · obtain ⟨hl, rfl⟩ := get i p hi
    obtain ⟨hl2, rfl⟩ := get i2 p2 hi2
    have e2 : base + i = base + i2 := e
    omega
  · obtain ⟨hl, rfl⟩ := get i p hi
    exact ⟨by show base ≤ base + i; omega, by show base + i < base + 16; omega⟩
section NR
variable {p : Program} {l : Launch} {e : Env} {s : State} {m : MethodId} {args : Array Value} {below : List Frame} {meth : Method} {c : Code} {H : Heap} {locs : List Loc} {cells slots base n N pc : Nat} {Q : State → Prop}
variable {ls : Array Slot} {rest : List Value} {D : va_G} {cy : Nat → ClassId} {A : Nat → Prop} {ad : Nat → Int → Nat} {sg : Nat → Int → Int} {v : Int32}
theorem na_i (hx : p.tables.exec = Jvm.exec) (hb : c.code = code) (hts : ∀ w ∈ wG, w.before args s = true) (hK : KC D cy s) (hN : NA D cy base n H) (hC : RC D cy A ad sg H) (hS : va_S (fun q : Nat => s.heap.size ≤ q) s.heap H locs) (hbase : s.heap.size ≤ base) (he : cellM cy (fun _ _ => 0) (20 + n) 0 = .inl (cy 6, N, .inl (fun _ => iI 0))) (hv : ¬ v < 0) (hv2 : v.toNatClampNeg = N) (hby : N * componentBytes (newarray.typeOf .int) ≤ 536870912) (hc : cells + 1 ≤ 600104) (hs : slots + N ≤ 7301314) (d : decode code pc = .ok (.newarray .int, 2))
    (kk : ∀ H1 : Heap, NA D cy base (n + 1) H1 → RC D cy A ad sg H1 → va_S (fun q : Nat => s.heap.size ≤ q) s.heap H1 locs → W p l e room_1 s m args below meth c H1 locs (cells + 1) (slots + N) Q (F0 m (pc + 2) ls (.ref (base + n) :: rest))) : W p l e room_1 s m args below meth c H locs cells slots Q (F0 m pc ls (.int v :: rest)) := by
  refine va_newaK (atype := .int) (N := N) hx hb (hts _ kw_682) rfl d rfl hv hv2 hby hc hs hN.1 fun H5 cA e5 z5 o5 hAr hNm => ?_
  have hcA : cA = cy 6 := Option.some.inj (hNm.symm.trans (va_nm_int (hK.2 0 _ rfl).2))
  have z0 : iI 0 = (0 : Int32) := by decide
  refine kk H5 (na_s hN he ?_ z5 o5) (wr_kept hC (fun k j hd => o5 _ (by have z := (wr_lt hC hd).1; rw [hN.1] at z; exact z))) ⟨by rw [z5]; omega, fun q a b => (o5 q (by omega)).trans (hS.2.1 q a b), hS.2.2⟩
  show H5[base + n]? = some (vp_cell (cy 6) (N, .inl (fun _ => iI 0)))
  rw [vp_cell_i, ← hcA, z0]
  exact e5
theorem na_l (hx : p.tables.exec = Jvm.exec) (hb : c.code = code) (hts : ∀ w ∈ wG, w.before args s = true) (hK : KC D cy s) (hN : NA D cy base n H) (hC : RC D cy A ad sg H) (hS : va_S (fun q : Nat => s.heap.size ≤ q) s.heap H locs) (hbase : s.heap.size ≤ base) (he : cellM cy (fun _ _ => 0) (20 + n) 0 = .inl (cy 7, N, .inr (.inl (fun _ => lI 0)))) (hv : ¬ v < 0) (hv2 : v.toNatClampNeg = N) (hby : N * componentBytes (newarray.typeOf .long) ≤ 536870912) (hc : cells + 1 ≤ 600104) (hs : slots + N ≤ 7301314) (d : decode code pc = .ok (.newarray .long, 2))
    (kk : ∀ H1 : Heap, NA D cy base (n + 1) H1 → RC D cy A ad sg H1 → va_S (fun q : Nat => s.heap.size ≤ q) s.heap H1 locs → W p l e room_1 s m args below meth c H1 locs (cells + 1) (slots + N) Q (F0 m (pc + 2) ls (.ref (base + n) :: rest))) : W p l e room_1 s m args below meth c H locs cells slots Q (F0 m pc ls (.int v :: rest)) := by
  refine va_newaK (atype := .long) (N := N) hx hb (hts _ kw_683) rfl d rfl hv hv2 hby hc hs hN.1 fun H5 cA e5 z5 o5 hAr hNm => ?_
  have hcA : cA = cy 7 := Option.some.inj (hNm.symm.trans (va_nm_long (hK.2 1 _ rfl).2))
  have z0 : lI 0 = (0 : Int64) := by decide
  refine kk H5 (na_s hN he ?_ z5 o5) (wr_kept hC (fun k j hd => o5 _ (by have z := (wr_lt hC hd).1; rw [hN.1] at z; exact z))) ⟨by rw [z5]; omega, fun q a b => (o5 q (by omega)).trans (hS.2.1 q a b), hS.2.2⟩
  show H5[base + n]? = some (vp_cell (cy 7) (N, .inr (.inl (fun _ => lI 0))))
  rw [vp_cell_l, ← hcA, z0]
  exact e5
end NR
theorem fri_need {sg mu : Nat → Int → Int} (hF : FRi sg mu) (p : Int) : needO sg p = -1 := by
  unfold needO
  split
  · rfl
  · rw [if_pos (show sg 204 p < 0 by rw [hF.1 204 (by decide)]; exact (by decide : (-1 : Int) < 0))]
theorem iz_E {sg mu : Nat → Int → Int} {i k a v : Int} (h : IZ sg mu i 0 0) (ha : 1 ≤ a ∧ a ≤ 100) (hv : 0 ≤ v ∧ v ≤ 2) : plotE sg (pl k) a v = 0 := by
  have r := pl_rng k
  obtain ⟨hV, hG, hL, hF, -⟩ := h
  have e3 : sg 203 (pl k) = 0 := congrFun (hF.1 203 (by decide)) (pl k)
  have n0 := fri_need hF (pl k)
  unfold plotE
  rw [pl_pAt, if_neg (by omega), if_neg (by omega), if_neg (by omega)]
