/-! a scheme dropped -/
theorem Rel_ov {a m1 m2 : Nat → Int → Int} (h : Rel a m1) (e : ∀ F : Nat, F ≠ 1006 → m2 F = m1 F) (h6 : ∀ p : Int, 0 ≤ p → p < 36 → m2 1006 p = needO a p) : Rel a m2 := by
  obtain ⟨hS, hPA, hPS, hPN, hPO, hPL, hJ1, hJ2, hIA, hIN, hIS, hIP, hJ3, hJ8, hJ4, hZ, hK, hPR, hJ5, hT⟩ := h
  refine ⟨?_, ?_, ?_, h6, ?_, ?_, hJ1, hJ2, ?_, ?_, ?_, ?_, hJ3, hJ8, hJ4, ?_, ?_, ?_, hJ5, ?_⟩
  · unfold RSc; rw [e 901 (by decide), e 913 (by decide), e 926 (by decide)]; exact hS
  · unfold RPA; rw [e 1003 (by decide), e 1004 (by decide)]; exact hPA
  · unfold RPS; rw [e 1005 (by decide), e 1007 (by decide), e 1008 (by decide), e 1009 (by decide)]; exact hPS
  · unfold RPO; rw [e 1010 (by decide), e 1011 (by decide)]; exact hPO
  · unfold RPL; rw [e 1012 (by decide)]; exact hPL
  · unfold RIA; rw [e 1014 (by decide), e 1015 (by decide), e 1016 (by decide), e 1017 (by decide), e 1018 (by decide), e 1034 (by decide)]; exact hIA
  · unfold RIN; rw [e 1019 (by decide), e 1020 (by decide)]; exact hIN
  · unfold RIS; rw [e 1021 (by decide)]; exact hIS
  · unfold RIP; rw [e 1022 (by decide), e 1023 (by decide), e 1024 (by decide), e 1025 (by decide)]; exact hIP
  · unfold RZ; rw [e 1020 (by decide), e 1021 (by decide), e 1022 (by decide), e 1023 (by decide), e 1025 (by decide), e 1034 (by decide), e 1029 (by decide)]; exact hZ
  · unfold RK; rw [e 1027 (by decide), e 1028 (by decide), e 1029 (by decide), e 1030 (by decide), e 1031 (by decide)]; exact hK
  · unfold RPR; rw [e 1002 (by decide)]; exact hPR
  · unfold RTo; rw [e 1021 (by decide), e 1022 (by decide), e 932 (by decide), e 933 (by decide), e 1012 (by decide)]; exact hT
def ov (m : Nat → Int → Int) (nd : Int → Int) : Nat → Int → Int := fun F k => if F = 1006 then nd k else m F k
theorem ov_f {m : Nat → Int → Int} {nd : Int → Int} {F : Nat} (h : F ≠ 1006) : ov m nd F = m F := funext fun _ => if_neg h
theorem ov_6 {m : Nat → Int → Int} {nd : Int → Int} (k : Int) : ov m nd 1006 k = nd k := if_pos rfl
theorem gm_ov {m : Nat → Int → Int} (hM : GM m) {nd : Int → Int} (h : ∀ p : Int, -1 ≤ nd p ∧ nd p ≤ 3) : GM (ov m nd) := by
  refine ⟨fun F k h1 h2 h3 h4 => ?_, hM.2.1, hM.2.2⟩
  by_cases e : F = 1006
  · subst e
    rw [ov_6]; exact h k
  · rw [ov_f e]; exact hM.1 F k h1 h2 h3 h4
theorem st_comm {S : Nat → Int → Int} {F G : Nat} {i v k u : Int} (h : F ≠ G) : st (st S F i v) G k u = st (st S G k u) F i v := by
  funext f q
  by_cases e : f = F
  · rw [e, st_f h, st_i, st_i, st_f h]
  · by_cases e2 : f = G
    · rw [e2, st_i, st_f (fun z => h z.symm), st_f (fun z => h z.symm), st_i]
    · rw [st_f e2, st_f e, st_f e, st_f e2]
theorem st_cong {S S2 : Nat → Int → Int} {F G : Nat} {i v : Int} (h : S F = S2 F) : st S G i v F = st S2 G i v F := by
  funext k
  unfold st
  rw [h]
theorem relT_o {S : Nat → Int → Int} {j k : Int} {F : Nat} (h1 : F ≠ 204) (h2 : F ≠ 205) (h3 : F ≠ 107) (h4 : F ≠ 108) (h5 : F ≠ 109) : relT S j F k = S F k := by
  unfold relT relN
  rw [if_neg (by omega), if_neg (by omega), if_neg (by omega), if_neg (by omega)]
theorem rel_st {X : Nat → Int → Int} {F : Nat} {i v j : Int} (h1 : F ≠ 204) (h2 : F ≠ 205) (h3 : F ≠ 107) (h4 : F ≠ 108) (h5 : F ≠ 109) (h6 : F ≠ 503) (h7 : F ≠ 102) : st (relT X j) F i v = relT (st X F i v) j := by
  funext f k
  by_cases e : f = F
  · rw [e, relT_o h1 h2 h3 h4 h5, st_i, st_i, relT_o h1 h2 h3 h4 h5]
  · rw [st_f e]
    unfold relT relN
    rw [st_F (fun z => h6 z.symm), st_F (fun z => h7 z.symm), st_f e]
theorem relT_204 {S : Nat → Int → Int} {j : Int} (k : Int) : relT S j 204 k = if k = j then -1 else S 204 k := by
  unfold relT relN
  by_cases e : k = j
  · rw [if_pos ⟨rfl, e⟩, if_pos e]
  · rw [if_neg (fun z => e z.2), if_neg (by omega), if_neg (by omega), if_neg (by omega), if_neg e]
theorem need_rel {S : Nat → Int → Int} {j : Int} {p : Int} (hp : 0 ≤ p) : needO (relT S j) p = if p = j then -1 else needO S p := by
  rw [needO_q hp, needO_q hp, relT_204]
  by_cases e : p = j
  · rw [if_pos e, if_pos e, if_pos (by decide)]
  · rw [if_neg e, if_neg e, relT_o (by decide) (by decide) (by decide) (by decide) (by decide)]
theorem mLg_6 {S : Nat → Int → Int} {j : Int} (k : Int) : mLgT S j 1006 k = if k = j then -1 else S 1006 k := by
  unfold mLgT mLgN
  by_cases e : k = j
  · rw [if_pos ⟨rfl, e⟩, if_pos e]
  · rw [if_neg (fun z => e z.2), if_neg (by omega), if_neg (by omega), if_neg (by omega), if_neg e]
theorem lgT_ge {X : Nat → Int → Int} {j p : Int} {F : Nat} (hF : F = 204 ∨ F = 205 ∨ F = 209 ∨ F = 210) (h : p ≠ j) : lgT X j F p = X F p := by
  unfold lgT
  split
  · unfold relT relN
    rw [if_neg (fun z => h z.2), if_neg (fun z => h z.2), if_neg (by omega), if_neg (by omega)]
  · split
    · rfl
    · unfold offT
      rw [st_j h, st_j h]
theorem dr_ge {sg : Nat → Int → Int} {w p : Int} {F : Nat} (hF : F = 204 ∨ F = 205 ∨ F = 209 ∨ F = 210) : ∀ n : Nat, (n : Int) ≤ p → drN sg w n F p = sg F p
  | 0, _ => rfl
  | n + 1, h => by
    have ih := dr_ge (sg := sg) (w := w) (p := p) hF n (by omega)
    show (if needO (drN sg w n) n = w then lgT (drN sg w n) n else drN sg w n : Nat → Int → Int) F p = _
    split
    · rw [lgT_ge hF (by omega)]; exact ih
    · exact ih
noncomputable def drA (sg : Nat → Int → Int) (w : Int) (n : Nat) : Nat → Int → Int := st (st (drN sg w n) 403 w 2) 405 w (sg 506 0)
def drM (mu : Nat → Int → Int) (w : Int) : Nat → Int → Int := st (st (st mu 900 0 0) 1029 w 2) 1031 w (mu 901 0)
theorem gc_drA {sg : Nat → Int → Int} (hG : GC sg) (w : Int) (n : Nat) : GC (drA sg w n) := by
  have g := gr_506 hG 0
  exact gc_405 (gc_403 (gc_drN hG n) w (by decide)) w (by omega)
theorem gm_drM {mu : Nat → Int → Int} (hM : GM mu) (w : Int) : GM (drM mu w) := by
  have g := mr_901 hM 0
  exact gc_1031 (gc_1029 (gc_900 hM 0 (by decide)) w (by decide)) w (by omega)
theorem need_A {sg : Nat → Int → Int} {w p : Int} {n : Nat} (hp : 0 ≤ p) (hn : (n : Int) ≤ p) : needO (drA sg w n) p = if sg 204 p = w then -1 else needO sg p := by
  rw [needO_q hp, needO_q hp]
  show (if drN sg w n 204 p < 0 then -1 else if st (drN sg w n) 403 w 2 403 (drN sg w n 204 p) = 2 then -1 else drN sg w n 204 p) = _
  rw [dr_ge (Or.inl rfl) n hn]
  by_cases e : sg 204 p = w
  · rw [if_pos e, e, st_s, if_pos rfl]
    split <;> rfl
  · rw [if_neg e, st_j e, dr_f (by decide) (by decide) (by decide) (by decide) (by decide) (by decide) (by decide)]
theorem need_dr {sg : Nat → Int → Int} {w p : Int} {n : Nat} (hp : 0 ≤ p) (hn : (n : Int) ≤ p) : needO (drN sg w n) p = needO sg p := by
  rw [needO_q hp, needO_q hp, dr_ge (Or.inl rfl) n hn, dr_f (by decide) (by decide) (by decide) (by decide) (by decide) (by decide) (by decide)]
/-- what holds after n plots -/
def DI (sg mu : Nat → Int → Int) (w : Int) (n : Nat) : Prop := Rel (drA sg w n) (ov (mdrN (drM mu w) w n) (needO (drA sg w n))) ∧ (∀ p : Int, 0 ≤ p → p < (n : Int) → mdrN (drM mu w) w n 1006 p = needO (drA sg w n) p) ∧ (∀ p : Int, (n : Int) ≤ p → p < 36 → mdrN (drM mu w) w n 1006 p = needO sg p) ∧ drC sg w n = mdrC (drM mu w) w n
theorem di_0 {sg mu : Nat → Int → Int} (h : Rel sg mu) (hG : GC sg) {w : Int} (hw : 0 ≤ w ∧ w < sg 505 0) : DI sg mu w 0 := by
  obtain ⟨hS, hPA, hPS, hPN, hPO, hPL, hJ1, hJ2, hIA, hIN, hIS, hIP, hJ3, hJ8, hJ4, hZ, hK, hPR, hJ5, hT⟩ := h
  refine ⟨⟨hS, hPA, hPS, fun p p1 p2 => ov_6 p, hPO, hPL, hJ1, fun p p1 p2 => ?_, hIA, hIN, hIS, hIP, hJ3, hJ8, hJ4, ⟨hZ.1, fun k p1 p2 => ?_⟩, fun k p1 p2 => ?_, RPR_ext (b := sg) hPR rfl rfl rfl rfl rfl, hJ5, hT⟩, fun p p1 p2 => by omega, fun p p1 p2 => hPN p (by omega) p2, rfl⟩
  · have z := hJ2 p p1 p2
    rw [need_A p1 (by omega)]
    refine ⟨fun y => ?_, z.2⟩
    by_cases e : sg 204 p = w
    · rw [if_pos e] at y; exact absurd y (by decide)
    · rw [if_neg e] at y; exact z.1 y
  · have e : k ≠ w := fun e => by have p3 : sg 505 0 ≤ k := p1; omega
    show st (st mu 900 0 0) 1029 w 2 1029 k = 0
    rw [st_j e]; exact hZ.2 k p1 p2
  · have z := hK k p1 p2
    refine ⟨z.1, z.2.1, ?_, z.2.2.2.1, ?_⟩
    · show st (st mu 900 0 0) 1029 w 2 1029 k = st sg 403 w 2 403 k
      rw [st_i, st_i]
      by_cases e : k = w
      · rw [if_pos e, if_pos e]
      · rw [if_neg e, if_neg e]; exact z.2.2.1
    · show st (st (st mu 900 0 0) 1029 w 2) 1031 w (mu 901 0) 1031 k = st (st sg 403 w 2) 405 w (sg 506 0) 405 k
      rw [st_i, st_i]
      by_cases e : k = w
      · rw [if_pos e, if_pos e]; exact hS.1
      · rw [if_neg e, if_neg e]; exact z.2.2.2.2
theorem di_s {sg mu : Nat → Int → Int} (h : Rel sg mu) (hG : GC sg) (hM : GM mu) {w : Int} (hw : 0 ≤ w ∧ w < sg 505 0) (h2 : sg 403 w ≠ 2) {n : Nat} (hn : n < 36) (D : DI sg mu w n) : DI sg mu w (n + 1) := by
  obtain ⟨hR, hlo, hhi, hc⟩ := D
  have hGA := gc_drA hG w n
  have hGX : GC (drN sg w n) := gc_drN hG n
  have hMY : GM (mdrN (drM mu w) w n) := gm_drN (gm_drM hM w) n
  have hMO : GM (ov (mdrN (drM mu w) w n) (needO (drA sg w n))) := gm_ov hMY (fun p => ⟨(needO_rng hGA p).1, (needO_rng hGA p).2.2⟩)
  have x6 := hhi n (Int.le_refl _) (by omega)
  have xd : needO (drN sg w n) (n : Int) = needO sg n := need_dr (by omega) (Int.le_refl _)
  have xa : needO (drA sg w n) (n : Int) = if sg 204 n = w then -1 else needO sg n := need_A (by omega) (Int.le_refl _)
  have xw : needO sg (n : Int) = w ↔ sg 204 n = w := by
    rw [needO_q (by omega)]
    constructor
    · intro z
      (repeat' split at z) <;> omega
    · intro z
      rw [z, if_neg (by omega), if_neg h2]
  have c1 : drN sg w (n + 1) = if needO (drN sg w n) n = w then lgT (drN sg w n) n else drN sg w n := rfl
  have c2 : mdrN (drM mu w) w (n + 1) = if mdrN (drM mu w) w n 1006 n = w ∧ mdrN (drM mu w) w n 1005 n = 0 then mLgT (mdrN (drM mu w) w n) n else if mdrN (drM mu w) w n 1006 n = w then mdr3 (mdrN (drM mu w) w n) n else mdrN (drM mu w) w n := rfl
  have c3 : drC sg w (n + 1) = if needO (drN sg w n) n = w then drC sg w n + bI (drN sg w n 203 n ≠ 0 ∧ drN sg w n 208 n = 0 ∧ 0 ≤ ownBeh (drN sg w n) n (-1)) else drC sg w n := rfl
  have c4 : mdrC (drM mu w) w (n + 1) = if mdrN (drM mu w) w n 1006 n = w ∧ mdrN (drM mu w) w n 1005 n = 0 then mdrC (drM mu w) w n else if mdrN (drM mu w) w n 1006 n = w then mdrC (drM mu w) w n + (if mdrO (mdrN (drM mu w) w n) n = -1 then 0 else 1) else mdrC (drM mu w) w n := rfl
  have r4 := hR
  obtain ⟨hS, hPA, hPS, hPN, hPO, hPL, hJ1, hJ2, hIA, hIN, hIS, hIP, hJ3, hJ8, hJ4, hZ, hK, hPR, hJ5, hT⟩ := r4
  have y5 : mdrN (drM mu w) w n 1005 n = drN sg w n 203 n := (hPS n (by omega) (by omega)).1
  have y7 : mdrN (drM mu w) w n 1007 n = drN sg w n 205 n := (hPS n (by omega) (by omega)).2.1
  have y9 : mdrN (drM mu w) w n 1009 n = drN sg w n 208 n := (hPS n (by omega) (by omega)).2.2.2
  have y10 : mdrN (drM mu w) w n 1010 n = drN sg w n 209 n := (hPO n (by omega) (by omega)).1
  have y11 : mdrN (drM mu w) w n 1011 n = drN sg w n 210 n := (hPO n (by omega) (by omega)).2
  have k0 : sg 206 (n : Int) = sg 206 n := rfl
  by_cases c : sg 204 (n : Int) = w
  · have cw := xw.mpr c
    rw [if_pos c] at xa
    have j2 := (h.2.2.2.2.2.2.2.1) n (by omega) (by omega)
    rw [xd, if_pos cw] at c1 c3
    by_cases d : drN sg w n 203 n = 0
    · -- let go
      have e1 : lgT (drN sg w n) n = relT (drN sg w n) n := by unfold lgT; rw [if_pos d]
      rw [x6, if_pos ⟨cw, y5.trans d⟩] at c2 c4
      have eA : drA sg w (n + 1) = relT (drA sg w n) n := by
        unfold drA
        rw [c1, e1, rel_st (by decide) (by decide) (by decide) (by decide) (by decide) (by decide) (by decide), rel_st (by decide) (by decide) (by decide) (by decide) (by decide) (by decide) (by decide)]
      have z := (r_rel hR hGA hMO (j := (n : Int)) (by omega) d).1
      have nd : ∀ p : Int, 0 ≤ p → needO (drA sg w (n + 1)) p = if p = (n : Int) then -1 else needO (drA sg w n) p := fun p hp => by rw [eA, need_rel hp]
      refine ⟨?_, fun p p1 p2 => ?_, fun p p1 p2 => ?_, ?_⟩
      · rw [eA] at nd ⊢
        refine Rel_ov z (fun F hF => ?_) (fun p p1 p2 => ov_6 p)
        rw [ov_f hF, c2]
        funext k
        unfold mLgT mLgN
        rw [ov_f hF, ov_f (show (913 : Nat) ≠ 1006 by decide), ov_f (show (1015 : Nat) ≠ 1006 by decide)]
      · rw [c2, mLg_6, nd p p1]
        by_cases e : p = (n : Int)
        · rw [if_pos e, if_pos e]
        · rw [if_neg e, if_neg e]; exact hlo p p1 (by omega)
      · rw [c2, mLg_6, if_neg (by omega)]
        exact hhi p (by omega) p2
      · rw [c3, c4, bI_f (fun q => q.1 d)]; omega
    · rw [x6, if_neg (fun q => d (y5.symm.trans q.2)), if_pos cw] at c2 c4
      by_cases b : drN sg w n 208 n ≠ 0
      · -- works: nothing
        have e1 : lgT (drN sg w n) n = drN sg w n := by unfold lgT; rw [if_neg d, if_pos b]
        rw [e1] at c1
        have eA : drA sg w (n + 1) = drA sg w n := by unfold drA; rw [c1]
        have eo : mdrO (mdrN (drM mu w) w n) n = -1 := by unfold mdrO; rw [y9, if_pos b]
        have ep : mdrP (mdrN (drM mu w) w n) n = 0 := by unfold mdrP; rw [eo, if_pos rfl]
        have q9 : drN sg w n 209 n = -1 := by
          rw [dr_ge (Or.inr (Or.inr (Or.inl rfl))) n (Int.le_refl _)]
          exact j2.1 (by omega)
        have q10 : drN sg w n 210 n = 0 := by
          rw [dr_ge (Or.inr (Or.inr (Or.inr rfl))) n (Int.le_refl _)]
          exact j2.2.2 (j2.1 (by omega))
        have em : mdrN (drM mu w) w (n + 1) = st (mdrN (drM mu w) w n) 1006 n (-1) := by
          rw [c2]
          unfold mdr3 mdr2 mdr1
          rw [eo, ep, st_id (f := 1010) (by rw [st_f (by decide), y10]; exact q9), st_id (f := 1011) (by rw [st_f (by decide), y11]; exact q10)]
        refine ⟨?_, fun p p1 p2 => ?_, fun p p1 p2 => ?_, ?_⟩
        · rw [eA, em]
          refine Rel_ov hR (fun F hF => ?_) (fun p p1 p2 => ov_6 p)
          rw [ov_f hF, ov_f hF, st_F hF]
        · rw [eA, em, st_i]
          by_cases e : p = (n : Int)
          · rw [if_pos e, e, xa]
          · rw [if_neg e]; exact hlo p p1 (by omega)
        · rw [em, st_j (by omega)]
          exact hhi p (by omega) p2
        · rw [c3, c4, eo, bI_f (fun q => b q.2.1), if_pos rfl, hc]
      · -- offered
        have b0 : drN sg w n 208 n = 0 := Classical.byContradiction b
        obtain ⟨ow, how⟩ : ∃ x : Int, x = ownBeh (drN sg w n) n (-1) := ⟨_, rfl⟩
        obtain ⟨pr, hpr⟩ : ∃ x : Int, x = worthT (drN sg w n) n * drN sg w n 205 n / 100 := ⟨_, rfl⟩
        have e1 : lgT (drN sg w n) n = offT (drN sg w n) n ow pr := by unfold lgT; rw [if_neg d, if_neg b, how, hpr]
        rw [e1] at c1
        have eA : drA sg w (n + 1) = offT (drA sg w n) n ow pr := by
          unfold drA
          rw [c1]
          unfold offT
          rw [st_comm (F := 210) (G := 403) (by decide), st_comm (F := 209) (G := 403) (by decide), st_comm (F := 210) (G := 405) (by decide), st_comm (F := 209) (G := 405) (by decide)]
        have owr := ownBeh_rng hGX n (-1)
        rw [← how] at owr
        have wr := worthT_rng hGX (n : Int)
        have pq := gr_205 hGX (n : Int)
        have mq := mul_rng wr pq
        have prr : 0 ≤ pr ∧ pr ≤ 100000 := by omega
        have eo : mdrO (mdrN (drM mu w) w n) n = ow := by
          unfold mdrO
          rw [y9, if_neg b, how]
          exact e_own (sg := drN sg w n) (mu := mdr1 (mdrN (drM mu w) w n) n) hS hIA hGX ⟨by decide, by have := gr_503 hGX 0; omega⟩
        have ewt : mWorth (mdr2 (mdrN (drM mu w) w n) n) n (mdrN (drM mu w) w n 901 0) = worthT (drN sg w n) n := by
          have q1 : mWorth (ov (mdrN (drM mu w) w n) (needO (drA sg w n))) n (ov (mdrN (drM mu w) w n) (needO (drA sg w n)) 901 0) = worthT (drA sg w n) n := e_worthT hR hGA (by omega)
          have q2 : worthT (drA sg w n) n = worthT (drN sg w n) n := by
            unfold worthT
            rw [prOn_ext (a := drA sg w n) (b := drN sg w n) rfl rfl rfl]
            rfl
          exact q1.trans q2
        have ep : mdrP (mdrN (drM mu w) w n) n = if ow = -1 then 0 else pr := by
          unfold mdrP
          rw [eo, ewt, y7, hpr, Int.mul_comm]
        have em : mdrN (drM mu w) w (n + 1) = st (st (st (mdrN (drM mu w) w n) 1006 n (-1)) 1010 n ow) 1011 n (if ow = -1 then 0 else pr) := by
          rw [c2]
          unfold mdr3 mdr2 mdr1
          rw [eo, ep]
        have z := (r_offer hR hGA hMO (x := (n : Int)) (o := ow) (pr := pr) (by omega) owr prr d (by rw [xa]; decide)).1
        have nd : needO (drA sg w (n + 1)) = needO (drA sg w n) := by
          rw [eA]; exact needO_ext rfl rfl
        refine ⟨?_, fun p p1 p2 => ?_, fun p p1 p2 => ?_, ?_⟩
        · rw [nd, eA]
          refine Rel_ov z (fun F hF => ?_) (fun p p1 p2 => ?_)
          · rw [ov_f hF, em]
            refine st_cong (st_cong ?_)
            rw [st_F hF, ov_f hF]
          · rw [ov_6, ← eA, nd]
        · rw [nd, em, st_f (by decide), st_f (by decide), st_i]
          by_cases e : p = (n : Int)
          · rw [if_pos e, e, xa]
          · rw [if_neg e]; exact hlo p p1 (by omega)
        · rw [em, st_f (by decide), st_f (by decide), st_j (by omega)]
          exact hhi p (by omega) p2
        · rw [c3, c4, eo, ← how, hc]
          by_cases e : 0 ≤ ow
          · rw [bI_t ⟨d, b0, e⟩, if_neg (by omega)]
          · rw [bI_f (fun q => e q.2.2), if_pos (by omega)]
  · have cw : ¬ needO sg (n : Int) = w := fun z => c (xw.mp z)
    rw [xd, if_neg cw] at c1 c3
    rw [x6, if_neg (fun z => cw z.1), if_neg cw] at c2 c4
    rw [if_neg c] at xa
    have eA : drA sg w (n + 1) = drA sg w n := by unfold drA; rw [c1]
    refine ⟨?_, fun p p1 p2 => ?_, fun p p1 p2 => ?_, ?_⟩
    · rw [eA, c2]; exact hR
    · rw [eA, c2]
      by_cases e : p = (n : Int)
      · rw [e, x6, xa]
      · exact hlo p p1 (by omega)
    · rw [c2]; exact hhi p (by omega) p2
    · rw [c3, c4, hc]
theorem di_n {sg mu : Nat → Int → Int} (h : Rel sg mu) (hG : GC sg) (hM : GM mu) {w : Int} (hw : 0 ≤ w ∧ w < sg 505 0) (h2 : sg 403 w ≠ 2) : ∀ n : Nat, n ≤ 36 → DI sg mu w n
  | 0, _ => di_0 h hG hw
  | n + 1, hn => di_s h hG hM hw h2 (by omega) (di_n h hG hM hw h2 n (by omega))
theorem s_drop {sg mu : Nat → Int → Int} (h : Rel sg mu) (hG : GC sg) (hM : GM mu) (w : Int) : SimW [1, 3] (dropE sg w) (dropME mu w) (drC sg (sAt sg w) 36) (mdrC (st (st (st mu 900 0 0) 1029 w 2) 1031 w (mu 901 0)) w 36) sg (dropT sg (sAt sg w)) mu (mdrN (st (st (st mu 900 0 0) 1029 w 2) 1031 w (mu 901 0)) w 36) := by
  have hS : RSc sg mu := h.1
  have hS2 := hS.2.2
  by_cases hw : 0 ≤ w ∧ w < sg 505 0
  · have hq := sAt_q hw
    have hK : RK sg mu := h.2.2.2.2.2.2.2.2.2.2.2.2.2.2.2.2.1
    have k3 := (hK w hw.1 hw.2).2.2.1
    rw [hq]
    by_cases k : sg 403 w = 2
    · exact w13_2 h hG hM (by unfold dropE; rw [hq, if_neg (by omega), if_pos k]) (by unfold dropME; rw [if_neg (by omega), if_pos (by omega)])
    · obtain ⟨d1, d2, d3, d4⟩ := di_n h hG hM hw k 36 (Nat.le_refl _)
      have eA : dropT sg w = drA sg w 36 := by
        unfold dropT drA
        rw [dr_f (f := 506) (by decide) (by decide) (by decide) (by decide) (by decide) (by decide) (by decide)]
      refine w13_0 h hG hM (by unfold dropE; rw [hq, if_neg (by omega), if_neg k]) (by unfold dropME; rw [if_neg (by omega), if_neg (by omega)]) d4 ⟨?_, ?_, gm_drN (gm_drM hM w) 36⟩
      · rw [eA]
        exact Rel_ov d1 (fun F hF => (ov_f hF).symm) (fun p p1 p2 => d2 p p1 p2)
      · rw [eA]; exact gc_drA hG w 36
  · have hq := sAt_n hw
    exact w13_1 h hG hM (by unfold dropE; rw [hq, if_pos (by decide)]) (by unfold dropME; rw [if_pos (by omega)])
