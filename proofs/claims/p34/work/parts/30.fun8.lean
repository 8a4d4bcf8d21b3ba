/-! writes into the arrays of references, the tables of the calls that make objects -/
theorem upd_r {g : Int → Nat} {sg : Nat → Int → Int} {F : Nat} {i v : Int} (hi : 0 ≤ i) (hv : 0 ≤ v) : va_up (fun q : Nat => ro g (sg F (q : Int))) i.toNat (some (g v)) = fun q : Nat => ro g (st sg F i v F (q : Int)) := by
  funext q
  unfold va_up st
  by_cases h : q = i.toNat
  · rw [if_pos h, if_pos ⟨rfl, by omega⟩, ro_p hv]
  · rw [if_neg h, if_neg (by omega)]
section CY
variable {p : Program} {l : Launch} {e : Env} {R : Room} {s : State} {m : MethodId} {args : Array Value} {below : List Frame} {meth : Method} {c : Code} {H H0 : Heap} {locs : List Loc} {cells slots : Nat} {Q : State → Prop}
variable {cc : ByteArray} {pc : Nat} {ls : Array Slot} {rest : List Value} {D : va_G} {cy : Nat → ClassId} {A : Nat → Prop} {ad : Nat → Int → Nat} {sg : Nat → Int → Int}
theorem cs_600 (cy : Nat → ClassId) (ad : Nat → Int → Nat) (sg : Nat → Int → Int) {i v : Int} (hi : 0 ≤ i) (hv : 0 ≤ v) (h7 : sg 709 0 = 1) : ∀ k' j', dmC sg k' j' → cellC cy ad (st sg 600 i v) k' j' = if k' = 9 ∧ j' = 0 then .inl (cy 9, 24, .inr (.inr (.inr (.inr (va_up (fun q : Nat => ro (ad 0) (sg 600 (q : Int))) i.toNat (some (ad 0 v))))))) else cellC cy ad sg k' j' := by
  intro k' j' hd
  by_cases hk : k' = 9
  · subst hk
    have h2 : j' < sg 709 0 := hd.2
    rw [if_pos ⟨rfl, by have := hd.1; omega⟩, upd_r hi hv]
    rfl
  · rw [if_neg (fun z => hk z.1)]
    unfold cellC
    split <;> first | rfl | (exact absurd rfl hk) | (simp only [fsC0, fsC1, fsC2, fsC3, fsC4]; repeat rw [st_f (by decide)]) | (congr 6; funext q; rw [st_f (by decide)])
theorem xs_600 (hexec : p.tables.exec = Jvm.exec) (hb : c.code = cc) (hK : KC D cy s) (hR : RC D cy A ad sg H) (hS : va_S A H0 H locs) {i v : Int} (hd : dmC sg 9 0) (hd2 : dmC sg 0 v) (h : (0 ≤ i ∧ i < 24) ∧ sg 709 0 = 1) (d : decode cc pc = .ok (.aastore, 1)) (kk : ∀ (H1 : Heap) (locs1 : List Loc), RC D cy A ad (st sg 600 i v) H1 → va_S A H0 H1 locs1 → W p l e R s m args below meth c H1 locs1 cells slots Q (F0 m (pc + 1) ls rest)) : W p l e R s m args below meth c H locs cells slots Q (F0 m pc ls (.ref (ad 0 v) :: .int (iI i) :: .ref (ad 9 0) :: rest)) :=
  wr_aast (r := (RX0, TX0, 15)) hexec hb hK hR hS hd rfl 3 rfl hd2 (vs := fsC0 ad sg v) rfl rfl h.1 (by decide) (cs_600 cy ad sg h.1.1 hd2.1 h.2) d (fun H1 locs1 h1 h2 => kk H1 locs1 (wr_to h1 (dm_st (by decide)) (fun _ _ _ => ⟨rfl, rfl⟩)) h2)
theorem cs_601 (cy : Nat → ClassId) (ad : Nat → Int → Nat) (sg : Nat → Int → Int) {i v : Int} (hi : 0 ≤ i) (hv : 0 ≤ v) (h7 : sg 710 0 = 1) : ∀ k' j', dmC sg k' j' → cellC cy ad (st sg 601 i v) k' j' = if k' = 10 ∧ j' = 0 then .inl (cy 10, 36, .inr (.inr (.inr (.inr (va_up (fun q : Nat => ro (ad 1) (sg 601 (q : Int))) i.toNat (some (ad 1 v))))))) else cellC cy ad sg k' j' := by
  intro k' j' hd
  by_cases hk : k' = 10
  · subst hk
    have h2 : j' < sg 710 0 := hd.2
    rw [if_pos ⟨rfl, by have := hd.1; omega⟩, upd_r hi hv]
    rfl
  · rw [if_neg (fun z => hk z.1)]
    unfold cellC
    split <;> first | rfl | (exact absurd rfl hk) | (simp only [fsC0, fsC1, fsC2, fsC3, fsC4]; repeat rw [st_f (by decide)]) | (congr 6; funext q; rw [st_f (by decide)])
theorem xs_601 (hexec : p.tables.exec = Jvm.exec) (hb : c.code = cc) (hK : KC D cy s) (hR : RC D cy A ad sg H) (hS : va_S A H0 H locs) {i v : Int} (hd : dmC sg 10 0) (hd2 : dmC sg 1 v) (h : (0 ≤ i ∧ i < 36) ∧ sg 710 0 = 1) (d : decode cc pc = .ok (.aastore, 1)) (kk : ∀ (H1 : Heap) (locs1 : List Loc), RC D cy A ad (st sg 601 i v) H1 → va_S A H0 H1 locs1 → W p l e R s m args below meth c H1 locs1 cells slots Q (F0 m (pc + 1) ls rest)) : W p l e R s m args below meth c H locs cells slots Q (F0 m pc ls (.ref (ad 1 v) :: .int (iI i) :: .ref (ad 10 0) :: rest)) :=
  wr_aast (r := (RX1, TX1, 11)) hexec hb hK hR hS hd rfl 4 rfl hd2 (vs := fsC1 ad sg v) rfl rfl h.1 (by decide) (cs_601 cy ad sg h.1.1 hd2.1 h.2) d (fun H1 locs1 h1 h2 => kk H1 locs1 (wr_to h1 (dm_st (by decide)) (fun _ _ _ => ⟨rfl, rfl⟩)) h2)
theorem cs_602 (cy : Nat → ClassId) (ad : Nat → Int → Nat) (sg : Nat → Int → Int) {i v : Int} (hi : 0 ≤ i) (hv : 0 ≤ v) (h7 : sg 711 0 = 1) : ∀ k' j', dmC sg k' j' → cellC cy ad (st sg 602 i v) k' j' = if k' = 11 ∧ j' = 0 then .inl (cy 11, 3, .inr (.inr (.inr (.inr (va_up (fun q : Nat => ro (ad 2) (sg 602 (q : Int))) i.toNat (some (ad 2 v))))))) else cellC cy ad sg k' j' := by
  intro k' j' hd
  by_cases hk : k' = 11
  · subst hk
    have h2 : j' < sg 711 0 := hd.2
    rw [if_pos ⟨rfl, by have := hd.1; omega⟩, upd_r hi hv]
    rfl
  · rw [if_neg (fun z => hk z.1)]
    unfold cellC
    split <;> first | rfl | (exact absurd rfl hk) | (simp only [fsC0, fsC1, fsC2, fsC3, fsC4]; repeat rw [st_f (by decide)]) | (congr 6; funext q; rw [st_f (by decide)])
theorem xs_602 (hexec : p.tables.exec = Jvm.exec) (hb : c.code = cc) (hK : KC D cy s) (hR : RC D cy A ad sg H) (hS : va_S A H0 H locs) {i v : Int} (hd : dmC sg 11 0) (hd2 : dmC sg 2 v) (h : (0 ≤ i ∧ i < 3) ∧ sg 711 0 = 1) (d : decode cc pc = .ok (.aastore, 1)) (kk : ∀ (H1 : Heap) (locs1 : List Loc), RC D cy A ad (st sg 602 i v) H1 → va_S A H0 H1 locs1 → W p l e R s m args below meth c H1 locs1 cells slots Q (F0 m (pc + 1) ls rest)) : W p l e R s m args below meth c H locs cells slots Q (F0 m pc ls (.ref (ad 2 v) :: .int (iI i) :: .ref (ad 11 0) :: rest)) :=
  wr_aast (r := (RX2, TX2, 3)) hexec hb hK hR hS hd rfl 5 rfl hd2 (vs := fsC2 ad sg v) rfl rfl h.1 (by decide) (cs_602 cy ad sg h.1.1 hd2.1 h.2) d (fun H1 locs1 h1 h2 => kk H1 locs1 (wr_to h1 (dm_st (by decide)) (fun _ _ _ => ⟨rfl, rfl⟩)) h2)
theorem cs_603 (cy : Nat → ClassId) (ad : Nat → Int → Nat) (sg : Nat → Int → Int) {i v : Int} (hi : 0 ≤ i) (hv : 0 ≤ v) (h7 : sg 712 0 = 1) : ∀ k' j', dmC sg k' j' → cellC cy ad (st sg 603 i v) k' j' = if k' = 12 ∧ j' = 0 then .inl (cy 12, 4, .inr (.inr (.inr (.inr (va_up (fun q : Nat => ro (ad 3) (sg 603 (q : Int))) i.toNat (some (ad 3 v))))))) else cellC cy ad sg k' j' := by
  intro k' j' hd
  by_cases hk : k' = 12
  · subst hk
    have h2 : j' < sg 712 0 := hd.2
    rw [if_pos ⟨rfl, by have := hd.1; omega⟩, upd_r hi hv]
    rfl
  · rw [if_neg (fun z => hk z.1)]
    unfold cellC
    split <;> first | rfl | (exact absurd rfl hk) | (simp only [fsC0, fsC1, fsC2, fsC3, fsC4]; repeat rw [st_f (by decide)]) | (congr 6; funext q; rw [st_f (by decide)])
theorem xs_603 (hexec : p.tables.exec = Jvm.exec) (hb : c.code = cc) (hK : KC D cy s) (hR : RC D cy A ad sg H) (hS : va_S A H0 H locs) {i v : Int} (hd : dmC sg 12 0) (hd2 : dmC sg 3 v) (h : (0 ≤ i ∧ i < 4) ∧ sg 712 0 = 1) (d : decode cc pc = .ok (.aastore, 1)) (kk : ∀ (H1 : Heap) (locs1 : List Loc), RC D cy A ad (st sg 603 i v) H1 → va_S A H0 H1 locs1 → W p l e R s m args below meth c H1 locs1 cells slots Q (F0 m (pc + 1) ls rest)) : W p l e R s m args below meth c H locs cells slots Q (F0 m pc ls (.ref (ad 3 v) :: .int (iI i) :: .ref (ad 12 0) :: rest)) :=
  wr_aast (r := (RX3, TX3, 6)) hexec hb hK hR hS hd rfl 6 rfl hd2 (vs := fsC3 ad sg v) rfl rfl h.1 (by decide) (cs_603 cy ad sg h.1.1 hd2.1 h.2) d (fun H1 locs1 h1 h2 => kk H1 locs1 (wr_to h1 (dm_st (by decide)) (fun _ _ _ => ⟨rfl, rfl⟩)) h2)
end CY
theorem nwd {sg : Nat → Int → Int} {base cnt : Nat} {n : Int} {vs : List Int} {k : Nat} {j : Int} (hb : base + vs.length ≤ 700) (h7 : sg cnt 0 = n) (h : dmC sg k j) : dmC (nw sg base cnt n vs) k j := by
  refine ⟨h.1, ?_⟩
  have h2 := h.2
  by_cases hk : cnt = 700 + k
  · subst hk
    unfold nw
    rw [if_neg (by omega), if_pos ⟨rfl, rfl⟩]
    omega
  · rw [nw_o (Or.inl (by omega)) (Or.inl (by omega))]; exact h2
theorem nwd_n {sg : Nat → Int → Int} {base cnt : Nat} {n : Int} {vs : List Int} {k : Nat} (hb : base + vs.length ≤ 700) (hn : 0 ≤ n) (hk : cnt = 700 + k) : dmC (nw sg base cnt n vs) k n := by
  subst hk
  refine ⟨hn, ?_⟩
  unfold nw
  rw [if_neg (by omega), if_pos ⟨rfl, rfl⟩]
  omega
def tellT (sg : Nat → Int → Int) (k j u m pr : Int) : Nat → Int → Int := st (st (nw sg 100 700 (sg 503 0) [sg 503 0, k, j, u, sg 506 0, m, pr, -1, 0, 0, 0, 0, -1, 0, 0]) 600 (sg 503 0) (sg 503 0)) 503 0 (sg 503 0 + 1)
def schemeT (sg : Nat → Int → Int) (a b : Int) : Nat → Int → Int := st (st (nw sg 400 703 (sg 505 0) [sg 505 0, a, b, 0, -1, -1]) 603 (sg 505 0) (sg 505 0)) 505 0 (sg 505 0 + 1)
def priceT (sg : Nat → Int → Int) (u ce : Int) : Nat → Int → Int := st (nw sg 300 702 (sg 702 0) [sg 506 0, ce, prOn sg u (sg 506 0 - 1)]) 602 u (sg 702 0)
def priceE (u ce : Int) : Int := if ¬ (0 ≤ u ∧ u ≤ 2) ∨ ¬ (0 ≤ ce ∧ ce ≤ 1000) then 2 else 0
def schemeE (sg : Nat → Int → Int) (a b : Int) : Int := if ¬ (0 ≤ a ∧ a ≤ 50) ∨ ¬ (0 ≤ b ∧ b ≤ 50) then 2 else if sg 505 0 = 4 then 3 else 0
noncomputable def ownE (sg : Nat → Int → Int) (x u sh : Int) : Int := if pAt x < 0 ∨ ¬ (0 ≤ u ∧ u ≤ 9) then 1 else if ¬ (1 ≤ sh ∧ sh ≤ 100) ∨ 100 < shares sg (pAt x) + sh then 2 else if sg 203 (pAt x) ≠ 0 ∨ sg 503 0 = 24 then 3 else 0
def leaseE (sg : Nat → Int → Int) (x u til pr : Int) : Int := if pAt x < 0 ∨ ¬ (0 ≤ u ∧ u ≤ 9) then 1 else if ¬ (sg 506 0 + 1 ≤ til ∧ til ≤ 30000) ∨ ¬ (0 ≤ pr ∧ pr ≤ 100) then 2 else if sg 203 (pAt x) ≠ 0 ∨ sg 503 0 = 24 then 3 else 0
def chargeE (sg : Nat → Int → Int) (x u ms : Int) : Int := if pAt x < 0 ∨ ¬ (0 ≤ u ∧ u ≤ 9) then 1 else if ¬ (1 ≤ ms ∧ ms ≤ 100000) then 2 else if sg 203 (pAt x) ≠ 0 ∨ sg 503 0 = 24 then 3 else 0
def dropE (sg : Nat → Int → Int) (w : Int) : Int := if sAt sg w < 0 then 1 else if sg 403 (sAt sg w) = 2 then 3 else 0
noncomputable def drN (sg : Nat → Int → Int) (w : Int) : Nat → Nat → Int → Int
  | 0 => sg
  | n + 1 => if needO (drN sg w n) n = w then lgT (drN sg w n) n else drN sg w n
noncomputable def drC (sg : Nat → Int → Int) (w : Int) : Nat → Int
  | 0 => 0
  | n + 1 => if needO (drN sg w n) n = w then drC sg w n + bI (drN sg w n 203 n ≠ 0 ∧ drN sg w n 208 n = 0 ∧ 0 ≤ ownBeh (drN sg w n) n (-1)) else drC sg w n
theorem dr_s {sg : Nat → Int → Int} {w i : Int} (hi : 0 ≤ i) : drN sg w (i + 1).toNat = if needO (drN sg w i.toNat) i = w then lgT (drN sg w i.toNat) i else drN sg w i.toNat := by
  have e : (i + 1).toNat = i.toNat + 1 := by omega
  rw [e]
  show (if needO (drN sg w i.toNat) (i.toNat : Int) = w then lgT (drN sg w i.toNat) (i.toNat : Int) else drN sg w i.toNat) = _
  rw [Int.toNat_of_nonneg hi]
theorem drC_s {sg : Nat → Int → Int} {w i : Int} (hi : 0 ≤ i) : drC sg w (i + 1).toNat = if needO (drN sg w i.toNat) i = w then drC sg w i.toNat + bI (drN sg w i.toNat 203 i ≠ 0 ∧ drN sg w i.toNat 208 i = 0 ∧ 0 ≤ ownBeh (drN sg w i.toNat) i (-1)) else drC sg w i.toNat := by
  have e : (i + 1).toNat = i.toNat + 1 := by omega
  rw [e]
  show (if needO (drN sg w i.toNat) (i.toNat : Int) = w then drC sg w i.toNat + bI (drN sg w i.toNat 203 (i.toNat : Int) ≠ 0 ∧ drN sg w i.toNat 208 (i.toNat : Int) = 0 ∧ 0 ≤ ownBeh (drN sg w i.toNat) (i.toNat : Int) (-1)) else drC sg w i.toNat) = _
  rw [Int.toNat_of_nonneg hi]
theorem drC_rng {sg : Nat → Int → Int} {w : Int} : ∀ n : Nat, 0 ≤ drC sg w n ∧ drC sg w n ≤ n
  | 0 => ⟨by show (0 : Int) ≤ 0; omega, by show (0 : Int) ≤ 0; omega⟩
  | n + 1 => by
    have h := drC_rng (sg := sg) (w := w) n
    have h2 := bI_in (drN sg w n 203 n ≠ 0 ∧ drN sg w n 208 n = 0 ∧ 0 ≤ ownBeh (drN sg w n) n (-1))
    show 0 ≤ (if needO (drN sg w n) n = w then drC sg w n + bI (drN sg w n 203 n ≠ 0 ∧ drN sg w n 208 n = 0 ∧ 0 ≤ ownBeh (drN sg w n) n (-1)) else drC sg w n) ∧ (if needO (drN sg w n) n = w then drC sg w n + bI (drN sg w n 203 n ≠ 0 ∧ drN sg w n 208 n = 0 ∧ 0 ≤ ownBeh (drN sg w n) n (-1)) else drC sg w n) ≤ _
    split <;> omega
theorem gc_drN {sg : Nat → Int → Int} (hG : GC sg) {w : Int} : ∀ n : Nat, GC (drN sg w n)
  | 0 => hG
  | n + 1 => by
    have h := gc_drN hG (w := w) n
    show GC (if needO (drN sg w n) n = w then lgT (drN sg w n) n else drN sg w n)
    split
    · exact gc_lgT h _
    · exact h
theorem lg_f {sg : Nat → Int → Int} {j k : Int} {f : Nat} (h : f ≠ 204) (h1 : f ≠ 205) (h2 : f ≠ 107) (h3 : f ≠ 108) (h4 : f ≠ 109) (h5 : f ≠ 209) (h6 : f ≠ 210) : lgT sg j f k = sg f k := by
  unfold lgT
  split
  · unfold relT relN
    rw [if_neg (by omega), if_neg (by omega), if_neg (by omega), if_neg (by omega)]
  · split
    · rfl
    · unfold offT
      rw [st_f h6, st_f h5]
theorem dr_f {sg : Nat → Int → Int} {w k : Int} {f : Nat} (h : f ≠ 204) (h1 : f ≠ 205) (h2 : f ≠ 107) (h3 : f ≠ 108) (h4 : f ≠ 109) (h5 : f ≠ 209) (h6 : f ≠ 210) : ∀ n : Nat, drN sg w n f k = sg f k
  | 0 => rfl
  | n + 1 => by
    have e := dr_f (sg := sg) (w := w) (k := k) h h1 h2 h3 h4 h5 h6 n
    show (if needO (drN sg w n) n = w then lgT (drN sg w n) n else drN sg w n : Nat → Int → Int) f k = _
    split
    · rw [lg_f h h1 h2 h3 h4 h5 h6]; exact e
    · exact e
theorem dm_dr {sg : Nat → Int → Int} {w : Int} (n k : Nat) {i : Int} (h : dmC sg k i) : dmC (drN sg w n) k i := ⟨h.1, by rw [dr_f (by omega) (by omega) (by omega) (by omega) (by omega) (by omega) (by omega)]; exact h.2⟩
noncomputable def dropT (sg : Nat → Int → Int) (w : Int) : Nat → Int → Int := st (st (drN sg w 36) 403 w 2) 405 w (drN sg w 36 506 0)
