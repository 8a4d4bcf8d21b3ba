/-! what the calls do to what both have in common -/
theorem q_ext {a b mu : Nat → Int → Int} (h : RLQ b mu) (h0 : a 300 = b 300) (h1 : a 301 = b 301) (h2 : a 302 = b 302) (h6 : a 602 = b 602) (h5 : a 506 0 = b 506 0) : RLQ a mu := by
  intro u u1 u2
  have z := h u u1 u2
  rw [z, prOn_ext h0 h2 h6, h5]
  unfold centsO
  rw [h1]
theorem need_c {sg : Nat → Int → Int} {w v : Int} (h : sg 403 w ≠ 2) (p : Int) (hv : v ≠ 2) : needO (st sg 403 w v) p = needO sg p := by
  unfold needO
  show (if p < 0 then -1 else if sg 204 p < 0 then -1 else if st sg 403 w v 403 (sg 204 p) = 2 then -1 else sg 204 p) = _
  rw [st_i]
  by_cases e : sg 204 p = w
  · rw [if_pos e, e, if_neg hv, if_neg h]
  · rw [if_neg e]
theorem o_notice {sg mu : Nat → Int → Int} (h : LR sg mu) (hG : GC sg) {x : Int} (hx : 0 ≤ x ∧ x < sg 503 0) : LR (st sg 107 x (sg 506 0)) (st mu 1004 x (sg 506 0)) := by
  obtain ⟨hP, hS, hN, hO, hX, hA, hI, hM, hZ, hK, hQ, hT, hJ⟩ := h
  refine ⟨hP, hS, hN, hO, hX, hA, fun j a b => ?_, hM, hZ, hK, q_ext hQ rfl rfl rfl rfl rfl, hT, ja_ext hG hJ rfl rfl rfl rfl rfl rfl rfl rfl (fun v _ _ _ => ⟨rfl, rfl, rfl, rfl, rfl⟩) (fun _ _ _ => rfl) (fun _ _ _ => ⟨rfl, rfl⟩)⟩
  have z := hI j a b
  rw [st_i, st_i, z.1]
  exact ⟨rfl, z.2⟩
theorem o_object {sg mu : Nat → Int → Int} (h : LR sg mu) (hG : GC sg) {x : Int} (hx : 0 ≤ x ∧ x < sg 503 0) : LR (st (st sg 108 x 1) 109 x 1) (st mu 1005 x 1) := by
  obtain ⟨hP, hS, hN, hO, hX, hA, hI, hM, hZ, hK, hQ, hT, hJ⟩ := h
  refine ⟨hP, hS, hN, hO, hX, hA, fun j a b => ?_, hM, fun j a b => ?_, hK, q_ext hQ rfl rfl rfl rfl rfl, hT, ja_ext hG hJ rfl rfl rfl rfl rfl rfl rfl rfl (fun v _ _ _ => ⟨rfl, rfl, rfl, rfl, rfl⟩) (fun _ _ _ => rfl) (fun _ _ _ => ⟨rfl, rfl⟩)⟩
  · have z := hI j a b
    refine ⟨z.1, ?_⟩
    rw [st_i, st_i, st_f (show (108 : Nat) ≠ 109 by decide), st_f (show (109 : Nat) ≠ 108 by decide), st_i, z.2]
    by_cases e : j = x
    · rw [if_pos e, if_pos e, if_pos e]; rfl
    · rw [if_neg e, if_neg e, if_neg e]
  · have z := hZ j a b
    have a2 : sg 503 0 ≤ j := a
    refine ⟨?_, z.2⟩
    rw [st_i, if_neg (by omega)]; exact z.1
theorem o_hear0 {sg mu : Nat → Int → Int} (h : LR sg mu) (hG : GC sg) (hV : Inv sg) {x : Int} (hx : 0 ≤ x ∧ x < sg 503 0) (h9 : sg 109 x ≠ 0) : LR (st sg 109 x 0) (st mu 1005 x 2) := by
  obtain ⟨hP, hS, hN, hO, hX, hA, hI, hM, hZ, hK, hQ, hT, hJ⟩ := h
  have h8 := inv_J8 hV x hx.1 hx.2 h9
  refine ⟨hP, hS, hN, hO, hX, hA, fun j a b => ?_, hM, fun j a b => ?_, hK, q_ext hQ rfl rfl rfl rfl rfl, hT, ja_ext hG hJ rfl rfl rfl rfl rfl rfl rfl rfl (fun v _ _ _ => ⟨rfl, rfl, rfl, rfl, rfl⟩) (fun _ _ _ => rfl) (fun _ _ _ => ⟨rfl, rfl⟩)⟩
  · have z := hI j a b
    refine ⟨z.1, ?_⟩
    rw [st_i, st_i, st_f (show (108 : Nat) ≠ 109 by decide), z.2]
    by_cases e : j = x
    · rw [if_pos e, if_pos e, e]; unfold wO; rw [if_neg (by decide), if_pos h8]
    · rw [if_neg e, if_neg e]
  · have z := hZ j a b
    have a2 : sg 503 0 ≤ j := a
    refine ⟨?_, z.2⟩
    rw [st_i, if_neg (by omega)]; exact z.1
theorem o_confirm {sg mu : Nat → Int → Int} (h : LR sg mu) (hG : GC sg) {w : Int} (hw : 0 ≤ w ∧ w ≤ 1) (h4 : sg 403 w = 0) : LR (st (st sg 403 w 1) 404 w (sg 506 0)) (st (st mu 1011 w 1) 1011 (2 + w) (sg 506 0)) := by
  obtain ⟨hP, hS, hN, hO, hX, hA, hI, hM, hZ, hK, hQ, hT, hJ⟩ := h
  refine ⟨hP, hS, fun k a b => ?_, hO, hX, hA, hI, hM, hZ, ⟨hK.1, fun j a b => ?_⟩, q_ext hQ rfl rfl rfl rfl rfl, hT, ja_ext hG hJ rfl rfl rfl rfl rfl rfl rfl rfl (fun v _ _ _ => ⟨rfl, rfl, rfl, rfl, rfl⟩) (fun _ _ _ => rfl) (fun _ _ _ => ⟨rfl, rfl⟩)⟩
  · show mu 1000 (8 * k + 3) = needO (st sg 403 w 1) (pl k)
    rw [need_c (by omega) _ (by decide)]
    exact hN k a b
  · obtain ⟨k1, k2, k3, k4⟩ := hK.2 j a b
    refine ⟨?_, ?_, k3, k4⟩
    · rw [st_i, st_i, st_f (show (403 : Nat) ≠ 404 by decide), st_i, k1, if_neg (by omega)]
    · rw [st_i, st_i, st_i, st_f (show (404 : Nat) ≠ 403 by decide), k2]
      by_cases e : j = w
      · rw [if_pos (by omega), if_pos e]
      · rw [if_neg (by omega), if_neg (by omega), if_neg e]
theorem need_d {sg : Nat → Int → Int} {v w : Int} (h : sg 403 w = 0) (hw : 0 ≤ w) (p a : Int) (hp : 0 ≤ p) : needO (st (st sg 204 v w) 205 v a) p = if p = v then w else needO sg p := by
  show (if p < 0 then -1 else if st sg 204 v w 204 p < 0 then -1 else if sg 403 (st sg 204 v w 204 p) = 2 then -1 else st sg 204 v w 204 p) = if p = v then w else (if p < 0 then -1 else if sg 204 p < 0 then -1 else if sg 403 (sg 204 p) = 2 then -1 else sg 204 p)
  rw [st_i]
  by_cases e : p = v
  · rw [if_pos e, if_neg (show ¬ p < 0 by omega), if_neg (show ¬ w < 0 by omega), h, if_neg (by decide), if_pos e]
  · rw [if_neg e, if_neg e]
theorem o_draw {sg mu : Nat → Int → Int} (h : LR sg mu) (hG : GC sg) (hV : Inv sg) {k w a : Int} (hk : 0 ≤ k ∧ k ≤ 3) (hw : 0 ≤ w ∧ w ≤ 1) (h4 : sg 403 w = 0) (h3 : sg 203 (pl k) = 0) : LR (st (st sg 204 (pl k) w) 205 (pl k) a) (st (st mu 1000 (8 * k + 3) w) 1000 (8 * k + 4) a) := by
  obtain ⟨hP, hS, hN, hO, hX, hA, hI, hM, hZ, hK, hQ, hT, hJ⟩ := h
  have r := pl_rng k
  have h6 := (inv_J1 hV (pl k) (by omega) (by omega)).mp h3
  refine ⟨fun i p q => ?_, fun i p q => ?_, fun i p q => ?_, fun i p q => ?_, fun v p q v1 v2 v3 v4 => ?_, hA, hI, hM, hZ, hK, q_ext hQ rfl rfl rfl rfl rfl, hT, ja_ext hG hJ rfl rfl rfl rfl rfl rfl rfl rfl (fun v p q v6 => ?_) (fun _ _ _ => rfl) (fun _ _ _ => ⟨rfl, rfl⟩)⟩
  · have z := hP i p q
    rw [st_i, st_i, if_neg (by omega), if_neg (by omega), st_i, st_i, if_neg (by omega), if_neg (by omega)]
    exact z
  · have z := hS i p q
    refine ⟨?_, ?_, ?_, ?_⟩
    · rw [st_i, st_i, if_neg (by omega), if_neg (by omega)]; exact z.1
    · rw [st_i, st_i, st_i, z.2.1]
      have e := pl_inj ⟨p, q⟩ hk
      by_cases y : i = k
      · rw [if_pos (by omega), if_pos (e.mpr y)]
      · rw [if_neg (by omega), if_neg (by omega), if_neg (fun x => y (e.mp x))]; rfl
    · rw [st_i, st_i, if_neg (by omega), if_neg (by omega)]; exact z.2.2.1
    · rw [st_i, st_i, if_neg (by omega), if_neg (by omega)]; exact z.2.2.2
  · have z := hN i p q
    have e := pl_inj ⟨p, q⟩ hk
    rw [need_d h4 hw.1 _ _ (by have := pl_rng i; omega), st_i, st_i, if_neg (by omega), z]
    by_cases y : i = k
    · rw [if_pos (by omega), if_pos (e.mpr y)]
    · rw [if_neg (by omega), if_neg (fun x => y (e.mp x))]
  · have z := hO i p q
    refine ⟨?_, z.2⟩
    rw [st_i, st_i, if_neg (by omega), if_neg (by omega)]; exact z.1
  · have z := hX v p q v1 v2 v3 v4
    have y := pl_v hk
    refine ⟨z.1, ?_, z.2.2⟩
    show st sg 204 (pl k) w 204 v = -1
    rw [st_i, if_neg (by omega)]; exact z.2.1
  · have e : v ≠ pl k := fun x => v6 (by rw [x]; exact h6)
    refine ⟨rfl, rfl, ?_, ?_, rfl⟩
    · show st sg 204 (pl k) w 204 v = _
      rw [st_j e]
    · rw [st_j e]; rfl
theorem o_works {sg mu : Nat → Int → Int} (h : LR sg mu) (hG : GC sg) {k : Int} (hk : 0 ≤ k ∧ k ≤ 3) : LR (st sg 208 (pl k) 1) (st mu 1000 (8 * k + 6) 1) := by
  obtain ⟨hP, hS, hN, hO, hX, hA, hI, hM, hZ, hK, hQ, hT, hJ⟩ := h
  refine ⟨fun i p q => ?_, fun i p q => ?_, fun i p q => ?_, fun i p q => ?_, fun v p q v1 v2 v3 v4 => ?_, hA, hI, hM, hZ, hK, q_ext hQ rfl rfl rfl rfl rfl, hT, ja_ext hG hJ rfl rfl rfl rfl rfl rfl rfl rfl (fun v _ _ _ => ⟨rfl, rfl, rfl, rfl, rfl⟩) (fun _ _ _ => rfl) (fun _ _ _ => ⟨rfl, rfl⟩)⟩
  · rw [st_i, if_neg (by omega), st_i, if_neg (by omega)]; exact hP i p q
  · have z := hS i p q
    have e := pl_inj ⟨p, q⟩ hk
    rw [st_i, if_neg (by omega), st_i, if_neg (by omega), st_i, if_neg (by omega), st_i, st_i]
    refine ⟨z.1, z.2.1, z.2.2.1, ?_⟩
    rw [z.2.2.2]
    by_cases y : i = k
    · rw [if_pos (by omega), if_pos (e.mpr y)]
    · rw [if_neg (by omega), if_neg (fun x => y (e.mp x))]
  · rw [st_i, if_neg (by omega)]; exact hN i p q
  · rw [st_i, if_neg (by omega)]; exact hO i p q
  · have z := hX v p q v1 v2 v3 v4
    have y := pl_v hk
    refine ⟨z.1, z.2.1, ?_⟩
    rw [st_i, if_neg (by omega)]; exact z.2.2
theorem o_part {sg mu : Nat → Int → Int} (h : LR sg mu) (hG : GC sg) (hV : Inv sg) {k a : Int} (hk : 0 ≤ k ∧ k ≤ 3) (h3 : sg 203 (pl k) = 0) : LR (st sg 205 (pl k) a) (st mu 1000 (8 * k + 4) a) := by
  obtain ⟨hP, hS, hN, hO, hX, hA, hI, hM, hZ, hK, hQ, hT, hJ⟩ := h
  have r := pl_rng k
  have h6 := (inv_J1 hV (pl k) (by omega) (by omega)).mp h3
  refine ⟨fun i p q => ?_, fun i p q => ?_, fun i p q => ?_, fun i p q => ?_, hX, hA, hI, hM, hZ, hK, q_ext hQ rfl rfl rfl rfl rfl, hT, ja_ext hG hJ rfl rfl rfl rfl rfl rfl rfl rfl (fun v p q v6 => ?_) (fun _ _ _ => rfl) (fun _ _ _ => ⟨rfl, rfl⟩)⟩
  · rw [st_i, if_neg (by omega), st_i, if_neg (by omega)]; exact hP i p q
  · have z := hS i p q
    have e := pl_inj ⟨p, q⟩ hk
    refine ⟨?_, ?_, ?_, ?_⟩
    · rw [st_i, if_neg (by omega)]; exact z.1
    · rw [st_i, st_i, z.2.1]
      by_cases y : i = k
      · rw [if_pos (by omega), if_pos (e.mpr y)]
      · rw [if_neg (by omega), if_neg (fun x => y (e.mp x))]
    · rw [st_i, if_neg (by omega)]; exact z.2.2.1
    · rw [st_i, if_neg (by omega)]; exact z.2.2.2
  · rw [st_i, if_neg (by omega)]; exact hN i p q
  · rw [st_i, if_neg (by omega)]; exact hO i p q
  · have e : v ≠ pl k := fun x => v6 (by rw [x]; exact h6)
    exact ⟨rfl, rfl, rfl, st_j e, rfl⟩
theorem o_advance {sg mu : Nat → Int → Int} (h : LR sg mu) (hG : GC sg) (hV : Inv sg) {x A t : Int} (hx : 0 ≤ x ∧ x < sg 503 0) (h2 : sg 112 x = -1) (h4 : sg 114 x = 0) : LR (st (st (st sg 111 x A) 112 x (sg 506 0)) 508 0 t) (st (st (st mu 1014 x A) 1015 x (mu 1015 x + A)) 1009 x (sg 506 0)) := by
  obtain ⟨hP, hS, hN, hO, hX, hA, hI, hM, hZ, hK, hQ, hT, hJ⟩ := h
  have j3 := inv_J3 hV x hx.1 hx.2
  have z1 := j3.1 h2
  have z3 := j3.2 h4
  have zx := hM x hx.1 hx.2
  refine ⟨hP, hS, hN, hO, hX, hA, hI, fun j a b => ?_, fun j a b => ?_, hK, q_ext hQ rfl rfl rfl rfl rfl, hT, ja_ext hG hJ rfl rfl rfl rfl rfl rfl rfl rfl (fun v _ _ _ => ⟨rfl, rfl, rfl, rfl, rfl⟩) (fun _ _ _ => rfl) (fun _ _ _ => ⟨rfl, rfl⟩)⟩
  · have z := hM j a b
    show mu 1013 j = sg 110 j ∧ st mu 1014 x A 1014 j = st sg 111 x A 111 j ∧ st (st mu 1014 x A) 1015 x (mu 1015 x + A) 1015 j = st sg 111 x A 111 j + sg 113 j ∧ st (st (st mu 1014 x A) 1015 x (mu 1015 x + A)) 1009 x (sg 506 0) 1009 j = st (st sg 111 x A) 112 x (sg 506 0) 112 j ∧ mu 1010 j = sg 114 j
    rw [st_i, st_i, st_i, st_i, st_i]
    by_cases e : j = x
    · subst e
      rw [if_pos rfl, if_pos rfl, if_pos rfl, if_pos rfl, if_pos rfl]
      exact ⟨z.1, rfl, by omega, rfl, z.2.2.2.2⟩
    · rw [if_neg e, if_neg e, if_neg e, if_neg e, if_neg e]
      exact z
  · have z := hZ j a b
    have a2 : sg 503 0 ≤ j := a
    show mu 1005 j = 0 ∧ mu 1013 j = 0 ∧ st mu 1014 x A 1014 j = 0 ∧ st (st mu 1014 x A) 1015 x (mu 1015 x + A) 1015 j = 0 ∧ mu 1010 j = 0
    rw [st_i, st_i, if_neg (by omega), if_neg (by omega)]
    exact z
theorem o_settle {sg mu : Nat → Int → Int} (h : LR sg mu) (hG : GC sg) (hV : Inv sg) {x o t : Int} (hx : 0 ≤ x ∧ x < sg 503 0) (h4 : sg 114 x = 0) : LR (st (st (st sg 113 x o) 114 x 1) 508 0 t) (st (st mu 1015 x (mu 1015 x + o)) 1010 x 1) := by
  obtain ⟨hP, hS, hN, hO, hX, hA, hI, hM, hZ, hK, hQ, hT, hJ⟩ := h
  have z3 := (inv_J3 hV x hx.1 hx.2).2 h4
  have zx := hM x hx.1 hx.2
  refine ⟨hP, hS, hN, hO, hX, hA, hI, fun j a b => ?_, fun j a b => ?_, hK, q_ext hQ rfl rfl rfl rfl rfl, hT, ja_ext hG hJ rfl rfl rfl rfl rfl rfl rfl rfl (fun v _ _ _ => ⟨rfl, rfl, rfl, rfl, rfl⟩) (fun _ _ _ => rfl) (fun _ _ _ => ⟨rfl, rfl⟩)⟩
  · have z := hM j a b
    show mu 1013 j = sg 110 j ∧ mu 1014 j = sg 111 j ∧ st mu 1015 x (mu 1015 x + o) 1015 j = sg 111 j + st sg 113 x o 113 j ∧ mu 1009 j = sg 112 j ∧ st (st mu 1015 x (mu 1015 x + o)) 1010 x 1 1010 j = st (st sg 113 x o) 114 x 1 114 j
    rw [st_i, st_i, st_i, st_i]
    by_cases e : j = x
    · subst e
      rw [if_pos rfl, if_pos rfl, if_pos rfl, if_pos rfl]
      exact ⟨z.1, z.2.1, by omega, z.2.2.2.1, rfl⟩
    · rw [if_neg e, if_neg e, if_neg e, if_neg e]
      exact z
  · have z := hZ j a b
    have a2 : sg 503 0 ≤ j := a
    show mu 1005 j = 0 ∧ mu 1013 j = 0 ∧ mu 1014 j = 0 ∧ st mu 1015 x (mu 1015 x + o) 1015 j = 0 ∧ st (st mu 1015 x (mu 1015 x + o)) 1010 x 1 1010 j = 0
    rw [st_i, st_i, if_neg (by omega), if_neg (by omega)]
    exact z
theorem o_refuse {sg mu : Nat → Int → Int} (h : LR sg mu) (hG : GC sg) {k n : Int} (hk : 0 ≤ k ∧ k ≤ 3) (h9 : 0 ≤ sg 209 (pl k)) : LR (offT sg (pl k) n (sg 210 (pl k))) (st mu 1000 (8 * k + 7) n) := by
  obtain ⟨hP, hS, hN, hO, hX, hA, hI, hM, hZ, hK, hQ, hT, hJ⟩ := h
  refine ⟨fun i p q => ?_, fun i p q => ?_, fun i p q => ?_, fun i p q => ?_, hX, hA, hI, hM, hZ, hK, q_ext hQ rfl rfl rfl rfl rfl, hT, ja_ext hG hJ rfl rfl rfl rfl rfl rfl rfl rfl (fun v _ _ _ => ⟨rfl, rfl, rfl, rfl, rfl⟩) (fun _ _ _ => rfl) (fun _ _ _ => ⟨rfl, rfl⟩)⟩
  · rw [st_i, if_neg (by omega), st_i, if_neg (by omega)]; exact hP i p q
  · rw [st_i, if_neg (by omega), st_i, if_neg (by omega), st_i, if_neg (by omega), st_i, if_neg (by omega)]; exact hS i p q
  · rw [st_i, if_neg (by omega)]; exact hN i p q
  · have z := hO i p q
    have e := pl_inj ⟨p, q⟩ hk
    show st mu 1000 (8 * k + 7) n 1000 (8 * i + 7) = st sg 209 (pl k) n 209 (pl i) ∧ (0 ≤ st sg 209 (pl k) n 209 (pl i) → mu 1012 i = st (st sg 209 (pl k) n) 210 (pl k) (if n < 0 then 0 else sg 210 (pl k)) 210 (pl i))
    rw [st_i, st_i, st_i]
    by_cases y : i = k
    · subst y
      rw [if_pos rfl, if_pos rfl, if_pos rfl]
      exact ⟨rfl, fun y => by rw [if_neg (by omega)]; exact z.2 h9⟩
    · rw [if_neg (by omega), if_neg (fun x => y (e.mp x)), if_neg (fun x => y (e.mp x))]
      exact z
theorem o_accept {sg mu : Nat → Int → Int} (h : LR sg mu) (hG : GC sg) {k t : Int} (hk : 0 ≤ k ∧ k ≤ 3) : LR (st (offT (st sg 203 (pl k) 2) (pl k) (-1) 0) 510 0 t) (st (st mu 1000 (8 * k + 2) 2) 1000 (8 * k + 7) (-1)) := by
  obtain ⟨hP, hS, hN, hO, hX, hA, hI, hM, hZ, hK, hQ, hT, hJ⟩ := h
  refine ⟨fun i p q => ?_, fun i p q => ?_, fun i p q => ?_, fun i p q => ?_, fun v p q v1 v2 v3 v4 => ?_, hA, hI, hM, hZ, hK, q_ext hQ rfl rfl rfl rfl rfl, hT, ja_ext hG hJ rfl rfl rfl rfl rfl rfl rfl rfl (fun v _ _ _ => ⟨rfl, rfl, rfl, rfl, rfl⟩) (fun _ _ _ => rfl) (fun _ _ _ => ⟨rfl, rfl⟩)⟩
  · rw [st_i, if_neg (by omega), st_i, if_neg (by omega), st_i, if_neg (by omega), st_i, if_neg (by omega)]; exact hP i p q
  · have z := hS i p q
    have e := pl_inj ⟨p, q⟩ hk
    show st (st mu 1000 (8 * k + 2) 2) 1000 (8 * k + 7) (-1) 1000 (8 * i + 2) = st sg 203 (pl k) 2 203 (pl i) ∧ _
    refine ⟨?_, ?_, ?_, ?_⟩
    · rw [st_i, st_i, st_i, if_neg (by omega), z.1]
      by_cases y : i = k
      · rw [if_pos (by omega), if_pos (e.mpr y)]
      · rw [if_neg (by omega), if_neg (fun x => y (e.mp x))]
    · rw [st_i, if_neg (by omega), st_i, if_neg (by omega)]; exact z.2.1
    · rw [st_i, if_neg (by omega), st_i, if_neg (by omega)]; exact z.2.2.1
    · rw [st_i, if_neg (by omega), st_i, if_neg (by omega)]; exact z.2.2.2
  · rw [st_i, if_neg (by omega), st_i, if_neg (by omega)]; exact hN i p q
  · have z := hO i p q
    have e := pl_inj ⟨p, q⟩ hk
    show st (st mu 1000 (8 * k + 2) 2) 1000 (8 * k + 7) (-1) 1000 (8 * i + 7) = st (st sg 203 (pl k) 2) 209 (pl k) (-1) 209 (pl i) ∧ (0 ≤ st (st sg 203 (pl k) 2) 209 (pl k) (-1) 209 (pl i) → mu 1012 i = st (st (st sg 203 (pl k) 2) 209 (pl k) (-1)) 210 (pl k) (if (-1 : Int) < 0 then 0 else 0) 210 (pl i))
    rw [st_i, st_i, st_i, st_i]
    by_cases y : i = k
    · subst y
      rw [if_pos rfl, if_pos rfl, if_pos rfl]
      exact ⟨rfl, fun y => absurd y (by decide)⟩
    · rw [if_neg (by omega), if_neg (by omega), if_neg (fun x => y (e.mp x)), if_neg (fun x => y (e.mp x))]
      exact z
  · have z := hX v p q v1 v2 v3 v4
    have y := pl_v hk
    refine ⟨?_, z.2⟩
    show st sg 203 (pl k) 2 203 v = 0
    rw [st_i, if_neg (by omega)]; exact z.1
theorem o_pass {sg mu : Nat → Int → Int} (h : LR sg mu) (hG : GC sg) (hV : Inv sg) {d : Int} (hd : 0 ≤ d) : LR (st sg 506 0 (sg 506 0 + d)) mu := by
  obtain ⟨hP, hS, hN, hO, hX, hA, hI, hM, hZ, hK, hQ, hT, hJ⟩ := h
  refine ⟨hP, hS, hN, hO, hX, hA, hI, hM, hZ, hK, fun u a b => ?_, hT, ja_ext hG hJ rfl rfl rfl rfl rfl rfl rfl rfl (fun v _ _ _ => ⟨rfl, rfl, rfl, rfl, rfl⟩) (fun _ _ _ => rfl) (fun _ _ _ => ⟨rfl, rfl⟩)⟩
  have j5 := inv_J5 hV u a b
  have z := hQ u a b
  rw [prOn_top hG ⟨a, b⟩ j5] at z
  rw [prOn_ext (a := st sg 506 0 (sg 506 0 + d)) (b := sg) rfl rfl rfl, prOn_top hG ⟨a, b⟩ (by show sg 300 (sg 602 u) ≤ sg 506 0 + d; omega)]
  exact z
