/-! what the calls do: own, lease, charge -/
def tlM (mu : Nat → Int → Int) (n kd k ms t pr : Int) : Nat → Int → Int := st (st (st (st (st (st (st mu 1001 n kd) 1001 (24 + n) k) 1002 n ms) 1003 n t) 1004 n (-1)) 1006 n pr) 1009 n (-1)
theorem lefts_new {a b : Nat → Int → Int} {n0 : Int} (hn : b 503 0 = n0) (ha : a 503 0 = n0 + 1) (e : ∀ i : Int, 0 ≤ i → i < n0 → a 101 i = b 101 i ∧ a 102 i = b 102 i ∧ a 105 i = b 105 i) {v land bd : Int} (hv : a 102 n0 ≠ v) : ∀ n : Nat, lefts a v land bd n = lefts b v land bd n
  | 0 => rfl
  | n + 1 => by
    have h := lefts_new hn ha e hv (land := land) (bd := bd) n
    show (if (n : Int) < a 503 0 ∧ a 101 n = 2 ∧ a 102 n = v ∧ (n : Int) < bd then lefts a v land bd n - mn (lefts a v land bd n) (a 105 n) else lefts a v land bd n) = (if (n : Int) < b 503 0 ∧ b 101 n = 2 ∧ b 102 n = v ∧ (n : Int) < bd then lefts b v land bd n - mn (lefts b v land bd n) (b 105 n) else lefts b v land bd n)
    rw [h]
    by_cases c : (n : Int) < n0
    · obtain ⟨e1, e2, e5⟩ := e n (by omega) c
      rw [e1, e2, e5]
      have t : ((n : Int) < a 503 0 ∧ b 101 n = 2 ∧ b 102 n = v ∧ (n : Int) < bd) ↔ ((n : Int) < b 503 0 ∧ b 101 n = 2 ∧ b 102 n = v ∧ (n : Int) < bd) := ⟨fun z => ⟨by omega, z.2⟩, fun z => ⟨by omega, z.2⟩⟩
      simp only [t]
    · have t : ¬ ((n : Int) < a 503 0 ∧ a 101 n = 2 ∧ a 102 n = v ∧ (n : Int) < bd) := by
        rintro ⟨z1, -, z3, -⟩
        have q : (n : Int) = n0 := by omega
        rw [q] at z3
        exact hv z3
      rw [if_neg t, if_neg (fun z => by omega)]
theorem o_tell {sg mu : Nat → Int → Int} (h : LR sg mu) (hG : GC sg) (hV : Inv sg) (hL : GL mu) {kd k u ms pr pr' : Int} (hk : 0 ≤ k ∧ k ≤ 3) (h3 : sg 203 (pl k) = 0) (hn : sg 503 0 < 24) (hms : kd = 0 → 1 ≤ ms) (hpr : kd = 1 → pr = pr') : LR (tellT sg kd (pl k) u ms pr') (tlM mu (sg 503 0) kd k ms (sg 506 0) pr) := by
  obtain ⟨hP, hS, hN, hO, hX, hA, hI, hM, hZ, hK, hQ, hT, hJ⟩ := h
  have r := pl_rng k
  have g := gr_503 hG 0
  have h6 := (inv_J1 hV (pl k) (by omega) (by omega)).mp h3
  have tf : ∀ F : Nat, ¬ (100 ≤ F ∧ F < 115) → F ≠ 700 → F ≠ 600 → F ≠ 503 → tellT sg kd (pl k) u ms pr' F = sg F := fun F a b c d => te_f a b c d
  have hP2 : RLP sg (tlM mu (sg 503 0) kd k ms (sg 506 0) pr) := hP
  have hS2 : RLS sg (tlM mu (sg 503 0) kd k ms (sg 506 0) pr) := hS
  have hN2 : RLN sg (tlM mu (sg 503 0) kd k ms (sg 506 0) pr) := hN
  have hO2 : RLO sg (tlM mu (sg 503 0) kd k ms (sg 506 0) pr) := hO
  have hK2 : RLK sg (tlM mu (sg 503 0) kd k ms (sg 506 0) pr) := hK
  have hT2 : RLT sg (tlM mu (sg 503 0) kd k ms (sg 506 0) pr) := hT
  have hQ2 : RLQ sg (tlM mu (sg 503 0) kd k ms (sg 506 0) pr) := hQ
  have t1 := fun i => te_r (sg := sg) (k := kd) (j := pl k) (u := u) (m := ms) (pr := pr') (F := 101) (v := kd) (by decide) rfl i
  have t2 := fun i => te_r (sg := sg) (k := kd) (j := pl k) (u := u) (m := ms) (pr := pr') (F := 102) (v := pl k) (by decide) rfl i
  have t4 := fun i => te_r (sg := sg) (k := kd) (j := pl k) (u := u) (m := ms) (pr := pr') (F := 104) (v := sg 506 0) (by decide) rfl i
  have t5 := fun i => te_r (sg := sg) (k := kd) (j := pl k) (u := u) (m := ms) (pr := pr') (F := 105) (v := ms) (by decide) rfl i
  have t6 := fun i => te_r (sg := sg) (k := kd) (j := pl k) (u := u) (m := ms) (pr := pr') (F := 106) (v := pr') (by decide) rfl i
  have t7 := fun i => te_r (sg := sg) (k := kd) (j := pl k) (u := u) (m := ms) (pr := pr') (F := 107) (v := -1) (by decide) rfl i
  have t8 := fun i => te_r (sg := sg) (k := kd) (j := pl k) (u := u) (m := ms) (pr := pr') (F := 108) (v := 0) (by decide) rfl i
  have t9 := fun i => te_r (sg := sg) (k := kd) (j := pl k) (u := u) (m := ms) (pr := pr') (F := 109) (v := 0) (by decide) rfl i
  have t10 := fun i => te_r (sg := sg) (k := kd) (j := pl k) (u := u) (m := ms) (pr := pr') (F := 110) (v := 0) (by decide) rfl i
  have t11 := fun i => te_r (sg := sg) (k := kd) (j := pl k) (u := u) (m := ms) (pr := pr') (F := 111) (v := 0) (by decide) rfl i
  have t12 := fun i => te_r (sg := sg) (k := kd) (j := pl k) (u := u) (m := ms) (pr := pr') (F := 112) (v := -1) (by decide) rfl i
  have t13 := fun i => te_r (sg := sg) (k := kd) (j := pl k) (u := u) (m := ms) (pr := pr') (F := 113) (v := 0) (by decide) rfl i
  have t14 := fun i => te_r (sg := sg) (k := kd) (j := pl k) (u := u) (m := ms) (pr := pr') (F := 114) (v := 0) (by decide) rfl i
  refine ⟨P_ext hP2 (tf 201 (by decide) (by decide) (by decide) (by decide)) (tf 202 (by decide) (by decide) (by decide) (by decide)), S_ext hS2 (tf 203 (by decide) (by decide) (by decide) (by decide)) (tf 205 (by decide) (by decide) (by decide) (by decide)) (tf 206 (by decide) (by decide) (by decide) (by decide)) (tf 208 (by decide) (by decide) (by decide) (by decide)), N_ext hN2 (tf 204 (by decide) (by decide) (by decide) (by decide)) (tf 403 (by decide) (by decide) (by decide) (by decide)), O_ext hO2 (tf 209 (by decide) (by decide) (by decide) (by decide)) (tf 210 (by decide) (by decide) (by decide) (by decide)), X_ext hX (tf 203 (by decide) (by decide) (by decide) (by decide)) (tf 204 (by decide) (by decide) (by decide) (by decide)) (tf 208 (by decide) (by decide) (by decide) (by decide)), fun j p q => ?_, fun j p q => ?_, fun j p q => ?_, fun j p q => ?_, K_ext hK2 (tf 401 (by decide) (by decide) (by decide) (by decide)) (tf 402 (by decide) (by decide) (by decide) (by decide)) (tf 403 (by decide) (by decide) (by decide) (by decide)) (tf 404 (by decide) (by decide) (by decide) (by decide)) (congrFun (tf 505 (by decide) (by decide) (by decide) (by decide)) 0), q_ext hQ2 (tf 300 (by decide) (by decide) (by decide) (by decide)) (tf 301 (by decide) (by decide) (by decide) (by decide)) (tf 302 (by decide) (by decide) (by decide) (by decide)) (tf 602 (by decide) (by decide) (by decide) (by decide)) (congrFun (tf 506 (by decide) (by decide) (by decide) (by decide)) 0), T_ext hT2 (congrFun (tf 509 (by decide) (by decide) (by decide) (by decide)) 0) (congrFun (tf 511 (by decide) (by decide) (by decide) (by decide)) 0), fun i p q e6 => ?_⟩
  · rw [te_503] at q
    rw [t1, t2, t4, t5, t6]
    show st (st mu 1001 (sg 503 0) kd) 1001 (24 + sg 503 0) k 1001 j = _ ∧ _ = pl (st (st mu 1001 (sg 503 0) kd) 1001 (24 + sg 503 0) k 1001 (24 + j)) ∧ st mu 1002 (sg 503 0) ms 1002 j = _ ∧ st mu 1003 (sg 503 0) (sg 506 0) 1003 j = _ ∧ (_ → st mu 1006 (sg 503 0) pr 1006 j = _) ∧ _
    rw [st_i, st_i, if_neg (by omega), st_i, st_i, st_i, st_i, st_i]
    by_cases e : j = sg 503 0
    · rw [if_pos e, if_pos e, if_pos e, if_pos e, if_pos e, if_pos e, if_pos e, if_pos e, if_pos e, if_pos (by omega)]
      exact ⟨rfl, rfl, rfl, rfl, hpr, hms⟩
    · rw [if_neg e, if_neg e, if_neg e, if_neg e, if_neg e, if_neg e, if_neg e, if_neg e, if_neg e, if_neg (by omega), if_neg (by omega)]
      exact hA j p (by omega)
  · rw [te_503] at q
    rw [t7, t8, t9]
    show st mu 1004 (sg 503 0) (-1) 1004 j = _ ∧ mu 1005 j = _
    rw [st_i]
    by_cases e : j = sg 503 0
    · rw [if_pos e, if_pos e, if_pos e, if_pos e]
      exact ⟨rfl, (hZ j (by omega) (by omega)).1⟩
    · rw [if_neg e, if_neg e, if_neg e, if_neg e]
      exact hI j p (by omega)
  · rw [te_503] at q
    rw [t10, t11, t12, t13, t14]
    show mu 1013 j = _ ∧ mu 1014 j = _ ∧ mu 1015 j = _ ∧ st mu 1009 (sg 503 0) (-1) 1009 j = _ ∧ mu 1010 j = _
    rw [st_i]
    by_cases e : j = sg 503 0
    · rw [if_pos e, if_pos e, if_pos e, if_pos e, if_pos e, if_pos e]
      have z := hZ j (by omega) (by omega)
      exact ⟨z.2.1, z.2.2.1, z.2.2.2.1, rfl, z.2.2.2.2⟩
    · rw [if_neg e, if_neg e, if_neg e, if_neg e, if_neg e, if_neg e]
      exact hM j p (by omega)
  · rw [te_503] at p
    exact hZ j (by omega) q
  · rw [te_503] at q
    rw [t2, tf 206 (by decide) (by decide) (by decide) (by decide)] at e6
    have hi : i ≠ sg 503 0 := by
      intro e
      rw [if_pos e] at e6
      exact e6 h6
    rw [if_neg hi] at e6
    have r2 := gr_102 hG i
    have hv : sg 102 i ≠ pl k := fun e => e6 (by rw [e]; exact h6)
    have hl : ∀ land bd : Int, leftB (tellT sg kd (pl k) u ms pr') (sg 102 i) land bd = leftB sg (sg 102 i) land bd := fun land bd => lefts_new (n0 := sg 503 0) rfl te_503 (fun j a b => by rw [t1, t2, t5, if_neg (by omega), if_neg (by omega), if_neg (by omega)]; exact ⟨rfl, rfl, rfl⟩) (by rw [t2, if_pos rfl]; exact fun x => hv x.symm) 24
    rw [t2, if_neg hi, t10, if_neg hi, landO_at (b := sg) (congrFun (tf 201 (by decide) (by decide) (by decide) (by decide)) _) (congrFun (tf 207 (by decide) (by decide) (by decide) (by decide)) _) (congrFun (tf 205 (by decide) (by decide) (by decide) (by decide)) _) (congrFun (tf 204 (by decide) (by decide) (by decide) (by decide)) _) (fun _ => congrFun (tf 301 (by decide) (by decide) (by decide) (by decide)) _) (fun _ => ⟨congrFun (tf 401 (by decide) (by decide) (by decide) (by decide)) _, congrFun (tf 402 (by decide) (by decide) (by decide) (by decide)) _⟩)]
    have z := hJ i p (by omega) e6
    unfold sumB ownS leaS at z ⊢
    rw [t1, t2, t5, t4, t6, if_neg hi, if_neg hi, if_neg hi, if_neg hi, if_neg hi, hl, hl, tf 202 (by decide) (by decide) (by decide) (by decide), tf 205 (by decide) (by decide) (by decide) (by decide), tf 206 (by decide) (by decide) (by decide) (by decide)]
    exact z
