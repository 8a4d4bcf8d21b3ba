/-! the law's start -/
theorem mi_f {F : Nat} (h1 : F ≠ 1003) (h2 : F ≠ 1006) (h3 : F ≠ 1008) (h4 : F ≠ 1010) : ∀ n : Nat, miN n F = miN 0 F
  | 0 => rfl
  | n + 1 => by
    have h := mi_f h1 h2 h3 h4 n
    show st (st (st (st (miN n) 1003 n 10) 1006 n (-1)) 1008 n (-1)) 1010 n (-1) F = _
    rw [st_F h4, st_F h3, st_F h2, st_F h1, h]
theorem mi_v (i : Int) : ∀ n : Nat, 0 ≤ i → i < (n : Int) → miN n 1003 i = 10 ∧ miN n 1006 i = -1 ∧ miN n 1008 i = -1 ∧ miN n 1010 i = -1
  | 0, h0, h1 => by omega
  | n + 1, h0, h1 => by
    show st (st (st (st (miN n) 1003 n 10) 1006 n (-1)) 1008 n (-1)) 1010 n (-1) 1003 i = 10 ∧ st (st (st (st (miN n) 1003 n 10) 1006 n (-1)) 1008 n (-1)) 1010 n (-1) 1006 i = -1 ∧ st (st (st (st (miN n) 1003 n 10) 1006 n (-1)) 1008 n (-1)) 1010 n (-1) 1008 i = -1 ∧ st (st (st (st (miN n) 1003 n 10) 1006 n (-1)) 1008 n (-1)) 1010 n (-1) 1010 i = -1
    rw [st_f (show (1003 : Nat) ≠ 1010 by decide), st_f (show (1003 : Nat) ≠ 1008 by decide), st_f (show (1003 : Nat) ≠ 1006 by decide), st_f (show (1006 : Nat) ≠ 1010 by decide), st_f (show (1006 : Nat) ≠ 1008 by decide), st_f (show (1008 : Nat) ≠ 1010 by decide)]
    simp only [st_i]
    by_cases e : i = (n : Int)
    · rw [if_pos e, if_pos e, if_pos e, if_pos e]
      exact ⟨rfl, rfl, rfl, rfl⟩
    · have z := mi_v i n h0 (by omega)
      simp only [if_neg e]
      rw [st_f (show (1006 : Nat) ≠ 1003 by decide), st_f (show (1008 : Nat) ≠ 1006 by decide), st_f (show (1008 : Nat) ≠ 1003 by decide), st_f (show (1010 : Nat) ≠ 1008 by decide), st_f (show (1010 : Nat) ≠ 1006 by decide), st_f (show (1010 : Nat) ≠ 1003 by decide)]
      exact z
theorem z0_v (F : Nat) (j : Int) (hF : F < 507) : (zT 36 3 F j = 0 ∧ F ≠ 201) ∨ (F = 200 ∧ 0 ≤ zT 36 3 F j ∧ zT 36 3 F j ≤ 35) ∨ (F = 301 ∧ 0 ≤ zT 36 3 F j ∧ zT 36 3 F j ≤ 30) ∨ (F = 201 ∧ zT 36 3 F j = 10) ∨ ((F = 204 ∨ F = 206 ∨ F = 207 ∨ F = 209 ∨ F = 302) ∧ zT 36 3 F j = -1) := by
  obtain ⟨v, hv⟩ : ∃ v : Int, v = zT 36 3 F j := ⟨_, rfl⟩
  rw [← hv]
  unfold zT zC at hv
  (repeat' split at hv) <;> omega
theorem lo_0 {F : Nat} (h : F ≠ 201) : loC F ≤ 0 := by
  unfold loC
  (repeat' split) <;> omega
theorem hi_0 (F : Nat) : 0 ≤ hiC F := by
  unfold hiC
  (repeat' split) <;> omega
theorem gr_z0 : GRng (zT 36 3) := by
  intro F j hF
  rcases z0_v F j hF with ⟨h, h2⟩ | ⟨h, h1, h2⟩ | ⟨h, h1, h2⟩ | ⟨h, h1⟩ | ⟨h, h1⟩
  · rw [h]; exact ⟨lo_0 h2, hi_0 F⟩
  · subst h; exact ⟨h1, h2⟩
  · subst h; exact (show (0 : Int) ≤ zT 36 3 301 j ∧ zT 36 3 301 j ≤ 1000 by omega)
  · rw [h1, h]; decide
  · rw [h1]
    rcases h with h | h | h | h | h <;> rw [h] <;> decide
theorem z_602 {u : Int} (h : 0 ≤ u ∧ u < 3) : zT 36 3 602 u = u := by
  unfold zT
  rw [if_neg (by omega), if_neg (by omega), if_pos ⟨rfl, h⟩]
theorem z_601 {u : Int} (h : 0 ≤ u ∧ u < 36) : zT 36 3 601 u = u := by
  unfold zT
  rw [if_pos ⟨rfl, h⟩]
theorem z_200 {u : Int} (h : 0 ≤ u ∧ u < 36) : zT 36 3 200 u = u := by
  unfold zT
  rw [if_neg (by omega), if_pos ⟨rfl, h⟩]
theorem z_301 {u : Int} (h : 0 ≤ u ∧ u < 3) : zT 36 3 301 u = if u = 0 then 5 else if u = 1 then 20 else 30 := by
  unfold zT
  rw [if_neg (by omega), if_neg (by omega), if_neg (by omega), if_pos ⟨rfl, h⟩]
theorem z_602r (q : Int) : -1 ≤ zT 36 3 602 q ∧ zT 36 3 602 q < 3 := by
  obtain ⟨v, hv⟩ : ∃ v : Int, v = zT 36 3 602 q := ⟨_, rfl⟩
  rw [← hv]
  unfold zT zC at hv
  (repeat' split at hv) <;> omega
theorem z_601r (q : Int) : -1 ≤ zT 36 3 601 q ∧ zT 36 3 601 q ≤ 35 := by
  obtain ⟨v, hv⟩ : ∃ v : Int, v = zT 36 3 601 q := ⟨_, rfl⟩
  rw [← hv]
  unfold zT zC at hv
  (repeat' split at hv) <;> omega
theorem gc_z0 : GC (zT 36 3) := by
  refine ⟨gr_z0, ⟨fun q a b => z_601 ⟨a, b⟩, fun q a b => ?_, fun q a b => ?_, fun u a b => ?_⟩, ⟨rfl, rfl, rfl, rfl, rfl, rfl, rfl, rfl⟩, ⟨fun j => ?_, fun j => ?_, fun j => ?_, fun n h => ?_⟩, ⟨fun i a b => ?_, fun j a b => z_200 ⟨a, b⟩, fun k a b => ?_⟩, fun i _ => ?_, ⟨fun q => ?_, fun q => (z_602r q).2, fun q => ?_, fun q => ?_, z_601r, fun q => ?_, fun q => (z_602r q).1, fun q => ?_⟩⟩
  · show (-1 : Int) = if q < 0 then q else -1
    rw [if_neg (by omega)]
  · show (-1 : Int) = if q < 0 then q else -1
    rw [if_neg (by omega)]
  · rw [z_602 ⟨a, b⟩]
    exact ⟨a, b⟩
  · show (-1 : Int) < 0; decide
  · show (-1 : Int) < 3; decide
  · show (-1 : Int) < 0; decide
  · show (-1 : Int) < n; omega
  · have z : i < 0 := b; omega
  · have z : k < 0 := b; omega
  · show (0 : Int) ≤ 100; decide
  · show (-1 : Int) < 0; decide
  · show (-1 : Int) < 0; decide
  · show (-1 : Int) < 3; decide
  · show (-1 : Int) ≤ -1; decide
  · show (-1 : Int) ≤ -1; decide
theorem need_z0 (p : Int) : needO (zT 36 3) p = -1 := by
  unfold needO
  split
  · rfl
  · rw [if_pos (show zT 36 3 204 p < 0 from (by decide : (-1 : Int) < 0))]

theorem rel_z0 : Rel (zT 36 3) (miN 36) := by
  have hv := fun (p : Int) (h0 : 0 ≤ p) (h1 : p < 36) => mi_v p 36 h0 h1
  have vac : ∀ {i : Int}, 0 ≤ i → i < zT 36 3 503 0 → False := fun {i} a b => by have z : i < 0 := b; omega
  have vac5 : ∀ {i : Int}, 0 ≤ i → i < zT 36 3 505 0 → False := fun {i} a b => by have z : i < 0 := b; omega
  refine ⟨?_, fun p p1 p2 => ?_, fun p p1 p2 => ?_, fun p p1 p2 => ?_, fun p p1 p2 => ?_, fun p p1 p2 => ?_, fun p p1 p2 => ?_, fun p p1 p2 => ?_, fun i a b => (vac a b).elim, fun i a b => (vac a b).elim, fun i a b => (vac a b).elim, fun i a b => (vac a b).elim, fun i a b => (vac a b).elim, fun i a b => (vac a b).elim, fun i a b => (vac a b).elim, ⟨fun i a b => ?_, fun k a b => ?_⟩, fun k a b => (vac5 a b).elim, fun u d u0 u2 d0 d1 => ?_, fun u u0 u2 => ?_, ?_⟩
  · unfold RSc
    rw [mi_f (F := 901) (by decide) (by decide) (by decide) (by decide), mi_f (F := 913) (by decide) (by decide) (by decide) (by decide), mi_f (F := 926) (by decide) (by decide) (by decide) (by decide)]
    exact ⟨rfl, rfl, rfl⟩
  · rw [(hv p p1 p2).1, mi_f (F := 1004) (by decide) (by decide) (by decide) (by decide)]
    exact ⟨rfl, rfl⟩
  · rw [(hv p p1 p2).2.2.1, mi_f (F := 1005) (by decide) (by decide) (by decide) (by decide), mi_f (F := 1007) (by decide) (by decide) (by decide) (by decide), mi_f (F := 1009) (by decide) (by decide) (by decide) (by decide)]
    exact ⟨rfl, rfl, rfl, rfl⟩
  · rw [(hv p p1 p2).2.1, need_z0]
  · rw [(hv p p1 p2).2.2.2, mi_f (F := 1011) (by decide) (by decide) (by decide) (by decide)]
    exact ⟨rfl, rfl⟩
  · rw [mi_f (F := 1012) (by decide) (by decide) (by decide) (by decide), if_pos (show zT 36 3 206 p = -1 from rfl)]
    rfl
  · exact ⟨fun _ => rfl, fun _ => rfl⟩
  · exact ⟨fun _ => rfl, fun _ => rfl, fun _ => rfl⟩
  · rw [mi_f (F := 1020) (by decide) (by decide) (by decide) (by decide), mi_f (F := 1021) (by decide) (by decide) (by decide) (by decide), mi_f (F := 1022) (by decide) (by decide) (by decide) (by decide), mi_f (F := 1023) (by decide) (by decide) (by decide) (by decide), mi_f (F := 1025) (by decide) (by decide) (by decide) (by decide), mi_f (F := 1034) (by decide) (by decide) (by decide) (by decide)]
    exact ⟨rfl, rfl, rfl, rfl, rfl, rfl⟩
  · rw [mi_f (F := 1029) (by decide) (by decide) (by decide) (by decide)]
    rfl
  · have e : d = 0 := by have z : d ≤ 0 := d1; omega
    subst e
    have hp : prOn (zT 36 3) u 0 = u := (prOn_top gc_z0 ⟨u0, u2⟩ (show (0 : Int) ≤ 0 from Int.le_refl 0)).trans (z_602 ⟨u0, by omega⟩)
    rw [mi_f (F := 1002) (by decide) (by decide) (by decide) (by decide), hp]
    unfold centsO
    rw [if_neg (by omega), z_301 ⟨u0, by omega⟩]
    show st (st (st zM 1002 0 5) 1002 1 20) 1002 2 30 1002 (3 * 0 + u) = _
    rw [st_i, st_i, st_i]
    rcases (show u = 0 ∨ u = 1 ∨ u = 2 by omega) with y | y | y <;> subst y <;> rfl
  · exact Int.le_refl 0
  · unfold RTo
    rw [mi_f (F := 1021) (by decide) (by decide) (by decide) (by decide), mi_f (F := 1022) (by decide) (by decide) (by decide) (by decide), mi_f (F := 932) (by decide) (by decide) (by decide) (by decide), mi_f (F := 933) (by decide) (by decide) (by decide) (by decide), mi_f (F := 1012) (by decide) (by decide) (by decide) (by decide)]
    refine ⟨rfl, rfl, rfl, rfl, ?_⟩
    exact (sumN_0 36).symm

/-! what the tables and the start say -/
