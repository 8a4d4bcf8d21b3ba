/-! the class: its cells out of a table of whole numbers -/
def st (sg : Nat → Int → Int) (f : Nat) (j v : Int) : Nat → Int → Int := fun f' j' => if f' = f ∧ j' = j then v else sg f' j'
theorem st_s {sg : Nat → Int → Int} {f : Nat} {j v : Int} : st sg f j v f j = v := if_pos ⟨rfl, rfl⟩
theorem st_f {sg : Nat → Int → Int} {f g : Nat} {j k v : Int} (h : g ≠ f) : st sg f j v g k = sg g k := if_neg fun z => h z.1
theorem st_j {sg : Nat → Int → Int} {f g : Nat} {j k v : Int} (h : k ≠ j) : st sg f j v g k = sg g k := if_neg fun z => h z.2
def tysC (cy : Nat → ClassId) : List (ClassId × FieldType) := [(cy 6, .int), (cy 7, .long), (cy 8, .int), (cy 9, .object "Takinghall$Interest"), (cy 10, .object "Takinghall$Plot"), (cy 11, .object "Takinghall$Price"), (cy 12, .object "Takinghall$Scheme")]
def dmC (sg : Nat → Int → Int) (k : Nat) (j : Int) : Prop := 0 ≤ j ∧ j < sg (700 + k) 0
abbrev fsC0 (ad : Nat → Int → Nat) (sg : Nat → Int → Int) (j : Int) : List Value := [.int (iI (sg 100 j)), .int (iI (sg 101 j)), rv (ad 1) (sg 102 j), .int (iI (sg 103 j)), .int (iI (sg 104 j)), .int (iI (sg 105 j)), .int (iI (sg 106 j)), .int (iI (sg 107 j)), .int (iI (sg 108 j)), .int (iI (sg 109 j)), .long (lI (sg 110 j)), .long (lI (sg 111 j)), .int (iI (sg 112 j)), .long (lI (sg 113 j)), .int (iI (sg 114 j))]
abbrev fsC1 (ad : Nat → Int → Nat) (sg : Nat → Int → Int) (j : Int) : List Value := [.int (iI (sg 200 j)), .int (iI (sg 201 j)), .int (iI (sg 202 j)), .int (iI (sg 203 j)), rv (ad 3) (sg 204 j), .int (iI (sg 205 j)), .int (iI (sg 206 j)), rv (ad 2) (sg 207 j), .int (iI (sg 208 j)), rv (ad 0) (sg 209 j), .int (iI (sg 210 j))]
abbrev fsC2 (ad : Nat → Int → Nat) (sg : Nat → Int → Int) (j : Int) : List Value := [.int (iI (sg 300 j)), .int (iI (sg 301 j)), rv (ad 2) (sg 302 j)]
abbrev fsC3 (ad : Nat → Int → Nat) (sg : Nat → Int → Int) (j : Int) : List Value := [.int (iI (sg 400 j)), .int (iI (sg 401 j)), .int (iI (sg 402 j)), .int (iI (sg 403 j)), .int (iI (sg 404 j)), .int (iI (sg 405 j))]
abbrev fsC4 (ad : Nat → Int → Nat) (sg : Nat → Int → Int) (j : Int) : List Value := [rv (ad 10) (sg 500 j), rv (ad 11) (sg 501 j), rv (ad 9) (sg 502 j), .int (iI (sg 503 j)), rv (ad 12) (sg 504 j), .int (iI (sg 505 j)), .int (iI (sg 506 j)), .long (lI (sg 507 j)), .long (lI (sg 508 j)), .long (lI (sg 509 j)), .long (lI (sg 510 j)), .long (lI (sg 511 j))]
def cellC (cy : Nat → ClassId) (ad : Nat → Int → Nat) (sg : Nat → Int → Int) (k : Nat) (j : Int) : va_E := match k with
  | 0 => .inr (0, fsC0 ad sg j)
  | 1 => .inr (1, fsC1 ad sg j)
  | 2 => .inr (2, fsC2 ad sg j)
  | 3 => .inr (3, fsC3 ad sg j)
  | 4 => .inr (4, fsC4 ad sg j)
  | 9 => .inl (cy 9, 24, .inr (.inr (.inr (.inr (fun q => ro (ad 0) (sg 600 (q : Int)))))))
  | 10 => .inl (cy 10, 36, .inr (.inr (.inr (.inr (fun q => ro (ad 1) (sg 601 (q : Int)))))))
  | 11 => .inl (cy 11, 3, .inr (.inr (.inr (.inr (fun q => ro (ad 2) (sg 602 (q : Int)))))))
  | 12 => .inl (cy 12, 4, .inr (.inr (.inr (.inr (fun q => ro (ad 3) (sg 603 (q : Int)))))))
  | _ => .inr (0, [])
abbrev RC (D : va_G) (cy : Nat → ClassId) (A : Nat → Prop) (ad : Nat → Int → Nat) (sg : Nat → Int → Int) (H : Heap) : Prop := wR D vwCl A (dmC sg) ad (cellC cy ad sg) H
abbrev KC (D : va_G) (cy : Nat → ClassId) (U : State) : Prop := va_K D vwCl (tysC cy) U
theorem dm_st {sg : Nat → Int → Int} {f : Nat} {j v : Int} (hf : f < 700) (k : Nat) (i : Int) : dmC (st sg f j v) k i ↔ dmC sg k i := by unfold dmC; rw [st_f (by omega)]
theorem cu_107 (cy : Nat → ClassId) (ad : Nat → Int → Nat) (sg : Nat → Int → Int) (j v : Int) : ∀ k' j', dmC sg k' j' → cellC cy ad (st sg 107 j v) k' j' = if k' = 0 ∧ j' = j then .inr (0, (fsC0 ad sg j).set 7 (.int (iI (v)))) else cellC cy ad sg k' j' := by
  intro k' j' _
  by_cases hk : k' = 0
  · subst hk
    by_cases hj : j' = j
    · subst hj; simp [cellC, st]
    · simp [cellC, st, hj]
  · rw [if_neg (fun z => hk z.1)]
    unfold cellC
    split <;> first | (exact absurd rfl hk) | simp [st]
theorem cu_108 (cy : Nat → ClassId) (ad : Nat → Int → Nat) (sg : Nat → Int → Int) (j v : Int) : ∀ k' j', dmC sg k' j' → cellC cy ad (st sg 108 j v) k' j' = if k' = 0 ∧ j' = j then .inr (0, (fsC0 ad sg j).set 8 (.int (iI (v)))) else cellC cy ad sg k' j' := by
  intro k' j' _
  by_cases hk : k' = 0
  · subst hk
    by_cases hj : j' = j
    · subst hj; simp [cellC, st]
    · simp [cellC, st, hj]
  · rw [if_neg (fun z => hk z.1)]
    unfold cellC
    split <;> first | (exact absurd rfl hk) | simp [st]
theorem cu_109 (cy : Nat → ClassId) (ad : Nat → Int → Nat) (sg : Nat → Int → Int) (j v : Int) : ∀ k' j', dmC sg k' j' → cellC cy ad (st sg 109 j v) k' j' = if k' = 0 ∧ j' = j then .inr (0, (fsC0 ad sg j).set 9 (.int (iI (v)))) else cellC cy ad sg k' j' := by
  intro k' j' _
  by_cases hk : k' = 0
  · subst hk
    by_cases hj : j' = j
    · subst hj; simp [cellC, st]
    · simp [cellC, st, hj]
  · rw [if_neg (fun z => hk z.1)]
    unfold cellC
    split <;> first | (exact absurd rfl hk) | simp [st]
theorem cu_110 (cy : Nat → ClassId) (ad : Nat → Int → Nat) (sg : Nat → Int → Int) (j v : Int) : ∀ k' j', dmC sg k' j' → cellC cy ad (st sg 110 j v) k' j' = if k' = 0 ∧ j' = j then .inr (0, (fsC0 ad sg j).set 10 (.long (lI (v)))) else cellC cy ad sg k' j' := by
  intro k' j' _
  by_cases hk : k' = 0
  · subst hk
    by_cases hj : j' = j
    · subst hj; simp [cellC, st]
    · simp [cellC, st, hj]
  · rw [if_neg (fun z => hk z.1)]
    unfold cellC
    split <;> first | (exact absurd rfl hk) | simp [st]
theorem cu_111 (cy : Nat → ClassId) (ad : Nat → Int → Nat) (sg : Nat → Int → Int) (j v : Int) : ∀ k' j', dmC sg k' j' → cellC cy ad (st sg 111 j v) k' j' = if k' = 0 ∧ j' = j then .inr (0, (fsC0 ad sg j).set 11 (.long (lI (v)))) else cellC cy ad sg k' j' := by
  intro k' j' _
  by_cases hk : k' = 0
  · subst hk
    by_cases hj : j' = j
    · subst hj; simp [cellC, st]
    · simp [cellC, st, hj]
  · rw [if_neg (fun z => hk z.1)]
    unfold cellC
    split <;> first | (exact absurd rfl hk) | simp [st]
theorem cu_112 (cy : Nat → ClassId) (ad : Nat → Int → Nat) (sg : Nat → Int → Int) (j v : Int) : ∀ k' j', dmC sg k' j' → cellC cy ad (st sg 112 j v) k' j' = if k' = 0 ∧ j' = j then .inr (0, (fsC0 ad sg j).set 12 (.int (iI (v)))) else cellC cy ad sg k' j' := by
  intro k' j' _
  by_cases hk : k' = 0
  · subst hk
    by_cases hj : j' = j
    · subst hj; simp [cellC, st]
    · simp [cellC, st, hj]
  · rw [if_neg (fun z => hk z.1)]
    unfold cellC
    split <;> first | (exact absurd rfl hk) | simp [st]
theorem cu_113 (cy : Nat → ClassId) (ad : Nat → Int → Nat) (sg : Nat → Int → Int) (j v : Int) : ∀ k' j', dmC sg k' j' → cellC cy ad (st sg 113 j v) k' j' = if k' = 0 ∧ j' = j then .inr (0, (fsC0 ad sg j).set 13 (.long (lI (v)))) else cellC cy ad sg k' j' := by
  intro k' j' _
  by_cases hk : k' = 0
  · subst hk
    by_cases hj : j' = j
    · subst hj; simp [cellC, st]
    · simp [cellC, st, hj]
  · rw [if_neg (fun z => hk z.1)]
    unfold cellC
    split <;> first | (exact absurd rfl hk) | simp [st]
theorem cu_114 (cy : Nat → ClassId) (ad : Nat → Int → Nat) (sg : Nat → Int → Int) (j v : Int) : ∀ k' j', dmC sg k' j' → cellC cy ad (st sg 114 j v) k' j' = if k' = 0 ∧ j' = j then .inr (0, (fsC0 ad sg j).set 14 (.int (iI (v)))) else cellC cy ad sg k' j' := by
  intro k' j' _
  by_cases hk : k' = 0
  · subst hk
    by_cases hj : j' = j
    · subst hj; simp [cellC, st]
    · simp [cellC, st, hj]
  · rw [if_neg (fun z => hk z.1)]
    unfold cellC
    split <;> first | (exact absurd rfl hk) | simp [st]
theorem cu_201 (cy : Nat → ClassId) (ad : Nat → Int → Nat) (sg : Nat → Int → Int) (j v : Int) : ∀ k' j', dmC sg k' j' → cellC cy ad (st sg 201 j v) k' j' = if k' = 1 ∧ j' = j then .inr (1, (fsC1 ad sg j).set 1 (.int (iI (v)))) else cellC cy ad sg k' j' := by
  intro k' j' _
  by_cases hk : k' = 1
  · subst hk
    by_cases hj : j' = j
    · subst hj; simp [cellC, st]
    · simp [cellC, st, hj]
  · rw [if_neg (fun z => hk z.1)]
    unfold cellC
    split <;> first | (exact absurd rfl hk) | simp [st]
theorem cu_202 (cy : Nat → ClassId) (ad : Nat → Int → Nat) (sg : Nat → Int → Int) (j v : Int) : ∀ k' j', dmC sg k' j' → cellC cy ad (st sg 202 j v) k' j' = if k' = 1 ∧ j' = j then .inr (1, (fsC1 ad sg j).set 2 (.int (iI (v)))) else cellC cy ad sg k' j' := by
  intro k' j' _
  by_cases hk : k' = 1
  · subst hk
    by_cases hj : j' = j
    · subst hj; simp [cellC, st]
    · simp [cellC, st, hj]
  · rw [if_neg (fun z => hk z.1)]
    unfold cellC
    split <;> first | (exact absurd rfl hk) | simp [st]
theorem cu_203 (cy : Nat → ClassId) (ad : Nat → Int → Nat) (sg : Nat → Int → Int) (j v : Int) : ∀ k' j', dmC sg k' j' → cellC cy ad (st sg 203 j v) k' j' = if k' = 1 ∧ j' = j then .inr (1, (fsC1 ad sg j).set 3 (.int (iI (v)))) else cellC cy ad sg k' j' := by
  intro k' j' _
  by_cases hk : k' = 1
  · subst hk
    by_cases hj : j' = j
    · subst hj; simp [cellC, st]
    · simp [cellC, st, hj]
  · rw [if_neg (fun z => hk z.1)]
    unfold cellC
    split <;> first | (exact absurd rfl hk) | simp [st]
theorem cu_204 (cy : Nat → ClassId) (ad : Nat → Int → Nat) (sg : Nat → Int → Int) (j v : Int) : ∀ k' j', dmC sg k' j' → cellC cy ad (st sg 204 j v) k' j' = if k' = 1 ∧ j' = j then .inr (1, (fsC1 ad sg j).set 4 (rv (ad 3) (v))) else cellC cy ad sg k' j' := by
  intro k' j' _
  by_cases hk : k' = 1
  · subst hk
    by_cases hj : j' = j
    · subst hj; simp [cellC, st]
    · simp [cellC, st, hj]
  · rw [if_neg (fun z => hk z.1)]
    unfold cellC
    split <;> first | (exact absurd rfl hk) | simp [st]
theorem cu_205 (cy : Nat → ClassId) (ad : Nat → Int → Nat) (sg : Nat → Int → Int) (j v : Int) : ∀ k' j', dmC sg k' j' → cellC cy ad (st sg 205 j v) k' j' = if k' = 1 ∧ j' = j then .inr (1, (fsC1 ad sg j).set 5 (.int (iI (v)))) else cellC cy ad sg k' j' := by
  intro k' j' _
  by_cases hk : k' = 1
  · subst hk
    by_cases hj : j' = j
    · subst hj; simp [cellC, st]
    · simp [cellC, st, hj]
  · rw [if_neg (fun z => hk z.1)]
    unfold cellC
    split <;> first | (exact absurd rfl hk) | simp [st]
theorem cu_206 (cy : Nat → ClassId) (ad : Nat → Int → Nat) (sg : Nat → Int → Int) (j v : Int) : ∀ k' j', dmC sg k' j' → cellC cy ad (st sg 206 j v) k' j' = if k' = 1 ∧ j' = j then .inr (1, (fsC1 ad sg j).set 6 (.int (iI (v)))) else cellC cy ad sg k' j' := by
  intro k' j' _
  by_cases hk : k' = 1
  · subst hk
    by_cases hj : j' = j
    · subst hj; simp [cellC, st]
    · simp [cellC, st, hj]
  · rw [if_neg (fun z => hk z.1)]
    unfold cellC
    split <;> first | (exact absurd rfl hk) | simp [st]
theorem cu_207 (cy : Nat → ClassId) (ad : Nat → Int → Nat) (sg : Nat → Int → Int) (j v : Int) : ∀ k' j', dmC sg k' j' → cellC cy ad (st sg 207 j v) k' j' = if k' = 1 ∧ j' = j then .inr (1, (fsC1 ad sg j).set 7 (rv (ad 2) (v))) else cellC cy ad sg k' j' := by
  intro k' j' _
  by_cases hk : k' = 1
  · subst hk
    by_cases hj : j' = j
    · subst hj; simp [cellC, st]
    · simp [cellC, st, hj]
  · rw [if_neg (fun z => hk z.1)]
    unfold cellC
    split <;> first | (exact absurd rfl hk) | simp [st]
theorem cu_208 (cy : Nat → ClassId) (ad : Nat → Int → Nat) (sg : Nat → Int → Int) (j v : Int) : ∀ k' j', dmC sg k' j' → cellC cy ad (st sg 208 j v) k' j' = if k' = 1 ∧ j' = j then .inr (1, (fsC1 ad sg j).set 8 (.int (iI (v)))) else cellC cy ad sg k' j' := by
  intro k' j' _
  by_cases hk : k' = 1
  · subst hk
    by_cases hj : j' = j
    · subst hj; simp [cellC, st]
    · simp [cellC, st, hj]
  · rw [if_neg (fun z => hk z.1)]
    unfold cellC
    split <;> first | (exact absurd rfl hk) | simp [st]
theorem cu_209 (cy : Nat → ClassId) (ad : Nat → Int → Nat) (sg : Nat → Int → Int) (j v : Int) : ∀ k' j', dmC sg k' j' → cellC cy ad (st sg 209 j v) k' j' = if k' = 1 ∧ j' = j then .inr (1, (fsC1 ad sg j).set 9 (rv (ad 0) (v))) else cellC cy ad sg k' j' := by
  intro k' j' _
  by_cases hk : k' = 1
  · subst hk
    by_cases hj : j' = j
    · subst hj; simp [cellC, st]
    · simp [cellC, st, hj]
  · rw [if_neg (fun z => hk z.1)]
    unfold cellC
    split <;> first | (exact absurd rfl hk) | simp [st]
theorem cu_210 (cy : Nat → ClassId) (ad : Nat → Int → Nat) (sg : Nat → Int → Int) (j v : Int) : ∀ k' j', dmC sg k' j' → cellC cy ad (st sg 210 j v) k' j' = if k' = 1 ∧ j' = j then .inr (1, (fsC1 ad sg j).set 10 (.int (iI (v)))) else cellC cy ad sg k' j' := by
  intro k' j' _
  by_cases hk : k' = 1
  · subst hk
    by_cases hj : j' = j
    · subst hj; simp [cellC, st]
    · simp [cellC, st, hj]
  · rw [if_neg (fun z => hk z.1)]
    unfold cellC
    split <;> first | (exact absurd rfl hk) | simp [st]
theorem cu_403 (cy : Nat → ClassId) (ad : Nat → Int → Nat) (sg : Nat → Int → Int) (j v : Int) : ∀ k' j', dmC sg k' j' → cellC cy ad (st sg 403 j v) k' j' = if k' = 3 ∧ j' = j then .inr (3, (fsC3 ad sg j).set 3 (.int (iI (v)))) else cellC cy ad sg k' j' := by
  intro k' j' _
  by_cases hk : k' = 3
  · subst hk
    by_cases hj : j' = j
    · subst hj; simp [cellC, st]
    · simp [cellC, st, hj]
  · rw [if_neg (fun z => hk z.1)]
    unfold cellC
    split <;> first | (exact absurd rfl hk) | simp [st]
theorem cu_404 (cy : Nat → ClassId) (ad : Nat → Int → Nat) (sg : Nat → Int → Int) (j v : Int) : ∀ k' j', dmC sg k' j' → cellC cy ad (st sg 404 j v) k' j' = if k' = 3 ∧ j' = j then .inr (3, (fsC3 ad sg j).set 4 (.int (iI (v)))) else cellC cy ad sg k' j' := by
  intro k' j' _
  by_cases hk : k' = 3
  · subst hk
    by_cases hj : j' = j
    · subst hj; simp [cellC, st]
    · simp [cellC, st, hj]
  · rw [if_neg (fun z => hk z.1)]
    unfold cellC
    split <;> first | (exact absurd rfl hk) | simp [st]
theorem cu_405 (cy : Nat → ClassId) (ad : Nat → Int → Nat) (sg : Nat → Int → Int) (j v : Int) : ∀ k' j', dmC sg k' j' → cellC cy ad (st sg 405 j v) k' j' = if k' = 3 ∧ j' = j then .inr (3, (fsC3 ad sg j).set 5 (.int (iI (v)))) else cellC cy ad sg k' j' := by
  intro k' j' _
  by_cases hk : k' = 3
  · subst hk
    by_cases hj : j' = j
    · subst hj; simp [cellC, st]
    · simp [cellC, st, hj]
  · rw [if_neg (fun z => hk z.1)]
    unfold cellC
    split <;> first | (exact absurd rfl hk) | simp [st]
theorem cu_503 (cy : Nat → ClassId) (ad : Nat → Int → Nat) (sg : Nat → Int → Int) (j v : Int) : ∀ k' j', dmC sg k' j' → cellC cy ad (st sg 503 j v) k' j' = if k' = 4 ∧ j' = j then .inr (4, (fsC4 ad sg j).set 3 (.int (iI (v)))) else cellC cy ad sg k' j' := by
  intro k' j' _
  by_cases hk : k' = 4
  · subst hk
    by_cases hj : j' = j
    · subst hj; simp [cellC, st]
    · simp [cellC, st, hj]
  · rw [if_neg (fun z => hk z.1)]
    unfold cellC
    split <;> first | (exact absurd rfl hk) | simp [st]
theorem cu_505 (cy : Nat → ClassId) (ad : Nat → Int → Nat) (sg : Nat → Int → Int) (j v : Int) : ∀ k' j', dmC sg k' j' → cellC cy ad (st sg 505 j v) k' j' = if k' = 4 ∧ j' = j then .inr (4, (fsC4 ad sg j).set 5 (.int (iI (v)))) else cellC cy ad sg k' j' := by
  intro k' j' _
  by_cases hk : k' = 4
  · subst hk
    by_cases hj : j' = j
    · subst hj; simp [cellC, st]
    · simp [cellC, st, hj]
  · rw [if_neg (fun z => hk z.1)]
    unfold cellC
    split <;> first | (exact absurd rfl hk) | simp [st]
theorem cu_506 (cy : Nat → ClassId) (ad : Nat → Int → Nat) (sg : Nat → Int → Int) (j v : Int) : ∀ k' j', dmC sg k' j' → cellC cy ad (st sg 506 j v) k' j' = if k' = 4 ∧ j' = j then .inr (4, (fsC4 ad sg j).set 6 (.int (iI (v)))) else cellC cy ad sg k' j' := by
  intro k' j' _
  by_cases hk : k' = 4
  · subst hk
    by_cases hj : j' = j
    · subst hj; simp [cellC, st]
    · simp [cellC, st, hj]
  · rw [if_neg (fun z => hk z.1)]
    unfold cellC
    split <;> first | (exact absurd rfl hk) | simp [st]
theorem cu_507 (cy : Nat → ClassId) (ad : Nat → Int → Nat) (sg : Nat → Int → Int) (j v : Int) : ∀ k' j', dmC sg k' j' → cellC cy ad (st sg 507 j v) k' j' = if k' = 4 ∧ j' = j then .inr (4, (fsC4 ad sg j).set 7 (.long (lI (v)))) else cellC cy ad sg k' j' := by
  intro k' j' _
  by_cases hk : k' = 4
  · subst hk
    by_cases hj : j' = j
    · subst hj; simp [cellC, st]
    · simp [cellC, st, hj]
  · rw [if_neg (fun z => hk z.1)]
    unfold cellC
    split <;> first | (exact absurd rfl hk) | simp [st]
theorem cu_508 (cy : Nat → ClassId) (ad : Nat → Int → Nat) (sg : Nat → Int → Int) (j v : Int) : ∀ k' j', dmC sg k' j' → cellC cy ad (st sg 508 j v) k' j' = if k' = 4 ∧ j' = j then .inr (4, (fsC4 ad sg j).set 8 (.long (lI (v)))) else cellC cy ad sg k' j' := by
  intro k' j' _
  by_cases hk : k' = 4
  · subst hk
    by_cases hj : j' = j
    · subst hj; simp [cellC, st]
    · simp [cellC, st, hj]
  · rw [if_neg (fun z => hk z.1)]
    unfold cellC
    split <;> first | (exact absurd rfl hk) | simp [st]
theorem cu_509 (cy : Nat → ClassId) (ad : Nat → Int → Nat) (sg : Nat → Int → Int) (j v : Int) : ∀ k' j', dmC sg k' j' → cellC cy ad (st sg 509 j v) k' j' = if k' = 4 ∧ j' = j then .inr (4, (fsC4 ad sg j).set 9 (.long (lI (v)))) else cellC cy ad sg k' j' := by
  intro k' j' _
  by_cases hk : k' = 4
  · subst hk
    by_cases hj : j' = j
    · subst hj; simp [cellC, st]
    · simp [cellC, st, hj]
  · rw [if_neg (fun z => hk z.1)]
    unfold cellC
    split <;> first | (exact absurd rfl hk) | simp [st]
theorem cu_510 (cy : Nat → ClassId) (ad : Nat → Int → Nat) (sg : Nat → Int → Int) (j v : Int) : ∀ k' j', dmC sg k' j' → cellC cy ad (st sg 510 j v) k' j' = if k' = 4 ∧ j' = j then .inr (4, (fsC4 ad sg j).set 10 (.long (lI (v)))) else cellC cy ad sg k' j' := by
  intro k' j' _
  by_cases hk : k' = 4
  · subst hk
    by_cases hj : j' = j
    · subst hj; simp [cellC, st]
    · simp [cellC, st, hj]
  · rw [if_neg (fun z => hk z.1)]
    unfold cellC
    split <;> first | (exact absurd rfl hk) | simp [st]
theorem cu_511 (cy : Nat → ClassId) (ad : Nat → Int → Nat) (sg : Nat → Int → Int) (j v : Int) : ∀ k' j', dmC sg k' j' → cellC cy ad (st sg 511 j v) k' j' = if k' = 4 ∧ j' = j then .inr (4, (fsC4 ad sg j).set 11 (.long (lI (v)))) else cellC cy ad sg k' j' := by
  intro k' j' _
  by_cases hk : k' = 4
  · subst hk
    by_cases hj : j' = j
    · subst hj; simp [cellC, st]
    · simp [cellC, st, hj]
  · rw [if_neg (fun z => hk z.1)]
    unfold cellC
    split <;> first | (exact absurd rfl hk) | simp [st]
section CX
variable {p : Program} {l : Launch} {e : Env} {R : Room} {s : State} {m : MethodId} {args : Array Value} {below : List Frame} {meth : Method} {c : Code} {H H0 : Heap} {locs : List Loc} {cells slots : Nat} {Q : State → Prop}
variable {cc : ByteArray} {pc : Nat} {ls : Array Slot} {rest : List Value} {D : va_G} {cy : Nat → ClassId} {A : Nat → Prop} {ad : Nat → Int → Nat} {sg : Nat → Int → Int}
theorem xg_100 (hexec : p.tables.exec = Jvm.exec) (hb : c.code = cc) {own : String} {index : Nat} (hw : ∀ w ∈ u_ws RX0 TX0 15, w.before args s = true) (hown : s.vm.findClass own = some m.cls) (hK : KC D cy s) (hR : RC D cy A ad sg H) {j : Int} (hd : dmC sg 0 j) (hlink : (Cond.fieldLink own index "Takinghall$Interest" "number" "I").before args s = true) {v : Int} (hv : sg 100 j = v) (d : decode cc pc = .ok (.getfield index, 3)) (kk : W p l e R s m args below meth c H locs cells slots Q (F0 m (pc + 3) ls (.int (iI (v)) :: rest))) : W p l e R s m args below meth c H locs cells slots Q (F0 m pc ls (.ref (ad 0 j) :: rest)) := by
  subst hv
  exact wr_get hexec hb hw hown hK hR hd (fs := fsC0 ad sg j) rfl rfl 0 (by decide) hlink rfl d kk
theorem xg_101 (hexec : p.tables.exec = Jvm.exec) (hb : c.code = cc) {own : String} {index : Nat} (hw : ∀ w ∈ u_ws RX0 TX0 15, w.before args s = true) (hown : s.vm.findClass own = some m.cls) (hK : KC D cy s) (hR : RC D cy A ad sg H) {j : Int} (hd : dmC sg 0 j) (hlink : (Cond.fieldLink own index "Takinghall$Interest" "kind" "I").before args s = true) {v : Int} (hv : sg 101 j = v) (d : decode cc pc = .ok (.getfield index, 3)) (kk : W p l e R s m args below meth c H locs cells slots Q (F0 m (pc + 3) ls (.int (iI (v)) :: rest))) : W p l e R s m args below meth c H locs cells slots Q (F0 m pc ls (.ref (ad 0 j) :: rest)) := by
  subst hv
  exact wr_get hexec hb hw hown hK hR hd (fs := fsC0 ad sg j) rfl rfl 1 (by decide) hlink rfl d kk
theorem xg_102 (hexec : p.tables.exec = Jvm.exec) (hb : c.code = cc) {own : String} {index : Nat} (hw : ∀ w ∈ u_ws RX0 TX0 15, w.before args s = true) (hown : s.vm.findClass own = some m.cls) (hK : KC D cy s) (hR : RC D cy A ad sg H) {j : Int} (hd : dmC sg 0 j) (hlink : (Cond.fieldLink own index "Takinghall$Interest" "plot" "LTakinghall$Plot;").before args s = true) {v : Int} (hv : sg 102 j = v) (d : decode cc pc = .ok (.getfield index, 3)) (kk : W p l e R s m args below meth c H locs cells slots Q (F0 m (pc + 3) ls (rv (ad 1) (v) :: rest))) : W p l e R s m args below meth c H locs cells slots Q (F0 m pc ls (.ref (ad 0 j) :: rest)) := by
  subst hv
  exact wr_get hexec hb hw hown hK hR hd (fs := fsC0 ad sg j) rfl rfl 2 (by decide) hlink rfl d kk
theorem xg_103 (hexec : p.tables.exec = Jvm.exec) (hb : c.code = cc) {own : String} {index : Nat} (hw : ∀ w ∈ u_ws RX0 TX0 15, w.before args s = true) (hown : s.vm.findClass own = some m.cls) (hK : KC D cy s) (hR : RC D cy A ad sg H) {j : Int} (hd : dmC sg 0 j) (hlink : (Cond.fieldLink own index "Takinghall$Interest" "person" "I").before args s = true) {v : Int} (hv : sg 103 j = v) (d : decode cc pc = .ok (.getfield index, 3)) (kk : W p l e R s m args below meth c H locs cells slots Q (F0 m (pc + 3) ls (.int (iI (v)) :: rest))) : W p l e R s m args below meth c H locs cells slots Q (F0 m pc ls (.ref (ad 0 j) :: rest)) := by
  subst hv
  exact wr_get hexec hb hw hown hK hR hd (fs := fsC0 ad sg j) rfl rfl 3 (by decide) hlink rfl d kk
theorem xg_104 (hexec : p.tables.exec = Jvm.exec) (hb : c.code = cc) {own : String} {index : Nat} (hw : ∀ w ∈ u_ws RX0 TX0 15, w.before args s = true) (hown : s.vm.findClass own = some m.cls) (hK : KC D cy s) (hR : RC D cy A ad sg H) {j : Int} (hd : dmC sg 0 j) (hlink : (Cond.fieldLink own index "Takinghall$Interest" "since" "I").before args s = true) {v : Int} (hv : sg 104 j = v) (d : decode cc pc = .ok (.getfield index, 3)) (kk : W p l e R s m args below meth c H locs cells slots Q (F0 m (pc + 3) ls (.int (iI (v)) :: rest))) : W p l e R s m args below meth c H locs cells slots Q (F0 m pc ls (.ref (ad 0 j) :: rest)) := by
  subst hv
  exact wr_get hexec hb hw hown hK hR hd (fs := fsC0 ad sg j) rfl rfl 4 (by decide) hlink rfl d kk
theorem xg_105 (hexec : p.tables.exec = Jvm.exec) (hb : c.code = cc) {own : String} {index : Nat} (hw : ∀ w ∈ u_ws RX0 TX0 15, w.before args s = true) (hown : s.vm.findClass own = some m.cls) (hK : KC D cy s) (hR : RC D cy A ad sg H) {j : Int} (hd : dmC sg 0 j) (hlink : (Cond.fieldLink own index "Takinghall$Interest" "measure" "I").before args s = true) {v : Int} (hv : sg 105 j = v) (d : decode cc pc = .ok (.getfield index, 3)) (kk : W p l e R s m args below meth c H locs cells slots Q (F0 m (pc + 3) ls (.int (iI (v)) :: rest))) : W p l e R s m args below meth c H locs cells slots Q (F0 m pc ls (.ref (ad 0 j) :: rest)) := by
  subst hv
  exact wr_get hexec hb hw hown hK hR hd (fs := fsC0 ad sg j) rfl rfl 5 (by decide) hlink rfl d kk
theorem xg_106 (hexec : p.tables.exec = Jvm.exec) (hb : c.code = cc) {own : String} {index : Nat} (hw : ∀ w ∈ u_ws RX0 TX0 15, w.before args s = true) (hown : s.vm.findClass own = some m.cls) (hK : KC D cy s) (hR : RC D cy A ad sg H) {j : Int} (hd : dmC sg 0 j) (hlink : (Cond.fieldLink own index "Takinghall$Interest" "profit" "I").before args s = true) {v : Int} (hv : sg 106 j = v) (d : decode cc pc = .ok (.getfield index, 3)) (kk : W p l e R s m args below meth c H locs cells slots Q (F0 m (pc + 3) ls (.int (iI (v)) :: rest))) : W p l e R s m args below meth c H locs cells slots Q (F0 m pc ls (.ref (ad 0 j) :: rest)) := by
  subst hv
  exact wr_get hexec hb hw hown hK hR hd (fs := fsC0 ad sg j) rfl rfl 6 (by decide) hlink rfl d kk
theorem xg_107 (hexec : p.tables.exec = Jvm.exec) (hb : c.code = cc) {own : String} {index : Nat} (hw : ∀ w ∈ u_ws RX0 TX0 15, w.before args s = true) (hown : s.vm.findClass own = some m.cls) (hK : KC D cy s) (hR : RC D cy A ad sg H) {j : Int} (hd : dmC sg 0 j) (hlink : (Cond.fieldLink own index "Takinghall$Interest" "noticeDay" "I").before args s = true) {v : Int} (hv : sg 107 j = v) (d : decode cc pc = .ok (.getfield index, 3)) (kk : W p l e R s m args below meth c H locs cells slots Q (F0 m (pc + 3) ls (.int (iI (v)) :: rest))) : W p l e R s m args below meth c H locs cells slots Q (F0 m pc ls (.ref (ad 0 j) :: rest)) := by
  subst hv
  exact wr_get hexec hb hw hown hK hR hd (fs := fsC0 ad sg j) rfl rfl 7 (by decide) hlink rfl d kk
theorem xp_107 (hexec : p.tables.exec = Jvm.exec) (hb : c.code = cc) {own : String} {index : Nat} (hw : ∀ w ∈ u_ws RX0 TX0 15, w.before args s = true) (hown : s.vm.findClass own = some m.cls) (hK : KC D cy s) (hR : RC D cy A ad sg H) (hS : va_S A H0 H locs) {j v : Int} (hd : dmC sg 0 j) (hlink : (Cond.fieldLink own index "Takinghall$Interest" "noticeDay" "I").before args s = true) (d : decode cc pc = .ok (.putfield index, 3)) (kk : ∀ (H1 : Heap) (locs1 : List Loc), RC D cy A ad (st sg 107 j v) H1 → va_S A H0 H1 locs1 → W p l e R s m args below meth c H1 locs1 cells slots Q (F0 m (pc + 3) ls rest)) : W p l e R s m args below meth c H locs cells slots Q (F0 m pc ls ((.int (iI v)) :: .ref (ad 0 j) :: rest)) := by
  exact wr_put hexec hb hw tyX0 tyX0_ok nmX0 hown hK hR hS hd (fs := fsC0 ad sg j) rfl rfl 7 (by decide) hlink rfl (ty := .int) (by decide +kernel) rfl rfl (by show 7 < 15; decide) (cu_107 cy ad sg j v) d (fun H1 locs1 h1 h2 => kk H1 locs1 (wr_to h1 (dm_st (by decide)) (fun _ _ _ => ⟨rfl, rfl⟩)) h2)
theorem xg_108 (hexec : p.tables.exec = Jvm.exec) (hb : c.code = cc) {own : String} {index : Nat} (hw : ∀ w ∈ u_ws RX0 TX0 15, w.before args s = true) (hown : s.vm.findClass own = some m.cls) (hK : KC D cy s) (hR : RC D cy A ad sg H) {j : Int} (hd : dmC sg 0 j) (hlink : (Cond.fieldLink own index "Takinghall$Interest" "hasObjected" "Z").before args s = true) {v : Int} (hv : sg 108 j = v) (d : decode cc pc = .ok (.getfield index, 3)) (kk : W p l e R s m args below meth c H locs cells slots Q (F0 m (pc + 3) ls (.int (iI (v)) :: rest))) : W p l e R s m args below meth c H locs cells slots Q (F0 m pc ls (.ref (ad 0 j) :: rest)) := by
  subst hv
  exact wr_get hexec hb hw hown hK hR hd (fs := fsC0 ad sg j) rfl rfl 8 (by decide) hlink rfl d kk
theorem xp_108 (hexec : p.tables.exec = Jvm.exec) (hb : c.code = cc) {own : String} {index : Nat} (hw : ∀ w ∈ u_ws RX0 TX0 15, w.before args s = true) (hown : s.vm.findClass own = some m.cls) (hK : KC D cy s) (hR : RC D cy A ad sg H) (hS : va_S A H0 H locs) {j v : Int} (hd : dmC sg 0 j) (hz : 0 ≤ v ∧ v ≤ 1) (hlink : (Cond.fieldLink own index "Takinghall$Interest" "hasObjected" "Z").before args s = true) (d : decode cc pc = .ok (.putfield index, 3)) (kk : ∀ (H1 : Heap) (locs1 : List Loc), RC D cy A ad (st sg 108 j v) H1 → va_S A H0 H1 locs1 → W p l e R s m args below meth c H1 locs1 cells slots Q (F0 m (pc + 3) ls rest)) : W p l e R s m args below meth c H locs cells slots Q (F0 m pc ls ((.int (iI v)) :: .ref (ad 0 j) :: rest)) := by
  exact wr_put hexec hb hw tyX0 tyX0_ok nmX0 hown hK hR hS hd (fs := fsC0 ad sg j) rfl rfl 8 (by decide) hlink rfl (ty := .boolean) (by decide +kernel) (by rcases (show v = 0 ∨ v = 1 by omega) with z | z <;> subst z <;> rfl) (by rcases (show v = 0 ∨ v = 1 by omega) with z | z <;> subst z <;> rfl) (by show 8 < 15; decide) (cu_108 cy ad sg j v) d (fun H1 locs1 h1 h2 => kk H1 locs1 (wr_to h1 (dm_st (by decide)) (fun _ _ _ => ⟨rfl, rfl⟩)) h2)
theorem xg_109 (hexec : p.tables.exec = Jvm.exec) (hb : c.code = cc) {own : String} {index : Nat} (hw : ∀ w ∈ u_ws RX0 TX0 15, w.before args s = true) (hown : s.vm.findClass own = some m.cls) (hK : KC D cy s) (hR : RC D cy A ad sg H) {j : Int} (hd : dmC sg 0 j) (hlink : (Cond.fieldLink own index "Takinghall$Interest" "isObjectionOpen" "Z").before args s = true) {v : Int} (hv : sg 109 j = v) (d : decode cc pc = .ok (.getfield index, 3)) (kk : W p l e R s m args below meth c H locs cells slots Q (F0 m (pc + 3) ls (.int (iI (v)) :: rest))) : W p l e R s m args below meth c H locs cells slots Q (F0 m pc ls (.ref (ad 0 j) :: rest)) := by
  subst hv
  exact wr_get hexec hb hw hown hK hR hd (fs := fsC0 ad sg j) rfl rfl 9 (by decide) hlink rfl d kk
theorem xp_109 (hexec : p.tables.exec = Jvm.exec) (hb : c.code = cc) {own : String} {index : Nat} (hw : ∀ w ∈ u_ws RX0 TX0 15, w.before args s = true) (hown : s.vm.findClass own = some m.cls) (hK : KC D cy s) (hR : RC D cy A ad sg H) (hS : va_S A H0 H locs) {j v : Int} (hd : dmC sg 0 j) (hz : 0 ≤ v ∧ v ≤ 1) (hlink : (Cond.fieldLink own index "Takinghall$Interest" "isObjectionOpen" "Z").before args s = true) (d : decode cc pc = .ok (.putfield index, 3)) (kk : ∀ (H1 : Heap) (locs1 : List Loc), RC D cy A ad (st sg 109 j v) H1 → va_S A H0 H1 locs1 → W p l e R s m args below meth c H1 locs1 cells slots Q (F0 m (pc + 3) ls rest)) : W p l e R s m args below meth c H locs cells slots Q (F0 m pc ls ((.int (iI v)) :: .ref (ad 0 j) :: rest)) := by
  exact wr_put hexec hb hw tyX0 tyX0_ok nmX0 hown hK hR hS hd (fs := fsC0 ad sg j) rfl rfl 9 (by decide) hlink rfl (ty := .boolean) (by decide +kernel) (by rcases (show v = 0 ∨ v = 1 by omega) with z | z <;> subst z <;> rfl) (by rcases (show v = 0 ∨ v = 1 by omega) with z | z <;> subst z <;> rfl) (by show 9 < 15; decide) (cu_109 cy ad sg j v) d (fun H1 locs1 h1 h2 => kk H1 locs1 (wr_to h1 (dm_st (by decide)) (fun _ _ _ => ⟨rfl, rfl⟩)) h2)
theorem xg_110 (hexec : p.tables.exec = Jvm.exec) (hb : c.code = cc) {own : String} {index : Nat} (hw : ∀ w ∈ u_ws RX0 TX0 15, w.before args s = true) (hown : s.vm.findClass own = some m.cls) (hK : KC D cy s) (hR : RC D cy A ad sg H) {j : Int} (hd : dmC sg 0 j) (hlink : (Cond.fieldLink own index "Takinghall$Interest" "sum" "J").before args s = true) {v : Int} (hv : sg 110 j = v) (d : decode cc pc = .ok (.getfield index, 3)) (kk : W p l e R s m args below meth c H locs cells slots Q (F0 m (pc + 3) ls (.long (lI (v)) :: rest))) : W p l e R s m args below meth c H locs cells slots Q (F0 m pc ls (.ref (ad 0 j) :: rest)) := by
  subst hv
  exact wr_get hexec hb hw hown hK hR hd (fs := fsC0 ad sg j) rfl rfl 10 (by decide) hlink rfl d kk
theorem xp_110 (hexec : p.tables.exec = Jvm.exec) (hb : c.code = cc) {own : String} {index : Nat} (hw : ∀ w ∈ u_ws RX0 TX0 15, w.before args s = true) (hown : s.vm.findClass own = some m.cls) (hK : KC D cy s) (hR : RC D cy A ad sg H) (hS : va_S A H0 H locs) {j v : Int} (hd : dmC sg 0 j) (hlink : (Cond.fieldLink own index "Takinghall$Interest" "sum" "J").before args s = true) (d : decode cc pc = .ok (.putfield index, 3)) (kk : ∀ (H1 : Heap) (locs1 : List Loc), RC D cy A ad (st sg 110 j v) H1 → va_S A H0 H1 locs1 → W p l e R s m args below meth c H1 locs1 cells slots Q (F0 m (pc + 3) ls rest)) : W p l e R s m args below meth c H locs cells slots Q (F0 m pc ls ((.long (lI v)) :: .ref (ad 0 j) :: rest)) := by
  exact wr_put hexec hb hw tyX0 tyX0_ok nmX0 hown hK hR hS hd (fs := fsC0 ad sg j) rfl rfl 10 (by decide) hlink rfl (ty := .long) (by decide +kernel) rfl rfl (by show 10 < 15; decide) (cu_110 cy ad sg j v) d (fun H1 locs1 h1 h2 => kk H1 locs1 (wr_to h1 (dm_st (by decide)) (fun _ _ _ => ⟨rfl, rfl⟩)) h2)
theorem xg_111 (hexec : p.tables.exec = Jvm.exec) (hb : c.code = cc) {own : String} {index : Nat} (hw : ∀ w ∈ u_ws RX0 TX0 15, w.before args s = true) (hown : s.vm.findClass own = some m.cls) (hK : KC D cy s) (hR : RC D cy A ad sg H) {j : Int} (hd : dmC sg 0 j) (hlink : (Cond.fieldLink own index "Takinghall$Interest" "advanced" "J").before args s = true) {v : Int} (hv : sg 111 j = v) (d : decode cc pc = .ok (.getfield index, 3)) (kk : W p l e R s m args below meth c H locs cells slots Q (F0 m (pc + 3) ls (.long (lI (v)) :: rest))) : W p l e R s m args below meth c H locs cells slots Q (F0 m pc ls (.ref (ad 0 j) :: rest)) := by
  subst hv
  exact wr_get hexec hb hw hown hK hR hd (fs := fsC0 ad sg j) rfl rfl 11 (by decide) hlink rfl d kk
theorem xp_111 (hexec : p.tables.exec = Jvm.exec) (hb : c.code = cc) {own : String} {index : Nat} (hw : ∀ w ∈ u_ws RX0 TX0 15, w.before args s = true) (hown : s.vm.findClass own = some m.cls) (hK : KC D cy s) (hR : RC D cy A ad sg H) (hS : va_S A H0 H locs) {j v : Int} (hd : dmC sg 0 j) (hlink : (Cond.fieldLink own index "Takinghall$Interest" "advanced" "J").before args s = true) (d : decode cc pc = .ok (.putfield index, 3)) (kk : ∀ (H1 : Heap) (locs1 : List Loc), RC D cy A ad (st sg 111 j v) H1 → va_S A H0 H1 locs1 → W p l e R s m args below meth c H1 locs1 cells slots Q (F0 m (pc + 3) ls rest)) : W p l e R s m args below meth c H locs cells slots Q (F0 m pc ls ((.long (lI v)) :: .ref (ad 0 j) :: rest)) := by
  exact wr_put hexec hb hw tyX0 tyX0_ok nmX0 hown hK hR hS hd (fs := fsC0 ad sg j) rfl rfl 11 (by decide) hlink rfl (ty := .long) (by decide +kernel) rfl rfl (by show 11 < 15; decide) (cu_111 cy ad sg j v) d (fun H1 locs1 h1 h2 => kk H1 locs1 (wr_to h1 (dm_st (by decide)) (fun _ _ _ => ⟨rfl, rfl⟩)) h2)
theorem xg_112 (hexec : p.tables.exec = Jvm.exec) (hb : c.code = cc) {own : String} {index : Nat} (hw : ∀ w ∈ u_ws RX0 TX0 15, w.before args s = true) (hown : s.vm.findClass own = some m.cls) (hK : KC D cy s) (hR : RC D cy A ad sg H) {j : Int} (hd : dmC sg 0 j) (hlink : (Cond.fieldLink own index "Takinghall$Interest" "advanceDay" "I").before args s = true) {v : Int} (hv : sg 112 j = v) (d : decode cc pc = .ok (.getfield index, 3)) (kk : W p l e R s m args below meth c H locs cells slots Q (F0 m (pc + 3) ls (.int (iI (v)) :: rest))) : W p l e R s m args below meth c H locs cells slots Q (F0 m pc ls (.ref (ad 0 j) :: rest)) := by
  subst hv
  exact wr_get hexec hb hw hown hK hR hd (fs := fsC0 ad sg j) rfl rfl 12 (by decide) hlink rfl d kk
theorem xp_112 (hexec : p.tables.exec = Jvm.exec) (hb : c.code = cc) {own : String} {index : Nat} (hw : ∀ w ∈ u_ws RX0 TX0 15, w.before args s = true) (hown : s.vm.findClass own = some m.cls) (hK : KC D cy s) (hR : RC D cy A ad sg H) (hS : va_S A H0 H locs) {j v : Int} (hd : dmC sg 0 j) (hlink : (Cond.fieldLink own index "Takinghall$Interest" "advanceDay" "I").before args s = true) (d : decode cc pc = .ok (.putfield index, 3)) (kk : ∀ (H1 : Heap) (locs1 : List Loc), RC D cy A ad (st sg 112 j v) H1 → va_S A H0 H1 locs1 → W p l e R s m args below meth c H1 locs1 cells slots Q (F0 m (pc + 3) ls rest)) : W p l e R s m args below meth c H locs cells slots Q (F0 m pc ls ((.int (iI v)) :: .ref (ad 0 j) :: rest)) := by
  exact wr_put hexec hb hw tyX0 tyX0_ok nmX0 hown hK hR hS hd (fs := fsC0 ad sg j) rfl rfl 12 (by decide) hlink rfl (ty := .int) (by decide +kernel) rfl rfl (by show 12 < 15; decide) (cu_112 cy ad sg j v) d (fun H1 locs1 h1 h2 => kk H1 locs1 (wr_to h1 (dm_st (by decide)) (fun _ _ _ => ⟨rfl, rfl⟩)) h2)
theorem xg_113 (hexec : p.tables.exec = Jvm.exec) (hb : c.code = cc) {own : String} {index : Nat} (hw : ∀ w ∈ u_ws RX0 TX0 15, w.before args s = true) (hown : s.vm.findClass own = some m.cls) (hK : KC D cy s) (hR : RC D cy A ad sg H) {j : Int} (hd : dmC sg 0 j) (hlink : (Cond.fieldLink own index "Takinghall$Interest" "settled" "J").before args s = true) {v : Int} (hv : sg 113 j = v) (d : decode cc pc = .ok (.getfield index, 3)) (kk : W p l e R s m args below meth c H locs cells slots Q (F0 m (pc + 3) ls (.long (lI (v)) :: rest))) : W p l e R s m args below meth c H locs cells slots Q (F0 m pc ls (.ref (ad 0 j) :: rest)) := by
  subst hv
  exact wr_get hexec hb hw hown hK hR hd (fs := fsC0 ad sg j) rfl rfl 13 (by decide) hlink rfl d kk
theorem xp_113 (hexec : p.tables.exec = Jvm.exec) (hb : c.code = cc) {own : String} {index : Nat} (hw : ∀ w ∈ u_ws RX0 TX0 15, w.before args s = true) (hown : s.vm.findClass own = some m.cls) (hK : KC D cy s) (hR : RC D cy A ad sg H) (hS : va_S A H0 H locs) {j v : Int} (hd : dmC sg 0 j) (hlink : (Cond.fieldLink own index "Takinghall$Interest" "settled" "J").before args s = true) (d : decode cc pc = .ok (.putfield index, 3)) (kk : ∀ (H1 : Heap) (locs1 : List Loc), RC D cy A ad (st sg 113 j v) H1 → va_S A H0 H1 locs1 → W p l e R s m args below meth c H1 locs1 cells slots Q (F0 m (pc + 3) ls rest)) : W p l e R s m args below meth c H locs cells slots Q (F0 m pc ls ((.long (lI v)) :: .ref (ad 0 j) :: rest)) := by
  exact wr_put hexec hb hw tyX0 tyX0_ok nmX0 hown hK hR hS hd (fs := fsC0 ad sg j) rfl rfl 13 (by decide) hlink rfl (ty := .long) (by decide +kernel) rfl rfl (by show 13 < 15; decide) (cu_113 cy ad sg j v) d (fun H1 locs1 h1 h2 => kk H1 locs1 (wr_to h1 (dm_st (by decide)) (fun _ _ _ => ⟨rfl, rfl⟩)) h2)
theorem xg_114 (hexec : p.tables.exec = Jvm.exec) (hb : c.code = cc) {own : String} {index : Nat} (hw : ∀ w ∈ u_ws RX0 TX0 15, w.before args s = true) (hown : s.vm.findClass own = some m.cls) (hK : KC D cy s) (hR : RC D cy A ad sg H) {j : Int} (hd : dmC sg 0 j) (hlink : (Cond.fieldLink own index "Takinghall$Interest" "isSettled" "Z").before args s = true) {v : Int} (hv : sg 114 j = v) (d : decode cc pc = .ok (.getfield index, 3)) (kk : W p l e R s m args below meth c H locs cells slots Q (F0 m (pc + 3) ls (.int (iI (v)) :: rest))) : W p l e R s m args below meth c H locs cells slots Q (F0 m pc ls (.ref (ad 0 j) :: rest)) := by
  subst hv
  exact wr_get hexec hb hw hown hK hR hd (fs := fsC0 ad sg j) rfl rfl 14 (by decide) hlink rfl d kk
theorem xp_114 (hexec : p.tables.exec = Jvm.exec) (hb : c.code = cc) {own : String} {index : Nat} (hw : ∀ w ∈ u_ws RX0 TX0 15, w.before args s = true) (hown : s.vm.findClass own = some m.cls) (hK : KC D cy s) (hR : RC D cy A ad sg H) (hS : va_S A H0 H locs) {j v : Int} (hd : dmC sg 0 j) (hz : 0 ≤ v ∧ v ≤ 1) (hlink : (Cond.fieldLink own index "Takinghall$Interest" "isSettled" "Z").before args s = true) (d : decode cc pc = .ok (.putfield index, 3)) (kk : ∀ (H1 : Heap) (locs1 : List Loc), RC D cy A ad (st sg 114 j v) H1 → va_S A H0 H1 locs1 → W p l e R s m args below meth c H1 locs1 cells slots Q (F0 m (pc + 3) ls rest)) : W p l e R s m args below meth c H locs cells slots Q (F0 m pc ls ((.int (iI v)) :: .ref (ad 0 j) :: rest)) := by
  exact wr_put hexec hb hw tyX0 tyX0_ok nmX0 hown hK hR hS hd (fs := fsC0 ad sg j) rfl rfl 14 (by decide) hlink rfl (ty := .boolean) (by decide +kernel) (by rcases (show v = 0 ∨ v = 1 by omega) with z | z <;> subst z <;> rfl) (by rcases (show v = 0 ∨ v = 1 by omega) with z | z <;> subst z <;> rfl) (by show 14 < 15; decide) (cu_114 cy ad sg j v) d (fun H1 locs1 h1 h2 => kk H1 locs1 (wr_to h1 (dm_st (by decide)) (fun _ _ _ => ⟨rfl, rfl⟩)) h2)
theorem xg_200 (hexec : p.tables.exec = Jvm.exec) (hb : c.code = cc) {own : String} {index : Nat} (hw : ∀ w ∈ u_ws RX1 TX1 11, w.before args s = true) (hown : s.vm.findClass own = some m.cls) (hK : KC D cy s) (hR : RC D cy A ad sg H) {j : Int} (hd : dmC sg 1 j) (hlink : (Cond.fieldLink own index "Takinghall$Plot" "number" "I").before args s = true) {v : Int} (hv : sg 200 j = v) (d : decode cc pc = .ok (.getfield index, 3)) (kk : W p l e R s m args below meth c H locs cells slots Q (F0 m (pc + 3) ls (.int (iI (v)) :: rest))) : W p l e R s m args below meth c H locs cells slots Q (F0 m pc ls (.ref (ad 1 j) :: rest)) := by
  subst hv
  exact wr_get hexec hb hw hown hK hR hd (fs := fsC1 ad sg j) rfl rfl 0 (by decide) hlink rfl d kk
theorem xg_201 (hexec : p.tables.exec = Jvm.exec) (hb : c.code = cc) {own : String} {index : Nat} (hw : ∀ w ∈ u_ws RX1 TX1 11, w.before args s = true) (hown : s.vm.findClass own = some m.cls) (hK : KC D cy s) (hR : RC D cy A ad sg H) {j : Int} (hd : dmC sg 1 j) (hlink : (Cond.fieldLink own index "Takinghall$Plot" "area" "I").before args s = true) {v : Int} (hv : sg 201 j = v) (d : decode cc pc = .ok (.getfield index, 3)) (kk : W p l e R s m args below meth c H locs cells slots Q (F0 m (pc + 3) ls (.int (iI (v)) :: rest))) : W p l e R s m args below meth c H locs cells slots Q (F0 m pc ls (.ref (ad 1 j) :: rest)) := by
  subst hv
  exact wr_get hexec hb hw hown hK hR hd (fs := fsC1 ad sg j) rfl rfl 1 (by decide) hlink rfl d kk
theorem xp_201 (hexec : p.tables.exec = Jvm.exec) (hb : c.code = cc) {own : String} {index : Nat} (hw : ∀ w ∈ u_ws RX1 TX1 11, w.before args s = true) (hown : s.vm.findClass own = some m.cls) (hK : KC D cy s) (hR : RC D cy A ad sg H) (hS : va_S A H0 H locs) {j v : Int} (hd : dmC sg 1 j) (hlink : (Cond.fieldLink own index "Takinghall$Plot" "area" "I").before args s = true) (d : decode cc pc = .ok (.putfield index, 3)) (kk : ∀ (H1 : Heap) (locs1 : List Loc), RC D cy A ad (st sg 201 j v) H1 → va_S A H0 H1 locs1 → W p l e R s m args below meth c H1 locs1 cells slots Q (F0 m (pc + 3) ls rest)) : W p l e R s m args below meth c H locs cells slots Q (F0 m pc ls ((.int (iI v)) :: .ref (ad 1 j) :: rest)) := by
  exact wr_put hexec hb hw tyX1 tyX1_ok nmX1 hown hK hR hS hd (fs := fsC1 ad sg j) rfl rfl 1 (by decide) hlink rfl (ty := .int) (by decide +kernel) rfl rfl (by show 1 < 11; decide) (cu_201 cy ad sg j v) d (fun H1 locs1 h1 h2 => kk H1 locs1 (wr_to h1 (dm_st (by decide)) (fun _ _ _ => ⟨rfl, rfl⟩)) h2)
theorem xg_202 (hexec : p.tables.exec = Jvm.exec) (hb : c.code = cc) {own : String} {index : Nat} (hw : ∀ w ∈ u_ws RX1 TX1 11, w.before args s = true) (hown : s.vm.findClass own = some m.cls) (hK : KC D cy s) (hR : RC D cy A ad sg H) {j : Int} (hd : dmC sg 1 j) (hlink : (Cond.fieldLink own index "Takinghall$Plot" "use" "I").before args s = true) {v : Int} (hv : sg 202 j = v) (d : decode cc pc = .ok (.getfield index, 3)) (kk : W p l e R s m args below meth c H locs cells slots Q (F0 m (pc + 3) ls (.int (iI (v)) :: rest))) : W p l e R s m args below meth c H locs cells slots Q (F0 m pc ls (.ref (ad 1 j) :: rest)) := by
  subst hv
  exact wr_get hexec hb hw hown hK hR hd (fs := fsC1 ad sg j) rfl rfl 2 (by decide) hlink rfl d kk
theorem xp_202 (hexec : p.tables.exec = Jvm.exec) (hb : c.code = cc) {own : String} {index : Nat} (hw : ∀ w ∈ u_ws RX1 TX1 11, w.before args s = true) (hown : s.vm.findClass own = some m.cls) (hK : KC D cy s) (hR : RC D cy A ad sg H) (hS : va_S A H0 H locs) {j v : Int} (hd : dmC sg 1 j) (hlink : (Cond.fieldLink own index "Takinghall$Plot" "use" "I").before args s = true) (d : decode cc pc = .ok (.putfield index, 3)) (kk : ∀ (H1 : Heap) (locs1 : List Loc), RC D cy A ad (st sg 202 j v) H1 → va_S A H0 H1 locs1 → W p l e R s m args below meth c H1 locs1 cells slots Q (F0 m (pc + 3) ls rest)) : W p l e R s m args below meth c H locs cells slots Q (F0 m pc ls ((.int (iI v)) :: .ref (ad 1 j) :: rest)) := by
  exact wr_put hexec hb hw tyX1 tyX1_ok nmX1 hown hK hR hS hd (fs := fsC1 ad sg j) rfl rfl 2 (by decide) hlink rfl (ty := .int) (by decide +kernel) rfl rfl (by show 2 < 11; decide) (cu_202 cy ad sg j v) d (fun H1 locs1 h1 h2 => kk H1 locs1 (wr_to h1 (dm_st (by decide)) (fun _ _ _ => ⟨rfl, rfl⟩)) h2)
theorem xg_203 (hexec : p.tables.exec = Jvm.exec) (hb : c.code = cc) {own : String} {index : Nat} (hw : ∀ w ∈ u_ws RX1 TX1 11, w.before args s = true) (hown : s.vm.findClass own = some m.cls) (hK : KC D cy s) (hR : RC D cy A ad sg H) {j : Int} (hd : dmC sg 1 j) (hlink : (Cond.fieldLink own index "Takinghall$Plot" "state" "I").before args s = true) {v : Int} (hv : sg 203 j = v) (d : decode cc pc = .ok (.getfield index, 3)) (kk : W p l e R s m args below meth c H locs cells slots Q (F0 m (pc + 3) ls (.int (iI (v)) :: rest))) : W p l e R s m args below meth c H locs cells slots Q (F0 m pc ls (.ref (ad 1 j) :: rest)) := by
  subst hv
  exact wr_get hexec hb hw hown hK hR hd (fs := fsC1 ad sg j) rfl rfl 3 (by decide) hlink rfl d kk
theorem xp_203 (hexec : p.tables.exec = Jvm.exec) (hb : c.code = cc) {own : String} {index : Nat} (hw : ∀ w ∈ u_ws RX1 TX1 11, w.before args s = true) (hown : s.vm.findClass own = some m.cls) (hK : KC D cy s) (hR : RC D cy A ad sg H) (hS : va_S A H0 H locs) {j v : Int} (hd : dmC sg 1 j) (hlink : (Cond.fieldLink own index "Takinghall$Plot" "state" "I").before args s = true) (d : decode cc pc = .ok (.putfield index, 3)) (kk : ∀ (H1 : Heap) (locs1 : List Loc), RC D cy A ad (st sg 203 j v) H1 → va_S A H0 H1 locs1 → W p l e R s m args below meth c H1 locs1 cells slots Q (F0 m (pc + 3) ls rest)) : W p l e R s m args below meth c H locs cells slots Q (F0 m pc ls ((.int (iI v)) :: .ref (ad 1 j) :: rest)) := by
  exact wr_put hexec hb hw tyX1 tyX1_ok nmX1 hown hK hR hS hd (fs := fsC1 ad sg j) rfl rfl 3 (by decide) hlink rfl (ty := .int) (by decide +kernel) rfl rfl (by show 3 < 11; decide) (cu_203 cy ad sg j v) d (fun H1 locs1 h1 h2 => kk H1 locs1 (wr_to h1 (dm_st (by decide)) (fun _ _ _ => ⟨rfl, rfl⟩)) h2)
theorem xg_204 (hexec : p.tables.exec = Jvm.exec) (hb : c.code = cc) {own : String} {index : Nat} (hw : ∀ w ∈ u_ws RX1 TX1 11, w.before args s = true) (hown : s.vm.findClass own = some m.cls) (hK : KC D cy s) (hR : RC D cy A ad sg H) {j : Int} (hd : dmC sg 1 j) (hlink : (Cond.fieldLink own index "Takinghall$Plot" "scheme" "LTakinghall$Scheme;").before args s = true) {v : Int} (hv : sg 204 j = v) (d : decode cc pc = .ok (.getfield index, 3)) (kk : W p l e R s m args below meth c H locs cells slots Q (F0 m (pc + 3) ls (rv (ad 3) (v) :: rest))) : W p l e R s m args below meth c H locs cells slots Q (F0 m pc ls (.ref (ad 1 j) :: rest)) := by
  subst hv
  exact wr_get hexec hb hw hown hK hR hd (fs := fsC1 ad sg j) rfl rfl 4 (by decide) hlink rfl d kk
theorem xp_204 (hexec : p.tables.exec = Jvm.exec) (hb : c.code = cc) {own : String} {index : Nat} (hw : ∀ w ∈ u_ws RX1 TX1 11, w.before args s = true) (hown : s.vm.findClass own = some m.cls) (hK : KC D cy s) (hR : RC D cy A ad sg H) (hS : va_S A H0 H locs) {j v : Int} (hd : dmC sg 1 j) {x : Value} (hx : x = rv (ad 3) v) (hlink : (Cond.fieldLink own index "Takinghall$Plot" "scheme" "LTakinghall$Scheme;").before args s = true) (d : decode cc pc = .ok (.putfield index, 3)) (kk : ∀ (H1 : Heap) (locs1 : List Loc), RC D cy A ad (st sg 204 j v) H1 → va_S A H0 H1 locs1 → W p l e R s m args below meth c H1 locs1 cells slots Q (F0 m (pc + 3) ls rest)) : W p l e R s m args below meth c H locs cells slots Q (F0 m pc ls (x :: .ref (ad 1 j) :: rest)) := by
  subst hx
  exact wr_put hexec hb hw tyX1 tyX1_ok nmX1 hown hK hR hS hd (fs := fsC1 ad sg j) rfl rfl 4 (by decide) hlink rfl (ty := (.object "Takinghall$Scheme")) (by decide +kernel) (rv_fit _ _ _).1 (rv_fit _ _ _).2 (by show 4 < 11; decide) (cu_204 cy ad sg j v) d (fun H1 locs1 h1 h2 => kk H1 locs1 (wr_to h1 (dm_st (by decide)) (fun _ _ _ => ⟨rfl, rfl⟩)) h2)
theorem xg_205 (hexec : p.tables.exec = Jvm.exec) (hb : c.code = cc) {own : String} {index : Nat} (hw : ∀ w ∈ u_ws RX1 TX1 11, w.before args s = true) (hown : s.vm.findClass own = some m.cls) (hK : KC D cy s) (hR : RC D cy A ad sg H) {j : Int} (hd : dmC sg 1 j) (hlink : (Cond.fieldLink own index "Takinghall$Plot" "part" "I").before args s = true) {v : Int} (hv : sg 205 j = v) (d : decode cc pc = .ok (.getfield index, 3)) (kk : W p l e R s m args below meth c H locs cells slots Q (F0 m (pc + 3) ls (.int (iI (v)) :: rest))) : W p l e R s m args below meth c H locs cells slots Q (F0 m pc ls (.ref (ad 1 j) :: rest)) := by
  subst hv
  exact wr_get hexec hb hw hown hK hR hd (fs := fsC1 ad sg j) rfl rfl 5 (by decide) hlink rfl d kk
theorem xp_205 (hexec : p.tables.exec = Jvm.exec) (hb : c.code = cc) {own : String} {index : Nat} (hw : ∀ w ∈ u_ws RX1 TX1 11, w.before args s = true) (hown : s.vm.findClass own = some m.cls) (hK : KC D cy s) (hR : RC D cy A ad sg H) (hS : va_S A H0 H locs) {j v : Int} (hd : dmC sg 1 j) (hlink : (Cond.fieldLink own index "Takinghall$Plot" "part" "I").before args s = true) (d : decode cc pc = .ok (.putfield index, 3)) (kk : ∀ (H1 : Heap) (locs1 : List Loc), RC D cy A ad (st sg 205 j v) H1 → va_S A H0 H1 locs1 → W p l e R s m args below meth c H1 locs1 cells slots Q (F0 m (pc + 3) ls rest)) : W p l e R s m args below meth c H locs cells slots Q (F0 m pc ls ((.int (iI v)) :: .ref (ad 1 j) :: rest)) := by
  exact wr_put hexec hb hw tyX1 tyX1_ok nmX1 hown hK hR hS hd (fs := fsC1 ad sg j) rfl rfl 5 (by decide) hlink rfl (ty := .int) (by decide +kernel) rfl rfl (by show 5 < 11; decide) (cu_205 cy ad sg j v) d (fun H1 locs1 h1 h2 => kk H1 locs1 (wr_to h1 (dm_st (by decide)) (fun _ _ _ => ⟨rfl, rfl⟩)) h2)
theorem xg_206 (hexec : p.tables.exec = Jvm.exec) (hb : c.code = cc) {own : String} {index : Nat} (hw : ∀ w ∈ u_ws RX1 TX1 11, w.before args s = true) (hown : s.vm.findClass own = some m.cls) (hK : KC D cy s) (hR : RC D cy A ad sg H) {j : Int} (hd : dmC sg 1 j) (hlink : (Cond.fieldLink own index "Takinghall$Plot" "valueDay" "I").before args s = true) {v : Int} (hv : sg 206 j = v) (d : decode cc pc = .ok (.getfield index, 3)) (kk : W p l e R s m args below meth c H locs cells slots Q (F0 m (pc + 3) ls (.int (iI (v)) :: rest))) : W p l e R s m args below meth c H locs cells slots Q (F0 m pc ls (.ref (ad 1 j) :: rest)) := by
  subst hv
  exact wr_get hexec hb hw hown hK hR hd (fs := fsC1 ad sg j) rfl rfl 6 (by decide) hlink rfl d kk
theorem xp_206 (hexec : p.tables.exec = Jvm.exec) (hb : c.code = cc) {own : String} {index : Nat} (hw : ∀ w ∈ u_ws RX1 TX1 11, w.before args s = true) (hown : s.vm.findClass own = some m.cls) (hK : KC D cy s) (hR : RC D cy A ad sg H) (hS : va_S A H0 H locs) {j v : Int} (hd : dmC sg 1 j) (hlink : (Cond.fieldLink own index "Takinghall$Plot" "valueDay" "I").before args s = true) (d : decode cc pc = .ok (.putfield index, 3)) (kk : ∀ (H1 : Heap) (locs1 : List Loc), RC D cy A ad (st sg 206 j v) H1 → va_S A H0 H1 locs1 → W p l e R s m args below meth c H1 locs1 cells slots Q (F0 m (pc + 3) ls rest)) : W p l e R s m args below meth c H locs cells slots Q (F0 m pc ls ((.int (iI v)) :: .ref (ad 1 j) :: rest)) := by
  exact wr_put hexec hb hw tyX1 tyX1_ok nmX1 hown hK hR hS hd (fs := fsC1 ad sg j) rfl rfl 6 (by decide) hlink rfl (ty := .int) (by decide +kernel) rfl rfl (by show 6 < 11; decide) (cu_206 cy ad sg j v) d (fun H1 locs1 h1 h2 => kk H1 locs1 (wr_to h1 (dm_st (by decide)) (fun _ _ _ => ⟨rfl, rfl⟩)) h2)
theorem xg_207 (hexec : p.tables.exec = Jvm.exec) (hb : c.code = cc) {own : String} {index : Nat} (hw : ∀ w ∈ u_ws RX1 TX1 11, w.before args s = true) (hown : s.vm.findClass own = some m.cls) (hK : KC D cy s) (hR : RC D cy A ad sg H) {j : Int} (hd : dmC sg 1 j) (hlink : (Cond.fieldLink own index "Takinghall$Plot" "valuePrice" "LTakinghall$Price;").before args s = true) {v : Int} (hv : sg 207 j = v) (d : decode cc pc = .ok (.getfield index, 3)) (kk : W p l e R s m args below meth c H locs cells slots Q (F0 m (pc + 3) ls (rv (ad 2) (v) :: rest))) : W p l e R s m args below meth c H locs cells slots Q (F0 m pc ls (.ref (ad 1 j) :: rest)) := by
  subst hv
  exact wr_get hexec hb hw hown hK hR hd (fs := fsC1 ad sg j) rfl rfl 7 (by decide) hlink rfl d kk
theorem xp_207 (hexec : p.tables.exec = Jvm.exec) (hb : c.code = cc) {own : String} {index : Nat} (hw : ∀ w ∈ u_ws RX1 TX1 11, w.before args s = true) (hown : s.vm.findClass own = some m.cls) (hK : KC D cy s) (hR : RC D cy A ad sg H) (hS : va_S A H0 H locs) {j v : Int} (hd : dmC sg 1 j) {x : Value} (hx : x = rv (ad 2) v) (hlink : (Cond.fieldLink own index "Takinghall$Plot" "valuePrice" "LTakinghall$Price;").before args s = true) (d : decode cc pc = .ok (.putfield index, 3)) (kk : ∀ (H1 : Heap) (locs1 : List Loc), RC D cy A ad (st sg 207 j v) H1 → va_S A H0 H1 locs1 → W p l e R s m args below meth c H1 locs1 cells slots Q (F0 m (pc + 3) ls rest)) : W p l e R s m args below meth c H locs cells slots Q (F0 m pc ls (x :: .ref (ad 1 j) :: rest)) := by
  subst hx
  exact wr_put hexec hb hw tyX1 tyX1_ok nmX1 hown hK hR hS hd (fs := fsC1 ad sg j) rfl rfl 7 (by decide) hlink rfl (ty := (.object "Takinghall$Price")) (by decide +kernel) (rv_fit _ _ _).1 (rv_fit _ _ _).2 (by show 7 < 11; decide) (cu_207 cy ad sg j v) d (fun H1 locs1 h1 h2 => kk H1 locs1 (wr_to h1 (dm_st (by decide)) (fun _ _ _ => ⟨rfl, rfl⟩)) h2)
theorem xg_208 (hexec : p.tables.exec = Jvm.exec) (hb : c.code = cc) {own : String} {index : Nat} (hw : ∀ w ∈ u_ws RX1 TX1 11, w.before args s = true) (hown : s.vm.findClass own = some m.cls) (hK : KC D cy s) (hR : RC D cy A ad sg H) {j : Int} (hd : dmC sg 1 j) (hlink : (Cond.fieldLink own index "Takinghall$Plot" "hasWorks" "Z").before args s = true) {v : Int} (hv : sg 208 j = v) (d : decode cc pc = .ok (.getfield index, 3)) (kk : W p l e R s m args below meth c H locs cells slots Q (F0 m (pc + 3) ls (.int (iI (v)) :: rest))) : W p l e R s m args below meth c H locs cells slots Q (F0 m pc ls (.ref (ad 1 j) :: rest)) := by
  subst hv
  exact wr_get hexec hb hw hown hK hR hd (fs := fsC1 ad sg j) rfl rfl 8 (by decide) hlink rfl d kk
theorem xp_208 (hexec : p.tables.exec = Jvm.exec) (hb : c.code = cc) {own : String} {index : Nat} (hw : ∀ w ∈ u_ws RX1 TX1 11, w.before args s = true) (hown : s.vm.findClass own = some m.cls) (hK : KC D cy s) (hR : RC D cy A ad sg H) (hS : va_S A H0 H locs) {j v : Int} (hd : dmC sg 1 j) (hz : 0 ≤ v ∧ v ≤ 1) (hlink : (Cond.fieldLink own index "Takinghall$Plot" "hasWorks" "Z").before args s = true) (d : decode cc pc = .ok (.putfield index, 3)) (kk : ∀ (H1 : Heap) (locs1 : List Loc), RC D cy A ad (st sg 208 j v) H1 → va_S A H0 H1 locs1 → W p l e R s m args below meth c H1 locs1 cells slots Q (F0 m (pc + 3) ls rest)) : W p l e R s m args below meth c H locs cells slots Q (F0 m pc ls ((.int (iI v)) :: .ref (ad 1 j) :: rest)) := by
  exact wr_put hexec hb hw tyX1 tyX1_ok nmX1 hown hK hR hS hd (fs := fsC1 ad sg j) rfl rfl 8 (by decide) hlink rfl (ty := .boolean) (by decide +kernel) (by rcases (show v = 0 ∨ v = 1 by omega) with z | z <;> subst z <;> rfl) (by rcases (show v = 0 ∨ v = 1 by omega) with z | z <;> subst z <;> rfl) (by show 8 < 11; decide) (cu_208 cy ad sg j v) d (fun H1 locs1 h1 h2 => kk H1 locs1 (wr_to h1 (dm_st (by decide)) (fun _ _ _ => ⟨rfl, rfl⟩)) h2)
theorem xg_209 (hexec : p.tables.exec = Jvm.exec) (hb : c.code = cc) {own : String} {index : Nat} (hw : ∀ w ∈ u_ws RX1 TX1 11, w.before args s = true) (hown : s.vm.findClass own = some m.cls) (hK : KC D cy s) (hR : RC D cy A ad sg H) {j : Int} (hd : dmC sg 1 j) (hlink : (Cond.fieldLink own index "Takinghall$Plot" "offeredTo" "LTakinghall$Interest;").before args s = true) {v : Int} (hv : sg 209 j = v) (d : decode cc pc = .ok (.getfield index, 3)) (kk : W p l e R s m args below meth c H locs cells slots Q (F0 m (pc + 3) ls (rv (ad 0) (v) :: rest))) : W p l e R s m args below meth c H locs cells slots Q (F0 m pc ls (.ref (ad 1 j) :: rest)) := by
  subst hv
  exact wr_get hexec hb hw hown hK hR hd (fs := fsC1 ad sg j) rfl rfl 9 (by decide) hlink rfl d kk
theorem xp_209 (hexec : p.tables.exec = Jvm.exec) (hb : c.code = cc) {own : String} {index : Nat} (hw : ∀ w ∈ u_ws RX1 TX1 11, w.before args s = true) (hown : s.vm.findClass own = some m.cls) (hK : KC D cy s) (hR : RC D cy A ad sg H) (hS : va_S A H0 H locs) {j v : Int} (hd : dmC sg 1 j) {x : Value} (hx : x = rv (ad 0) v) (hlink : (Cond.fieldLink own index "Takinghall$Plot" "offeredTo" "LTakinghall$Interest;").before args s = true) (d : decode cc pc = .ok (.putfield index, 3)) (kk : ∀ (H1 : Heap) (locs1 : List Loc), RC D cy A ad (st sg 209 j v) H1 → va_S A H0 H1 locs1 → W p l e R s m args below meth c H1 locs1 cells slots Q (F0 m (pc + 3) ls rest)) : W p l e R s m args below meth c H locs cells slots Q (F0 m pc ls (x :: .ref (ad 1 j) :: rest)) := by
  subst hx
  exact wr_put hexec hb hw tyX1 tyX1_ok nmX1 hown hK hR hS hd (fs := fsC1 ad sg j) rfl rfl 9 (by decide) hlink rfl (ty := (.object "Takinghall$Interest")) (by decide +kernel) (rv_fit _ _ _).1 (rv_fit _ _ _).2 (by show 9 < 11; decide) (cu_209 cy ad sg j v) d (fun H1 locs1 h1 h2 => kk H1 locs1 (wr_to h1 (dm_st (by decide)) (fun _ _ _ => ⟨rfl, rfl⟩)) h2)
theorem xg_210 (hexec : p.tables.exec = Jvm.exec) (hb : c.code = cc) {own : String} {index : Nat} (hw : ∀ w ∈ u_ws RX1 TX1 11, w.before args s = true) (hown : s.vm.findClass own = some m.cls) (hK : KC D cy s) (hR : RC D cy A ad sg H) {j : Int} (hd : dmC sg 1 j) (hlink : (Cond.fieldLink own index "Takinghall$Plot" "offerPrice" "I").before args s = true) {v : Int} (hv : sg 210 j = v) (d : decode cc pc = .ok (.getfield index, 3)) (kk : W p l e R s m args below meth c H locs cells slots Q (F0 m (pc + 3) ls (.int (iI (v)) :: rest))) : W p l e R s m args below meth c H locs cells slots Q (F0 m pc ls (.ref (ad 1 j) :: rest)) := by
  subst hv
  exact wr_get hexec hb hw hown hK hR hd (fs := fsC1 ad sg j) rfl rfl 10 (by decide) hlink rfl d kk
theorem xp_210 (hexec : p.tables.exec = Jvm.exec) (hb : c.code = cc) {own : String} {index : Nat} (hw : ∀ w ∈ u_ws RX1 TX1 11, w.before args s = true) (hown : s.vm.findClass own = some m.cls) (hK : KC D cy s) (hR : RC D cy A ad sg H) (hS : va_S A H0 H locs) {j v : Int} (hd : dmC sg 1 j) (hlink : (Cond.fieldLink own index "Takinghall$Plot" "offerPrice" "I").before args s = true) (d : decode cc pc = .ok (.putfield index, 3)) (kk : ∀ (H1 : Heap) (locs1 : List Loc), RC D cy A ad (st sg 210 j v) H1 → va_S A H0 H1 locs1 → W p l e R s m args below meth c H1 locs1 cells slots Q (F0 m (pc + 3) ls rest)) : W p l e R s m args below meth c H locs cells slots Q (F0 m pc ls ((.int (iI v)) :: .ref (ad 1 j) :: rest)) := by
  exact wr_put hexec hb hw tyX1 tyX1_ok nmX1 hown hK hR hS hd (fs := fsC1 ad sg j) rfl rfl 10 (by decide) hlink rfl (ty := .int) (by decide +kernel) rfl rfl (by show 10 < 11; decide) (cu_210 cy ad sg j v) d (fun H1 locs1 h1 h2 => kk H1 locs1 (wr_to h1 (dm_st (by decide)) (fun _ _ _ => ⟨rfl, rfl⟩)) h2)
theorem xg_300 (hexec : p.tables.exec = Jvm.exec) (hb : c.code = cc) {own : String} {index : Nat} (hw : ∀ w ∈ u_ws RX2 TX2 3, w.before args s = true) (hown : s.vm.findClass own = some m.cls) (hK : KC D cy s) (hR : RC D cy A ad sg H) {j : Int} (hd : dmC sg 2 j) (hlink : (Cond.fieldLink own index "Takinghall$Price" "day" "I").before args s = true) {v : Int} (hv : sg 300 j = v) (d : decode cc pc = .ok (.getfield index, 3)) (kk : W p l e R s m args below meth c H locs cells slots Q (F0 m (pc + 3) ls (.int (iI (v)) :: rest))) : W p l e R s m args below meth c H locs cells slots Q (F0 m pc ls (.ref (ad 2 j) :: rest)) := by
  subst hv
  exact wr_get hexec hb hw hown hK hR hd (fs := fsC2 ad sg j) rfl rfl 0 (by decide) hlink rfl d kk
theorem xg_301 (hexec : p.tables.exec = Jvm.exec) (hb : c.code = cc) {own : String} {index : Nat} (hw : ∀ w ∈ u_ws RX2 TX2 3, w.before args s = true) (hown : s.vm.findClass own = some m.cls) (hK : KC D cy s) (hR : RC D cy A ad sg H) {j : Int} (hd : dmC sg 2 j) (hlink : (Cond.fieldLink own index "Takinghall$Price" "cents" "I").before args s = true) {v : Int} (hv : sg 301 j = v) (d : decode cc pc = .ok (.getfield index, 3)) (kk : W p l e R s m args below meth c H locs cells slots Q (F0 m (pc + 3) ls (.int (iI (v)) :: rest))) : W p l e R s m args below meth c H locs cells slots Q (F0 m pc ls (.ref (ad 2 j) :: rest)) := by
  subst hv
  exact wr_get hexec hb hw hown hK hR hd (fs := fsC2 ad sg j) rfl rfl 1 (by decide) hlink rfl d kk
theorem xg_302 (hexec : p.tables.exec = Jvm.exec) (hb : c.code = cc) {own : String} {index : Nat} (hw : ∀ w ∈ u_ws RX2 TX2 3, w.before args s = true) (hown : s.vm.findClass own = some m.cls) (hK : KC D cy s) (hR : RC D cy A ad sg H) {j : Int} (hd : dmC sg 2 j) (hlink : (Cond.fieldLink own index "Takinghall$Price" "earlier" "LTakinghall$Price;").before args s = true) {v : Int} (hv : sg 302 j = v) (d : decode cc pc = .ok (.getfield index, 3)) (kk : W p l e R s m args below meth c H locs cells slots Q (F0 m (pc + 3) ls (rv (ad 2) (v) :: rest))) : W p l e R s m args below meth c H locs cells slots Q (F0 m pc ls (.ref (ad 2 j) :: rest)) := by
  subst hv
  exact wr_get hexec hb hw hown hK hR hd (fs := fsC2 ad sg j) rfl rfl 2 (by decide) hlink rfl d kk
theorem xg_400 (hexec : p.tables.exec = Jvm.exec) (hb : c.code = cc) {own : String} {index : Nat} (hw : ∀ w ∈ u_ws RX3 TX3 6, w.before args s = true) (hown : s.vm.findClass own = some m.cls) (hK : KC D cy s) (hR : RC D cy A ad sg H) {j : Int} (hd : dmC sg 3 j) (hlink : (Cond.fieldLink own index "Takinghall$Scheme" "number" "I").before args s = true) {v : Int} (hv : sg 400 j = v) (d : decode cc pc = .ok (.getfield index, 3)) (kk : W p l e R s m args below meth c H locs cells slots Q (F0 m (pc + 3) ls (.int (iI (v)) :: rest))) : W p l e R s m args below meth c H locs cells slots Q (F0 m pc ls (.ref (ad 3 j) :: rest)) := by
  subst hv
  exact wr_get hexec hb hw hown hK hR hd (fs := fsC3 ad sg j) rfl rfl 0 (by decide) hlink rfl d kk
theorem xg_401 (hexec : p.tables.exec = Jvm.exec) (hb : c.code = cc) {own : String} {index : Nat} (hw : ∀ w ∈ u_ws RX3 TX3 6, w.before args s = true) (hown : s.vm.findClass own = some m.cls) (hK : KC D cy s) (hR : RC D cy A ad sg H) {j : Int} (hd : dmC sg 3 j) (hlink : (Cond.fieldLink own index "Takinghall$Scheme" "harm" "I").before args s = true) {v : Int} (hv : sg 401 j = v) (d : decode cc pc = .ok (.getfield index, 3)) (kk : W p l e R s m args below meth c H locs cells slots Q (F0 m (pc + 3) ls (.int (iI (v)) :: rest))) : W p l e R s m args below meth c H locs cells slots Q (F0 m pc ls (.ref (ad 3 j) :: rest)) := by
  subst hv
  exact wr_get hexec hb hw hown hK hR hd (fs := fsC3 ad sg j) rfl rfl 1 (by decide) hlink rfl d kk
theorem xg_402 (hexec : p.tables.exec = Jvm.exec) (hb : c.code = cc) {own : String} {index : Nat} (hw : ∀ w ∈ u_ws RX3 TX3 6, w.before args s = true) (hown : s.vm.findClass own = some m.cls) (hK : KC D cy s) (hR : RC D cy A ad sg H) {j : Int} (hd : dmC sg 3 j) (hlink : (Cond.fieldLink own index "Takinghall$Scheme" "rise" "I").before args s = true) {v : Int} (hv : sg 402 j = v) (d : decode cc pc = .ok (.getfield index, 3)) (kk : W p l e R s m args below meth c H locs cells slots Q (F0 m (pc + 3) ls (.int (iI (v)) :: rest))) : W p l e R s m args below meth c H locs cells slots Q (F0 m pc ls (.ref (ad 3 j) :: rest)) := by
  subst hv
  exact wr_get hexec hb hw hown hK hR hd (fs := fsC3 ad sg j) rfl rfl 2 (by decide) hlink rfl d kk
theorem xg_403 (hexec : p.tables.exec = Jvm.exec) (hb : c.code = cc) {own : String} {index : Nat} (hw : ∀ w ∈ u_ws RX3 TX3 6, w.before args s = true) (hown : s.vm.findClass own = some m.cls) (hK : KC D cy s) (hR : RC D cy A ad sg H) {j : Int} (hd : dmC sg 3 j) (hlink : (Cond.fieldLink own index "Takinghall$Scheme" "state" "I").before args s = true) {v : Int} (hv : sg 403 j = v) (d : decode cc pc = .ok (.getfield index, 3)) (kk : W p l e R s m args below meth c H locs cells slots Q (F0 m (pc + 3) ls (.int (iI (v)) :: rest))) : W p l e R s m args below meth c H locs cells slots Q (F0 m pc ls (.ref (ad 3 j) :: rest)) := by
  subst hv
  exact wr_get hexec hb hw hown hK hR hd (fs := fsC3 ad sg j) rfl rfl 3 (by decide) hlink rfl d kk
theorem xp_403 (hexec : p.tables.exec = Jvm.exec) (hb : c.code = cc) {own : String} {index : Nat} (hw : ∀ w ∈ u_ws RX3 TX3 6, w.before args s = true) (hown : s.vm.findClass own = some m.cls) (hK : KC D cy s) (hR : RC D cy A ad sg H) (hS : va_S A H0 H locs) {j v : Int} (hd : dmC sg 3 j) (hlink : (Cond.fieldLink own index "Takinghall$Scheme" "state" "I").before args s = true) (d : decode cc pc = .ok (.putfield index, 3)) (kk : ∀ (H1 : Heap) (locs1 : List Loc), RC D cy A ad (st sg 403 j v) H1 → va_S A H0 H1 locs1 → W p l e R s m args below meth c H1 locs1 cells slots Q (F0 m (pc + 3) ls rest)) : W p l e R s m args below meth c H locs cells slots Q (F0 m pc ls ((.int (iI v)) :: .ref (ad 3 j) :: rest)) := by
  exact wr_put hexec hb hw tyX3 tyX3_ok nmX3 hown hK hR hS hd (fs := fsC3 ad sg j) rfl rfl 3 (by decide) hlink rfl (ty := .int) (by decide +kernel) rfl rfl (by show 3 < 6; decide) (cu_403 cy ad sg j v) d (fun H1 locs1 h1 h2 => kk H1 locs1 (wr_to h1 (dm_st (by decide)) (fun _ _ _ => ⟨rfl, rfl⟩)) h2)
theorem xg_404 (hexec : p.tables.exec = Jvm.exec) (hb : c.code = cc) {own : String} {index : Nat} (hw : ∀ w ∈ u_ws RX3 TX3 6, w.before args s = true) (hown : s.vm.findClass own = some m.cls) (hK : KC D cy s) (hR : RC D cy A ad sg H) {j : Int} (hd : dmC sg 3 j) (hlink : (Cond.fieldLink own index "Takinghall$Scheme" "confirmDay" "I").before args s = true) {v : Int} (hv : sg 404 j = v) (d : decode cc pc = .ok (.getfield index, 3)) (kk : W p l e R s m args below meth c H locs cells slots Q (F0 m (pc + 3) ls (.int (iI (v)) :: rest))) : W p l e R s m args below meth c H locs cells slots Q (F0 m pc ls (.ref (ad 3 j) :: rest)) := by
  subst hv
  exact wr_get hexec hb hw hown hK hR hd (fs := fsC3 ad sg j) rfl rfl 4 (by decide) hlink rfl d kk
theorem xp_404 (hexec : p.tables.exec = Jvm.exec) (hb : c.code = cc) {own : String} {index : Nat} (hw : ∀ w ∈ u_ws RX3 TX3 6, w.before args s = true) (hown : s.vm.findClass own = some m.cls) (hK : KC D cy s) (hR : RC D cy A ad sg H) (hS : va_S A H0 H locs) {j v : Int} (hd : dmC sg 3 j) (hlink : (Cond.fieldLink own index "Takinghall$Scheme" "confirmDay" "I").before args s = true) (d : decode cc pc = .ok (.putfield index, 3)) (kk : ∀ (H1 : Heap) (locs1 : List Loc), RC D cy A ad (st sg 404 j v) H1 → va_S A H0 H1 locs1 → W p l e R s m args below meth c H1 locs1 cells slots Q (F0 m (pc + 3) ls rest)) : W p l e R s m args below meth c H locs cells slots Q (F0 m pc ls ((.int (iI v)) :: .ref (ad 3 j) :: rest)) := by
  exact wr_put hexec hb hw tyX3 tyX3_ok nmX3 hown hK hR hS hd (fs := fsC3 ad sg j) rfl rfl 4 (by decide) hlink rfl (ty := .int) (by decide +kernel) rfl rfl (by show 4 < 6; decide) (cu_404 cy ad sg j v) d (fun H1 locs1 h1 h2 => kk H1 locs1 (wr_to h1 (dm_st (by decide)) (fun _ _ _ => ⟨rfl, rfl⟩)) h2)
theorem xg_405 (hexec : p.tables.exec = Jvm.exec) (hb : c.code = cc) {own : String} {index : Nat} (hw : ∀ w ∈ u_ws RX3 TX3 6, w.before args s = true) (hown : s.vm.findClass own = some m.cls) (hK : KC D cy s) (hR : RC D cy A ad sg H) {j : Int} (hd : dmC sg 3 j) (hlink : (Cond.fieldLink own index "Takinghall$Scheme" "dropDay" "I").before args s = true) {v : Int} (hv : sg 405 j = v) (d : decode cc pc = .ok (.getfield index, 3)) (kk : W p l e R s m args below meth c H locs cells slots Q (F0 m (pc + 3) ls (.int (iI (v)) :: rest))) : W p l e R s m args below meth c H locs cells slots Q (F0 m pc ls (.ref (ad 3 j) :: rest)) := by
  subst hv
  exact wr_get hexec hb hw hown hK hR hd (fs := fsC3 ad sg j) rfl rfl 5 (by decide) hlink rfl d kk
theorem xp_405 (hexec : p.tables.exec = Jvm.exec) (hb : c.code = cc) {own : String} {index : Nat} (hw : ∀ w ∈ u_ws RX3 TX3 6, w.before args s = true) (hown : s.vm.findClass own = some m.cls) (hK : KC D cy s) (hR : RC D cy A ad sg H) (hS : va_S A H0 H locs) {j v : Int} (hd : dmC sg 3 j) (hlink : (Cond.fieldLink own index "Takinghall$Scheme" "dropDay" "I").before args s = true) (d : decode cc pc = .ok (.putfield index, 3)) (kk : ∀ (H1 : Heap) (locs1 : List Loc), RC D cy A ad (st sg 405 j v) H1 → va_S A H0 H1 locs1 → W p l e R s m args below meth c H1 locs1 cells slots Q (F0 m (pc + 3) ls rest)) : W p l e R s m args below meth c H locs cells slots Q (F0 m pc ls ((.int (iI v)) :: .ref (ad 3 j) :: rest)) := by
  exact wr_put hexec hb hw tyX3 tyX3_ok nmX3 hown hK hR hS hd (fs := fsC3 ad sg j) rfl rfl 5 (by decide) hlink rfl (ty := .int) (by decide +kernel) rfl rfl (by show 5 < 6; decide) (cu_405 cy ad sg j v) d (fun H1 locs1 h1 h2 => kk H1 locs1 (wr_to h1 (dm_st (by decide)) (fun _ _ _ => ⟨rfl, rfl⟩)) h2)
theorem xg_500 (hexec : p.tables.exec = Jvm.exec) (hb : c.code = cc) {own : String} {index : Nat} (hw : ∀ w ∈ u_ws RX4 TX4 12, w.before args s = true) (hown : s.vm.findClass own = some m.cls) (hK : KC D cy s) (hR : RC D cy A ad sg H) {j : Int} (hd : dmC sg 4 j) (hlink : (Cond.fieldLink own index "Takinghall" "plots" "[LTakinghall$Plot;").before args s = true) {v : Int} (hv : sg 500 j = v) (d : decode cc pc = .ok (.getfield index, 3)) (kk : W p l e R s m args below meth c H locs cells slots Q (F0 m (pc + 3) ls (rv (ad 10) (v) :: rest))) : W p l e R s m args below meth c H locs cells slots Q (F0 m pc ls (.ref (ad 4 j) :: rest)) := by
  subst hv
  exact wr_get hexec hb hw hown hK hR hd (fs := fsC4 ad sg j) rfl rfl 0 (by decide) hlink rfl d kk
theorem xg_501 (hexec : p.tables.exec = Jvm.exec) (hb : c.code = cc) {own : String} {index : Nat} (hw : ∀ w ∈ u_ws RX4 TX4 12, w.before args s = true) (hown : s.vm.findClass own = some m.cls) (hK : KC D cy s) (hR : RC D cy A ad sg H) {j : Int} (hd : dmC sg 4 j) (hlink : (Cond.fieldLink own index "Takinghall" "latestPrices" "[LTakinghall$Price;").before args s = true) {v : Int} (hv : sg 501 j = v) (d : decode cc pc = .ok (.getfield index, 3)) (kk : W p l e R s m args below meth c H locs cells slots Q (F0 m (pc + 3) ls (rv (ad 11) (v) :: rest))) : W p l e R s m args below meth c H locs cells slots Q (F0 m pc ls (.ref (ad 4 j) :: rest)) := by
  subst hv
  exact wr_get hexec hb hw hown hK hR hd (fs := fsC4 ad sg j) rfl rfl 1 (by decide) hlink rfl d kk
theorem xg_502 (hexec : p.tables.exec = Jvm.exec) (hb : c.code = cc) {own : String} {index : Nat} (hw : ∀ w ∈ u_ws RX4 TX4 12, w.before args s = true) (hown : s.vm.findClass own = some m.cls) (hK : KC D cy s) (hR : RC D cy A ad sg H) {j : Int} (hd : dmC sg 4 j) (hlink : (Cond.fieldLink own index "Takinghall" "interests" "[LTakinghall$Interest;").before args s = true) {v : Int} (hv : sg 502 j = v) (d : decode cc pc = .ok (.getfield index, 3)) (kk : W p l e R s m args below meth c H locs cells slots Q (F0 m (pc + 3) ls (rv (ad 9) (v) :: rest))) : W p l e R s m args below meth c H locs cells slots Q (F0 m pc ls (.ref (ad 4 j) :: rest)) := by
  subst hv
  exact wr_get hexec hb hw hown hK hR hd (fs := fsC4 ad sg j) rfl rfl 2 (by decide) hlink rfl d kk
theorem xg_503 (hexec : p.tables.exec = Jvm.exec) (hb : c.code = cc) {own : String} {index : Nat} (hw : ∀ w ∈ u_ws RX4 TX4 12, w.before args s = true) (hown : s.vm.findClass own = some m.cls) (hK : KC D cy s) (hR : RC D cy A ad sg H) {j : Int} (hd : dmC sg 4 j) (hlink : (Cond.fieldLink own index "Takinghall" "interestCount" "I").before args s = true) {v : Int} (hv : sg 503 j = v) (d : decode cc pc = .ok (.getfield index, 3)) (kk : W p l e R s m args below meth c H locs cells slots Q (F0 m (pc + 3) ls (.int (iI (v)) :: rest))) : W p l e R s m args below meth c H locs cells slots Q (F0 m pc ls (.ref (ad 4 j) :: rest)) := by
  subst hv
  exact wr_get hexec hb hw hown hK hR hd (fs := fsC4 ad sg j) rfl rfl 3 (by decide) hlink rfl d kk
theorem xp_503 (hexec : p.tables.exec = Jvm.exec) (hb : c.code = cc) {own : String} {index : Nat} (hw : ∀ w ∈ u_ws RX4 TX4 12, w.before args s = true) (hown : s.vm.findClass own = some m.cls) (hK : KC D cy s) (hR : RC D cy A ad sg H) (hS : va_S A H0 H locs) {j v : Int} (hd : dmC sg 4 j) (hlink : (Cond.fieldLink own index "Takinghall" "interestCount" "I").before args s = true) (d : decode cc pc = .ok (.putfield index, 3)) (kk : ∀ (H1 : Heap) (locs1 : List Loc), RC D cy A ad (st sg 503 j v) H1 → va_S A H0 H1 locs1 → W p l e R s m args below meth c H1 locs1 cells slots Q (F0 m (pc + 3) ls rest)) : W p l e R s m args below meth c H locs cells slots Q (F0 m pc ls ((.int (iI v)) :: .ref (ad 4 j) :: rest)) := by
  exact wr_put hexec hb hw tyX4 tyX4_ok nmX4 hown hK hR hS hd (fs := fsC4 ad sg j) rfl rfl 3 (by decide) hlink rfl (ty := .int) (by decide +kernel) rfl rfl (by show 3 < 12; decide) (cu_503 cy ad sg j v) d (fun H1 locs1 h1 h2 => kk H1 locs1 (wr_to h1 (dm_st (by decide)) (fun _ _ _ => ⟨rfl, rfl⟩)) h2)
theorem xg_504 (hexec : p.tables.exec = Jvm.exec) (hb : c.code = cc) {own : String} {index : Nat} (hw : ∀ w ∈ u_ws RX4 TX4 12, w.before args s = true) (hown : s.vm.findClass own = some m.cls) (hK : KC D cy s) (hR : RC D cy A ad sg H) {j : Int} (hd : dmC sg 4 j) (hlink : (Cond.fieldLink own index "Takinghall" "schemes" "[LTakinghall$Scheme;").before args s = true) {v : Int} (hv : sg 504 j = v) (d : decode cc pc = .ok (.getfield index, 3)) (kk : W p l e R s m args below meth c H locs cells slots Q (F0 m (pc + 3) ls (rv (ad 12) (v) :: rest))) : W p l e R s m args below meth c H locs cells slots Q (F0 m pc ls (.ref (ad 4 j) :: rest)) := by
  subst hv
  exact wr_get hexec hb hw hown hK hR hd (fs := fsC4 ad sg j) rfl rfl 4 (by decide) hlink rfl d kk
theorem xg_505 (hexec : p.tables.exec = Jvm.exec) (hb : c.code = cc) {own : String} {index : Nat} (hw : ∀ w ∈ u_ws RX4 TX4 12, w.before args s = true) (hown : s.vm.findClass own = some m.cls) (hK : KC D cy s) (hR : RC D cy A ad sg H) {j : Int} (hd : dmC sg 4 j) (hlink : (Cond.fieldLink own index "Takinghall" "schemeCount" "I").before args s = true) {v : Int} (hv : sg 505 j = v) (d : decode cc pc = .ok (.getfield index, 3)) (kk : W p l e R s m args below meth c H locs cells slots Q (F0 m (pc + 3) ls (.int (iI (v)) :: rest))) : W p l e R s m args below meth c H locs cells slots Q (F0 m pc ls (.ref (ad 4 j) :: rest)) := by
  subst hv
  exact wr_get hexec hb hw hown hK hR hd (fs := fsC4 ad sg j) rfl rfl 5 (by decide) hlink rfl d kk
theorem xp_505 (hexec : p.tables.exec = Jvm.exec) (hb : c.code = cc) {own : String} {index : Nat} (hw : ∀ w ∈ u_ws RX4 TX4 12, w.before args s = true) (hown : s.vm.findClass own = some m.cls) (hK : KC D cy s) (hR : RC D cy A ad sg H) (hS : va_S A H0 H locs) {j v : Int} (hd : dmC sg 4 j) (hlink : (Cond.fieldLink own index "Takinghall" "schemeCount" "I").before args s = true) (d : decode cc pc = .ok (.putfield index, 3)) (kk : ∀ (H1 : Heap) (locs1 : List Loc), RC D cy A ad (st sg 505 j v) H1 → va_S A H0 H1 locs1 → W p l e R s m args below meth c H1 locs1 cells slots Q (F0 m (pc + 3) ls rest)) : W p l e R s m args below meth c H locs cells slots Q (F0 m pc ls ((.int (iI v)) :: .ref (ad 4 j) :: rest)) := by
  exact wr_put hexec hb hw tyX4 tyX4_ok nmX4 hown hK hR hS hd (fs := fsC4 ad sg j) rfl rfl 5 (by decide) hlink rfl (ty := .int) (by decide +kernel) rfl rfl (by show 5 < 12; decide) (cu_505 cy ad sg j v) d (fun H1 locs1 h1 h2 => kk H1 locs1 (wr_to h1 (dm_st (by decide)) (fun _ _ _ => ⟨rfl, rfl⟩)) h2)
theorem xg_506 (hexec : p.tables.exec = Jvm.exec) (hb : c.code = cc) {own : String} {index : Nat} (hw : ∀ w ∈ u_ws RX4 TX4 12, w.before args s = true) (hown : s.vm.findClass own = some m.cls) (hK : KC D cy s) (hR : RC D cy A ad sg H) {j : Int} (hd : dmC sg 4 j) (hlink : (Cond.fieldLink own index "Takinghall" "now" "I").before args s = true) {v : Int} (hv : sg 506 j = v) (d : decode cc pc = .ok (.getfield index, 3)) (kk : W p l e R s m args below meth c H locs cells slots Q (F0 m (pc + 3) ls (.int (iI (v)) :: rest))) : W p l e R s m args below meth c H locs cells slots Q (F0 m pc ls (.ref (ad 4 j) :: rest)) := by
  subst hv
  exact wr_get hexec hb hw hown hK hR hd (fs := fsC4 ad sg j) rfl rfl 6 (by decide) hlink rfl d kk
theorem xp_506 (hexec : p.tables.exec = Jvm.exec) (hb : c.code = cc) {own : String} {index : Nat} (hw : ∀ w ∈ u_ws RX4 TX4 12, w.before args s = true) (hown : s.vm.findClass own = some m.cls) (hK : KC D cy s) (hR : RC D cy A ad sg H) (hS : va_S A H0 H locs) {j v : Int} (hd : dmC sg 4 j) (hlink : (Cond.fieldLink own index "Takinghall" "now" "I").before args s = true) (d : decode cc pc = .ok (.putfield index, 3)) (kk : ∀ (H1 : Heap) (locs1 : List Loc), RC D cy A ad (st sg 506 j v) H1 → va_S A H0 H1 locs1 → W p l e R s m args below meth c H1 locs1 cells slots Q (F0 m (pc + 3) ls rest)) : W p l e R s m args below meth c H locs cells slots Q (F0 m pc ls ((.int (iI v)) :: .ref (ad 4 j) :: rest)) := by
  exact wr_put hexec hb hw tyX4 tyX4_ok nmX4 hown hK hR hS hd (fs := fsC4 ad sg j) rfl rfl 6 (by decide) hlink rfl (ty := .int) (by decide +kernel) rfl rfl (by show 6 < 12; decide) (cu_506 cy ad sg j v) d (fun H1 locs1 h1 h2 => kk H1 locs1 (wr_to h1 (dm_st (by decide)) (fun _ _ _ => ⟨rfl, rfl⟩)) h2)
theorem xg_507 (hexec : p.tables.exec = Jvm.exec) (hb : c.code = cc) {own : String} {index : Nat} (hw : ∀ w ∈ u_ws RX4 TX4 12, w.before args s = true) (hown : s.vm.findClass own = some m.cls) (hK : KC D cy s) (hR : RC D cy A ad sg H) {j : Int} (hd : dmC sg 4 j) (hlink : (Cond.fieldLink own index "Takinghall" "allSums" "J").before args s = true) {v : Int} (hv : sg 507 j = v) (d : decode cc pc = .ok (.getfield index, 3)) (kk : W p l e R s m args below meth c H locs cells slots Q (F0 m (pc + 3) ls (.long (lI (v)) :: rest))) : W p l e R s m args below meth c H locs cells slots Q (F0 m pc ls (.ref (ad 4 j) :: rest)) := by
  subst hv
  exact wr_get hexec hb hw hown hK hR hd (fs := fsC4 ad sg j) rfl rfl 7 (by decide) hlink rfl d kk
theorem xp_507 (hexec : p.tables.exec = Jvm.exec) (hb : c.code = cc) {own : String} {index : Nat} (hw : ∀ w ∈ u_ws RX4 TX4 12, w.before args s = true) (hown : s.vm.findClass own = some m.cls) (hK : KC D cy s) (hR : RC D cy A ad sg H) (hS : va_S A H0 H locs) {j v : Int} (hd : dmC sg 4 j) (hlink : (Cond.fieldLink own index "Takinghall" "allSums" "J").before args s = true) (d : decode cc pc = .ok (.putfield index, 3)) (kk : ∀ (H1 : Heap) (locs1 : List Loc), RC D cy A ad (st sg 507 j v) H1 → va_S A H0 H1 locs1 → W p l e R s m args below meth c H1 locs1 cells slots Q (F0 m (pc + 3) ls rest)) : W p l e R s m args below meth c H locs cells slots Q (F0 m pc ls ((.long (lI v)) :: .ref (ad 4 j) :: rest)) := by
  exact wr_put hexec hb hw tyX4 tyX4_ok nmX4 hown hK hR hS hd (fs := fsC4 ad sg j) rfl rfl 7 (by decide) hlink rfl (ty := .long) (by decide +kernel) rfl rfl (by show 7 < 12; decide) (cu_507 cy ad sg j v) d (fun H1 locs1 h1 h2 => kk H1 locs1 (wr_to h1 (dm_st (by decide)) (fun _ _ _ => ⟨rfl, rfl⟩)) h2)
theorem xg_508 (hexec : p.tables.exec = Jvm.exec) (hb : c.code = cc) {own : String} {index : Nat} (hw : ∀ w ∈ u_ws RX4 TX4 12, w.before args s = true) (hown : s.vm.findClass own = some m.cls) (hK : KC D cy s) (hR : RC D cy A ad sg H) {j : Int} (hd : dmC sg 4 j) (hlink : (Cond.fieldLink own index "Takinghall" "allPaid" "J").before args s = true) {v : Int} (hv : sg 508 j = v) (d : decode cc pc = .ok (.getfield index, 3)) (kk : W p l e R s m args below meth c H locs cells slots Q (F0 m (pc + 3) ls (.long (lI (v)) :: rest))) : W p l e R s m args below meth c H locs cells slots Q (F0 m pc ls (.ref (ad 4 j) :: rest)) := by
  subst hv
  exact wr_get hexec hb hw hown hK hR hd (fs := fsC4 ad sg j) rfl rfl 8 (by decide) hlink rfl d kk
theorem xp_508 (hexec : p.tables.exec = Jvm.exec) (hb : c.code = cc) {own : String} {index : Nat} (hw : ∀ w ∈ u_ws RX4 TX4 12, w.before args s = true) (hown : s.vm.findClass own = some m.cls) (hK : KC D cy s) (hR : RC D cy A ad sg H) (hS : va_S A H0 H locs) {j v : Int} (hd : dmC sg 4 j) (hlink : (Cond.fieldLink own index "Takinghall" "allPaid" "J").before args s = true) (d : decode cc pc = .ok (.putfield index, 3)) (kk : ∀ (H1 : Heap) (locs1 : List Loc), RC D cy A ad (st sg 508 j v) H1 → va_S A H0 H1 locs1 → W p l e R s m args below meth c H1 locs1 cells slots Q (F0 m (pc + 3) ls rest)) : W p l e R s m args below meth c H locs cells slots Q (F0 m pc ls ((.long (lI v)) :: .ref (ad 4 j) :: rest)) := by
  exact wr_put hexec hb hw tyX4 tyX4_ok nmX4 hown hK hR hS hd (fs := fsC4 ad sg j) rfl rfl 8 (by decide) hlink rfl (ty := .long) (by decide +kernel) rfl rfl (by show 8 < 12; decide) (cu_508 cy ad sg j v) d (fun H1 locs1 h1 h2 => kk H1 locs1 (wr_to h1 (dm_st (by decide)) (fun _ _ _ => ⟨rfl, rfl⟩)) h2)
theorem xg_509 (hexec : p.tables.exec = Jvm.exec) (hb : c.code = cc) {own : String} {index : Nat} (hw : ∀ w ∈ u_ws RX4 TX4 12, w.before args s = true) (hown : s.vm.findClass own = some m.cls) (hK : KC D cy s) (hR : RC D cy A ad sg H) {j : Int} (hd : dmC sg 4 j) (hlink : (Cond.fieldLink own index "Takinghall" "inCourt" "J").before args s = true) {v : Int} (hv : sg 509 j = v) (d : decode cc pc = .ok (.getfield index, 3)) (kk : W p l e R s m args below meth c H locs cells slots Q (F0 m (pc + 3) ls (.long (lI (v)) :: rest))) : W p l e R s m args below meth c H locs cells slots Q (F0 m pc ls (.ref (ad 4 j) :: rest)) := by
  subst hv
  exact wr_get hexec hb hw hown hK hR hd (fs := fsC4 ad sg j) rfl rfl 9 (by decide) hlink rfl d kk
theorem xp_509 (hexec : p.tables.exec = Jvm.exec) (hb : c.code = cc) {own : String} {index : Nat} (hw : ∀ w ∈ u_ws RX4 TX4 12, w.before args s = true) (hown : s.vm.findClass own = some m.cls) (hK : KC D cy s) (hR : RC D cy A ad sg H) (hS : va_S A H0 H locs) {j v : Int} (hd : dmC sg 4 j) (hlink : (Cond.fieldLink own index "Takinghall" "inCourt" "J").before args s = true) (d : decode cc pc = .ok (.putfield index, 3)) (kk : ∀ (H1 : Heap) (locs1 : List Loc), RC D cy A ad (st sg 509 j v) H1 → va_S A H0 H1 locs1 → W p l e R s m args below meth c H1 locs1 cells slots Q (F0 m (pc + 3) ls rest)) : W p l e R s m args below meth c H locs cells slots Q (F0 m pc ls ((.long (lI v)) :: .ref (ad 4 j) :: rest)) := by
  exact wr_put hexec hb hw tyX4 tyX4_ok nmX4 hown hK hR hS hd (fs := fsC4 ad sg j) rfl rfl 9 (by decide) hlink rfl (ty := .long) (by decide +kernel) rfl rfl (by show 9 < 12; decide) (cu_509 cy ad sg j v) d (fun H1 locs1 h1 h2 => kk H1 locs1 (wr_to h1 (dm_st (by decide)) (fun _ _ _ => ⟨rfl, rfl⟩)) h2)
theorem xg_510 (hexec : p.tables.exec = Jvm.exec) (hb : c.code = cc) {own : String} {index : Nat} (hw : ∀ w ∈ u_ws RX4 TX4 12, w.before args s = true) (hown : s.vm.findClass own = some m.cls) (hK : KC D cy s) (hR : RC D cy A ad sg H) {j : Int} (hd : dmC sg 4 j) (hlink : (Cond.fieldLink own index "Takinghall" "paidForBack" "J").before args s = true) {v : Int} (hv : sg 510 j = v) (d : decode cc pc = .ok (.getfield index, 3)) (kk : W p l e R s m args below meth c H locs cells slots Q (F0 m (pc + 3) ls (.long (lI (v)) :: rest))) : W p l e R s m args below meth c H locs cells slots Q (F0 m pc ls (.ref (ad 4 j) :: rest)) := by
  subst hv
  exact wr_get hexec hb hw hown hK hR hd (fs := fsC4 ad sg j) rfl rfl 10 (by decide) hlink rfl d kk
theorem xp_510 (hexec : p.tables.exec = Jvm.exec) (hb : c.code = cc) {own : String} {index : Nat} (hw : ∀ w ∈ u_ws RX4 TX4 12, w.before args s = true) (hown : s.vm.findClass own = some m.cls) (hK : KC D cy s) (hR : RC D cy A ad sg H) (hS : va_S A H0 H locs) {j v : Int} (hd : dmC sg 4 j) (hlink : (Cond.fieldLink own index "Takinghall" "paidForBack" "J").before args s = true) (d : decode cc pc = .ok (.putfield index, 3)) (kk : ∀ (H1 : Heap) (locs1 : List Loc), RC D cy A ad (st sg 510 j v) H1 → va_S A H0 H1 locs1 → W p l e R s m args below meth c H1 locs1 cells slots Q (F0 m (pc + 3) ls rest)) : W p l e R s m args below meth c H locs cells slots Q (F0 m pc ls ((.long (lI v)) :: .ref (ad 4 j) :: rest)) := by
  exact wr_put hexec hb hw tyX4 tyX4_ok nmX4 hown hK hR hS hd (fs := fsC4 ad sg j) rfl rfl 10 (by decide) hlink rfl (ty := .long) (by decide +kernel) rfl rfl (by show 10 < 12; decide) (cu_510 cy ad sg j v) d (fun H1 locs1 h1 h2 => kk H1 locs1 (wr_to h1 (dm_st (by decide)) (fun _ _ _ => ⟨rfl, rfl⟩)) h2)
theorem xg_511 (hexec : p.tables.exec = Jvm.exec) (hb : c.code = cc) {own : String} {index : Nat} (hw : ∀ w ∈ u_ws RX4 TX4 12, w.before args s = true) (hown : s.vm.findClass own = some m.cls) (hK : KC D cy s) (hR : RC D cy A ad sg H) {j : Int} (hd : dmC sg 4 j) (hlink : (Cond.fieldLink own index "Takinghall" "allLand" "J").before args s = true) {v : Int} (hv : sg 511 j = v) (d : decode cc pc = .ok (.getfield index, 3)) (kk : W p l e R s m args below meth c H locs cells slots Q (F0 m (pc + 3) ls (.long (lI (v)) :: rest))) : W p l e R s m args below meth c H locs cells slots Q (F0 m pc ls (.ref (ad 4 j) :: rest)) := by
  subst hv
  exact wr_get hexec hb hw hown hK hR hd (fs := fsC4 ad sg j) rfl rfl 11 (by decide) hlink rfl d kk
theorem xp_511 (hexec : p.tables.exec = Jvm.exec) (hb : c.code = cc) {own : String} {index : Nat} (hw : ∀ w ∈ u_ws RX4 TX4 12, w.before args s = true) (hown : s.vm.findClass own = some m.cls) (hK : KC D cy s) (hR : RC D cy A ad sg H) (hS : va_S A H0 H locs) {j v : Int} (hd : dmC sg 4 j) (hlink : (Cond.fieldLink own index "Takinghall" "allLand" "J").before args s = true) (d : decode cc pc = .ok (.putfield index, 3)) (kk : ∀ (H1 : Heap) (locs1 : List Loc), RC D cy A ad (st sg 511 j v) H1 → va_S A H0 H1 locs1 → W p l e R s m args below meth c H1 locs1 cells slots Q (F0 m (pc + 3) ls rest)) : W p l e R s m args below meth c H locs cells slots Q (F0 m pc ls ((.long (lI v)) :: .ref (ad 4 j) :: rest)) := by
  exact wr_put hexec hb hw tyX4 tyX4_ok nmX4 hown hK hR hS hd (fs := fsC4 ad sg j) rfl rfl 11 (by decide) hlink rfl (ty := .long) (by decide +kernel) rfl rfl (by show 11 < 12; decide) (cu_511 cy ad sg j v) d (fun H1 locs1 h1 h2 => kk H1 locs1 (wr_to h1 (dm_st (by decide)) (fun _ _ _ => ⟨rfl, rfl⟩)) h2)
theorem xl_600 (hexec : p.tables.exec = Jvm.exec) (hb : c.code = cc) (hK : KC D cy s) (hR : RC D cy A ad sg H) {j : Int} (hd : dmC sg 9 j) (d : decode cc pc = .ok (.arraylength, 1)) (kk : W p l e R s m args below meth c H locs cells slots Q (F0 m (pc + 1) ls (.int (iI 24) :: rest))) : W p l e R s m args below meth c H locs cells slots Q (F0 m pc ls (.ref (ad 9 j) :: rest)) :=
  wr_alen hexec hb hK hR hd rfl 3 rfl rfl d kk
theorem xa_600 (hexec : p.tables.exec = Jvm.exec) (hb : c.code = cc) (hK : KC D cy s) (hR : RC D cy A ad sg H) {j : Int} (hd : dmC sg 9 j) {i : Int} (hi : 0 ≤ i ∧ i < 24) {v : Int} (hv : sg 600 i = v) (d : decode cc pc = .ok (.aaload, 1)) (kk : W p l e R s m args below meth c H locs cells slots Q (F0 m (pc + 1) ls (rv (ad 0) v :: rest))) : W p l e R s m args below meth c H locs cells slots Q (F0 m pc ls (.int (iI i) :: .ref (ad 9 j) :: rest)) := by
  subst hv
  exact wr_aald hexec hb hK hR hd rfl 3 rfl hi (by decide) (by show ro (ad 0) (sg 600 (i.toNat : Int)) = _; rw [Int.toNat_of_nonneg hi.1]) d kk
theorem xl_601 (hexec : p.tables.exec = Jvm.exec) (hb : c.code = cc) (hK : KC D cy s) (hR : RC D cy A ad sg H) {j : Int} (hd : dmC sg 10 j) (d : decode cc pc = .ok (.arraylength, 1)) (kk : W p l e R s m args below meth c H locs cells slots Q (F0 m (pc + 1) ls (.int (iI 36) :: rest))) : W p l e R s m args below meth c H locs cells slots Q (F0 m pc ls (.ref (ad 10 j) :: rest)) :=
  wr_alen hexec hb hK hR hd rfl 4 rfl rfl d kk
theorem xa_601 (hexec : p.tables.exec = Jvm.exec) (hb : c.code = cc) (hK : KC D cy s) (hR : RC D cy A ad sg H) {j : Int} (hd : dmC sg 10 j) {i : Int} (hi : 0 ≤ i ∧ i < 36) {v : Int} (hv : sg 601 i = v) (d : decode cc pc = .ok (.aaload, 1)) (kk : W p l e R s m args below meth c H locs cells slots Q (F0 m (pc + 1) ls (rv (ad 1) v :: rest))) : W p l e R s m args below meth c H locs cells slots Q (F0 m pc ls (.int (iI i) :: .ref (ad 10 j) :: rest)) := by
  subst hv
  exact wr_aald hexec hb hK hR hd rfl 4 rfl hi (by decide) (by show ro (ad 1) (sg 601 (i.toNat : Int)) = _; rw [Int.toNat_of_nonneg hi.1]) d kk
theorem xl_602 (hexec : p.tables.exec = Jvm.exec) (hb : c.code = cc) (hK : KC D cy s) (hR : RC D cy A ad sg H) {j : Int} (hd : dmC sg 11 j) (d : decode cc pc = .ok (.arraylength, 1)) (kk : W p l e R s m args below meth c H locs cells slots Q (F0 m (pc + 1) ls (.int (iI 3) :: rest))) : W p l e R s m args below meth c H locs cells slots Q (F0 m pc ls (.ref (ad 11 j) :: rest)) :=
  wr_alen hexec hb hK hR hd rfl 5 rfl rfl d kk
theorem xa_602 (hexec : p.tables.exec = Jvm.exec) (hb : c.code = cc) (hK : KC D cy s) (hR : RC D cy A ad sg H) {j : Int} (hd : dmC sg 11 j) {i : Int} (hi : 0 ≤ i ∧ i < 3) {v : Int} (hv : sg 602 i = v) (d : decode cc pc = .ok (.aaload, 1)) (kk : W p l e R s m args below meth c H locs cells slots Q (F0 m (pc + 1) ls (rv (ad 2) v :: rest))) : W p l e R s m args below meth c H locs cells slots Q (F0 m pc ls (.int (iI i) :: .ref (ad 11 j) :: rest)) := by
  subst hv
  exact wr_aald hexec hb hK hR hd rfl 5 rfl hi (by decide) (by show ro (ad 2) (sg 602 (i.toNat : Int)) = _; rw [Int.toNat_of_nonneg hi.1]) d kk
theorem xl_603 (hexec : p.tables.exec = Jvm.exec) (hb : c.code = cc) (hK : KC D cy s) (hR : RC D cy A ad sg H) {j : Int} (hd : dmC sg 12 j) (d : decode cc pc = .ok (.arraylength, 1)) (kk : W p l e R s m args below meth c H locs cells slots Q (F0 m (pc + 1) ls (.int (iI 4) :: rest))) : W p l e R s m args below meth c H locs cells slots Q (F0 m pc ls (.ref (ad 12 j) :: rest)) :=
  wr_alen hexec hb hK hR hd rfl 6 rfl rfl d kk
theorem xa_603 (hexec : p.tables.exec = Jvm.exec) (hb : c.code = cc) (hK : KC D cy s) (hR : RC D cy A ad sg H) {j : Int} (hd : dmC sg 12 j) {i : Int} (hi : 0 ≤ i ∧ i < 4) {v : Int} (hv : sg 603 i = v) (d : decode cc pc = .ok (.aaload, 1)) (kk : W p l e R s m args below meth c H locs cells slots Q (F0 m (pc + 1) ls (rv (ad 3) v :: rest))) : W p l e R s m args below meth c H locs cells slots Q (F0 m pc ls (.int (iI i) :: .ref (ad 12 j) :: rest)) := by
  subst hv
  exact wr_aald hexec hb hK hR hd rfl 6 rfl hi (by decide) (by show ro (ad 3) (sg 603 (i.toNat : Int)) = _; rw [Int.toNat_of_nonneg hi.1]) d kk
end CX
