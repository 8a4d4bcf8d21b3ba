/-! what the law's own methods answer, out of its table -/
theorem w_topI {p : Program} {l : Launch} {e : Env} {R : Room} {s : State} {m : MethodId} {args : Array Value} {below : List Frame} {meth : Method} {c : Code} {H : Heap} {locs : List Loc} {cells slots : Nat} {Q : State → Prop} {pc : Nat} {ls : Array Slot} {rest : List Value} {a b : Int} (h : a = b) (k : W p l e R s m args below meth c H locs cells slots Q (F0 m pc ls (.int (iI b) :: rest))) : W p l e R s m args below meth c H locs cells slots Q (F0 m pc ls (.int (iI a) :: rest)) := by rw [h]; exact k
theorem w_topJ {p : Program} {l : Launch} {e : Env} {R : Room} {s : State} {m : MethodId} {args : Array Value} {below : List Frame} {meth : Method} {c : Code} {H : Heap} {locs : List Loc} {cells slots : Nat} {Q : State → Prop} {pc : Nat} {ls : Array Slot} {rest : List Value} {a b : Int} (h : a = b) (k : W p l e R s m args below meth c H locs cells slots Q (F0 m pc ls (.long (lI b) :: rest))) : W p l e R s m args below meth c H locs cells slots Q (F0 m pc ls (.long (lI a) :: rest)) := by rw [h]; exact k
def pl (k : Int) : Int := if k = 0 then 14 else if k = 1 then 15 else if k = 2 then 20 else 35
noncomputable def lNeeds (mu : Nat → Int → Int) (w b : Int) : Int := sumN (fun q => bI (mu 1000 (8 * q + 3) = w ∧ (b = 0 ∨ mu 1000 (8 * q + 2) = 0))) 4
theorem lNeeds_rng (mu : Nat → Int → Int) (w b : Int) : 0 ≤ lNeeds mu w b ∧ lNeeds mu w b ≤ 4 := by
  have h := sum_b (f := fun q => bI (mu 1000 (8 * q + 3) = w ∧ (b = 0 ∨ mu 1000 (8 * q + 2) = 0))) (M := 1) (fun i => bI_in _) 4
  unfold lNeeds; omega
noncomputable def lOpens (mu : Nat → Int → Int) (many w : Int) : Int := sumN (fun q => bI (mu 1005 q = 1 ∧ mu 1000 (8 * mu 1001 (24 + q) + 2) = 0 ∧ mu 1000 (8 * mu 1001 (24 + q) + 3) = w)) many.toNat
def lStop (mu : Nat → Int → Int) (w d q : Int) : Prop := mu 1000 (8 * mu 1001 (24 + q) + 2) = 0 ∧ mu 1000 (8 * mu 1001 (24 + q) + 3) = w ∧ (mu 1001 q ≠ 1 ∨ d < mu 1002 q) ∧ (mu 1004 q < 0 ∨ d - mu 1004 q < 21 ∨ mu 1005 q = 1)
noncomputable def lStops (mu : Nat → Int → Int) (many w d : Int) : Int := low (lStop mu w d) many.toNat
def lfN (mu : Nat → Int → Int) (k n : Int) : Nat → Int → Int := fun F j => if F = 1000 ∧ j = 8 * k + 3 then -1 else if F = 1000 ∧ j = 8 * k + 4 then 0 else if F = 1004 ∧ 0 ≤ j ∧ j < n ∧ mu 1001 (24 + j) = k then -1 else if F = 1005 ∧ 0 ≤ j ∧ j < n ∧ mu 1001 (24 + j) = k then 0 else mu F j
theorem lf_0 (mu : Nat → Int → Int) (k : Int) : st (st mu 1000 (8 * k + 3) (-1)) 1000 (8 * k + 4) 0 = lfN mu k 0 := by
  funext F j
  simp only [lfN, st]
  (repeat' split) <;> first | rfl | omega
theorem lf_y {mu : Nat → Int → Int} {k i : Int} (h0 : 0 ≤ i) (h2 : mu 1001 (24 + i) = k) : st (st (lfN mu k i) 1004 i (-1)) 1005 i 0 = lfN mu k (i + 1) := by
  funext F j
  simp only [lfN, st]
  by_cases hk : j = i
  · subst hk
    (repeat' split) <;> first | rfl | omega
  · have e : (j < i + 1) = (j < i) := propext ⟨fun _ => by omega, fun _ => by omega⟩
    simp only [hk, and_false, if_false, e]
theorem lf_n {mu : Nat → Int → Int} {k i : Int} (h : mu 1001 (24 + i) ≠ k) : lfN mu k i = lfN mu k (i + 1) := by
  funext F j
  simp only [lfN]
  by_cases hk : j = i
  · subst hk
    (repeat' split) <;> first | rfl | omega
  · have e : (j < i + 1) = (j < i) := propext ⟨fun _ => by omega, fun _ => by omega⟩
    simp only [e]
theorem lf_f {mu : Nat → Int → Int} {k n j : Int} {F : Nat} (h : F ≠ 1000) (h4 : F ≠ 1004) (h5 : F ≠ 1005) : lfN mu k n F j = mu F j := by
  unfold lfN
  rw [if_neg (by omega), if_neg (by omega), if_neg (by omega), if_neg (by omega)]
theorem gl_lfN {mu : Nat → Int → Int} (hG : GL mu) (k n : Int) : GL (lfN mu k n) := by
  intro F j h1 h2
  have h := hG F j h1 h2
  unfold lfN
  split
  · rename_i z; rw [z.1]; decide
  · split
    · rename_i z; rw [z.1]; decide
    · split
      · rename_i z; rw [z.1]; decide
      · split
        · rename_i z; rw [z.1]; decide
        · exact h
def lCand (mu : Nat → Int → Int) (k b sh q : Int) : Prop := mu 1001 q = 0 ∧ mu 1001 (24 + q) = k ∧ mu 1002 q = sh ∧ (b < 0 ∨ sh < mu 1002 b ∨ (sh = mu 1002 b ∧ b < q))
noncomputable def lNx (mu : Nat → Int → Int) (many k b : Int) : Nat → Int
  | 0 => -1
  | n + 1 => if 0 ≤ low (lCand mu k b ((n + 1 : Nat) : Int)) many.toNat then low (lCand mu k b ((n + 1 : Nat) : Int)) many.toNat else lNx mu many k b n
theorem lNx_s {mu : Nat → Int → Int} {many k b sh : Int} (h : 0 < sh) : lNx mu many k b sh.toNat = if 0 ≤ low (lCand mu k b sh) many.toNat then low (lCand mu k b sh) many.toNat else lNx mu many k b (sh + (-1)).toNat := by
  have e : sh.toNat = (sh + (-1)).toNat + 1 := by omega
  have e2 : (((sh + (-1)).toNat + 1 : Nat) : Int) = sh := by omega
  rw [e]
  show (if 0 ≤ low (lCand mu k b (((sh + (-1)).toNat + 1 : Nat) : Int)) many.toNat then low (lCand mu k b (((sh + (-1)).toNat + 1 : Nat) : Int)) many.toNat else _) = _
  rw [e2]
theorem lNx_go {mu : Nat → Int → Int} {many k b sh R b2 : Int} (h : 0 < sh) (hr : lNx mu many k b sh.toNat = R) (hb : b2 = low (lCand mu k b sh) many.toNat) : (b2 < 0 → lNx mu many k b (sh + (-1)).toNat = R) ∧ (0 ≤ b2 → b2 = R) := by
  rw [lNx_s h, ← hb] at hr
  constructor
  · intro z; rw [if_neg (by omega)] at hr; exact hr
  · intro z; rw [if_pos z] at hr; exact hr
theorem low_end {P : Int → Prop} {j many b2 : Int} (h0 : 0 ≤ j) (h1 : j ≤ many) (hb : b2 = low P j.toNat) (hx : many ≤ j ∨ 0 ≤ b2) : b2 = low P many.toNat := by
  rcases hx with h | h
  · rw [hb, show j = many by omega]
  · have e : many.toNat = j.toNat + (many.toNat - j.toNat) := by omega
    rw [e, low_keep (by rw [← hb]; exact h)]; exact hb
theorem lNx_rng {mu : Nat → Int → Int} {many k b : Int} (h : 0 ≤ many) : ∀ n : Nat, -1 ≤ lNx mu many k b n ∧ lNx mu many k b n < many ∨ lNx mu many k b n = -1
  | 0 => Or.inr rfl
  | n + 1 => by
    have h1 := low_rng (P := lCand mu k b ((n + 1 : Nat) : Int)) many.toNat
    have h2 := lNx_rng (mu := mu) (k := k) (b := b) h n
    show -1 ≤ (if 0 ≤ low (lCand mu k b ((n + 1 : Nat) : Int)) many.toNat then low (lCand mu k b ((n + 1 : Nat) : Int)) many.toNat else lNx mu many k b n) ∧ (if 0 ≤ low (lCand mu k b ((n + 1 : Nat) : Int)) many.toNat then low (lCand mu k b ((n + 1 : Nat) : Int)) many.toNat else lNx mu many k b n) < many ∨ (if 0 ≤ low (lCand mu k b ((n + 1 : Nat) : Int)) many.toNat then low (lCand mu k b ((n + 1 : Nat) : Int)) many.toNat else lNx mu many k b n) = -1
    split <;> omega
def lBes (mu : Nat → Int → Int) (k : Int) : Prop := (k = 0 ∧ (0 ≤ mu 1000 11 ∨ 0 ≤ mu 1000 19)) ∨ (k ≠ 0 ∧ k < 3 ∧ 0 ≤ mu 1000 3)
/-! the taking -/
def lWo (mu : Nat → Int → Int) (k pr : Int) : Int := (mu 1000 (8 * k)) * pr
def lPa (mu : Nat → Int → Int) (k pr : Int) : Int := (lWo mu k pr) * (mu 1000 (8 * k + 4)) / 100
def lRe (mu : Nat → Int → Int) (k pr : Int) : Int := (lWo mu k pr) - (lPa mu k pr)
def lRaw (mu : Nat → Int → Int) (k pr : Int) : Int := lPa mu k pr + lRe mu k pr * mu 1007 (3 * mu 1000 (8 * k + 3)) / 100 - lRe mu k pr * mu 1007 (3 * mu 1000 (8 * k + 3) + 1) / 100
def lLand (mu : Nat → Int → Int) (k pr : Int) : Int := if lRaw mu k pr < 0 then 0 else lRaw mu k pr
def lB (mu : Nat → Int → Int) (k d : Int) : Nat → Int → Int := st (st mu 1000 (8 * k + 2) 1) 1000 (8 * k + 5) d
def lLf (mu : Nat → Int → Int) (k pr : Int) : Nat → Int
  | 0 => lLand mu k pr
  | n + 1 => if mu 1001 (n : Int) = 2 ∧ mu 1001 (24 + (n : Int)) = k then lLf mu k pr n - (if lLf mu k pr n < mu 1002 (n : Int) then lLf mu k pr n else mu 1002 (n : Int)) else lLf mu k pr n
theorem lLf_s {mu : Nat → Int → Int} {k pr i : Int} (hi : 0 ≤ i) : lLf mu k pr (i + 1).toNat = if mu 1001 i = 2 ∧ mu 1001 (24 + i) = k then lLf mu k pr i.toNat - (if lLf mu k pr i.toNat < mu 1002 i then lLf mu k pr i.toNat else mu 1002 i) else lLf mu k pr i.toNat := by
  have e : (i + 1).toNat = i.toNat + 1 := by omega
  rw [e]
  show (if mu 1001 ((i.toNat : Nat) : Int) = 2 ∧ mu 1001 (24 + (i.toNat : Int)) = k then _ - (if _ < mu 1002 (i.toNat : Int) then _ else mu 1002 (i.toNat : Int)) else _) = _
  rw [Int.toNat_of_nonneg hi]
def lDay (mu : Nat → Int → Int) (d q : Int) : Int := if 730 < mu 1002 q - d then 730 else mu 1002 q - d
def lLea (mu : Nat → Int → Int) (k d q : Int) : Int := if lDay mu d q ≤ 0 then 0 else (lDay mu d q + (if mu 1000 (8 * k + 1) = 2 then 90 else 0)) * mu 1006 q
def lV1 (mu : Nat → Int → Int) (k pr d q : Int) : Int := if mu 1001 q = 2 then (if lLf mu k pr q.toNat < mu 1002 q then lLf mu k pr q.toNat else mu 1002 q) else lLea mu k d q
def lT1 (mu : Nat → Int → Int) (k pr d n : Int) : Nat → Int → Int := fun F q => if F = 1013 ∧ 0 ≤ q ∧ q < n ∧ mu 1001 (24 + q) = k ∧ (mu 1001 q = 2 ∨ mu 1001 q = 1) then lV1 mu k pr d q else lB mu k d F q
theorem lT1_0 (mu : Nat → Int → Int) (k pr d : Int) : lB mu k d = lT1 mu k pr d 0 := by
  funext F q
  unfold lT1
  rw [if_neg (by omega)]
theorem lT1_w {mu : Nat → Int → Int} {k pr d i v : Int} (h0 : 0 ≤ i) (h1 : mu 1001 (24 + i) = k) (h2 : mu 1001 i = 2 ∨ mu 1001 i = 1) (hv : v = lV1 mu k pr d i) : st (lT1 mu k pr d i) 1013 i v = lT1 mu k pr d (i + 1) := by
  funext F q
  simp only [lT1, st]
  by_cases hk : q = i
  · subst hk
    by_cases hF : F = 1013
    · rw [if_pos ⟨hF, rfl⟩, if_pos ⟨hF, h0, by omega, h1, h2⟩, hv]
    · rw [if_neg (fun z => hF z.1), if_neg (fun z => hF z.1), if_neg (fun z => hF z.1)]
  · have e : (q < i + 1) = (q < i) := propext ⟨fun _ => by omega, fun _ => by omega⟩
    rw [if_neg (fun z => hk z.2)]; simp only [e]
theorem lT1_n {mu : Nat → Int → Int} {k pr d i : Int} (h : ¬ (mu 1001 (24 + i) = k ∧ (mu 1001 i = 2 ∨ mu 1001 i = 1))) : lT1 mu k pr d i = lT1 mu k pr d (i + 1) := by
  funext F q
  simp only [lT1]
  by_cases hk : q = i
  · subst hk
    rw [if_neg (fun z => h z.2.2.2), if_neg (fun z => h z.2.2.2)]
  · have e : (q < i + 1) = (q < i) := propext ⟨fun _ => by omega, fun _ => by omega⟩
    simp only [e]
theorem lT1_f {mu : Nat → Int → Int} {k pr d n q : Int} {F : Nat} (h : F ≠ 1013) (h2 : F ≠ 1000) : lT1 mu k pr d n F q = mu F q := by
  unfold lT1 lB
  rw [if_neg (fun z => h z.1), st_f h2, st_f h2]
theorem lT1_p {mu : Nat → Int → Int} {k pr d n q : Int} (h : q ≠ 8 * k + 2) (h2 : q ≠ 8 * k + 5) : lT1 mu k pr d n 1000 q = mu 1000 q := by
  unfold lT1 lB
  rw [if_neg (fun z => absurd z.1 (by decide)), st_j h2, st_j h]
def lBy (mu : Nat → Int → Int) (left q : Int) : Int := left * (mu 1002 q) / 100
def lOwn (mu : Nat → Int → Int) (k d left q : Int) : Int := lBy mu left q + (if mu 1000 (8 * k + 1) = 1 ∧ mu 1000 (8 * k + 4) = 100 ∧ 365 ≤ d - mu 1003 q then lBy mu left q / 10 else 0)
def lT2 (mu : Nat → Int → Int) (many k pr d left n : Int) : Nat → Int → Int := fun F q => if F = 1013 ∧ 0 ≤ q ∧ q < n ∧ mu 1001 (24 + q) = k ∧ mu 1001 q = 0 then lOwn mu k d left q else lT1 mu k pr d many F q
theorem lT2_0 (mu : Nat → Int → Int) (many k pr d left : Int) : lT1 mu k pr d many = lT2 mu many k pr d left 0 := by
  funext F q
  unfold lT2
  rw [if_neg (by omega)]
theorem lT2_w {mu : Nat → Int → Int} {many k pr d left i v : Int} (h0 : 0 ≤ i) (h1 : mu 1001 (24 + i) = k) (h2 : mu 1001 i = 0) (hv : v = lOwn mu k d left i) : st (lT2 mu many k pr d left i) 1013 i v = lT2 mu many k pr d left (i + 1) := by
  funext F q
  simp only [lT2, st]
  by_cases hk : q = i
  · subst hk
    by_cases hF : F = 1013
    · rw [if_pos ⟨hF, rfl⟩, if_pos ⟨hF, h0, by omega, h1, h2⟩, hv]
    · rw [if_neg (fun z => hF z.1), if_neg (fun z => hF z.1), if_neg (fun z => hF z.1)]
  · have e : (q < i + 1) = (q < i) := propext ⟨fun _ => by omega, fun _ => by omega⟩
    rw [if_neg (fun z => hk z.2)]; simp only [e]
theorem lT2_n {mu : Nat → Int → Int} {many k pr d left i : Int} (h : ¬ (mu 1001 (24 + i) = k ∧ mu 1001 i = 0)) : lT2 mu many k pr d left i = lT2 mu many k pr d left (i + 1) := by
  funext F q
  simp only [lT2]
  by_cases hk : q = i
  · subst hk
    rw [if_neg (fun z => h z.2.2.2), if_neg (fun z => h z.2.2.2)]
  · have e : (q < i + 1) = (q < i) := propext ⟨fun _ => by omega, fun _ => by omega⟩
    simp only [e]
theorem lT2_f {mu : Nat → Int → Int} {many k pr d left n q : Int} {F : Nat} (h : F ≠ 1013) (h2 : F ≠ 1000) : lT2 mu many k pr d left n F q = mu F q := by
  unfold lT2
  rw [if_neg (fun z => h z.1), lT1_f h h2]
theorem lT2_p {mu : Nat → Int → Int} {many k pr d left n q : Int} (h : q ≠ 8 * k + 2) (h2 : q ≠ 8 * k + 5) : lT2 mu many k pr d left n 1000 q = mu 1000 q := by
  unfold lT2
  rw [if_neg (fun z => absurd z.1 (by decide)), lT1_p h h2]
def lCt (mu : Nat → Int → Int) (k left : Int) : Nat → Int
  | 0 => left
  | n + 1 => if mu 1001 (n : Int) = 0 ∧ mu 1001 (24 + (n : Int)) = k then lCt mu k left n - lBy mu left (n : Int) else lCt mu k left n
theorem lCt_s {mu : Nat → Int → Int} {k left i : Int} (hi : 0 ≤ i) : lCt mu k left (i + 1).toNat = if mu 1001 i = 0 ∧ mu 1001 (24 + i) = k then lCt mu k left i.toNat - lBy mu left i else lCt mu k left i.toNat := by
  have e : (i + 1).toNat = i.toNat + 1 := by omega
  rw [e]
  show (if mu 1001 ((i.toNat : Nat) : Int) = 0 ∧ mu 1001 (24 + (i.toNat : Int)) = k then _ - lBy mu left (i.toNat : Int) else _) = _
  rw [Int.toNat_of_nonneg hi]
def lLeft (mu : Nat → Int → Int) (many k pr : Int) : Int := lLf mu k pr many.toNat
def lT3 (mu : Nat → Int → Int) (many k pr d : Int) : Nat → Int → Int := lT2 mu many k pr d (lLeft mu many k pr) many
def lTkT (mu : Nat → Int → Int) (many k pr d : Int) : Nat → Int → Int := st (st (lT3 mu many k pr d) 1013 24 (lT3 mu many k pr d 1013 24 + lCt mu k (lLeft mu many k pr) many.toNat)) 1013 25 (lT3 mu many k pr d 1013 25 + lLand mu k pr)
theorem lWo_rng {mu : Nat → Int → Int} {k pr : Int} (h1 : 0 ≤ mu 1000 (8 * k) ∧ mu 1000 (8 * k) ≤ 100) (h2 : 0 ≤ pr ∧ pr ≤ 1000) : 0 ≤ lWo mu k pr ∧ lWo mu k pr ≤ 100000 := by
  have := mul_rng h1 h2
  unfold lWo; omega
theorem lPa_rng {mu : Nat → Int → Int} {k pr : Int} (h1 : 0 ≤ mu 1000 (8 * k) ∧ mu 1000 (8 * k) ≤ 100) (h2 : 0 ≤ pr ∧ pr ≤ 1000) (h3 : 0 ≤ mu 1000 (8 * k + 4) ∧ mu 1000 (8 * k + 4) ≤ 100) : 0 ≤ lPa mu k pr ∧ lPa mu k pr ≤ lWo mu k pr := by
  have a := lWo_rng h1 h2
  have b := mul_rng a h3
  have c : lWo mu k pr * mu 1000 (8 * k + 4) ≤ lWo mu k pr * 100 := Int.mul_le_mul_of_nonneg_left h3.2 a.1
  unfold lPa; omega
theorem lLand_rng {mu : Nat → Int → Int} (hG : GL mu) {k pr : Int} (h1 : 0 ≤ mu 1000 (8 * k) ∧ mu 1000 (8 * k) ≤ 100) (h2 : 0 ≤ pr ∧ pr ≤ 1000) (h3 : 0 ≤ mu 1000 (8 * k + 4) ∧ mu 1000 (8 * k + 4) ≤ 100) : 0 ≤ lLand mu k pr ∧ lLand mu k pr ≤ 100000 ∧ -100000 ≤ lRaw mu k pr ∧ lRaw mu k pr ≤ 100000 := by
  have a := lWo_rng h1 h2
  have b := lPa_rng h1 h2 h3
  have c : 0 ≤ lRe mu k pr ∧ lRe mu k pr ≤ 100000 := by unfold lRe; omega
  have d := mul_rng c (ml_1007 hG (3 * mu 1000 (8 * k + 3)))
  have d2 : lRe mu k pr * mu 1007 (3 * mu 1000 (8 * k + 3)) ≤ lRe mu k pr * 100 := Int.mul_le_mul_of_nonneg_left (by have := ml_1007 hG (3 * mu 1000 (8 * k + 3)); omega) c.1
  have f := mul_rng c (ml_1007 hG (3 * mu 1000 (8 * k + 3) + 1))
  have e : lRe mu k pr = lWo mu k pr - lPa mu k pr := rfl
  unfold lLand lRaw
  split <;> omega
theorem lLf_rng {mu : Nat → Int → Int} (hG : GL mu) {k pr : Int} (h : 0 ≤ lLand mu k pr) : ∀ n : Nat, 0 ≤ lLf mu k pr n ∧ lLf mu k pr n ≤ lLand mu k pr
  | 0 => ⟨h, Int.le_refl _⟩
  | n + 1 => by
    have h1 := lLf_rng hG h n
    have h2 := ml_1002 hG (n : Int)
    show 0 ≤ (if mu 1001 (n : Int) = 2 ∧ mu 1001 (24 + (n : Int)) = k then lLf mu k pr n - (if lLf mu k pr n < mu 1002 (n : Int) then lLf mu k pr n else mu 1002 (n : Int)) else lLf mu k pr n) ∧ (if mu 1001 (n : Int) = 2 ∧ mu 1001 (24 + (n : Int)) = k then lLf mu k pr n - (if lLf mu k pr n < mu 1002 (n : Int) then lLf mu k pr n else mu 1002 (n : Int)) else lLf mu k pr n) ≤ lLand mu k pr
    (repeat' split) <;> omega
theorem gl_lB {mu : Nat → Int → Int} (hG : GL mu) (k : Int) {d : Int} (hd : 0 ≤ d ∧ d ≤ 20000) : GL (lB mu k d) := gl_1000 (gl_1000 hG (8 * k + 2) (v := 1) (by omega)) (8 * k + 5) (by omega)
theorem gl_13 {mu mu' : Nat → Int → Int} (hG : GL mu) (h : ∀ (F : Nat) (j : Int), F ≤ 1012 → mu' F j = mu F j) : GL mu' := fun F j h1 h2 => by rw [h F j h2]; exact hG F j h1 h2
theorem gl_lT1 {mu : Nat → Int → Int} (hG : GL mu) (k pr : Int) {d : Int} (hd : 0 ≤ d ∧ d ≤ 20000) (n : Int) : GL (lT1 mu k pr d n) := gl_13 (gl_lB hG k hd) fun F j h => by unfold lT1; rw [if_neg (by omega)]
theorem gl_lT2 {mu : Nat → Int → Int} (hG : GL mu) (many k pr left : Int) {d : Int} (hd : 0 ≤ d ∧ d ≤ 20000) (n : Int) : GL (lT2 mu many k pr d left n) := gl_13 (gl_lT1 hG k pr hd many) fun F j h => by unfold lT2; rw [if_neg (by omega)]
theorem gl_lTkT {mu : Nat → Int → Int} (hG : GL mu) (many k pr : Int) {d : Int} (hd : 0 ≤ d ∧ d ≤ 20000) : GL (lTkT mu many k pr d) := gl_1013 (gl_1013 (gl_lT2 hG many k pr (lLeft mu many k pr) hd many) 24 _) 25 _
