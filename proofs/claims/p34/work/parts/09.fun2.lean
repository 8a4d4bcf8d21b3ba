/-! sums, loops: what the class's longer questions answer -/
theorem lI_divT {a b : Int} (ha : in64 a) (hb : in64 b) : lI a / lI b = lI (a.tdiv b) := (Int64.ofInt_tdiv (by show (-9223372036854775808 : Int) ≤ a; omega) (by show a ≤ (9223372036854775807 : Int); omega) (by show (-9223372036854775808 : Int) ≤ b; omega) (by show b ≤ (9223372036854775807 : Int); omega)).symm
def mn (a b : Int) : Int := if b < a then b else a
def mx (a b : Int) : Int := if a < b then b else a
section X2
variable {p : Program} {l : Launch} {e : Env} {R : Room} {s : State} {m : MethodId} {args : Array Value} {below : List Frame} {meth : Method} {c : Code} {H : Heap} {locs : List Loc} {cells slots : Nat} {Q : State → Prop}
variable {cc : ByteArray} {pc : Nat} {ls : Array Slot} {rest : List Value}
theorem xr_ldivT (hexec : p.tables.exec = Jvm.exec) (hb : c.code = cc) {a b : Int} (d : decode cc pc = .ok (.ldiv, 1)) (ha : in64 a) (hq : in64 b ∧ b ≠ 0) (k : W p l e R s m args below meth c H locs cells slots Q (F0 m (pc + 1) ls (.long (lI (a.tdiv b)) :: rest))) : W p l e R s m args below meth c H locs cells slots Q (F0 m pc ls (.long (lI b) :: .long (lI a) :: rest)) := by
  refine lv_ldiv hexec hb d (fun h => ?_) ?_
  · have h0 : lI b = lI 0 := h
    exact hq.2 ((lI_inj hq.1 ⟨by decide, by decide⟩).mp h0)
  · rw [lI_divT ha hq.1]; exact k
theorem xr_min {own : String} {index : Nat} (hexec : p.tables.exec = Jvm.exec) (hb : c.code = cc) (hml : c.maxLocals = ls.size) (hown : s.vm.findClass own = some m.cls) (hlink : (Cond.methodLink own index Lib.Math.min.name).before args s = true) (hstat : (Cond.static Lib.Math.min.name).before args s = true) (hini : (Cond.initialized "java/lang/Math").before args s = true) (hcode : (Cond.code Lib.Math.min.name Lib.Math.min.code 2 (some .int)).before args s = true)
    (hframes : 1 ≤ R.frames) (hlocals : (rest.map fun v => v.category).sum + 13 ≤ R.locals) (hc : cells ≤ R.cells) (hs : slots ≤ R.slots) {a b : Int} (ha : in32 a) (hq : in32 b) (hdg : decode cc pc = .ok (.invokestatic index, 3))
    (kk : W p l e R s m args below meth c H locs cells slots Q (F0 m (pc + 3) ls (.int (iI (mn a b)) :: rest))) : W p l e R s m args below meth c H locs cells slots Q (F0 m pc ls (.int (iI b) :: .int (iI a) :: rest)) := by
  refine va_mmin hexec hb hml hown hlink hstat hini hcode hframes hlocals hc hs hdg ?_
  have e1 : (if iI b < iI a then iI b else iI a) = iI (mn a b) := by
    unfold mn
    by_cases h : b < a
    · rw [if_pos h, if_pos ((iI_lt hq ha).mpr h)]
    · rw [if_neg h, if_neg (fun z => h ((iI_lt hq ha).mp z))]
  rw [e1]; exact kk
theorem xr_max {own : String} {index : Nat} (hexec : p.tables.exec = Jvm.exec) (hb : c.code = cc) (hml : c.maxLocals = ls.size) (hown : s.vm.findClass own = some m.cls) (hlink : (Cond.methodLink own index Lib.Math.max.name).before args s = true) (hstat : (Cond.static Lib.Math.max.name).before args s = true) (hini : (Cond.initialized "java/lang/Math").before args s = true) (hcode : (Cond.code Lib.Math.max.name Lib.Math.max.code 2 (some .int)).before args s = true)
    (hframes : 1 ≤ R.frames) (hlocals : (rest.map fun v => v.category).sum + 13 ≤ R.locals) (hc : cells ≤ R.cells) (hs : slots ≤ R.slots) {a b : Int} (ha : in32 a) (hq : in32 b) (hdg : decode cc pc = .ok (.invokestatic index, 3))
    (kk : W p l e R s m args below meth c H locs cells slots Q (F0 m (pc + 3) ls (.int (iI (mx a b)) :: rest))) : W p l e R s m args below meth c H locs cells slots Q (F0 m pc ls (.int (iI b) :: .int (iI a) :: rest)) := by
  refine va_mmax hexec hb hml hown hlink hstat hini hcode hframes hlocals hc hs hdg ?_
  have e1 : (if iI a < iI b then iI b else iI a) = iI (mx a b) := by
    unfold mx
    by_cases h : a < b
    · rw [if_pos h, if_pos ((iI_lt ha hq).mpr h)]
    · rw [if_neg h, if_neg (fun z => h ((iI_lt ha hq).mp z))]
  rw [e1]; exact kk
end X2
def sumN (f : Int → Int) : Nat → Int
  | 0 => 0
  | n + 1 => sumN f n + f (n : Int)
theorem sum_t {f : Int → Int} {i acc x : Int} (hi : 0 ≤ i) (hacc : acc = sumN f i.toNat) (h : x = f i) : acc + x = sumN f (i + 1).toNat := by
  have e : (i + 1).toNat = i.toNat + 1 := by omega
  rw [e, hacc, h]
  show _ = sumN f i.toNat + f (i.toNat : Int)
  rw [Int.toNat_of_nonneg hi]
theorem sum_0 {f : Int → Int} {i acc : Int} (hi : 0 ≤ i) (hacc : acc = sumN f i.toNat) (h : f i = 0) : acc = sumN f (i + 1).toNat := by
  have := sum_t hi hacc h.symm
  omega
theorem sum_b {f : Int → Int} {M : Int} (h : ∀ i, 0 ≤ f i ∧ f i ≤ M) : ∀ n : Nat, 0 ≤ sumN f n ∧ sumN f n ≤ M * (n : Int)
  | 0 => ⟨Int.le_refl 0, by simp [sumN]⟩
  | n + 1 => by
    have h1 := sum_b h n
    have h2 := h (n : Int)
    have e : M * ((n + 1 : Nat) : Int) = M * (n : Int) + M := by rw [Int.natCast_add, Int.mul_add]; simp
    rw [e]
    show 0 ≤ sumN f n + f n ∧ sumN f n + f n ≤ _
    omega
/-- the least number below n of a kind, or -1 -/
noncomputable def low (P : Int → Prop) : Nat → Int
  | 0 => -1
  | n + 1 => if 0 ≤ low P n then low P n else @ite Int (P (n : Int)) (Classical.propDecidable _) n (-1)
theorem low_no {P : Int → Prop} {i : Int} (hi : 0 ≤ i) (h0 : low P i.toNat = -1) (h : ¬ P i) : low P (i + 1).toNat = -1 := by
  have e : (i + 1).toNat = i.toNat + 1 := by omega
  rw [e]
  show (if 0 ≤ low P i.toNat then _ else _) = _
  rw [h0, if_neg (by decide), if_neg (by rw [Int.toNat_of_nonneg hi]; exact h)]
theorem low_yes {P : Int → Prop} {i : Int} (hi : 0 ≤ i) (h0 : low P i.toNat = -1) (h : P i) : low P (i + 1).toNat = i := by
  have e : (i + 1).toNat = i.toNat + 1 := by omega
  rw [e]
  show (if 0 ≤ low P i.toNat then _ else _) = _
  rw [h0, if_neg (by decide), if_pos (by rw [Int.toNat_of_nonneg hi]; exact h), Int.toNat_of_nonneg hi]
theorem low_keep {P : Int → Prop} {n k : Nat} (h : 0 ≤ low P n) : low P (n + k) = low P n := by
  induction k with
  | zero => rfl
  | succ k ih =>
    show (if 0 ≤ low P (n + k) then low P (n + k) else _) = _
    rw [ih, if_pos h]
theorem low_hit {P : Int → Prop} {i : Int} {N : Nat} (hi : 0 ≤ i) (hN : i < N) (h0 : low P i.toNat = -1) (h : P i) : low P N = i := by
  have h1 := low_yes hi h0 h
  have h2 := low_keep (P := P) (n := (i + 1).toNat) (k := N - (i + 1).toNat) (by rw [h1]; exact hi)
  rw [show (i + 1).toNat + (N - (i + 1).toNat) = N by omega, h1] at h2
  exact h2
theorem low_rng {P : Int → Prop} : ∀ n : Nat, -1 ≤ low P n ∧ low P n < n
  | 0 => ⟨by show (-1 : Int) ≤ -1; omega, by show (-1 : Int) < 0; omega⟩
  | n + 1 => by
    have h := low_rng (P := P) n
    show -1 ≤ (if 0 ≤ low P n then low P n else @ite Int (P (n : Int)) (Classical.propDecidable _) n (-1)) ∧ (if 0 ≤ low P n then low P n else @ite Int (P (n : Int)) (Classical.propDecidable _) n (-1)) < _
    (repeat' split) <;> omega
/-- the PRICE of a chain that holds on a day -/
def prW (sg : Nat → Int → Int) (day : Int) : Nat → Int → Int
  | 0, _ => -1
  | k + 1, n => if n < 0 then -1 else if day < sg 300 n then prW sg day k (sg 302 n) else n
def prN (sg : Nat → Int → Int) (day n : Int) : Int := prW sg day (n + 1).toNat n
def prOn (sg : Nat → Int → Int) (use day : Int) : Int := if 0 ≤ use ∧ use < 3 then prN sg day (sg 602 use) else -1
theorem prW_any {sg : Nat → Int → Int} (hG : GC sg) (day : Int) : ∀ (k : Nat) (n : Int), n < k → prW sg day k n = prN sg day n := by
  intro k
  induction k with
  | zero =>
    intro n h
    unfold prN
    rw [show (n + 1).toNat = 0 by omega]
  | succ k ih =>
    intro n h
    by_cases hn : n < 0
    · have e : (n + 1).toNat = 0 := by omega
      unfold prN
      rw [e]
      show (if n < 0 then (-1 : Int) else _) = -1
      rw [if_pos hn]
    · have e : (n + 1).toNat = n.toNat + 1 := by omega
      have h3 := gp_302 hG (j := n) (by omega)
      unfold prN
      rw [e]
      show (if n < 0 then (-1 : Int) else if day < sg 300 n then prW sg day k (sg 302 n) else n) = (if n < 0 then (-1 : Int) else if day < sg 300 n then prW sg day n.toNat (sg 302 n) else n)
      rw [ih (sg 302 n) (by omega)]
      by_cases hk : n.toNat = k
      · rw [hk, ih (sg 302 n) (by omega)]
      · have h4 : ∀ k2 : Nat, sg 302 n < k2 → k2 ≤ k → prW sg day k2 (sg 302 n) = prN sg day (sg 302 n) := by
          intro k2
          induction k2 with
          | zero =>
            intro h5 _
            unfold prN
            rw [show (sg 302 n + 1).toNat = 0 by omega]
          | succ k2 ih2 =>
            intro h5 h6
            by_cases h7 : k2 + 1 = k
            · rw [h7]; exact ih _ (by omega)
            · have key : ∀ (a b : Nat) (x : Int), x < a → x < b → prW sg day a x = prW sg day b x := by
                intro a
                induction a with
                | zero =>
                  intro b x h8 _
                  cases b with
                  | zero => rfl
                  | succ b =>
                    show (-1 : Int) = (if x < 0 then (-1 : Int) else _)
                    rw [if_pos (by omega)]
                | succ a iha =>
                  intro b x h8 h9
                  cases b with
                  | zero =>
                    show (if x < 0 then (-1 : Int) else _) = (-1 : Int)
                    rw [if_pos (by omega)]
                  | succ b =>
                    show (if x < 0 then (-1 : Int) else if day < sg 300 x then prW sg day a (sg 302 x) else x) = (if x < 0 then (-1 : Int) else if day < sg 300 x then prW sg day b (sg 302 x) else x)
                    by_cases h10 : x < 0
                    · rw [if_pos h10, if_pos h10]
                    · have h11 := gp_302 hG (j := x) (by omega)
                      rw [iha b (sg 302 x) (by omega) (by omega)]
              rw [key (k2 + 1) k _ h5 (by omega)]
              exact ih _ (by omega)
        rw [h4 n.toNat (by omega) (by omega)]
theorem prN_n {sg : Nat → Int → Int} (day : Int) {n : Int} (h : n < 0) : prN sg day n = -1 := by
  unfold prN
  rw [show (n + 1).toNat = 0 by omega]
  rfl
theorem prN_p {sg : Nat → Int → Int} (hG : GC sg) (day : Int) {n : Int} (h : 0 ≤ n) : prN sg day n = if day < sg 300 n then prN sg day (sg 302 n) else n := by
  have e : (n + 1).toNat = n.toNat + 1 := by omega
  have h3 := gp_302 hG (j := n) h
  rw [← prW_any hG day n.toNat (sg 302 n) (by omega)]
  unfold prN
  rw [e]
  show (if n < 0 then (-1 : Int) else _) = _
  rw [if_neg (by omega)]
theorem prN_rng {sg : Nat → Int → Int} (hG : GC sg) (day : Int) : ∀ (k : Nat) (n : Int), n < k → -1 ≤ n → -1 ≤ prN sg day n ∧ prN sg day n ≤ n := by
  intro k
  induction k with
  | zero => intro n h h1; rw [prN_n day (by omega)]; omega
  | succ k ih =>
    intro n h h1
    by_cases hn : n < 0
    · rw [prN_n day hn]; omega
    · have h3 := gp_302 hG (j := n) (by omega)
      rw [prN_p hG day (by omega)]
      split
      · have := ih (sg 302 n) (by omega) (by omega); omega
      · omega
theorem prOn_rng {sg : Nat → Int → Int} (hG : GC sg) (use day : Int) : -1 ≤ prOn sg use day ∧ (prOn sg use day < sg 702 0 ∨ prOn sg use day = -1) := by
  unfold prOn
  split
  · rename_i h
    have h1 := ga_602 hG h
    have h2 := prN_rng hG day ((sg 602 use).toNat + 1) (sg 602 use) (by omega) (by omega)
    omega
  · omega
theorem np_pos {sg : Nat → Int → Int} (hG : GC sg) : 0 < sg 702 0 := by
  have h1 := ga_602 hG (q := 0) (by omega)
  omega
theorem prOn_lt {sg : Nat → Int → Int} (hG : GC sg) (use day : Int) : -1 ≤ prOn sg use day ∧ prOn sg use day < sg 702 0 := by
  have h1 := prOn_rng hG use day
  have h2 := np_pos hG
  omega
def worthT (sg : Nat → Int → Int) (v : Int) : Int := if v < 0 then 0 else worthB sg v (prOn sg (sg 202 v) (sg 506 0))
theorem worthT_rng {sg : Nat → Int → Int} (hG : GC sg) (v : Int) : 0 ≤ worthT sg v ∧ worthT sg v ≤ 100000 := by
  have h := worthB_rng hG v (prOn sg (sg 202 v) (sg 506 0))
  unfold worthT
  split <;> omega
def beside (sg : Nat → Int → Int) (x : Int) : Prop := (0 < x % 6 ∧ 0 ≤ needO sg (pAt (x - 1))) ∨ (x % 6 < 5 ∧ 0 ≤ needO sg (pAt (x + 1))) ∨ 0 ≤ needO sg (pAt (x - 6)) ∨ 0 ≤ needO sg (pAt (x + 6))
noncomputable def cntNeed (sg : Nat → Int → Int) (w : Int) : Int := sumN (fun q => bI (0 ≤ w ∧ needO sg q = w)) 36
noncomputable def cntFree (sg : Nat → Int → Int) (w : Int) : Int := sumN (fun q => bI (freeNeed sg q w)) 36
noncomputable def cntWorks (sg : Nat → Int → Int) : Int := sumN (fun q => bI (sg 208 q ≠ 0)) 36
noncomputable def cntOpen (sg : Nat → Int → Int) (w : Int) : Int := sumN (fun q => bI (q < sg 503 0 ∧ sg 109 q ≠ 0 ∧ freeNeed sg (sg 102 q) w)) 24
theorem cntNeed_rng (sg : Nat → Int → Int) (w : Int) : 0 ≤ cntNeed sg w ∧ cntNeed sg w ≤ 36 := by
  have h := sum_b (f := fun q => bI (0 ≤ w ∧ needO sg q = w)) (M := 1) (fun i => bI_in _) 36
  unfold cntNeed; omega
theorem cntFree_rng (sg : Nat → Int → Int) (w : Int) : 0 ≤ cntFree sg w ∧ cntFree sg w ≤ 36 := by
  have h := sum_b (f := fun q => bI (freeNeed sg q w)) (M := 1) (fun i => bI_in _) 36
  unfold cntFree; omega
theorem cntOpen_rng (sg : Nat → Int → Int) (w : Int) : 0 ≤ cntOpen sg w ∧ cntOpen sg w ≤ 24 := by
  have h := sum_b (f := fun q => bI (q < sg 503 0 ∧ sg 109 q ≠ 0 ∧ freeNeed sg (sg 102 q) w)) (M := 1) (fun i => bI_in _) 24
  unfold cntOpen; omega
def stopsO (sg : Nat → Int → Int) (v : Int) : Prop := 0 ≤ v ∧ ¬ overO sg v (sg 506 0) ∧ (sg 107 v = -1 ∨ sg 506 0 - sg 107 v < 21 ∨ sg 109 v ≠ 0)
noncomputable def stopper (sg : Nat → Int → Int) (w : Int) : Int := low (fun q => q < sg 503 0 ∧ freeNeed sg (sg 102 q) w ∧ stopsO sg q) 24
theorem stopper_rng {sg : Nat → Int → Int} (w : Int) : -1 ≤ stopper sg w ∧ stopper sg w < 24 := low_rng 24
noncomputable def shares (sg : Nat → Int → Int) (v : Int) : Int := sumN (fun q => if q < sg 503 0 ∧ sg 101 q = 0 ∧ sg 102 q = v then sg 105 q else 0) 24
theorem shares_rng {sg : Nat → Int → Int} (hG : GC sg) (v : Int) : 0 ≤ shares sg v ∧ shares sg v ≤ 2400000 := by
  have h := sum_b (f := fun q => if q < sg 503 0 ∧ sg 101 q = 0 ∧ sg 102 q = v then sg 105 q else 0) (M := 100000) (fun i => by have := gr_105 hG i; split <;> omega) 24
  unfold shares
  omega
def canTell (sg : Nat → Int → Int) (v : Int) : Prop := 0 ≤ v ∧ sg 203 v = 0 ∧ sg 503 0 < 24
/-- the LAND -/
def landO (sg : Nat → Int → Int) (v : Int) : Int := if v < 0 then 0 else if sg 204 v < 0 then 0 else
  mx 0 (worthB sg v (sg 207 v) * sg 205 v / 100 + (worthB sg v (sg 207 v) - worthB sg v (sg 207 v) * sg 205 v / 100) * sg 401 (sg 204 v) / 100 - (worthB sg v (sg 207 v) - worthB sg v (sg 207 v) * sg 205 v / 100) * sg 402 (sg 204 v) / 100)
def lefts (sg : Nat → Int → Int) (v land bound : Int) : Nat → Int
  | 0 => land
  | n + 1 => if (n : Int) < sg 503 0 ∧ sg 101 n = 2 ∧ sg 102 n = v ∧ (n : Int) < bound then lefts sg v land bound n - mn (lefts sg v land bound n) (sg 105 n) else lefts sg v land bound n
theorem lefts_s {sg : Nat → Int → Int} {v land bound i : Int} (hi : 0 ≤ i) : lefts sg v land bound (i + 1).toNat = if i < sg 503 0 ∧ sg 101 i = 2 ∧ sg 102 i = v ∧ i < bound then lefts sg v land bound i.toNat - mn (lefts sg v land bound i.toNat) (sg 105 i) else lefts sg v land bound i.toNat := by
  have e : (i + 1).toNat = i.toNat + 1 := by omega
  rw [e]
  show (if ((i.toNat : Nat) : Int) < sg 503 0 ∧ sg 101 (i.toNat : Int) = 2 ∧ sg 102 (i.toNat : Int) = v ∧ (i.toNat : Int) < bound then _ - mn _ (sg 105 (i.toNat : Int)) else _) = _
  rw [Int.toNat_of_nonneg hi]
theorem lefts_rng {sg : Nat → Int → Int} (hG : GC sg) {v land bound : Int} (h : 0 ≤ land) : ∀ n : Nat, 0 ≤ lefts sg v land bound n ∧ lefts sg v land bound n ≤ land
  | 0 => ⟨h, Int.le_refl _⟩
  | n + 1 => by
    have h1 := lefts_rng hG (v := v) (bound := bound) h n
    have h2 := gr_105 hG (n : Int)
    show 0 ≤ (if (n : Int) < sg 503 0 ∧ sg 101 n = 2 ∧ sg 102 n = v ∧ (n : Int) < bound then lefts sg v land bound n - mn (lefts sg v land bound n) (sg 105 n) else lefts sg v land bound n) ∧ (if (n : Int) < sg 503 0 ∧ sg 101 n = 2 ∧ sg 102 n = v ∧ (n : Int) < bound then lefts sg v land bound n - mn (lefts sg v land bound n) (sg 105 n) else lefts sg v land bound n) ≤ land
    unfold mn
    (repeat' split) <;> omega
def leftB (sg : Nat → Int → Int) (v land bound : Int) : Int := lefts sg v land bound 24
theorem leftB_rng {sg : Nat → Int → Int} (hG : GC sg) (v bound : Int) {land : Int} (h : 0 ≤ land) : 0 ≤ leftB sg v land bound ∧ leftB sg v land bound ≤ land := lefts_rng hG h 24
def ownS (sg : Nat → Int → Int) (x v land : Int) : Int := leftB sg v land 24 * sg 105 x / 100 + (if sg 202 v = 1 ∧ sg 205 v = 100 ∧ 365 ≤ sg 206 v - sg 104 x then leftB sg v land 24 * sg 105 x / 100 / 10 else 0)
def leaS (sg : Nat → Int → Int) (x v : Int) : Int := if sg 101 x = 1 ∧ sg 105 x ≤ sg 206 v then 0 else (mn 730 (sg 105 x - sg 206 v) + (if sg 202 v = 2 then 90 else 0)) * sg 106 x
def sumB (sg : Nat → Int → Int) (x land : Int) : Int := if sg 101 x = 0 then ownS sg x (sg 102 x) land else if sg 101 x = 1 then leaS sg x (sg 102 x) else mn (sg 105 x) (leftB sg (sg 102 x) land x)
theorem ownS_rng {sg : Nat → Int → Int} (hG : GC sg) {x v land : Int} (h : 0 ≤ land ∧ land ≤ 100000) (hk : sg 101 x = 0) : 0 ≤ ownS sg x v land ∧ ownS sg x v land ≤ 110000 := by
  have h1 := leftB_rng hG v 24 h.1
  have h2 := gm_105 hG x hk
  have h3 := gr_105 hG x
  have h4 := mul_rng (a := leftB sg v land 24) (m := 100000) (b := sg 105 x) (n := 100) (by omega) (by omega)
  unfold ownS
  split <;> omega
theorem leaS_rng {sg : Nat → Int → Int} (hG : GC sg) {x v : Int} (hk : sg 101 x = 1) : 0 ≤ leaS sg x v ∧ leaS sg x v ≤ 82000 := by
  have h1 := gr_106 hG x
  unfold leaS
  by_cases h : sg 101 x = 1 ∧ sg 105 x ≤ sg 206 v
  · rw [if_pos h]; omega
  · rw [if_neg h]
    have h2 : 0 ≤ mn 730 (sg 105 x - sg 206 v) + (if sg 202 v = 2 then 90 else 0) ∧ mn 730 (sg 105 x - sg 206 v) + (if sg 202 v = 2 then 90 else 0) ≤ 820 := by
      unfold mn
      (repeat' split) <;> omega
    have h3 := mul_rng h2 h1
    omega
theorem sumB_rng {sg : Nat → Int → Int} (hG : GC sg) {x land : Int} (h : 0 ≤ land ∧ land ≤ 100000) : 0 ≤ sumB sg x land ∧ sumB sg x land ≤ 110000 := by
  have h1 := leftB_rng hG (sg 102 x) x h.1
  have h2 := gr_105 hG x
  unfold sumB
  split
  · exact ownS_rng hG h (by assumption)
  · split
    · have := leaS_rng hG (v := sg 102 x) (x := x) (by assumption); omega
    · unfold mn; split <;> omega
def courtN (sg : Nat → Int → Int) (v land : Int) : Nat → Int
  | 0 => leftB sg v land 24
  | n + 1 => if (n : Int) < sg 503 0 ∧ sg 101 n = 0 ∧ sg 102 n = v then courtN sg v land n - leftB sg v land 24 * sg 105 n / 100 else courtN sg v land n
def courtL (sg : Nat → Int → Int) (v land : Int) : Int := courtN sg v land 24
theorem court_s {sg : Nat → Int → Int} {v land i : Int} (hi : 0 ≤ i) : courtN sg v land (i + 1).toNat = if i < sg 503 0 ∧ sg 101 i = 0 ∧ sg 102 i = v then courtN sg v land i.toNat - leftB sg v land 24 * sg 105 i / 100 else courtN sg v land i.toNat := by
  have e : (i + 1).toNat = i.toNat + 1 := by omega
  rw [e]
  show (if ((i.toNat : Nat) : Int) < sg 503 0 ∧ sg 101 (i.toNat : Int) = 0 ∧ sg 102 (i.toNat : Int) = v then _ - leftB sg v land 24 * sg 105 (i.toNat : Int) / 100 else _) = _
  rw [Int.toNat_of_nonneg hi]
theorem court_rng {sg : Nat → Int → Int} (hG : GC sg) {v land : Int} (h : 0 ≤ land ∧ land ≤ 100000) : ∀ n : Nat, -(100000 * (n : Int)) ≤ courtN sg v land n ∧ courtN sg v land n ≤ 100000
  | 0 => by
    have h1 := leftB_rng hG v 24 h.1
    show -(100000 * ((0 : Nat) : Int)) ≤ leftB sg v land 24 ∧ leftB sg v land 24 ≤ 100000
    omega
  | n + 1 => by
    have h0 := court_rng (v := v) hG h n
    have h1 := leftB_rng hG v 24 h.1
    show -(100000 * ((n + 1 : Nat) : Int)) ≤ (if (n : Int) < sg 503 0 ∧ sg 101 n = 0 ∧ sg 102 n = v then courtN sg v land n - leftB sg v land 24 * sg 105 n / 100 else courtN sg v land n) ∧ (if (n : Int) < sg 503 0 ∧ sg 101 n = 0 ∧ sg 102 n = v then courtN sg v land n - leftB sg v land 24 * sg 105 n / 100 else courtN sg v land n) ≤ 100000
    split
    · rename_i hc
      have h2 := gm_105 hG (n : Int) hc.2.1
      have h3 := gr_105 hG (n : Int)
      have h4 := mul_rng (a := leftB sg v land 24) (m := 100000) (b := sg 105 n) (n := 100) (by omega) (by omega)
      omega
    · omega
theorem courtL_rng {sg : Nat → Int → Int} (hG : GC sg) (v : Int) {land : Int} (h : 0 ≤ land ∧ land ≤ 100000) : -2400000 ≤ courtL sg v land ∧ courtL sg v land ≤ 100000 := by
  have := court_rng (v := v) hG h 24
  unfold courtL
  omega
theorem landO_rng {sg : Nat → Int → Int} (hG : GC sg) (v : Int) : 0 ≤ landO sg v ∧ landO sg v ≤ 100000 := by
  have h1 := worthB_rng hG v (sg 207 v)
  have h2 := gr_205 hG v
  have h3 := gr_401 hG (sg 204 v)
  have h4 := gr_402 hG (sg 204 v)
  have h5 := mul_rng (a := worthB sg v (sg 207 v)) (m := 100000) (b := sg 205 v) (n := 100) h1 h2
  have h6 : worthB sg v (sg 207 v) * sg 205 v ≤ worthB sg v (sg 207 v) * 100 := Int.mul_le_mul_of_nonneg_left h2.2 h1.1
  have h7 := mul_rng (a := worthB sg v (sg 207 v) - worthB sg v (sg 207 v) * sg 205 v / 100) (m := worthB sg v (sg 207 v) - worthB sg v (sg 207 v) * sg 205 v / 100) (b := sg 401 (sg 204 v)) (n := 50) (by omega) h3
  have h8 := mul_rng (a := worthB sg v (sg 207 v) - worthB sg v (sg 207 v) * sg 205 v / 100) (m := worthB sg v (sg 207 v) - worthB sg v (sg 207 v) * sg 205 v / 100) (b := sg 402 (sg 204 v)) (n := 50) (by omega) h4
  unfold landO mx
  (repeat' split) <;> omega
def gainR (u d : Int) : Int := (u * d * 3).tdiv 36500
def gainO (sg : Nat → Int → Int) (x : Int) : Int := if sg 112 x = -1 then gainR (sg 110 x) (sg 506 0 - sg 206 (sg 102 x)) else gainR (sg 110 x) (sg 112 x - sg 206 (sg 102 x)) + gainR (sg 110 x - sg 111 x) (sg 506 0 - sg 112 x)
def owedO (sg : Nat → Int → Int) (x : Int) : Int := if x < 0 ∨ sg 206 (sg 102 x) = -1 ∨ sg 114 x ≠ 0 then 0 else sg 110 x - sg 111 x + gainO sg x
theorem gain_in {u d : Int} (hu : -200000 ≤ u ∧ u ≤ 200000) (hd : -50000 ≤ d ∧ d ≤ 50000) : in64 (u * d * 3) := by
  have h : (u * d).natAbs ≤ 200000 * 50000 := by
    rw [Int.natAbs_mul]
    exact Nat.mul_le_mul (by omega) (by omega)
  constructor <;> omega
theorem gainR_rng {u d : Int} (hu : -200000 ≤ u ∧ u ≤ 200000) (hd : -50000 ≤ d ∧ d ≤ 50000) : -900000 ≤ gainR u d ∧ gainR u d ≤ 900000 := by
  have h : (u * d).natAbs ≤ 200000 * 50000 := by
    rw [Int.natAbs_mul]
    exact Nat.mul_le_mul (by omega) (by omega)
  have h2 : (gainR u d).natAbs = (u * d * 3).natAbs / 36500 := by
    unfold gainR
    rw [Int.natAbs_tdiv]
    rfl
  have h3 : (u * d * 3).natAbs ≤ 30000000000 := by omega
  have h4 : (u * d * 3).natAbs / 36500 ≤ 30000000000 / 36500 := Nat.div_le_div_right h3
  omega
noncomputable def ownerB (sg : Nat → Int → Int) (v w : Int) : Nat → Int
  | 0 => -1
  | n + 1 => @ite Int ((n : Int) < sg 503 0 ∧ sg 101 n = 0 ∧ sg 102 n = v ∧ behind sg n w ∧ (ownerB sg v w n < 0 ∨ sg 105 (ownerB sg v w n) < sg 105 n)) (Classical.propDecidable _) n (ownerB sg v w n)
theorem ownerB_s {sg : Nat → Int → Int} {v w i : Int} (hi : 0 ≤ i) : ownerB sg v w (i + 1).toNat = @ite Int (i < sg 503 0 ∧ sg 101 i = 0 ∧ sg 102 i = v ∧ behind sg i w ∧ (ownerB sg v w i.toNat < 0 ∨ sg 105 (ownerB sg v w i.toNat) < sg 105 i)) (Classical.propDecidable _) i (ownerB sg v w i.toNat) := by
  have e : (i + 1).toNat = i.toNat + 1 := by omega
  rw [e]
  show @ite Int (((i.toNat : Nat) : Int) < sg 503 0 ∧ sg 101 (i.toNat : Int) = 0 ∧ sg 102 (i.toNat : Int) = v ∧ behind sg (i.toNat : Int) w ∧ (ownerB sg v w i.toNat < 0 ∨ sg 105 (ownerB sg v w i.toNat) < sg 105 (i.toNat : Int))) (Classical.propDecidable _) (i.toNat : Int) (ownerB sg v w i.toNat) = _
  congr 1 <;> rw [Int.toNat_of_nonneg hi]
theorem ownerB_rng {sg : Nat → Int → Int} {v w : Int} (hG : GC sg) : ∀ n : Nat, -1 ≤ ownerB sg v w n ∧ (ownerB sg v w n < sg 503 0 ∨ ownerB sg v w n = -1)
  | 0 => ⟨by show (-1 : Int) ≤ -1; omega, Or.inr rfl⟩
  | n + 1 => by
    have h := ownerB_rng (v := v) (w := w) hG n
    show -1 ≤ @ite Int _ (Classical.propDecidable _) _ _ ∧ (@ite Int ((n : Int) < sg 503 0 ∧ _) (Classical.propDecidable _) _ _ < _ ∨ @ite Int _ (Classical.propDecidable _) _ _ = -1)
    split <;> omega
noncomputable def ownBeh (sg : Nat → Int → Int) (v w : Int) : Int := ownerB sg v w 24
theorem ownBeh_rng {sg : Nat → Int → Int} (hG : GC sg) (v w : Int) : -1 ≤ ownBeh sg v w ∧ ownBeh sg v w < sg 503 0 := by
  have h := ownerB_rng (v := v) (w := w) hG 24
  have h2 := gr_503 hG 0
  unfold ownBeh
  omega
