/-! what the model's methods answer, out of its table -/
theorem st_st {mu : Nat → Int → Int} {f : Nat} {j a b : Int} : st (st mu f j a) f j b = st mu f j b := by
  funext F i
  unfold st
  split <;> rfl
def mT (mu : Nat → Int → Int) (E : Int) (T : Nat → Int → Int) : Nat → Int → Int := if E = 0 then T else st mu 900 0 E
def mR (E r : Int) : Int := if E = 0 then r else 0
theorem mT_0 {mu T : Nat → Int → Int} {E : Int} (h : E = 0) : mT mu E T = T := if_pos h
theorem mT_k {mu T : Nat → Int → Int} {E : Int} (k : Int) (h : E = k) (hk : k ≠ 0) : mT mu E T = st mu 900 0 k := by unfold mT; rw [h, if_neg hk]
theorem mR_0 {E r : Int} (h : E = 0) : mR E r = r := if_pos h
theorem mR_k {E r : Int} (k : Int) (h : E = k) (hk : k ≠ 0) : mR E r = 0 := by unfold mR; rw [h, if_neg hk]
def mWorth (mu : Nat → Int → Int) (p d : Int) : Int := mu 1003 p * mu 1002 (3 * d + mu 1004 p)
theorem mWorth_rng {mu : Nat → Int → Int} (hG : GM mu) (p d : Int) : 0 ≤ mWorth mu p d ∧ mWorth mu p d ≤ 100000 := by
  have := mul_rng (mr_1003 hG p) (mr_1002 hG (3 * d + mu 1004 p))
  unfold mWorth; omega
def mBeside (mu : Nat → Int → Int) (x : Int) : Prop := (0 < x % 6 ∧ mu 1006 (x - 1) ≠ -1) ∨ (x % 6 < 5 ∧ mu 1006 (x + 1) ≠ -1) ∨ (5 < x ∧ mu 1006 (x - 6) ≠ -1) ∨ (x < 30 ∧ mu 1006 (x + 6) ≠ -1)
noncomputable def mNeed (mu : Nat → Int → Int) (w b : Int) : Int := sumN (fun q => bI (mu 1006 q = w ∧ (b = 0 ∨ mu 1005 q = 0))) 36
theorem mNeed_rng (mu : Nat → Int → Int) (w b : Int) : 0 ≤ mNeed mu w b ∧ mNeed mu w b ≤ 36 := by
  have h := sum_b (f := fun q => bI (mu 1006 q = w ∧ (b = 0 ∨ mu 1005 q = 0))) (M := 1) (fun i => bI_in _) 36
  unfold mNeed; omega
abbrev mDraft (mu : Nat → Int → Int) (i : Int) : Prop := mu 1005 (mu 1015 i) = 0 ∧ mu 1006 (mu 1015 i) ≠ -1 ∧ mu 1029 (mu 1006 (mu 1015 i)) = 0
noncomputable def mOpen (mu : Nat → Int → Int) (w : Int) : Int := sumN (fun q => bI (mu 1020 q = 1 ∧ mu 1005 (mu 1015 q) = 0 ∧ mu 1006 (mu 1015 q) = w)) (mu 913 0).toNat
def mStops (mu : Nat → Int → Int) (w i : Int) : Prop := (mu 1005 (mu 1015 i) = 0 ∧ mu 1006 (mu 1015 i) = w ∧ (mu 1014 i ≠ 1 ∨ mu 901 0 < mu 1018 i)) ∧ (mu 1019 i = -1 ∨ mu 901 0 - mu 1019 i < 21 ∨ mu 1020 i = 1)
noncomputable def mStopper (mu : Nat → Int → Int) (w : Int) : Int := low (mStops mu w) (mu 913 0).toNat
def mBeh (mu : Nat → Int → Int) (i b : Int) : Prop := b = -1 ∨ mu 1018 i < mu 1018 b ∨ (mu 1018 i = mu 1018 b ∧ b < i)
theorem mStopper_rng {mu : Nat → Int → Int} (hG : GM mu) (w : Int) : -1 ≤ mStopper mu w ∧ mStopper mu w < mu 913 0 := by
  have h := low_rng (P := mStops mu w) (mu 913 0).toNat
  have h2 := mr_913 hG 0
  unfold mStopper; omega
noncomputable def mOwnN (mu : Nat → Int → Int) (p b : Int) : Nat → Int
  | 0 => -1
  | n + 1 => @ite Int ((mu 1014 n = 0 ∧ mu 1015 n = p) ∧ mBeh mu n b ∧ (mOwnN mu p b n = -1 ∨ mu 1018 (mOwnN mu p b n) < mu 1018 n)) (Classical.propDecidable _) n (mOwnN mu p b n)
theorem mOwn_s {mu : Nat → Int → Int} {p b i : Int} (hi : 0 ≤ i) : mOwnN mu p b (i + 1).toNat = @ite Int ((mu 1014 i = 0 ∧ mu 1015 i = p) ∧ mBeh mu i b ∧ (mOwnN mu p b i.toNat = -1 ∨ mu 1018 (mOwnN mu p b i.toNat) < mu 1018 i)) (Classical.propDecidable _) i (mOwnN mu p b i.toNat) := by
  have e : (i + 1).toNat = i.toNat + 1 := by omega
  rw [e]
  show @ite Int ((mu 1014 (i.toNat : Int) = 0 ∧ mu 1015 (i.toNat : Int) = p) ∧ mBeh mu (i.toNat : Int) b ∧ (mOwnN mu p b i.toNat = -1 ∨ mu 1018 (mOwnN mu p b i.toNat) < mu 1018 (i.toNat : Int))) (Classical.propDecidable _) (i.toNat : Int) (mOwnN mu p b i.toNat) = _
  congr 1 <;> rw [Int.toNat_of_nonneg hi]
theorem mOwn_rng {mu : Nat → Int → Int} {p b : Int} : ∀ n : Nat, -1 ≤ mOwnN mu p b n ∧ mOwnN mu p b n < n
  | 0 => ⟨by show (-1 : Int) ≤ -1; omega, by show (-1 : Int) < 0; omega⟩
  | n + 1 => by
    have h := mOwn_rng (mu := mu) (p := p) (b := b) n
    show -1 ≤ @ite Int _ (Classical.propDecidable _) _ _ ∧ @ite Int _ (Classical.propDecidable _) _ _ < _
    split <;> omega
noncomputable def mOwnB (mu : Nat → Int → Int) (p b : Int) : Int := mOwnN mu p b (mu 913 0).toNat
theorem mOwnB_rng {mu : Nat → Int → Int} (hG : GM mu) (p b : Int) : -1 ≤ mOwnB mu p b ∧ mOwnB mu p b < mu 913 0 := by
  have h := mOwn_rng (mu := mu) (p := p) (b := b) (mu 913 0).toNat
  have h2 := mr_913 hG 0
  unfold mOwnB; omega
def mLand (mu : Nat → Int → Int) (p w : Int) : Int :=
  if mWorth mu p (mu 1008 p) * mu 1007 p / 100 + (mWorth mu p (mu 1008 p) - mWorth mu p (mu 1008 p) * mu 1007 p / 100) * mu 1027 w / 100 - (mWorth mu p (mu 1008 p) - mWorth mu p (mu 1008 p) * mu 1007 p / 100) * mu 1028 w / 100 < 0 then 0
  else mWorth mu p (mu 1008 p) * mu 1007 p / 100 + (mWorth mu p (mu 1008 p) - mWorth mu p (mu 1008 p) * mu 1007 p / 100) * mu 1027 w / 100 - (mWorth mu p (mu 1008 p) - mWorth mu p (mu 1008 p) * mu 1007 p / 100) * mu 1028 w / 100
theorem mLand_rng {mu : Nat → Int → Int} (hG : GM mu) (p w : Int) : 0 ≤ mLand mu p w ∧ mLand mu p w ≤ 100000 := by
  have h1 := mWorth_rng hG p (mu 1008 p)
  have h2 := mr_1007 hG p
  have h3 := mr_1027 hG w
  have h4 := mr_1028 hG w
  have h5 := mul_rng (a := mWorth mu p (mu 1008 p)) (m := 100000) (b := mu 1007 p) (n := 100) h1 h2
  have h6 : mWorth mu p (mu 1008 p) * mu 1007 p ≤ mWorth mu p (mu 1008 p) * 100 := Int.mul_le_mul_of_nonneg_left h2.2 h1.1
  have h7 := mul_rng (a := mWorth mu p (mu 1008 p) - mWorth mu p (mu 1008 p) * mu 1007 p / 100) (m := mWorth mu p (mu 1008 p) - mWorth mu p (mu 1008 p) * mu 1007 p / 100) (b := mu 1027 w) (n := 50) (by omega) h3
  have h8 := mul_rng (a := mWorth mu p (mu 1008 p) - mWorth mu p (mu 1008 p) * mu 1007 p / 100) (m := mWorth mu p (mu 1008 p) - mWorth mu p (mu 1008 p) * mu 1007 p / 100) (b := mu 1028 w) (n := 50) (by omega) h4
  unfold mLand
  split <;> omega
def mLeftN (mu : Nat → Int → Int) (p : Int) : Nat → Int
  | 0 => mu 1012 p
  | n + 1 => if mu 1014 n = 2 ∧ mu 1015 n = p then mLeftN mu p n - (if mu 1018 n < mLeftN mu p n then mu 1018 n else mLeftN mu p n) else mLeftN mu p n
theorem mLeft_s {mu : Nat → Int → Int} {p i : Int} (hi : 0 ≤ i) : mLeftN mu p (i + 1).toNat = if mu 1014 i = 2 ∧ mu 1015 i = p then mLeftN mu p i.toNat - (if mu 1018 i < mLeftN mu p i.toNat then mu 1018 i else mLeftN mu p i.toNat) else mLeftN mu p i.toNat := by
  have e : (i + 1).toNat = i.toNat + 1 := by omega
  rw [e]
  show (if mu 1014 (i.toNat : Int) = 2 ∧ mu 1015 (i.toNat : Int) = p then mLeftN mu p i.toNat - (if mu 1018 (i.toNat : Int) < mLeftN mu p i.toNat then mu 1018 (i.toNat : Int) else mLeftN mu p i.toNat) else mLeftN mu p i.toNat) = _
  rw [Int.toNat_of_nonneg hi]
theorem mLeft_rng {mu : Nat → Int → Int} (hG : GM mu) (p : Int) : ∀ n : Nat, 0 ≤ mLeftN mu p n ∧ mLeftN mu p n ≤ 100000
  | 0 => mr_1012 hG p
  | n + 1 => by
    have h := mLeft_rng hG p n
    have h2 := mr_1018 hG (n : Int)
    show 0 ≤ (if mu 1014 (n : Int) = 2 ∧ mu 1015 (n : Int) = p then _ else _) ∧ (if mu 1014 (n : Int) = 2 ∧ mu 1015 (n : Int) = p then _ else _) ≤ 100000
    (repeat' split) <;> omega
def mLeft (mu : Nat → Int → Int) (p i : Int) : Int := mLeftN mu p i.toNat
theorem mLeftI_rng {mu : Nat → Int → Int} (hG : GM mu) (p i : Int) : 0 ≤ mLeft mu p i ∧ mLeft mu p i ≤ 100000 := mLeft_rng hG p i.toNat
def mShare (mu : Nat → Int → Int) (i : Int) : Int := mLeft mu (mu 1015 i) (mu 913 0) * mu 1018 i / 100
theorem mShare_rng {mu : Nat → Int → Int} (hG : GM mu) (i : Int) : 0 ≤ mShare mu i ∧ mShare mu i ≤ 100000000 := by
  have h1 := mLeft_rng hG (mu 1015 i) (mu 913 0).toNat
  have h2 := mul_rng h1 (mr_1018 hG i)
  unfold mShare mLeft; omega
def mSum (mu : Nat → Int → Int) (i : Int) : Int :=
  if mu 1014 i = 2 then (if mu 1018 i < mLeft mu (mu 1015 i) i then mu 1018 i else mLeft mu (mu 1015 i) i)
  else if mu 1014 i = 0 then mShare mu i + (if mu 1004 (mu 1015 i) = 1 ∧ mu 1007 (mu 1015 i) = 100 ∧ 365 ≤ mu 1008 (mu 1015 i) - mu 1017 i then mShare mu i / 10 else 0)
  else if mu 1018 i - mu 1008 (mu 1015 i) ≤ 0 then 0
  else ((if 730 < mu 1018 i - mu 1008 (mu 1015 i) then 730 else mu 1018 i - mu 1008 (mu 1015 i)) + (if mu 1004 (mu 1015 i) = 2 then 90 else 0)) * mu 1034 i
theorem mSum_rng {mu : Nat → Int → Int} (hG : GM mu) {i : Int} : 0 ≤ mSum mu i ∧ mSum mu i ≤ 110000 := by
  have h1 := mLeft_rng hG (mu 1015 i) i.toNat
  have h2 := mr_1018 hG i
  have h3 := mr_1034 hG i
  have h4 := mr_1014 hG i
  have h5 := mLeft_rng hG (mu 1015 i) (mu 913 0).toNat
  unfold mSum
  by_cases k2 : mu 1014 i = 2
  · rw [if_pos k2]
    unfold mLeft
    split <;> omega
  · rw [if_neg k2]
    by_cases k0 : mu 1014 i = 0
    · rw [if_pos k0]
      have h6 := mm_18 hG i k0
      have h7 := mul_rng (a := mLeft mu (mu 1015 i) (mu 913 0)) (m := 100000) (b := mu 1018 i) (n := 100) h5 (by omega)
      have h8 : 0 ≤ mShare mu i ∧ mShare mu i ≤ 100000 := by unfold mShare; omega
      split <;> omega
    · rw [if_neg k0]
      by_cases hd : mu 1018 i - mu 1008 (mu 1015 i) ≤ 0
      · rw [if_pos hd]; omega
      · rw [if_neg hd]
        have h9 := mul_rng (a := (if 730 < mu 1018 i - mu 1008 (mu 1015 i) then 730 else mu 1018 i - mu 1008 (mu 1015 i)) + (if mu 1004 (mu 1015 i) = 2 then 90 else 0)) (m := 820) (b := mu 1034 i) (n := 100) (by (repeat' split) <;> omega) h3
        omega
def mTaken (mu : Nat → Int → Int) (i : Int) : Prop := mu 1008 (mu 1015 i) ≠ -1
def mOwed (mu : Nat → Int → Int) (i : Int) : Int := if mu 1008 (mu 1015 i) = -1 ∨ mu 1025 i ≠ 0 then 0
  else if mu 1024 i = -1 then mu 1021 i + gainR (mu 1021 i) (mu 901 0 - mu 1008 (mu 1015 i))
  else (mu 1021 i - mu 1023 i) + gainR (mu 1021 i) (mu 1024 i - mu 1008 (mu 1015 i)) + gainR (mu 1021 i - mu 1023 i) (mu 901 0 - mu 1024 i)
theorem mOwed_rng {mu : Nat → Int → Int} (hG : GM mu) (i : Int) : -3000000 ≤ mOwed mu i ∧ mOwed mu i ≤ 3000000 := by
  have h1 := mr_1021 hG i
  have h2 := mr_1023 hG i
  have h3 := mr_1024 hG i
  have h4 := mr_1008 hG (mu 1015 i)
  have h5 := mr_901 hG 0
  have a1 := gainR_rng (u := mu 1021 i) (d := mu 901 0 - mu 1008 (mu 1015 i)) (by omega) (by omega)
  have a2 := gainR_rng (u := mu 1021 i) (d := mu 1024 i - mu 1008 (mu 1015 i)) (by omega) (by omega)
  have a3 := gainR_rng (u := mu 1021 i - mu 1023 i) (d := mu 901 0 - mu 1024 i) (by omega) (by omega)
  unfold mOwed
  (repeat' split) <;> omega

