/-! the model's writes, and its calls -/
def mLgN (mu : Nat → Int → Int) (p n : Int) : Nat → Int → Int := fun f k => if f = 1006 ∧ k = p then -1 else if f = 1007 ∧ k = p then 0 else if f = 1019 ∧ 0 ≤ k ∧ k < n ∧ mu 1015 k = p then -1 else if f = 1020 ∧ 0 ≤ k ∧ k < n ∧ mu 1015 k = p then 0 else mu f k
def mLgT (mu : Nat → Int → Int) (p : Int) : Nat → Int → Int := mLgN mu p (mu 913 0)
theorem mLg_0 (mu : Nat → Int → Int) (p : Int) : st (st mu 1006 p (-1)) 1007 p 0 = mLgN mu p 0 := by
  funext f k
  simp only [mLgN, st]
  (repeat' split) <;> first | rfl | omega
theorem mLg_y {mu : Nat → Int → Int} {p i : Int} (h0 : 0 ≤ i) (h2 : mu 1015 i = p) : st (st (mLgN mu p i) 1019 i (-1)) 1020 i 0 = mLgN mu p (i + 1) := by
  funext f k
  simp only [mLgN, st]
  by_cases hk : k = i
  · subst hk
    (repeat' split) <;> first | rfl | omega
  · have e : (k < i + 1) = (k < i) := propext ⟨fun _ => by omega, fun _ => by omega⟩
    simp only [hk, and_false, if_false, e]
theorem mLg_n {mu : Nat → Int → Int} {p i : Int} (h : mu 1015 i ≠ p) : mLgN mu p i = mLgN mu p (i + 1) := by
  funext f k
  simp only [mLgN]
  by_cases hk : k = i
  · subst hk
    (repeat' split) <;> first | rfl | omega
  · have e : (k < i + 1) = (k < i) := propext ⟨fun _ => by omega, fun _ => by omega⟩
    simp only [e]
theorem mLg_f {mu : Nat → Int → Int} {p n k : Int} {f : Nat} (h : f < 1006) : mLgN mu p n f k = mu f k := by
  unfold mLgN
  rw [if_neg (by omega), if_neg (by omega), if_neg (by omega), if_neg (by omega)]
theorem gm_lgN {mu : Nat → Int → Int} (hG : GM mu) (p n : Int) : GM (mLgN mu p n) := by
  refine ⟨fun f k h1 h2 h3 h4 => ?_, hG.2.1, hG.2.2⟩
  have h := hG.1 f k h1 h2 h3 h4
  unfold mLgN
  split
  · rename_i z; rw [z.1]; decide
  · split
    · rename_i z; rw [z.1]; decide
    · split
      · rename_i z; rw [z.1]; decide
      · split
        · rename_i z; rw [z.1]; decide
        · exact h
def mtk1 (mu : Nat → Int → Int) (p : Int) : Nat → Int → Int := st (st mu 1005 p 1) 1008 p (mu 901 0)
def mtk2 (mu : Nat → Int → Int) (p : Int) : Nat → Int → Int := st (mtk1 mu p) 1012 p (mLand (mtk1 mu p) p (mu 1006 p))
def mtkN (s : Nat → Int → Int) (p : Int) : Nat → Nat → Int → Int
  | 0 => s
  | n + 1 => if s 1015 n = p then st (mtkN s p n) 1021 n (mSum (mtkN s p n) n) else mtkN s p n
def mrsN (s : Nat → Int → Int) (p : Int) : Nat → Int
  | 0 => mLeft s p (s 913 0)
  | n + 1 => if s 1015 n = p then mrsN s p n - (if s 1014 n = 0 then mShare (st (mtkN s p n) 1021 n (mSum (mtkN s p n) n)) n else 0) else mrsN s p n
theorem mtk_s {s : Nat → Int → Int} {p i : Int} (hi : 0 ≤ i) : mtkN s p (i + 1).toNat = if s 1015 i = p then st (mtkN s p i.toNat) 1021 i (mSum (mtkN s p i.toNat) i) else mtkN s p i.toNat := by
  have e : (i + 1).toNat = i.toNat + 1 := by omega
  rw [e]
  show (if s 1015 (i.toNat : Int) = p then st (mtkN s p i.toNat) 1021 (i.toNat : Int) (mSum (mtkN s p i.toNat) (i.toNat : Int)) else mtkN s p i.toNat) = _
  rw [Int.toNat_of_nonneg hi]
theorem mrs_s {s : Nat → Int → Int} {p i : Int} (hi : 0 ≤ i) : mrsN s p (i + 1).toNat = if s 1015 i = p then mrsN s p i.toNat - (if s 1014 i = 0 then mShare (st (mtkN s p i.toNat) 1021 i (mSum (mtkN s p i.toNat) i)) i else 0) else mrsN s p i.toNat := by
  have e : (i + 1).toNat = i.toNat + 1 := by omega
  rw [e]
  show (if s 1015 (i.toNat : Int) = p then mrsN s p i.toNat - (if s 1014 (i.toNat : Int) = 0 then mShare (st (mtkN s p i.toNat) 1021 (i.toNat : Int) (mSum (mtkN s p i.toNat) (i.toNat : Int))) (i.toNat : Int) else 0) else mrsN s p i.toNat) = _
  rw [Int.toNat_of_nonneg hi]
theorem mtk_f {s : Nat → Int → Int} {p : Int} {f : Nat} (h1 : f ≠ 1021) (k : Int) : ∀ n : Nat, mtkN s p n f k = s f k
  | 0 => rfl
  | n + 1 => by
    show (if s 1015 (n : Int) = p then _ else _ : Nat → Int → Int) f k = _
    split
    · rw [st_f h1]; exact mtk_f h1 k n
    · exact mtk_f h1 k n
theorem mLg_f2 {mu : Nat → Int → Int} {p n k : Int} {f : Nat} (h1 : f ≠ 1006) (h2 : f ≠ 1007) (h3 : f ≠ 1019) (h4 : f ≠ 1020) : mLgN mu p n f k = mu f k := by
  unfold mLgN
  rw [if_neg (by omega), if_neg (by omega), if_neg (by omega), if_neg (by omega)]
theorem gm_tkN {s : Nat → Int → Int} (hG : GM s) {p : Int} : ∀ n : Nat, GM (mtkN s p n)
  | 0 => hG
  | n + 1 => by
    have h := gm_tkN hG (p := p) n
    show GM (if s 1015 (n : Int) = p then _ else _)
    split
    · exact gc_1021 h n (mSum_rng h)
    · exact h
def mtk3 (mu : Nat → Int → Int) (p : Int) : Nat → Int → Int := mtkN (mtk2 mu p) p (mtk2 mu p 913 0).toNat
def mtkT (mu : Nat → Int → Int) (p : Int) : Nat → Int → Int := st (mtk3 mu p) 932 0 (mtk3 mu p 932 0 + mrsN (mtk2 mu p) p (mtk2 mu p 913 0).toNat)
theorem gm_tk1 {mu : Nat → Int → Int} (hG : GM mu) (p : Int) : GM (mtk1 mu p) := by
  have h := mr_901 hG 0
  exact gc_1008 (gc_1005 hG p (by omega)) p (by omega)
theorem gm_tk2 {mu : Nat → Int → Int} (hG : GM mu) (p : Int) : GM (mtk2 mu p) := gc_1012 (gm_tk1 hG p) p (mLand_rng (gm_tk1 hG p) p _)
theorem gm_tk3 {mu : Nat → Int → Int} (hG : GM mu) (p : Int) : GM (mtk3 mu p) := gm_tkN (gm_tk2 hG p) _
theorem gm_tkT {mu : Nat → Int → Int} (hG : GM mu) (p : Int) : GM (mtkT mu p) := gc_932 (gm_tk3 hG p) 0 trivial
theorem gm_mT {mu T : Nat → Int → Int} (hG : GM mu) {E : Int} (hE : 0 ≤ E ∧ E ≤ 3) (hT : E = 0 → GM T) : GM (mT mu E T) := by
  unfold mT
  split
  · exact hT (by assumption)
  · exact gc_900 hG 0 hE
def tellE (mu : Nat → Int → Int) (x u b : Int) : Int := if ¬ (0 ≤ x ∧ x ≤ 35) ∨ ¬ (0 ≤ u ∧ u ≤ 9) then 1 else if b = 0 then 2 else if mu 913 0 = 24 ∨ mu 1005 x ≠ 0 then 3 else 0
def mTellT (mu : Nat → Int → Int) (k x u m : Int) : Nat → Int → Int := st (st (st (st (st (st (st (st (st mu 900 0 0) 1014 (mu 913 0) k) 1015 (mu 913 0) x) 1016 (mu 913 0) u) 1017 (mu 913 0) (mu 901 0)) 1018 (mu 913 0) m) 1019 (mu 913 0) (-1)) 1024 (mu 913 0) (-1)) 913 0 (mu 913 0 + 1)
theorem gm_tell {mu : Nat → Int → Int} (hG : GM mu) {k x u m : Int} (hk : 0 ≤ k ∧ k ≤ 2) (hx : 0 ≤ x ∧ x ≤ 35) (hu : 0 ≤ u ∧ u ≤ 9) (hm : 0 ≤ m ∧ m ≤ 100000) (hkm : k = 0 → m ≤ 100) (hn : mu 913 0 < 24) : GM (mTellT mu k x u m) := by
  have h1 := mr_913 hG 0
  have h2 := mr_901 hG 0
  refine ⟨?_, hG.2.1, fun i => ?_⟩
  · exact gm_rng (gm_rng (gm_rng (gm_rng (gm_rng (gm_rng (gm_rng (gm_rng (gm_rng hG.1 (show loM 900 ≤ 0 ∧ 0 ≤ hiM 900 from by decide)) (show loM 1014 ≤ k ∧ k ≤ hiM 1014 from hk)) (show loM 1015 ≤ x ∧ x ≤ hiM 1015 from hx)) (show loM 1016 ≤ u ∧ u ≤ hiM 1016 from hu)) (show loM 1017 ≤ mu 901 0 ∧ mu 901 0 ≤ hiM 1017 from h2)) (show loM 1018 ≤ m ∧ m ≤ hiM 1018 from hm)) (show loM 1019 ≤ (-1 : Int) ∧ (-1 : Int) ≤ hiM 1019 from by decide)) (show loM 1024 ≤ (-1 : Int) ∧ (-1 : Int) ≤ hiM 1024 from by decide)) (show loM 913 ≤ mu 913 0 + 1 ∧ mu 913 0 + 1 ≤ hiM 913 from ⟨by show (0 : Int) ≤ _; omega, by show _ ≤ (24 : Int); omega⟩)
  · have h3 := mm_18 hG i
    simp only [mTellT, st]
    (repeat' split) <;> omega
theorem mLeft_9 {mu : Nat → Int → Int} {v p : Int} : ∀ n : Nat, mLeftN (st mu 900 0 v) p n = mLeftN mu p n
  | 0 => rfl
  | n + 1 => by
    have h := mLeft_9 (mu := mu) (v := v) (p := p) n
    show (if st mu 900 0 v 1014 n = 2 ∧ st mu 900 0 v 1015 n = p then mLeftN (st mu 900 0 v) p n - (if st mu 900 0 v 1018 n < mLeftN (st mu 900 0 v) p n then st mu 900 0 v 1018 n else mLeftN (st mu 900 0 v) p n) else mLeftN (st mu 900 0 v) p n) = (if mu 1014 n = 2 ∧ mu 1015 n = p then mLeftN mu p n - (if mu 1018 n < mLeftN mu p n then mu 1018 n else mLeftN mu p n) else mLeftN mu p n)
    rw [h, st_f (by decide), st_f (by decide), st_f (by decide)]
theorem mLeft_9s (mu : Nat → Int → Int) (v p i : Int) : mLeft (st mu 900 0 v) p i = mLeft mu p i := mLeft_9 _
theorem mShare_9 (mu : Nat → Int → Int) (v i : Int) : mShare (st mu 900 0 v) i = mShare mu i := by
  show mLeft (st mu 900 0 v) (mu 1015 i) (mu 913 0) * mu 1018 i / 100 = _
  rw [mLeft_9s]; rfl
theorem mOwn_9 {mu : Nat → Int → Int} {v p b : Int} : ∀ n : Nat, mOwnN (st mu 900 0 v) p b n = mOwnN mu p b n
  | 0 => rfl
  | n + 1 => by
    have h := mOwn_9 (mu := mu) (v := v) (p := p) (b := b) n
    show @ite Int ((st mu 900 0 v 1014 n = 0 ∧ st mu 900 0 v 1015 n = p) ∧ mBeh (st mu 900 0 v) n b ∧ (mOwnN (st mu 900 0 v) p b n = -1 ∨ st mu 900 0 v 1018 (mOwnN (st mu 900 0 v) p b n) < st mu 900 0 v 1018 n)) (Classical.propDecidable _) n (mOwnN (st mu 900 0 v) p b n) = _
    rw [h]
    rfl
theorem mOwnB_9 (mu : Nat → Int → Int) (v p b : Int) : mOwnB (st mu 900 0 v) p b = mOwnB mu p b := mOwn_9 _
theorem mSum_9 (mu : Nat → Int → Int) (v i : Int) : mSum (st mu 900 0 v) i = mSum mu i := by
  unfold mSum
  rw [mShare_9]
  simp only [mLeft_9s, st_f (show (1014 : Nat) ≠ 900 by decide), st_f (show (1015 : Nat) ≠ 900 by decide), st_f (show (1018 : Nat) ≠ 900 by decide), st_f (show (1004 : Nat) ≠ 900 by decide), st_f (show (1007 : Nat) ≠ 900 by decide), st_f (show (1008 : Nat) ≠ 900 by decide), st_f (show (1017 : Nat) ≠ 900 by decide), st_f (show (1034 : Nat) ≠ 900 by decide)]
theorem low_P {P Q : Int → Prop} (h : ∀ i, P i ↔ Q i) (n : Nat) : low P n = low Q n := by rw [show P = Q from funext fun i => propext (h i)]
theorem mT_900 {mu T : Nat → Int → Int} {E : Int} (h : T 900 0 = 0) : mT mu E T 900 0 = E := by
  unfold mT
  split
  · rename_i z; rw [h, z]
  · exact st_s
theorem tellE_rng (mu : Nat → Int → Int) (x u b : Int) : 0 ≤ tellE mu x u b ∧ tellE mu x u b ≤ 3 := by unfold tellE; (repeat' split) <;> decide
theorem tellE_0 {mu : Nat → Int → Int} {x u b : Int} (h : tellE mu x u b = 0) : (0 ≤ x ∧ x ≤ 35) ∧ (0 ≤ u ∧ u ≤ 9) ∧ b ≠ 0 ∧ mu 913 0 ≠ 24 ∧ mu 1005 x = 0 := by
  unfold tellE at h
  (repeat' split at h) <;> omega
theorem gm_tellT {mu : Nat → Int → Int} (hG : GM mu) {k x u m b : Int} (hk : 0 ≤ k ∧ k ≤ 2) (hb : b ≠ 0 → (0 ≤ m ∧ m ≤ 100000) ∧ (k = 0 → m ≤ 100)) : GM (mT mu (tellE mu x u b) (mTellT mu k x u m)) := by
  refine gm_mT hG (tellE_rng mu x u b) (fun h => ?_)
  have h2 := tellE_0 h
  have h3 := hb h2.2.2.1
  have h4 := mr_913 hG 0
  exact gm_tell hG hk h2.1 h2.2.1 h3.1 h3.2 (by omega)
noncomputable def mShares (mu : Nat → Int → Int) (x : Int) : Int := sumN (fun q => if mu 1014 q = 0 ∧ mu 1015 q = x then mu 1018 q else 0) (mu 913 0).toNat
theorem sumN_s {f : Int → Int} {i : Int} (hi : 0 ≤ i) : sumN f (i + 1).toNat = sumN f i.toNat + f i := by
  have e : (i + 1).toNat = i.toNat + 1 := by omega
  rw [e]
  show sumN f i.toNat + f (i.toNat : Int) = _
  rw [Int.toNat_of_nonneg hi]
noncomputable def mOwnBit (mu : Nat → Int → Int) (x s : Int) : Int := bI ((1 ≤ s ∧ s ≤ 100) ∧ s + mShares mu x ≤ 100)
def plotME (mu : Nat → Int → Int) (x a u : Int) : Int := if ¬ (0 ≤ x ∧ x ≤ 35) then 1 else if ¬ (1 ≤ a ∧ a ≤ 100) ∨ ¬ (0 ≤ u ∧ u ≤ 2) then 2 else if mu 1005 x ≠ 0 ∨ mu 1006 x ≠ -1 then 3 else 0
def priceME (u c : Int) : Int := if ¬ (0 ≤ u ∧ u ≤ 2) ∨ ¬ (0 ≤ c ∧ c ≤ 1000) then 1 else 0
def worthME (mu : Nat → Int → Int) (x d : Int) : Int := if ¬ (0 ≤ x ∧ x ≤ 35) then 1 else if ¬ (0 ≤ d ∧ d ≤ mu 901 0) then 2 else 0
def pME (x : Int) : Int := if ¬ (0 ≤ x ∧ x ≤ 35) then 1 else 0
def iME (mu : Nat → Int → Int) (x : Int) : Int := if ¬ (0 ≤ x ∧ x ≤ mu 913 0 - 1) then 1 else 0
def sME (mu : Nat → Int → Int) (x : Int) : Int := if ¬ (0 ≤ x ∧ x ≤ mu 926 0 - 1) then 1 else 0
noncomputable def mMarket (mu : Nat → Int → Int) (x : Int) : Int := if mu 1005 x ≠ 0 then mWorth mu x (mu 901 0) else if mu 1006 x ≠ -1 then mWorth mu x (mu 901 0) * 70 / 100 else if bI (mBeside mu x) = 1 then mWorth mu x (mu 901 0) * 90 / 100 else mWorth mu x (mu 901 0)
def plotOfME (x w : Int) : Int := if ¬ (0 ≤ x ∧ x ≤ 35) then 1 else if ¬ (0 ≤ w ∧ w ≤ 8) then 2 else 0
def mPlotR (mu : Nat → Int → Int) (v w : Int) : Int := if w = 0 then mu 1003 v else if w = 1 then mu 1004 v else if w = 2 then mu 1005 v else if w = 3 then mu 1006 v else if w = 4 then mu 1007 v else if w = 5 then mu 1008 v else if w = 6 then (if mu 1009 v = 0 then 0 else 1) else if w = 7 then mu 1010 v else mu 1011 v
def interME (mu : Nat → Int → Int) (x w : Int) : Int := if ¬ (0 ≤ x ∧ x ≤ mu 913 0 - 1) then 1 else if ¬ (0 ≤ w ∧ w ≤ 8) then 2 else 0
def mInterR (mu : Nat → Int → Int) (v w : Int) : Int := if w = 0 then mu 1014 v else if w = 1 then mu 1015 v else if w = 2 then mu 1016 v else if w = 3 then mu 1017 v else if w = 4 then mu 1018 v else if w = 5 then mu 1019 v else if w = 6 then (if mu 1020 v = 1 then 1 else 0) else if w = 7 then mu 1021 v else mu 1022 v
def schemeME (mu : Nat → Int → Int) (a b : Int) : Int := if ¬ (0 ≤ a ∧ a ≤ 50) ∨ ¬ (0 ≤ b ∧ b ≤ 50) then 1 else if mu 926 0 = 4 then 2 else 0
def drawME (mu : Nat → Int → Int) (w x a : Int) : Int := if ¬ (0 ≤ w ∧ w ≤ mu 926 0 - 1) ∨ ¬ (0 ≤ x ∧ x ≤ 35) then 1 else if ¬ (1 ≤ a ∧ a ≤ 100) then 2 else if mu 1029 w ≠ 0 ∨ mu 1005 x ≠ 0 ∨ mu 1006 x ≠ -1 then 3 else 0
def noticeME (mu : Nat → Int → Int) (x : Int) : Int := if ¬ (0 ≤ x ∧ x ≤ mu 913 0 - 1) then 1 else if ¬ mDraft mu x ∨ mu 1019 x ≠ -1 then 2 else 0
def objectME (mu : Nat → Int → Int) (x : Int) : Int := if ¬ (0 ≤ x ∧ x ≤ mu 913 0 - 1) then 1 else if ¬ (mu 1019 x ≠ -1 ∧ mu 901 0 - mu 1019 x ≤ 21 ∧ mu 1020 x = 0) ∨ ¬ mDraft mu x then 2 else 0
def hearME (mu : Nat → Int → Int) (x : Int) : Int := if ¬ (0 ≤ x ∧ x ≤ mu 913 0 - 1) then 1 else if mu 1020 x ≠ 1 ∨ ¬ mDraft mu x then 2 else 0
def mHearT (mu : Nat → Int → Int) (x b : Int) : Nat → Int → Int := if b = 0 then st (st mu 900 0 0) 1020 x 2 else mLgT (st mu 900 0 0) (mu 1015 x)
noncomputable def confirmME (mu : Nat → Int → Int) (w : Int) : Int := if ¬ (0 ≤ w ∧ w ≤ mu 926 0 - 1) then 1 else if mu 1029 w ≠ 0 ∨ mNeed mu w 1 = 0 ∨ mStopper mu w ≠ -1 then 2 else 0
noncomputable def mWhoR (mu : Nat → Int → Int) (w : Int) : Int := if mu 1029 w = 0 then mStopper mu w else -1
def schemeOfME (mu : Nat → Int → Int) (x w : Int) : Int := if ¬ (0 ≤ x ∧ x ≤ mu 926 0 - 1) then 1 else if ¬ (0 ≤ w ∧ w ≤ 3) then 2 else 0
noncomputable def mSchemeR (mu : Nat → Int → Int) (v w : Int) : Int := if w = 0 then mu 1029 v else if w = 1 then mNeed mu v 0 else if w = 2 then mu 1030 v else mu 1031 v
def enterME (mu : Nat → Int → Int) (x : Int) : Int := if ¬ (0 ≤ x ∧ x ≤ 35) then 1 else if mu 1005 x = 0 ∧ mu 1006 x ≠ -1 ∧ mu 1029 (mu 1006 x) = 1 ∧ mu 901 0 - mu 1030 (mu 1006 x) ≤ 1095 then 0 else 2
def blightME (mu : Nat → Int → Int) (x : Int) : Int := if ¬ (0 ≤ x ∧ x ≤ mu 913 0 - 1) then 1 else if mu 1014 x ≠ 0 then 2 else if mu 1005 (mu 1015 x) = 0 ∧ mu 1004 (mu 1015 x) = 1 ∧ mu 1006 (mu 1015 x) ≠ -1 ∧ 180 ≤ mu 901 0 - mu 1017 x then 0 else 3
def worksME (mu : Nat → Int → Int) (x : Int) : Int := if ¬ (0 ≤ x ∧ x ≤ 35) then 1 else if mu 1005 x ≠ 1 ∨ mu 1009 x ≠ 0 ∨ mu 1006 x = -1 then 2 else 0
noncomputable def mWorks (T : Nat → Int → Int) : Int := sumN (fun q => bI (T 1009 q ≠ 0)) 36
def mAnewR (mu : Nat → Int → Int) (x : Int) : Int := if mu 1008 (mu 1015 x) = -1 then 0 else mSum mu x
def advME (mu : Nat → Int → Int) (x : Int) : Int := if ¬ (0 ≤ x ∧ x ≤ mu 913 0 - 1) then 1 else if mu 1008 (mu 1015 x) = -1 ∨ mu 1024 x ≠ -1 ∨ mu 1025 x ≠ 0 then 2 else 0
def setME (mu : Nat → Int → Int) (x : Int) : Int := if ¬ (0 ≤ x ∧ x ≤ mu 913 0 - 1) then 1 else if mu 1008 (mu 1015 x) = -1 ∨ mu 1025 x ≠ 0 then 2 else 0
def offME (mu : Nat → Int → Int) (x : Int) : Int := if ¬ (0 ≤ x ∧ x ≤ 35) then 1 else if mu 1010 x = -1 then 2 else 0
def passME (mu : Nat → Int → Int) (d : Int) : Int := if ¬ (1 ≤ d ∧ d ≤ 1000) then 1 else if 20000 < mu 901 0 + d then 2 else 0
def totME (w : Int) : Int := if ¬ (0 ≤ w ∧ w ≤ 4) then 1 else 0
def credME (u : Int) : Int := if ¬ (0 ≤ u ∧ u ≤ 9) then 1 else 0
def dropME (mu : Nat → Int → Int) (w : Int) : Int := if ¬ (0 ≤ w ∧ w ≤ mu 926 0 - 1) then 1 else if mu 1029 w = 2 then 2 else 0
noncomputable def mTot1 (mu : Nat → Int → Int) (w : Int) (n : Nat) : Int := (if w = 2 then mu 932 0 else if w = 3 then mu 933 0 else 0) + sumN (fun q => if w = 0 then mu 1021 q else if w = 1 then mu 1022 q else 0) n
theorem mTot1_s {mu : Nat → Int → Int} {w i : Int} (hi : 0 ≤ i) : mTot1 mu w (i + 1).toNat = mTot1 mu w i.toNat + (if w = 0 then mu 1021 i else if w = 1 then mu 1022 i else 0) := by unfold mTot1; rw [sumN_s hi]; omega
noncomputable def mTot2 (mu : Nat → Int → Int) (w : Int) (n : Nat) : Int := mTot1 mu w (mu 913 0).toNat + sumN (fun q => if w = 4 then mu 1012 q else 0) n
theorem mTot2_s {mu : Nat → Int → Int} {w i : Int} (hi : 0 ≤ i) : mTot2 mu w (i + 1).toNat = mTot2 mu w i.toNat + (if w = 4 then mu 1012 i else 0) := by unfold mTot2; rw [sumN_s hi]; omega
theorem mTot2_0 {mu : Nat → Int → Int} {w acc : Int} (h : acc = mTot1 mu w (mu 913 0).toNat) : acc = mTot2 mu w (0 : Int).toNat := by rw [h]; show _ = mTot1 mu w (mu 913 0).toNat + 0; omega
noncomputable def mCred (mu : Nat → Int → Int) (u : Int) : Int := sumN (fun q => bI (mu 1016 q = u ∧ 0 < mOwed mu q)) (mu 913 0).toNat
/-- drop, a plot at a time -/
noncomputable def mdr1 (t : Nat → Int → Int) (j : Int) : Nat → Int → Int := st t 1006 j (-1)
noncomputable def mdrO (t : Nat → Int → Int) (j : Int) : Int := if t 1009 j ≠ 0 then -1 else mOwnB (mdr1 t j) j (-1)
noncomputable def mdr2 (t : Nat → Int → Int) (j : Int) : Nat → Int → Int := st (mdr1 t j) 1010 j (mdrO t j)
noncomputable def mdrP (t : Nat → Int → Int) (j : Int) : Int := if mdrO t j = -1 then 0 else t 1007 j * mWorth (mdr2 t j) j (t 901 0) / 100
noncomputable def mdr3 (t : Nat → Int → Int) (j : Int) : Nat → Int → Int := st (mdr2 t j) 1011 j (mdrP t j)
noncomputable def mdrN (s : Nat → Int → Int) (w : Int) : Nat → Nat → Int → Int
  | 0 => s
  | n + 1 => if mdrN s w n 1006 n = w ∧ mdrN s w n 1005 n = 0 then mLgT (mdrN s w n) n else if mdrN s w n 1006 n = w then mdr3 (mdrN s w n) n else mdrN s w n
noncomputable def mdrC (s : Nat → Int → Int) (w : Int) : Nat → Int
  | 0 => 0
  | n + 1 => if mdrN s w n 1006 n = w ∧ mdrN s w n 1005 n = 0 then mdrC s w n else if mdrN s w n 1006 n = w then mdrC s w n + (if mdrO (mdrN s w n) n = -1 then 0 else 1) else mdrC s w n
theorem mdr_s {s : Nat → Int → Int} {w i : Int} (hi : 0 ≤ i) : mdrN s w (i + 1).toNat = if mdrN s w i.toNat 1006 i = w ∧ mdrN s w i.toNat 1005 i = 0 then mLgT (mdrN s w i.toNat) i else if mdrN s w i.toNat 1006 i = w then mdr3 (mdrN s w i.toNat) i else mdrN s w i.toNat := by
  have e : (i + 1).toNat = i.toNat + 1 := by omega
  rw [e]
  show (if mdrN s w i.toNat 1006 (i.toNat : Int) = w ∧ mdrN s w i.toNat 1005 (i.toNat : Int) = 0 then mLgT (mdrN s w i.toNat) (i.toNat : Int) else if mdrN s w i.toNat 1006 (i.toNat : Int) = w then mdr3 (mdrN s w i.toNat) (i.toNat : Int) else mdrN s w i.toNat) = _
  rw [Int.toNat_of_nonneg hi]
theorem mdrC_s {s : Nat → Int → Int} {w i : Int} (hi : 0 ≤ i) : mdrC s w (i + 1).toNat = if mdrN s w i.toNat 1006 i = w ∧ mdrN s w i.toNat 1005 i = 0 then mdrC s w i.toNat else if mdrN s w i.toNat 1006 i = w then mdrC s w i.toNat + (if mdrO (mdrN s w i.toNat) i = -1 then 0 else 1) else mdrC s w i.toNat := by
  have e : (i + 1).toNat = i.toNat + 1 := by omega
  rw [e]
  show (if mdrN s w i.toNat 1006 (i.toNat : Int) = w ∧ mdrN s w i.toNat 1005 (i.toNat : Int) = 0 then mdrC s w i.toNat else if mdrN s w i.toNat 1006 (i.toNat : Int) = w then mdrC s w i.toNat + (if mdrO (mdrN s w i.toNat) (i.toNat : Int) = -1 then 0 else 1) else mdrC s w i.toNat) = _
  rw [Int.toNat_of_nonneg hi]
theorem mdrC_rng {s : Nat → Int → Int} {w : Int} : ∀ n : Nat, 0 ≤ mdrC s w n ∧ mdrC s w n ≤ n
  | 0 => ⟨by show (0 : Int) ≤ 0; omega, by show (0 : Int) ≤ 0; omega⟩
  | n + 1 => by
    have h := mdrC_rng (s := s) (w := w) n
    show 0 ≤ (if mdrN s w n 1006 n = w ∧ mdrN s w n 1005 n = 0 then mdrC s w n else if mdrN s w n 1006 n = w then mdrC s w n + (if mdrO (mdrN s w n) n = -1 then 0 else 1) else mdrC s w n) ∧ (if mdrN s w n 1006 n = w ∧ mdrN s w n 1005 n = 0 then mdrC s w n else if mdrN s w n 1006 n = w then mdrC s w n + (if mdrO (mdrN s w n) n = -1 then 0 else 1) else mdrC s w n) ≤ _
    (repeat' split) <;> omega
theorem mdrO_rng {t : Nat → Int → Int} (hG : GM t) (j : Int) : -1 ≤ mdrO t j ∧ mdrO t j ≤ 23 := by
  have h1 := mOwnB_rng (gc_1006 hG j (v := -1) (by decide)) j (-1)
  have h2 := mr_913 hG 0
  have h3 : st t 1006 j (-1) 913 0 = t 913 0 := st_f (by decide)
  unfold mdrO mdr1
  split <;> omega
theorem gm_dr2 {t : Nat → Int → Int} (hG : GM t) (j : Int) : GM (mdr2 t j) := gc_1010 (gc_1006 hG j (by decide)) j (mdrO_rng hG j)
theorem mdrP_rng {t : Nat → Int → Int} (hG : GM t) (j : Int) : 0 ≤ mdrP t j ∧ mdrP t j ≤ 100000 := by
  have h1 := mWorth_rng (gm_dr2 hG j) j (t 901 0)
  have h2 := mul_rng (mr_1007 hG j) h1
  unfold mdrP
  split <;> omega
theorem gm_dr3 {t : Nat → Int → Int} (hG : GM t) (j : Int) : GM (mdr3 t j) := gc_1011 (gm_dr2 hG j) j (mdrP_rng hG j)
theorem gm_drN {s : Nat → Int → Int} (hG : GM s) {w : Int} : ∀ n : Nat, GM (mdrN s w n)
  | 0 => hG
  | n + 1 => by
    have h := gm_drN hG (w := w) n
    show GM (if _ then _ else if _ then _ else _)
    split
    · exact gm_lgN h _ _
    · split
      · exact gm_dr3 h _
      · exact h
/-- pass, a day at a time -/
def mps (t : Nat → Int → Int) : Nat → Int → Int := st (st (st (st t 1002 (3 * t 901 0 + 3 + 0) (t 1002 (3 * t 901 0 + 0))) 1002 (3 * t 901 0 + 3 + 1) (t 1002 (3 * t 901 0 + 1))) 1002 (3 * t 901 0 + 3 + 2) (t 1002 (3 * t 901 0 + 2))) 901 0 (t 901 0 + 1)
def mpsN (s : Nat → Int → Int) : Nat → Nat → Int → Int
  | 0 => s
  | n + 1 => mps (mpsN s n)
theorem mps_s {s : Nat → Int → Int} {i : Int} (hi : 0 ≤ i) : mpsN s (i + 1).toNat = mps (mpsN s i.toNat) := by
  have e : (i + 1).toNat = i.toNat + 1 := by omega
  rw [e]; rfl
theorem mps_day {s : Nat → Int → Int} : ∀ n : Nat, mpsN s n 901 0 = s 901 0 + n
  | 0 => by show s 901 0 = s 901 0 + 0; omega
  | n + 1 => by
    have h := mps_day (s := s) n
    show mps (mpsN s n) 901 0 = _
    unfold mps
    rw [st_s, h]; omega
theorem gm_psN {s : Nat → Int → Int} (hG : GM s) : ∀ n : Nat, s 901 0 + n ≤ 20000 → GM (mpsN s n)
  | 0, _ => hG
  | n + 1, hn => by
    have h := gm_psN hG n (by omega)
    have h2 := mps_day (s := s) n
    have h3 := mr_901 hG 0
    exact gc_901 (gc_1002 (gc_1002 (gc_1002 h _ (mr_1002 h _)) _ (mr_1002 h _)) _ (mr_1002 h _)) 0 (by omega)

