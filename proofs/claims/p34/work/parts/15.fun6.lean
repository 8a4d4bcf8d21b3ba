/-! the class's calls: when they throw (1, 2, 3: the exceptions of exN), what they answer, the table behind them -/
theorem owedO_rng {sg : Nat → Int → Int} (hG : GC sg) (x : Int) : -3000000 ≤ owedO sg x ∧ owedO sg x ≤ 3000000 := by
  have h1 := gr_110 hG x
  have h2 := gr_111 hG x
  have h3 := gr_112 hG x
  have h4 := gr_206 hG (sg 102 x)
  have h5 := gr_506 hG 0
  have a1 := gainR_rng (u := sg 110 x) (d := sg 506 0 - sg 206 (sg 102 x)) (by omega) (by omega)
  have a2 := gainR_rng (u := sg 110 x) (d := sg 112 x - sg 206 (sg 102 x)) (by omega) (by omega)
  have a3 := gainR_rng (u := sg 110 x - sg 111 x) (d := sg 506 0 - sg 112 x) (by omega) (by omega)
  unfold owedO gainO
  (repeat' split) <;> omega
theorem low_spec {P : Int → Prop} : ∀ n : Nat, 0 ≤ low P n → P (low P n)
  | 0, h => absurd h (by show ¬ (0 : Int) ≤ -1; omega)
  | n + 1, h => by
    by_cases h0 : 0 ≤ low P n
    · have e : low P (n + 1) = low P n := low_keep (k := 1) h0
      rw [e]; exact low_spec n h0
    · have e : low P (n + 1) = @ite Int (P (n : Int)) (Classical.propDecidable _) n (-1) := if_neg h0
      by_cases hp : P (n : Int)
      · rw [e, if_pos hp]; exact hp
      · rw [e, if_neg hp] at h; exact absurd h (by decide)
theorem stopper_lt {sg : Nat → Int → Int} (hG : GC sg) (w : Int) : -1 ≤ stopper sg w ∧ stopper sg w < sg 503 0 := by
  have h1 := stopper_rng (sg := sg) w
  have h2 := gr_503 hG 0
  by_cases h : 0 ≤ stopper sg w
  · have := low_spec 24 h
    exact ⟨h1.1, this.1⟩
  · omega
def plotE (sg : Nat → Int → Int) (x a u : Int) : Int := if pAt x < 0 then 1 else if ¬ (1 ≤ a ∧ a ≤ 100) ∨ ¬ (0 ≤ u ∧ u ≤ 2) then 2 else if sg 203 (pAt x) ≠ 0 ∨ 0 ≤ needO sg (pAt x) then 3 else 0
def worthE (sg : Nat → Int → Int) (x d : Int) : Int := if pAt x < 0 then 1 else if ¬ (0 ≤ d ∧ d ≤ sg 506 0) then 2 else 0
def pE (x : Int) : Int := if pAt x < 0 then 1 else 0
def iE (sg : Nat → Int → Int) (x : Int) : Int := if iAt sg x < 0 then 1 else 0
def sE (sg : Nat → Int → Int) (x : Int) : Int := if sAt sg x < 0 then 1 else 0
noncomputable def marketR (sg : Nat → Int → Int) (v : Int) : Int := if sg 203 v ≠ 0 then worthT sg v else if 0 ≤ needO sg v then worthT sg v * 70 / 100 else if bI (beside sg (sg 200 v)) = 1 then worthT sg v * 90 / 100 else worthT sg v
def plotOfE (x w : Int) : Int := if pAt x < 0 then 1 else if w < 0 ∨ 8 < w then 2 else 0
def opt (v : Int) : Int := if v < 0 then -1 else v
def plotOfR (sg : Nat → Int → Int) (v w : Int) : Int := if w = 0 then sg 201 v else if w = 1 then sg 202 v else if w = 2 then sg 203 v else if w = 3 then opt (needO sg v) else if w = 4 then sg 205 v else if w = 5 then sg 206 v else if w = 6 then (if sg 208 v = 0 then 0 else 1) else if w = 7 then opt (sg 209 v) else sg 210 v
def interE (sg : Nat → Int → Int) (x w : Int) : Int := if iAt sg x < 0 then 1 else if w < 0 ∨ 8 < w then 2 else 0
def interR (sg : Nat → Int → Int) (v w : Int) : Int := if w = 0 then sg 101 v else if w = 1 then opt (sg 102 v) else if w = 2 then sg 103 v else if w = 3 then sg 104 v else if w = 4 then sg 105 v else if w = 5 then sg 107 v else if w = 6 then (if sg 109 v = 0 then 0 else 1) else if w = 7 then sg 110 v else sg 111 v + sg 113 v
def drawE (sg : Nat → Int → Int) (w x a : Int) : Int := if sAt sg w < 0 ∨ pAt x < 0 then 1 else if ¬ (1 ≤ a ∧ a ≤ 100) then 2 else if sg 403 (sAt sg w) ≠ 0 ∨ sg 203 (pAt x) ≠ 0 ∨ 0 ≤ needO sg (pAt x) then 3 else 0
def noticeE (sg : Nat → Int → Int) (x : Int) : Int := if iAt sg x < 0 then 1 else if draftO sg (sg 102 (iAt sg x)) < 0 ∨ sg 107 (iAt sg x) ≠ -1 then 3 else 0
def objectE (sg : Nat → Int → Int) (x : Int) : Int := if iAt sg x < 0 then 1 else if draftO sg (sg 102 (iAt sg x)) < 0 ∨ sg 107 (iAt sg x) = -1 ∨ 21 < sg 506 0 - sg 107 (iAt sg x) ∨ sg 108 (iAt sg x) ≠ 0 then 3 else 0
def hearE (sg : Nat → Int → Int) (x : Int) : Int := if iAt sg x < 0 then 1 else if draftO sg (sg 102 (iAt sg x)) < 0 ∨ sg 109 (iAt sg x) = 0 then 3 else 0
def hearT (sg : Nat → Int → Int) (x b : Int) : Nat → Int → Int := if b = 0 then st sg 109 (iAt sg x) 0 else relT sg (sg 102 (iAt sg x))
noncomputable def confirmE (sg : Nat → Int → Int) (w : Int) : Int := if sAt sg w < 0 then 1 else if sg 403 (sAt sg w) ≠ 0 ∨ cntFree sg (sAt sg w) = 0 ∨ 0 ≤ stopper sg (sAt sg w) then 3 else 0
noncomputable def whoR (sg : Nat → Int → Int) (v : Int) : Int := if sg 403 v = 0 then opt (stopper sg v) else -1
def schemeOfE (sg : Nat → Int → Int) (x w : Int) : Int := if sAt sg x < 0 then 1 else if w < 0 ∨ 3 < w then 2 else 0
noncomputable def schemeOfR (sg : Nat → Int → Int) (v w : Int) : Int := if w = 0 then sg 403 v else if w = 1 then cntNeed sg v else if w = 2 then sg 404 v else sg 405 v
def enterE (sg : Nat → Int → Int) (x : Int) : Int := if pAt x < 0 then 1 else if sg 203 (pAt x) ≠ 0 ∨ needO sg (pAt x) < 0 ∨ sg 403 (needO sg (pAt x)) ≠ 1 ∨ 1095 < sg 506 0 - sg 404 (needO sg (pAt x)) then 3 else 0
def blightE (sg : Nat → Int → Int) (x : Int) : Int := if iAt sg x < 0 then 1 else if sg 101 (iAt sg x) ≠ 0 then 2 else if sg 203 (sg 102 (iAt sg x)) ≠ 0 ∨ needO sg (sg 102 (iAt sg x)) < 0 ∨ sg 202 (sg 102 (iAt sg x)) ≠ 1 ∨ sg 506 0 - sg 104 (iAt sg x) < 180 then 3 else 0
def worksE (sg : Nat → Int → Int) (x : Int) : Int := if pAt x < 0 then 1 else if sg 203 (pAt x) ≠ 1 ∨ sg 208 (pAt x) ≠ 0 ∨ needO sg (pAt x) < 0 then 3 else 0
def anewR (sg : Nat → Int → Int) (v : Int) : Int := if sg 206 (sg 102 v) = -1 then 0 else sumB sg v (landO sg (sg 102 v))
def advE (sg : Nat → Int → Int) (x : Int) : Int := if iAt sg x < 0 then 1 else if sg 206 (sg 102 (iAt sg x)) = -1 ∨ sg 112 (iAt sg x) ≠ -1 ∨ sg 114 (iAt sg x) ≠ 0 then 3 else 0
def setE (sg : Nat → Int → Int) (x : Int) : Int := if iAt sg x < 0 then 1 else if sg 206 (sg 102 (iAt sg x)) = -1 ∨ sg 114 (iAt sg x) ≠ 0 then 3 else 0
def offE (sg : Nat → Int → Int) (x : Int) : Int := if pAt x < 0 then 1 else if sg 209 (pAt x) < 0 then 3 else 0
def passE (sg : Nat → Int → Int) (d : Int) : Int := if ¬ (1 ≤ d ∧ d ≤ 1000) then 2 else if 20000 < sg 506 0 + d then 3 else 0
def totalE (w : Int) : Int := if w < 0 ∨ 4 < w then 2 else 0
def totalR (sg : Nat → Int → Int) (w : Int) : Int := if w = 0 then sg 507 0 else if w = 1 then sg 508 0 else if w = 2 then sg 509 0 else if w = 3 then sg 510 0 else sg 511 0
noncomputable def credR (sg : Nat → Int → Int) (u : Int) : Int := sumN (fun q => bI (q < sg 503 0 ∧ sg 103 q = u ∧ 0 < owedO sg q)) 24
def credE (u : Int) : Int := if ¬ (0 ≤ u ∧ u ≤ 9) then 1 else 0
