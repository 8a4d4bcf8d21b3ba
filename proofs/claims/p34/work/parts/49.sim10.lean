/-! the taking of a plot -/
theorem lefts_x {a b : Nat → Int → Int} (e : ∀ f : Nat, f ≠ 110 → f ≠ 507 → a f = b f) {v land bd : Int} : ∀ n : Nat, lefts a v land bd n = lefts b v land bd n
  | 0 => rfl
  | n + 1 => by
    have h := lefts_x e (v := v) (land := land) (bd := bd) n
    show (if (n : Int) < a 503 0 ∧ a 101 n = 2 ∧ a 102 n = v ∧ (n : Int) < bd then lefts a v land bd n - mn (lefts a v land bd n) (a 105 n) else lefts a v land bd n) = (if (n : Int) < b 503 0 ∧ b 101 n = 2 ∧ b 102 n = v ∧ (n : Int) < bd then lefts b v land bd n - mn (lefts b v land bd n) (b 105 n) else lefts b v land bd n)
    simp only [h, e 503 (by decide) (by decide), e 101 (by decide) (by decide), e 102 (by decide) (by decide), e 105 (by decide) (by decide)]
theorem sumB_x {a b : Nat → Int → Int} (e : ∀ f : Nat, f ≠ 110 → f ≠ 507 → a f = b f) (i land : Int) : sumB a i land = sumB b i land := by
  unfold sumB ownS leaS leftB
  simp only [lefts_x e, e 101 (by decide) (by decide), e 102 (by decide) (by decide), e 104 (by decide) (by decide), e 105 (by decide) (by decide), e 106 (by decide) (by decide), e 202 (by decide) (by decide), e 205 (by decide) (by decide), e 206 (by decide) (by decide)]
theorem courtN_x {a b : Nat → Int → Int} (e : ∀ f : Nat, f ≠ 110 → f ≠ 507 → a f = b f) {v land : Int} : ∀ n : Nat, courtN a v land n = courtN b v land n
  | 0 => lefts_x e 24
  | n + 1 => by
    have h := courtN_x e (v := v) (land := land) n
    have h2 : leftB a v land 24 = leftB b v land 24 := lefts_x e 24
    show (if (n : Int) < a 503 0 ∧ a 101 n = 0 ∧ a 102 n = v then courtN a v land n - leftB a v land 24 * a 105 n / 100 else courtN a v land n) = (if (n : Int) < b 503 0 ∧ b 101 n = 0 ∧ b 102 n = v then courtN b v land n - leftB b v land 24 * b 105 n / 100 else courtN b v land n)
    simp only [h, h2, e 503 (by decide) (by decide), e 101 (by decide) (by decide), e 102 (by decide) (by decide), e 105 (by decide) (by decide)]
theorem court_q {a : Nat → Int → Int} {v land : Int} : ∀ n : Nat, courtN a v land n = leftB a v land 24 - sumN (fun q => if q < a 503 0 ∧ a 101 q = 0 ∧ a 102 q = v then leftB a v land 24 * a 105 q / 100 else 0) n
  | 0 => by show leftB a v land 24 = leftB a v land 24 - 0; omega
  | n + 1 => by
    have h := court_q (a := a) (v := v) (land := land) n
    show (if (n : Int) < a 503 0 ∧ a 101 n = 0 ∧ a 102 n = v then courtN a v land n - leftB a v land 24 * a 105 n / 100 else courtN a v land n) = leftB a v land 24 - (sumN (fun q => if q < a 503 0 ∧ a 101 q = 0 ∧ a 102 q = v then leftB a v land 24 * a 105 q / 100 else 0) n + (if (n : Int) < a 503 0 ∧ a 101 n = 0 ∧ a 102 n = v then leftB a v land 24 * a 105 n / 100 else 0))
    rw [h]
    by_cases c : (n : Int) < a 503 0 ∧ a 101 n = 0 ∧ a 102 n = v
    · rw [if_pos c, if_pos c]; omega
    · rw [if_neg c, if_neg c]; omega
theorem tk_x {s : Nat → Int → Int} {j land : Int} (n : Nat) : ∀ f : Nat, f ≠ 110 → f ≠ 507 → tkN s j land n f = s f := fun _ h1 h2 => funext fun k => tk_f h1 h2 k n
theorem tk_110 {s : Nat → Int → Int} {j land : Int} (i : Int) : ∀ n : Nat, tkN s j land n 110 i = if 0 ≤ i ∧ i < (n : Int) ∧ i < s 503 0 ∧ s 102 i = j then sumB s i land else s 110 i
  | 0 => by rw [if_neg (by omega)]; rfl
  | n + 1 => by
    have ih := tk_110 (s := s) (j := j) (land := land) i n
    have ex : sumB (tkN s j land n) n land = sumB s n land := sumB_x (tk_x n) _ _
    show (if (n : Int) < s 503 0 ∧ s 102 n = j then st (st (tkN s j land n) 110 n (sumB (tkN s j land n) n land)) 507 0 (tkN s j land n 507 0 + sumB (tkN s j land n) n land) else tkN s j land n : Nat → Int → Int) 110 i = _
    by_cases c : (n : Int) < s 503 0 ∧ s 102 n = j
    · rw [if_pos c, st_f (by decide), st_i, ex]
      by_cases e : i = (n : Int)
      · rw [if_pos e, e, if_pos ⟨by omega, by omega, c.1, c.2⟩]
      · rw [if_neg e, ih]
        have t : (0 ≤ i ∧ i < (n : Int) ∧ i < s 503 0 ∧ s 102 i = j) ↔ (0 ≤ i ∧ i < ((n + 1 : Nat) : Int) ∧ i < s 503 0 ∧ s 102 i = j) := ⟨fun z => ⟨z.1, by omega, z.2.2⟩, fun z => ⟨z.1, by omega, z.2.2⟩⟩
        simp only [t]
    · rw [if_neg c, ih]
      have t : (0 ≤ i ∧ i < (n : Int) ∧ i < s 503 0 ∧ s 102 i = j) ↔ (0 ≤ i ∧ i < ((n + 1 : Nat) : Int) ∧ i < s 503 0 ∧ s 102 i = j) := by
        refine ⟨fun z => ⟨z.1, by omega, z.2.2⟩, fun z => ⟨z.1, ?_, z.2.2⟩⟩
        by_cases e : i = (n : Int)
        · rw [e] at z; exact absurd z.2.2 c
        · have := z.2.1; omega
      simp only [t]
theorem tk_507 {s : Nat → Int → Int} {j land : Int} : ∀ n : Nat, tkN s j land n 507 0 = s 507 0 + sumN (fun q => if q < s 503 0 ∧ s 102 q = j then sumB s q land else 0) n
  | 0 => by show s 507 0 = s 507 0 + 0; omega
  | n + 1 => by
    have ih := tk_507 (s := s) (j := j) (land := land) n
    have ex : sumB (tkN s j land n) n land = sumB s n land := sumB_x (tk_x n) _ _
    show (if (n : Int) < s 503 0 ∧ s 102 n = j then st (st (tkN s j land n) 110 n (sumB (tkN s j land n) n land)) 507 0 (tkN s j land n 507 0 + sumB (tkN s j land n) n land) else tkN s j land n : Nat → Int → Int) 507 0 = s 507 0 + (sumN (fun q => if q < s 503 0 ∧ s 102 q = j then sumB s q land else 0) n + (if (n : Int) < s 503 0 ∧ s 102 n = j then sumB s n land else 0))
    by_cases c : (n : Int) < s 503 0 ∧ s 102 n = j
    · rw [if_pos c, if_pos c, st_s, ih, ex]; omega
    · rw [if_neg c, if_neg c, ih]; omega
theorem mLeft_x {a b : Nat → Int → Int} (e : ∀ f : Nat, f ≠ 1021 → a f = b f) {p : Int} : ∀ n : Nat, mLeftN a p n = mLeftN b p n
  | 0 => by show a 1012 p = b 1012 p; rw [e 1012 (by decide)]
  | n + 1 => by
    have h := mLeft_x e (p := p) n
    show (if a 1014 n = 2 ∧ a 1015 n = p then mLeftN a p n - (if a 1018 n < mLeftN a p n then a 1018 n else mLeftN a p n) else mLeftN a p n) = (if b 1014 n = 2 ∧ b 1015 n = p then mLeftN b p n - (if b 1018 n < mLeftN b p n then b 1018 n else mLeftN b p n) else mLeftN b p n)
    simp only [h, e 1014 (by decide), e 1015 (by decide), e 1018 (by decide)]
theorem mShare_x {a b : Nat → Int → Int} (e : ∀ f : Nat, f ≠ 1021 → a f = b f) (i : Int) : mShare a i = mShare b i := by
  unfold mShare mLeft
  simp only [mLeft_x e, e 1015 (by decide), e 913 (by decide), e 1018 (by decide)]
theorem mSum_x {a b : Nat → Int → Int} (e : ∀ f : Nat, f ≠ 1021 → a f = b f) (i : Int) : mSum a i = mSum b i := by
  unfold mSum mLeft
  simp only [mShare_x e, mLeft_x e, e 1014 (by decide), e 1015 (by decide), e 1018 (by decide), e 1004 (by decide), e 1007 (by decide), e 1008 (by decide), e 1017 (by decide), e 1034 (by decide)]
theorem mtk_x {s : Nat → Int → Int} {p : Int} (n : Nat) : ∀ f : Nat, f ≠ 1021 → mtkN s p n f = s f := fun _ h => funext fun k => mtk_f h k n
theorem mtk_1021 {s : Nat → Int → Int} {p : Int} (i : Int) : ∀ n : Nat, mtkN s p n 1021 i = if 0 ≤ i ∧ i < (n : Int) ∧ s 1015 i = p then mSum s i else s 1021 i
  | 0 => by rw [if_neg (by omega)]; rfl
  | n + 1 => by
    have ih := mtk_1021 (s := s) (p := p) i n
    have ex : mSum (mtkN s p n) n = mSum s n := mSum_x (mtk_x n) _
    show (if s 1015 (n : Int) = p then st (mtkN s p n) 1021 n (mSum (mtkN s p n) n) else mtkN s p n : Nat → Int → Int) 1021 i = _
    by_cases c : s 1015 (n : Int) = p
    · rw [if_pos c, st_i, ex]
      by_cases e : i = (n : Int)
      · rw [if_pos e, e, if_pos ⟨by omega, by omega, c⟩]
      · rw [if_neg e, ih]
        have t : (0 ≤ i ∧ i < (n : Int) ∧ s 1015 i = p) ↔ (0 ≤ i ∧ i < ((n + 1 : Nat) : Int) ∧ s 1015 i = p) := ⟨fun z => ⟨z.1, by omega, z.2.2⟩, fun z => ⟨z.1, by omega, z.2.2⟩⟩
        simp only [t]
    · rw [if_neg c, ih]
      have t : (0 ≤ i ∧ i < (n : Int) ∧ s 1015 i = p) ↔ (0 ≤ i ∧ i < ((n + 1 : Nat) : Int) ∧ s 1015 i = p) := by
        refine ⟨fun z => ⟨z.1, by omega, z.2.2⟩, fun z => ⟨z.1, ?_, z.2.2⟩⟩
        by_cases e : i = (n : Int)
        · rw [e] at z; exact absurd z.2.2 c
        · have := z.2.1; omega
      simp only [t]
theorem mrs_q {s : Nat → Int → Int} {p : Int} : ∀ n : Nat, mrsN s p n = mLeft s p (s 913 0) - sumN (fun q => if s 1015 q = p ∧ s 1014 q = 0 then mShare s q else 0) n
  | 0 => by show mLeft s p (s 913 0) = mLeft s p (s 913 0) - 0; omega
  | n + 1 => by
    have ih := mrs_q (s := s) (p := p) n
    have ex : mShare (st (mtkN s p n) 1021 n (mSum (mtkN s p n) n)) n = mShare s n := mShare_x (fun f h => by rw [st_F h]; exact mtk_x n f h) _
    show (if s 1015 (n : Int) = p then mrsN s p n - (if s 1014 (n : Int) = 0 then mShare (st (mtkN s p n) 1021 n (mSum (mtkN s p n) n)) n else 0) else mrsN s p n) = mLeft s p (s 913 0) - (sumN (fun q => if s 1015 q = p ∧ s 1014 q = 0 then mShare s q else 0) n + (if s 1015 (n : Int) = p ∧ s 1014 (n : Int) = 0 then mShare s n else 0))
    rw [ex, ih]
    by_cases c : s 1015 (n : Int) = p
    · rw [if_pos c]
      by_cases c2 : s 1014 (n : Int) = 0
      · rw [if_pos c2, if_pos ⟨c, c2⟩]; omega
      · rw [if_neg c2, if_neg (fun z => c2 z.2)]; omega
    · rw [if_neg c, if_neg (fun z => c z.1)]; omega
theorem sumN_add {f g : Int → Int} : ∀ n : Nat, sumN (fun q => f q + g q) n = sumN f n + sumN g n
  | 0 => rfl
  | n + 1 => by
    have h := sumN_add (f := f) (g := g) n
    show sumN (fun q => f q + g q) n + (f n + g n) = (sumN f n + f n) + (sumN g n + g n)
    omega
theorem e_land {sg mu : Nat → Int → Int} (h : Rel sg mu) (hG : GC sg) {j : Int} (hj : 0 ≤ j ∧ j < 36) (hn : 0 ≤ needO sg j) : mLand (mtk1 mu j) j (mu 1006 j) = landO (tk2 sg j) j := by
  have h0 := h
  obtain ⟨hS, hPA, hPS, hPN, hPO, hPL, hJ1, hJ2, hIA, hIN, hIS, hIP, hJ3, hJ8, hJ4, hZ, hK, hPR, hJ5, hT⟩ := h
  have g6 := gr_506 hG 0
  have a1 : worthB (tk2 sg j) j (tk2 sg j 207 j) = worthB sg j (prOn sg (sg 202 j) (sg 506 0)) := by
    have z : tk2 sg j 207 j = prOn sg (sg 202 j) (sg 506 0) := st_s.trans (by rw [prOn_ext (a := tk1 sg j) (b := sg) rfl rfl rfl])
    rw [z]; rfl
  have a2 : mWorth (mtk1 mu j) j (mtk1 mu j 1008 j) = worthB sg j (prOn sg (sg 202 j) (sg 506 0)) := by
    have z : mtk1 mu j 1008 j = mu 901 0 := st_s
    rw [z]
    show mWorth mu j (mu 901 0) = _
    rw [hS.1]
    exact e_worth h0 hG hj (by omega)
  have n1 := hPN j hj.1 hj.2
  have n2 := needO_rng hG j
  have n3 : sg 204 j = needO sg j := by
    rw [needO_q hj.1] at hn ⊢
    (repeat' split at hn) <;> (repeat' split) <;> omega
  have k := hK (needO sg j) hn n2.2.1
  have b0 : tk2 sg j 204 j = needO sg j := n3
  have b1 : mtk1 mu j 1007 j = tk2 sg j 205 j := (hPS j hj.1 hj.2).2.1
  have b2 : mtk1 mu j 1027 (needO sg j) = tk2 sg j 401 (needO sg j) := k.1
  have b3 : mtk1 mu j 1028 (needO sg j) = tk2 sg j 402 (needO sg j) := k.2.1
  unfold mLand landO mx
  rw [n1, a2, b0, a1, b1, b2, b3, if_neg (show ¬ j < 0 by omega), if_neg (show ¬ needO sg j < 0 by omega)]
  generalize worthB sg j (prOn sg (sg 202 j) (sg 506 0)) * tk2 sg j 205 j / 100 + (worthB sg j (prOn sg (sg 202 j) (sg 506 0)) - worthB sg j (prOn sg (sg 202 j) (sg 506 0)) * tk2 sg j 205 j / 100) * tk2 sg j 401 (needO sg j) / 100 - (worthB sg j (prOn sg (sg 202 j) (sg 506 0)) - worthB sg j (prOn sg (sg 202 j) (sg 506 0)) * tk2 sg j 205 j / 100) * tk2 sg j 402 (needO sg j) / 100 = X
  (repeat' split) <;> omega
theorem r_take {sg mu : Nat → Int → Int} (h : Rel sg mu) (hG : GC sg) (hM : GM mu) (hb : sg 702 0 ≤ 1000000) {j : Int} (hj : 0 ≤ j ∧ j < 36) (h3 : sg 203 j = 0) (hn : 0 ≤ needO sg j) : Rel (tkT sg j) (mtkT mu j) ∧ GC (tkT sg j) ∧ GM (mtkT mu j) := by
  have eL := e_land h hG hj hn
  obtain ⟨hS, hPA, hPS, hPN, hPO, hPL, hJ1, hJ2, hIA, hIN, hIS, hIP, hJ3, hJ8, hJ4, hZ, hK, hPR, hJ5, hT⟩ := h
  have g6 := gr_506 hG 0
  have g3 := gr_503 hG 0
  have hS2 := hS.2.1
  have hv : sg 206 j = -1 := (hJ1 j hj.1 hj.2).mp h3
  have hl0 : mu 1012 j = 0 := by
    have z := hPL j hj.1 hj.2
    rw [if_pos hv] at z; exact z
  obtain ⟨L, hL⟩ : ∃ L : Int, L = landO (tk2 sg j) j := ⟨_, rfl⟩
  have f : ∀ F : Nat, F ≠ 203 → F ≠ 206 → F ≠ 207 → F ≠ 110 → F ≠ 507 → F ≠ 509 → F ≠ 511 → tkT sg j F = sg F := by
    intro F a1 a2 a3 a4 a5 a6 a7
    unfold tkT tk3
    rw [st_F a7, st_F a6, tk_x 24 F a4 a5]
    unfold tk2 tk1
    rw [st_F a3, st_F a2, st_F a1]
  have v203 : ∀ p : Int, tkT sg j 203 p = if p = j then 1 else sg 203 p := by
    intro p
    unfold tkT tk3
    rw [st_f (by decide), st_f (by decide), tk_f (by decide) (by decide)]
    unfold tk2 tk1
    rw [st_f (by decide), st_f (by decide), st_i]
  have v206 : ∀ p : Int, tkT sg j 206 p = if p = j then sg 506 0 else sg 206 p := by
    intro p
    unfold tkT tk3
    rw [st_f (by decide), st_f (by decide), tk_f (by decide) (by decide)]
    unfold tk2 tk1
    rw [st_f (by decide), st_i, st_f (by decide)]
  have v207 : ∀ p : Int, tkT sg j 207 p = if p = j then tk2 sg j 207 j else sg 207 p := by
    intro p
    unfold tkT tk3
    rw [st_f (by decide), st_f (by decide), tk_f (by decide) (by decide)]
    by_cases e : p = j
    · rw [if_pos e, e]
    · rw [if_neg e]
      unfold tk2 tk1
      rw [st_j e, st_f (by decide), st_f (by decide)]
  have v110 : ∀ i : Int, tkT sg j 110 i = if 0 ≤ i ∧ i < ((24 : Nat) : Int) ∧ i < sg 503 0 ∧ sg 102 i = j then sumB (tk2 sg j) i L else sg 110 i := by
    intro i
    unfold tkT tk3
    rw [st_f (by decide), st_f (by decide), ← hL]
    exact tk_110 (s := tk2 sg j) (j := j) (land := L) i 24
  have v507 : tkT sg j 507 0 = sg 507 0 + sumN (fun q => if q < sg 503 0 ∧ sg 102 q = j then sumB (tk2 sg j) q L else 0) 24 := by
    unfold tkT tk3
    rw [st_f (by decide), st_f (by decide), ← hL]
    exact tk_507 (s := tk2 sg j) (j := j) (land := L) 24
  have v509 : tkT sg j 509 0 = sg 509 0 + courtL (tk2 sg j) j L := by
    have z : courtL (tk3 sg j) j L = courtL (tk2 sg j) j L := courtN_x (tk_x 24) 24
    have y : tk3 sg j 509 0 = sg 509 0 := tk_f (by decide) (by decide) 0 24
    unfold tkT
    rw [st_f (by decide), st_s, ← hL, z, y]
  have v511 : tkT sg j 511 0 = sg 511 0 + L := by
    have y : tk3 sg j 511 0 = sg 511 0 := tk_f (by decide) (by decide) 0 24
    unfold tkT
    rw [st_s, ← hL, y]
  have g : ∀ F : Nat, F ≠ 1005 → F ≠ 1008 → F ≠ 1012 → F ≠ 1021 → F ≠ 932 → mtkT mu j F = mu F := by
    intro F a1 a2 a3 a4 a5
    unfold mtkT mtk3
    rw [st_F a5, mtk_x _ F a4]
    unfold mtk2 mtk1
    rw [st_F a3, st_F a2, st_F a1]
  have w1005 : ∀ p : Int, mtkT mu j 1005 p = if p = j then 1 else mu 1005 p := by
    intro p
    unfold mtkT mtk3
    rw [st_f (by decide), mtk_f (by decide)]
    unfold mtk2 mtk1
    rw [st_f (by decide), st_f (by decide), st_i]
  have w1008 : ∀ p : Int, mtkT mu j 1008 p = if p = j then mu 901 0 else mu 1008 p := by
    intro p
    unfold mtkT mtk3
    rw [st_f (by decide), mtk_f (by decide)]
    unfold mtk2 mtk1
    rw [st_f (by decide), st_i, st_f (by decide)]
  have w1012 : ∀ p : Int, mtkT mu j 1012 p = st mu 1012 j L 1012 p := by
    intro p
    unfold mtkT mtk3
    rw [st_f (by decide), mtk_f (by decide)]
    unfold mtk2
    rw [eL, ← hL, st_i, st_i]
    rfl
  have w1021 : ∀ i : Int, mtkT mu j 1021 i = if 0 ≤ i ∧ i < (((sg 503 0).toNat : Nat) : Int) ∧ mu 1015 i = j then mSum (mtk2 mu j) i else mu 1021 i := by
    intro i
    unfold mtkT mtk3
    rw [st_f (by decide), show mtk2 mu j 913 0 = sg 503 0 from hS2]
    exact mtk_1021 (s := mtk2 mu j) (p := j) i _
  have w932 : mtkT mu j 932 0 = mu 932 0 + mrsN (mtk2 mu j) j (sg 503 0).toNat := by
    have y : mtk3 mu j 932 0 = mu 932 0 := mtk_f (by decide) 0 _
    unfold mtkT
    rw [st_s, y, show mtk2 mu j 913 0 = sg 503 0 from hS2]
  have bS : RSc (tk2 sg j) (mtk2 mu j) := hS
  have bPA : RPA (tk2 sg j) (mtk2 mu j) := hPA
  have bPS : RPS (tk2 sg j) (mtk2 mu j) := fun p p1 p2 => by
    have z := hPS p p1 p2
    refine ⟨?_, z.2.1, ?_, z.2.2.2⟩
    · show st mu 1005 j 1 1005 p = st sg 203 j 1 203 p
      rw [st_i, st_i, z.1]
    · show st (st mu 1005 j 1) 1008 j (mu 901 0) 1008 p = st (st sg 203 j 1) 206 j (sg 506 0) 206 p
      rw [st_i, st_i, hS.1]
      by_cases e : p = j
      · rw [if_pos e, if_pos e]
      · rw [if_neg e, if_neg e]; exact z.2.2.1
  have bIA : RIA (tk2 sg j) (mtk2 mu j) := hIA
  have bG : GC (tk2 sg j) := gc_tk2 hG j hb
  have bl : mtk2 mu j 1012 j = L := st_s.trans (eL.trans hL.symm)
  have eS : ∀ i : Int, 0 ≤ i → i < sg 503 0 → sg 102 i = j → mSum (mtk2 mu j) i = sumB (tk2 sg j) i L := fun i i0 i1 i2 => e_sum bS bPA bPS bIA bG ⟨i0, i1⟩ (by
    show mtk2 mu j 1012 (sg 102 i) = L
    rw [i2]; exact bl)
  have eC : courtL (tk2 sg j) j L = mrsN (mtk2 mu j) j (sg 503 0).toNat := by
    unfold courtL
    rw [court_q, mrs_q, e_leftA bS bIA bG bl]
    congr 1
    refine sumN_cut 24 (by omega) (fun i hi => ?_) (fun i i1 i2 => if_neg (fun z => by have z1 : (i : Int) < sg 503 0 := z.1; omega))
    have x1 := hIA i (by omega) (by omega)
    show (if (i : Int) < sg 503 0 ∧ sg 101 i = 0 ∧ sg 102 i = j then leftB (tk2 sg j) j L 24 * sg 105 i / 100 else 0) = (if mu 1015 i = j ∧ mu 1014 i = 0 then mShare (mtk2 mu j) i else 0)
    rw [x1.1, x1.2.1]
    by_cases c : sg 101 i = 0 ∧ sg 102 i = j
    · have y : mShare (mtk2 mu j) i = leftB (tk2 sg j) (sg 102 i) L 24 * sg 105 i / 100 := e_share bS bIA bG ⟨by omega, (by show (i : Int) < sg 503 0; omega)⟩ (by
        show mtk2 mu j 1012 (sg 102 i) = L
        rw [c.2]; exact bl)
      rw [if_pos ⟨by omega, c⟩, if_pos ⟨c.2, c.1⟩, y, c.2]
    · rw [if_neg (fun z => c z.2), if_neg (fun z => c ⟨z.2, z.1⟩)]
  have hneed : needO (tkT sg j) = needO sg := needO_ext (f 204 (by decide) (by decide) (by decide) (by decide) (by decide) (by decide) (by decide)) (f 403 (by decide) (by decide) (by decide) (by decide) (by decide) (by decide) (by decide))
  have hlo : ∀ p : Int, p ≠ j → landO (tkT sg j) p = landO sg p := fun p hp => landO_at (a := tkT sg j) (b := sg) (by rw [f 201 (by decide) (by decide) (by decide) (by decide) (by decide) (by decide) (by decide)]) (by rw [v207, if_neg hp]) (by rw [f 205 (by decide) (by decide) (by decide) (by decide) (by decide) (by decide) (by decide)]) (by rw [f 204 (by decide) (by decide) (by decide) (by decide) (by decide) (by decide) (by decide)]) (fun _ => by rw [f 301 (by decide) (by decide) (by decide) (by decide) (by decide) (by decide) (by decide)]) (fun _ => ⟨by rw [f 401 (by decide) (by decide) (by decide) (by decide) (by decide) (by decide) (by decide)], by rw [f 402 (by decide) (by decide) (by decide) (by decide) (by decide) (by decide) (by decide)]⟩)
  have hlj : landO (tkT sg j) j = L := by
    rw [hL]
    exact landO_at (a := tkT sg j) (b := tk2 sg j) (by rw [f 201 (by decide) (by decide) (by decide) (by decide) (by decide) (by decide) (by decide)]; rfl) (by rw [v207, if_pos rfl]) (by rw [f 205 (by decide) (by decide) (by decide) (by decide) (by decide) (by decide) (by decide)]; rfl) (by rw [f 204 (by decide) (by decide) (by decide) (by decide) (by decide) (by decide) (by decide)]; rfl) (fun _ => by rw [f 301 (by decide) (by decide) (by decide) (by decide) (by decide) (by decide) (by decide)]; rfl) (fun _ => ⟨by rw [f 401 (by decide) (by decide) (by decide) (by decide) (by decide) (by decide) (by decide)]; rfl, by rw [f 402 (by decide) (by decide) (by decide) (by decide) (by decide) (by decide) (by decide)]; rfl⟩)
  refine ⟨⟨?_, ?_, fun p p1 p2 => ?_, ?_, ?_, fun p p1 p2 => ?_, fun p p1 p2 => ?_, fun p p1 p2 => ?_, ?_, ?_, fun i p1 p2 => ?_, ?_, ?_, ?_, fun i p1 p2 => ?_, ⟨fun i p1 p2 => ?_, ?_⟩, ?_, ?_, ?_, ⟨?_, ?_, ?_, ?_, ?_⟩⟩, gc_tkT hG j hb, gm_tkT hM j⟩
  · unfold RSc
    rw [f 506 (by decide) (by decide) (by decide) (by decide) (by decide) (by decide) (by decide), f 503 (by decide) (by decide) (by decide) (by decide) (by decide) (by decide) (by decide), f 505 (by decide) (by decide) (by decide) (by decide) (by decide) (by decide) (by decide), g 901 (by decide) (by decide) (by decide) (by decide) (by decide), g 913 (by decide) (by decide) (by decide) (by decide) (by decide), g 926 (by decide) (by decide) (by decide) (by decide) (by decide)]; exact hS
  · unfold RPA
    rw [f 201 (by decide) (by decide) (by decide) (by decide) (by decide) (by decide) (by decide), f 202 (by decide) (by decide) (by decide) (by decide) (by decide) (by decide) (by decide), g 1003 (by decide) (by decide) (by decide) (by decide) (by decide), g 1004 (by decide) (by decide) (by decide) (by decide) (by decide)]; exact hPA
  · have z := hPS p p1 p2
    rw [v203, v206, w1005, w1008, f 205 (by decide) (by decide) (by decide) (by decide) (by decide) (by decide) (by decide), f 208 (by decide) (by decide) (by decide) (by decide) (by decide) (by decide) (by decide), g 1007 (by decide) (by decide) (by decide) (by decide) (by decide), g 1009 (by decide) (by decide) (by decide) (by decide) (by decide)]
    by_cases e : p = j
    · rw [if_pos e, if_pos e, if_pos e, if_pos e]
      exact ⟨rfl, z.2.1, hS.1, z.2.2.2⟩
    · rw [if_neg e, if_neg e, if_neg e, if_neg e]
      exact z
  · unfold RPN
    rw [hneed, g 1006 (by decide) (by decide) (by decide) (by decide) (by decide)]; exact hPN
  · unfold RPO
    rw [f 209 (by decide) (by decide) (by decide) (by decide) (by decide) (by decide) (by decide), f 210 (by decide) (by decide) (by decide) (by decide) (by decide) (by decide) (by decide), g 1010 (by decide) (by decide) (by decide) (by decide) (by decide), g 1011 (by decide) (by decide) (by decide) (by decide) (by decide)]; exact hPO
  · rw [w1012, v206, st_i]
    by_cases e : p = j
    · rw [if_pos e, if_pos e, if_neg (by omega), e, hlj]
    · rw [if_neg e, if_neg e, hlo p e]
      exact hPL p p1 p2
  · rw [v203, v206]
    by_cases e : p = j
    · rw [if_pos e, if_pos e]
      exact ⟨fun z => absurd z (by decide), fun z => by omega⟩
    · rw [if_neg e, if_neg e]; exact hJ1 p p1 p2
  · have z := hJ2 p p1 p2
    rw [hneed, f 209 (by decide) (by decide) (by decide) (by decide) (by decide) (by decide) (by decide), f 210 (by decide) (by decide) (by decide) (by decide) (by decide) (by decide) (by decide), v203]
    refine ⟨z.1, fun y => ?_, z.2.2⟩
    by_cases e : p = j
    · rw [if_pos e] at y; exact absurd y (by decide)
    · rw [if_neg e] at y; exact z.2.1 y
  · unfold RIA
    rw [f 503 (by decide) (by decide) (by decide) (by decide) (by decide) (by decide) (by decide), f 101 (by decide) (by decide) (by decide) (by decide) (by decide) (by decide) (by decide), f 102 (by decide) (by decide) (by decide) (by decide) (by decide) (by decide) (by decide), f 103 (by decide) (by decide) (by decide) (by decide) (by decide) (by decide) (by decide), f 104 (by decide) (by decide) (by decide) (by decide) (by decide) (by decide) (by decide), f 105 (by decide) (by decide) (by decide) (by decide) (by decide) (by decide) (by decide), f 106 (by decide) (by decide) (by decide) (by decide) (by decide) (by decide) (by decide), g 1014 (by decide) (by decide) (by decide) (by decide) (by decide), g 1015 (by decide) (by decide) (by decide) (by decide) (by decide), g 1016 (by decide) (by decide) (by decide) (by decide) (by decide), g 1017 (by decide) (by decide) (by decide) (by decide) (by decide), g 1018 (by decide) (by decide) (by decide) (by decide) (by decide), g 1034 (by decide) (by decide) (by decide) (by decide) (by decide)]; exact hIA
  · unfold RIN
    rw [f 503 (by decide) (by decide) (by decide) (by decide) (by decide) (by decide) (by decide), f 107 (by decide) (by decide) (by decide) (by decide) (by decide) (by decide) (by decide), f 108 (by decide) (by decide) (by decide) (by decide) (by decide) (by decide) (by decide), f 109 (by decide) (by decide) (by decide) (by decide) (by decide) (by decide) (by decide), g 1019 (by decide) (by decide) (by decide) (by decide) (by decide), g 1020 (by decide) (by decide) (by decide) (by decide) (by decide)]; exact hIN
  · rw [f 503 (by decide) (by decide) (by decide) (by decide) (by decide) (by decide) (by decide)] at p2
    have y := (hIA i p1 p2).2.1
    rw [w1021, v110, y]
    by_cases e : sg 102 i = j
    · rw [if_pos ⟨p1, by omega, e⟩, if_pos ⟨p1, by omega, p2, e⟩]
      exact eS i p1 p2 e
    · rw [if_neg (fun z => e z.2.2), if_neg (fun z => e z.2.2.2)]
      exact hIS i p1 p2
  · unfold RIP
    rw [f 503 (by decide) (by decide) (by decide) (by decide) (by decide) (by decide) (by decide), f 111 (by decide) (by decide) (by decide) (by decide) (by decide) (by decide) (by decide), f 112 (by decide) (by decide) (by decide) (by decide) (by decide) (by decide) (by decide), f 113 (by decide) (by decide) (by decide) (by decide) (by decide) (by decide) (by decide), f 114 (by decide) (by decide) (by decide) (by decide) (by decide) (by decide) (by decide), g 1022 (by decide) (by decide) (by decide) (by decide) (by decide), g 1023 (by decide) (by decide) (by decide) (by decide) (by decide), g 1024 (by decide) (by decide) (by decide) (by decide) (by decide), g 1025 (by decide) (by decide) (by decide) (by decide) (by decide)]; exact hIP
  · unfold J3
    rw [f 503 (by decide) (by decide) (by decide) (by decide) (by decide) (by decide) (by decide), f 111 (by decide) (by decide) (by decide) (by decide) (by decide) (by decide) (by decide), f 112 (by decide) (by decide) (by decide) (by decide) (by decide) (by decide) (by decide), f 113 (by decide) (by decide) (by decide) (by decide) (by decide) (by decide) (by decide), f 114 (by decide) (by decide) (by decide) (by decide) (by decide) (by decide) (by decide)]; exact hJ3
  · unfold J8
    rw [f 503 (by decide) (by decide) (by decide) (by decide) (by decide) (by decide) (by decide), f 108 (by decide) (by decide) (by decide) (by decide) (by decide) (by decide) (by decide), f 109 (by decide) (by decide) (by decide) (by decide) (by decide) (by decide) (by decide)]; exact hJ8
  · rw [f 503 (by decide) (by decide) (by decide) (by decide) (by decide) (by decide) (by decide)] at p2
    rw [f 102 (by decide) (by decide) (by decide) (by decide) (by decide) (by decide) (by decide), v206, v110]
    by_cases e : sg 102 i = j
    · rw [if_pos e]; exact fun z => by omega
    · rw [if_neg e, if_neg (fun z => e z.2.2.2)]
      exact hJ4 i p1 p2
  · rw [f 503 (by decide) (by decide) (by decide) (by decide) (by decide) (by decide) (by decide)] at p1
    rw [g 1020 (by decide) (by decide) (by decide) (by decide) (by decide), g 1022 (by decide) (by decide) (by decide) (by decide) (by decide), g 1023 (by decide) (by decide) (by decide) (by decide) (by decide), g 1025 (by decide) (by decide) (by decide) (by decide) (by decide), g 1034 (by decide) (by decide) (by decide) (by decide) (by decide), w1021, if_neg (by omega)]
    exact hZ.1 i p1 p2
  · rw [f 505 (by decide) (by decide) (by decide) (by decide) (by decide) (by decide) (by decide), g 1029 (by decide) (by decide) (by decide) (by decide) (by decide)]; exact hZ.2
  · unfold RK
    rw [f 505 (by decide) (by decide) (by decide) (by decide) (by decide) (by decide) (by decide), f 401 (by decide) (by decide) (by decide) (by decide) (by decide) (by decide) (by decide), f 402 (by decide) (by decide) (by decide) (by decide) (by decide) (by decide) (by decide), f 403 (by decide) (by decide) (by decide) (by decide) (by decide) (by decide) (by decide), f 404 (by decide) (by decide) (by decide) (by decide) (by decide) (by decide) (by decide), f 405 (by decide) (by decide) (by decide) (by decide) (by decide) (by decide) (by decide), g 1027 (by decide) (by decide) (by decide) (by decide) (by decide), g 1028 (by decide) (by decide) (by decide) (by decide) (by decide), g 1029 (by decide) (by decide) (by decide) (by decide) (by decide), g 1030 (by decide) (by decide) (by decide) (by decide) (by decide), g 1031 (by decide) (by decide) (by decide) (by decide) (by decide)]; exact hK
  · have z : RPR sg (mtkT mu j) := by
      unfold RPR
      rw [g 1002 (by decide) (by decide) (by decide) (by decide) (by decide)]; exact hPR
    exact RPR_ext z (f 300 (by decide) (by decide) (by decide) (by decide) (by decide) (by decide) (by decide)) (f 301 (by decide) (by decide) (by decide) (by decide) (by decide) (by decide) (by decide)) (f 302 (by decide) (by decide) (by decide) (by decide) (by decide) (by decide) (by decide)) (f 602 (by decide) (by decide) (by decide) (by decide) (by decide) (by decide) (by decide)) (by rw [f 506 (by decide) (by decide) (by decide) (by decide) (by decide) (by decide) (by decide)])
  · unfold J5
    rw [f 506 (by decide) (by decide) (by decide) (by decide) (by decide) (by decide) (by decide), f 300 (by decide) (by decide) (by decide) (by decide) (by decide) (by decide) (by decide), f 602 (by decide) (by decide) (by decide) (by decide) (by decide) (by decide) (by decide)]; exact hJ5
  · rw [v507, f 503 (by decide) (by decide) (by decide) (by decide) (by decide) (by decide) (by decide), hT.1]
    have z1 : sumN (fun q => mtkT mu j 1021 q) (sg 503 0).toNat = sumN (fun q => mu 1021 q + (if q < sg 503 0 ∧ sg 102 q = j then sumB (tk2 sg j) q L else 0)) (sg 503 0).toNat := by
      refine sumN_congr _ (fun i hi => ?_)
      have x1 := (hIA i (by omega) (by omega)).2.1
      show mtkT mu j 1021 i = mu 1021 i + (if (i : Int) < sg 503 0 ∧ sg 102 i = j then sumB (tk2 sg j) i L else 0)
      rw [w1021, x1]
      by_cases e : sg 102 i = j
      · have y1 := hIS i (by omega) (by omega)
        have y2 := hJ4 i (by omega) (by omega) (by rw [e]; exact hv)
        rw [if_pos ⟨by omega, by omega, e⟩, if_pos ⟨by omega, e⟩, eS i (by omega) (by omega) e, y1, y2]; omega
      · rw [if_neg (fun z => e z.2.2), if_neg (fun z => e z.2)]; omega
    have z2 := sumN_cut (f := fun q => if q < sg 503 0 ∧ sg 102 q = j then sumB (tk2 sg j) q L else 0) (g := fun q => if q < sg 503 0 ∧ sg 102 q = j then sumB (tk2 sg j) q L else 0) (n := (sg 503 0).toNat) 24 (by omega) (fun _ _ => rfl) (fun i i1 i2 => if_neg (fun z => by omega))
    rw [z1, sumN_add, z2]
  · rw [f 508 (by decide) (by decide) (by decide) (by decide) (by decide) (by decide) (by decide), f 503 (by decide) (by decide) (by decide) (by decide) (by decide) (by decide) (by decide), g 1022 (by decide) (by decide) (by decide) (by decide) (by decide)]; exact hT.2.1
  · rw [v509, w932, eC, hT.2.2.1]
  · rw [f 510 (by decide) (by decide) (by decide) (by decide) (by decide) (by decide) (by decide), g 933 (by decide) (by decide) (by decide) (by decide) (by decide)]; exact hT.2.2.2.1
  · rw [v511, hT.2.2.2.2]
    have z := sumN_st (mu := mu) (F := 1012) (x := j) (v := L) hj.1 36
    rw [if_pos (by omega)] at z
    have y : sumN (fun q => mtkT mu j 1012 q) 36 = sumN (fun q => st mu 1012 j L 1012 q) 36 := sumN_congr _ (fun i hi => w1012 i)
    rw [y, z, hl0]; omega
theorem mtk_land {sg mu : Nat → Int → Int} (h : Rel sg mu) (hG : GC sg) {j : Int} (hj : 0 ≤ j ∧ j < 36) (hn : 0 ≤ needO sg j) : mtk3 mu j 1012 j = landO (tk2 sg j) j := by
  unfold mtk3
  rw [mtk_f (by decide)]
  exact st_s.trans (e_land h hG hj hn)
theorem s_enter {sg mu : Nat → Int → Int} (h : Rel sg mu) (hG : GC sg) (hM : GM mu) (hb : sg 702 0 ≤ 1000000) (x : Int) : SimW [1, 3] (enterE sg x) (enterME mu x) (landO (tk2 sg (pAt x)) (pAt x)) (mtk3 (st mu 900 0 0) x 1012 x) sg (tkT sg (pAt x)) mu (mtkT (st mu 900 0 0) x) := by
  by_cases hx : 0 ≤ x ∧ x ≤ 35
  · have hp := pAt_q hx
    have hS : RSc sg mu := h.1
    have hS1 := hS.1
    have hPS : RPS sg mu := h.2.2.1
    have hPN : RPN sg mu := h.2.2.2.1
    have hK : RK sg mu := h.2.2.2.2.2.2.2.2.2.2.2.2.2.2.2.2.1
    have z := (hPS x hx.1 (by omega)).1
    have y := hPN x hx.1 (by omega)
    have n := needO_rng hG x
    rw [hp]
    by_cases k : 0 ≤ needO sg x
    · have q := hK (needO sg x) k n.2.1
      have q1 := q.2.2.1
      have q2 := q.2.2.2.1
      have e : (enterE sg x = 0 ∧ enterME mu x = 0 ∧ sg 203 x = 0) ∨ (enterE sg x = 3 ∧ enterME mu x = 2) := by
        unfold enterE enterME
        rw [hp, z, y, q1, q2]
        (repeat' split) <;> omega
      rcases e with ⟨z1, z2, z3⟩ | ⟨z1, z2⟩
      · exact w13_0 h hG hM z1 z2 (mtk_land (Rel9 h 0) hG (by omega) k).symm (r_take (Rel9 h 0) hG (gc_900 hM 0 (by decide)) hb (by omega) z3 k)
      · exact w13_2 h hG hM z1 z2
    · exact w13_2 h hG hM (by unfold enterE; rw [hp, if_neg (by omega), if_pos (by omega)]) (by unfold enterME; rw [if_neg (by omega), if_neg (by omega)])
  · have hp := pAt_n hx
    exact w13_1 h hG hM (by unfold enterE; rw [hp, if_pos (by decide)]) (by unfold enterME; rw [if_pos hx])
theorem r_part {sg mu : Nat → Int → Int} (h : Rel sg mu) (hG : GC sg) (hM : GM mu) {j : Int} (hj : 0 ≤ j ∧ j < 36) (h3 : sg 203 j = 0) : Rel (st sg 205 j 100) (st mu 1007 j 100) ∧ GC (st sg 205 j 100) ∧ GM (st mu 1007 j 100) := by
  obtain ⟨hS, hPA, hPS, hPN, hPO, hPL, hJ1, hJ2, hIA, hIN, hIS, hIP, hJ3, hJ8, hJ4, hZ, hK, hPR, hJ5, hT⟩ := h
  have hv : sg 206 j = -1 := (hJ1 j hj.1 hj.2).mp h3
  refine ⟨⟨hS, hPA, fun p p1 p2 => ?_, hPN, hPO, fun p p1 p2 => ?_, hJ1, hJ2, hIA, hIN, hIS, hIP, hJ3, hJ8, hJ4, hZ, hK, RPR_ext hPR rfl rfl rfl rfl rfl, hJ5, hT⟩, gc_205 hG j (by decide), gc_1007 hM j (by decide)⟩
  · have z := hPS p p1 p2
    refine ⟨z.1, ?_, z.2.2⟩
    show st mu 1007 j 100 1007 p = st sg 205 j 100 205 p
    rw [st_i, st_i, z.2.1]
  · have z := hPL p p1 p2
    show mu 1012 p = if sg 206 p = -1 then 0 else landO (st sg 205 j 100) p
    by_cases e : p = j
    · rw [e] at z ⊢
      rw [if_pos hv] at z ⊢
      exact z
    · rw [landO_at (a := st sg 205 j 100) (b := sg) rfl rfl (st_j e) rfl (fun _ => rfl) (fun _ => ⟨rfl, rfl⟩)]
      exact z
theorem s_blight {sg mu : Nat → Int → Int} (h : Rel sg mu) (hG : GC sg) (hM : GM mu) (hb : sg 702 0 ≤ 1000000) (x : Int) : SimW [1, 2, 3] (blightE sg x) (blightME mu x) (landO (tk2 (st sg 205 (sg 102 (iAt sg x)) 100) (sg 102 (iAt sg x))) (sg 102 (iAt sg x))) (mtk3 (st (st mu 900 0 0) 1007 (mu 1015 x) 100) (mu 1015 x) 1012 (mu 1015 x)) sg (tkT (st sg 205 (sg 102 (iAt sg x)) 100) (sg 102 (iAt sg x))) mu (mtkT (st (st mu 900 0 0) 1007 (mu 1015 x) 100) (mu 1015 x)) := by
  have hS : RSc sg mu := h.1
  have hS1 := hS.1
  have hS2 := hS.2.1
  by_cases hx : 0 ≤ x ∧ x < sg 503 0
  · have hp := iAt_q hx
    have hPA : RPA sg mu := h.2.1
    have hPS : RPS sg mu := h.2.2.1
    have hPN : RPN sg mu := h.2.2.2.1
    have hIA : RIA sg mu := h.2.2.2.2.2.2.2.2.1
    have i0 := hIA x hx.1 hx.2
    have i1 := i0.1
    have i2 := i0.2.1
    have i4 := i0.2.2.2.1
    have g2 := gr_102 hG x
    have z := (hPS (sg 102 x) (by omega) (by omega)).1
    have u := (hPA (sg 102 x) (by omega) (by omega)).2
    have y := hPN (sg 102 x) (by omega) (by omega)
    have n := needO_rng hG (sg 102 x)
    have e : (blightE sg x = 0 ∧ blightME mu x = 0 ∧ sg 203 (sg 102 x) = 0 ∧ 0 ≤ needO sg (sg 102 x)) ∨ (blightE sg x = blightME mu x ∧ (blightME mu x = 1 ∨ blightME mu x = 2 ∨ blightME mu x = 3)) := by
      unfold blightE blightME
      rw [hp, i1, i2, i4, z, u, y]
      (repeat' split) <;> omega
    rw [hp, i2]
    rcases e with ⟨z1, z2, z3, z4⟩ | ⟨z1, z2⟩
    · obtain ⟨r1, r2, r3⟩ := r_part (Rel9 h 0) hG (gc_900 hM 0 (by decide)) (show 0 ≤ sg 102 x ∧ sg 102 x < 36 by omega) z3
      exact w123_0 h hG hM z1 z2 (mtk_land r1 r2 (by omega) z4).symm (r_take r1 r2 r3 hb (by omega) z3 z4)
    · exact w123_k h hG hM z1 z2
  · have hp := iAt_n hx
    have e : blightME mu x = 1 := by unfold blightME; rw [if_pos (by omega)]
    exact w123_k h hG hM (by rw [e]; unfold blightE; rw [hp, if_pos (by decide)]) (Or.inl e)
