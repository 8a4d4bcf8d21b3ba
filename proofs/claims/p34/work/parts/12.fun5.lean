/-! writes: the tables behind them -/
theorem st_lt {sg : Nat → Int → Int} {f : Nat} {j v K : Int} (h : ∀ i : Int, sg f i < K) (hv : v < K) : ∀ i : Int, st sg f j v f i < K := by
  intro i
  by_cases z : i = j
  · rw [z, st_s]; exact hv
  · rw [st_j z]; exact h i
theorem gc_rng {sg : Nat → Int → Int} {f : Nat} {j v : Int} (h : GRng sg) (hv : loC f ≤ v ∧ v ≤ hiC f) : GRng (st sg f j v) := by
  intro f' j' hf
  unfold st
  split
  · rename_i z; rw [z.1]; exact hv
  · exact h f' j' hf

theorem gc_107 {sg : Nat → Int → Int} (hG : GC sg) (j : Int) {v : Int} (hv : (-1) ≤ v ∧ v ≤ 20000) : GC (st sg 107 j v) := ⟨gc_rng hG.1 hv, hG.2.1, hG.2.2.1, hG.2.2.2.1, hG.2.2.2.2.1, hG.2.2.2.2.2⟩
theorem gc_108 {sg : Nat → Int → Int} (hG : GC sg) (j : Int) {v : Int} (hv : (0) ≤ v ∧ v ≤ 1) : GC (st sg 108 j v) := ⟨gc_rng hG.1 hv, hG.2.1, hG.2.2.1, hG.2.2.2.1, hG.2.2.2.2.1, hG.2.2.2.2.2⟩
theorem gc_109 {sg : Nat → Int → Int} (hG : GC sg) (j : Int) {v : Int} (hv : (0) ≤ v ∧ v ≤ 1) : GC (st sg 109 j v) := ⟨gc_rng hG.1 hv, hG.2.1, hG.2.2.1, hG.2.2.2.1, hG.2.2.2.2.1, hG.2.2.2.2.2⟩
theorem gc_110 {sg : Nat → Int → Int} (hG : GC sg) (j : Int) {v : Int} (hv : (0) ≤ v ∧ v ≤ 110000) : GC (st sg 110 j v) := ⟨gc_rng hG.1 hv, hG.2.1, hG.2.2.1, hG.2.2.2.1, hG.2.2.2.2.1, hG.2.2.2.2.2⟩
theorem gc_111 {sg : Nat → Int → Int} (hG : GC sg) (j : Int) {v : Int} (hv : (0) ≤ v ∧ v ≤ 110000) : GC (st sg 111 j v) := ⟨gc_rng hG.1 hv, hG.2.1, hG.2.2.1, hG.2.2.2.1, hG.2.2.2.2.1, hG.2.2.2.2.2⟩
theorem gc_112 {sg : Nat → Int → Int} (hG : GC sg) (j : Int) {v : Int} (hv : (-1) ≤ v ∧ v ≤ 20000) : GC (st sg 112 j v) := ⟨gc_rng hG.1 hv, hG.2.1, hG.2.2.1, hG.2.2.2.1, hG.2.2.2.2.1, hG.2.2.2.2.2⟩
theorem gc_113 {sg : Nat → Int → Int} (hG : GC sg) (j : Int) {v : Int} (hv : (-9000000) ≤ v ∧ v ≤ 9000000) : GC (st sg 113 j v) := ⟨gc_rng hG.1 hv, hG.2.1, hG.2.2.1, hG.2.2.2.1, hG.2.2.2.2.1, hG.2.2.2.2.2⟩
theorem gc_114 {sg : Nat → Int → Int} (hG : GC sg) (j : Int) {v : Int} (hv : (0) ≤ v ∧ v ≤ 1) : GC (st sg 114 j v) := ⟨gc_rng hG.1 hv, hG.2.1, hG.2.2.1, hG.2.2.2.1, hG.2.2.2.2.1, hG.2.2.2.2.2⟩
theorem gc_201 {sg : Nat → Int → Int} (hG : GC sg) (j : Int) {v : Int} (hv : (1) ≤ v ∧ v ≤ 100) : GC (st sg 201 j v) := ⟨gc_rng hG.1 hv, hG.2.1, hG.2.2.1, hG.2.2.2.1, hG.2.2.2.2.1, hG.2.2.2.2.2⟩
theorem gc_202 {sg : Nat → Int → Int} (hG : GC sg) (j : Int) {v : Int} (hv : (0) ≤ v ∧ v ≤ 2) : GC (st sg 202 j v) := ⟨gc_rng hG.1 hv, hG.2.1, hG.2.2.1, hG.2.2.2.1, hG.2.2.2.2.1, hG.2.2.2.2.2⟩
theorem gc_203 {sg : Nat → Int → Int} (hG : GC sg) (j : Int) {v : Int} (hv : (0) ≤ v ∧ v ≤ 2) : GC (st sg 203 j v) := ⟨gc_rng hG.1 hv, hG.2.1, hG.2.2.1, hG.2.2.2.1, hG.2.2.2.2.1, hG.2.2.2.2.2⟩
theorem gc_205 {sg : Nat → Int → Int} (hG : GC sg) (j : Int) {v : Int} (hv : (0) ≤ v ∧ v ≤ 100) : GC (st sg 205 j v) := ⟨gc_rng hG.1 hv, hG.2.1, hG.2.2.1, hG.2.2.2.1, hG.2.2.2.2.1, hG.2.2.2.2.2⟩
theorem gc_206 {sg : Nat → Int → Int} (hG : GC sg) (j : Int) {v : Int} (hv : (-1) ≤ v ∧ v ≤ 20000) : GC (st sg 206 j v) := ⟨gc_rng hG.1 hv, hG.2.1, hG.2.2.1, hG.2.2.2.1, hG.2.2.2.2.1, hG.2.2.2.2.2⟩
theorem gc_208 {sg : Nat → Int → Int} (hG : GC sg) (j : Int) {v : Int} (hv : (0) ≤ v ∧ v ≤ 1) : GC (st sg 208 j v) := ⟨gc_rng hG.1 hv, hG.2.1, hG.2.2.1, hG.2.2.2.1, hG.2.2.2.2.1, hG.2.2.2.2.2⟩
theorem gc_210 {sg : Nat → Int → Int} (hG : GC sg) (j : Int) {v : Int} (hv : (0) ≤ v ∧ v ≤ 100000) : GC (st sg 210 j v) := ⟨gc_rng hG.1 hv, hG.2.1, hG.2.2.1, hG.2.2.2.1, hG.2.2.2.2.1, hG.2.2.2.2.2⟩
theorem gc_403 {sg : Nat → Int → Int} (hG : GC sg) (j : Int) {v : Int} (hv : (0) ≤ v ∧ v ≤ 2) : GC (st sg 403 j v) := ⟨gc_rng hG.1 hv, hG.2.1, hG.2.2.1, hG.2.2.2.1, hG.2.2.2.2.1, hG.2.2.2.2.2⟩
theorem gc_404 {sg : Nat → Int → Int} (hG : GC sg) (j : Int) {v : Int} (hv : (-1) ≤ v ∧ v ≤ 20000) : GC (st sg 404 j v) := ⟨gc_rng hG.1 hv, hG.2.1, hG.2.2.1, hG.2.2.2.1, hG.2.2.2.2.1, hG.2.2.2.2.2⟩
theorem gc_405 {sg : Nat → Int → Int} (hG : GC sg) (j : Int) {v : Int} (hv : (-1) ≤ v ∧ v ≤ 20000) : GC (st sg 405 j v) := ⟨gc_rng hG.1 hv, hG.2.1, hG.2.2.1, hG.2.2.2.1, hG.2.2.2.2.1, hG.2.2.2.2.2⟩
theorem gc_506 {sg : Nat → Int → Int} (hG : GC sg) (j : Int) {v : Int} (hv : (0) ≤ v ∧ v ≤ 20000) : GC (st sg 506 j v) := ⟨gc_rng hG.1 hv, hG.2.1, hG.2.2.1, hG.2.2.2.1, hG.2.2.2.2.1, hG.2.2.2.2.2⟩
theorem gc_507 {sg : Nat → Int → Int} (hG : GC sg) (j : Int) {v : Int} (_ : True) : GC (st sg 507 j v) := ⟨fun f' j' hf => by rw [st_f (by omega)]; exact hG.1 f' j' hf, hG.2.1, hG.2.2.1, hG.2.2.2.1, hG.2.2.2.2.1, hG.2.2.2.2.2⟩
theorem gc_508 {sg : Nat → Int → Int} (hG : GC sg) (j : Int) {v : Int} (_ : True) : GC (st sg 508 j v) := ⟨fun f' j' hf => by rw [st_f (by omega)]; exact hG.1 f' j' hf, hG.2.1, hG.2.2.1, hG.2.2.2.1, hG.2.2.2.2.1, hG.2.2.2.2.2⟩
theorem gc_509 {sg : Nat → Int → Int} (hG : GC sg) (j : Int) {v : Int} (_ : True) : GC (st sg 509 j v) := ⟨fun f' j' hf => by rw [st_f (by omega)]; exact hG.1 f' j' hf, hG.2.1, hG.2.2.1, hG.2.2.2.1, hG.2.2.2.2.1, hG.2.2.2.2.2⟩
theorem gc_510 {sg : Nat → Int → Int} (hG : GC sg) (j : Int) {v : Int} (_ : True) : GC (st sg 510 j v) := ⟨fun f' j' hf => by rw [st_f (by omega)]; exact hG.1 f' j' hf, hG.2.1, hG.2.2.1, hG.2.2.2.1, hG.2.2.2.2.1, hG.2.2.2.2.2⟩
theorem gc_511 {sg : Nat → Int → Int} (hG : GC sg) (j : Int) {v : Int} (_ : True) : GC (st sg 511 j v) := ⟨fun f' j' hf => by rw [st_f (by omega)]; exact hG.1 f' j' hf, hG.2.1, hG.2.2.1, hG.2.2.2.1, hG.2.2.2.2.1, hG.2.2.2.2.2⟩
theorem gc_204 {sg : Nat → Int → Int} (hG : GC sg) (j : Int) {v : Int} (hv : (-1) ≤ v ∧ v ≤ 3 ∧ v < sg 505 0) : GC (st sg 204 j v) := ⟨gc_rng hG.1 ⟨hv.1, hv.2.1⟩, hG.2.1, hG.2.2.1, ⟨st_lt hG.2.2.2.1.1 hv.2.2, hG.2.2.2.1.2.1, hG.2.2.2.1.2.2.1, hG.2.2.2.1.2.2.2⟩, hG.2.2.2.2.1, hG.2.2.2.2.2⟩
theorem gc_207 {sg : Nat → Int → Int} (hG : GC sg) (j : Int) {v : Int} (hv : (-1) ≤ v ∧ v ≤ 1000000000 ∧ v < sg 702 0) : GC (st sg 207 j v) := ⟨gc_rng hG.1 ⟨hv.1, hv.2.1⟩, hG.2.1, hG.2.2.1, ⟨hG.2.2.2.1.1, st_lt hG.2.2.2.1.2.1 hv.2.2, hG.2.2.2.1.2.2.1, hG.2.2.2.1.2.2.2⟩, hG.2.2.2.2.1, hG.2.2.2.2.2⟩
theorem gc_209 {sg : Nat → Int → Int} (hG : GC sg) (j : Int) {v : Int} (hv : (-1) ≤ v ∧ v ≤ 23 ∧ v < sg 503 0) : GC (st sg 209 j v) := ⟨gc_rng hG.1 ⟨hv.1, hv.2.1⟩, hG.2.1, hG.2.2.1, ⟨hG.2.2.2.1.1, hG.2.2.2.1.2.1, st_lt hG.2.2.2.1.2.2.1 hv.2.2, hG.2.2.2.1.2.2.2⟩, hG.2.2.2.2.1, hG.2.2.2.2.2⟩
def offT (sg : Nat → Int → Int) (j w pr : Int) : Nat → Int → Int := st (st sg 209 j w) 210 j (if w < 0 then 0 else pr)
theorem gc_offT {sg : Nat → Int → Int} (hG : GC sg) {j w pr : Int} (hw : -1 ≤ w ∧ w < sg 503 0) (hp : 0 ≤ pr ∧ pr ≤ 100000) : GC (offT sg j w pr) := by
  have h := gr_503 hG 0
  exact gc_210 (gc_209 hG j ⟨by omega, by omega, by omega⟩) j (by split <;> omega)
def relN (sg : Nat → Int → Int) (j n : Int) : Nat → Int → Int := fun f k => if f = 204 ∧ k = j then -1 else if f = 205 ∧ k = j then 0 else if f = 107 ∧ 0 ≤ k ∧ k < n ∧ k < sg 503 0 ∧ sg 102 k = j then -1 else if (f = 108 ∨ f = 109) ∧ 0 ≤ k ∧ k < n ∧ k < sg 503 0 ∧ sg 102 k = j then 0 else sg f k
def relT (sg : Nat → Int → Int) (j : Int) : Nat → Int → Int := relN sg j 24
theorem rel_0 (sg : Nat → Int → Int) (j : Int) : st (st sg 204 j (-1)) 205 j 0 = relN sg j 0 := by
  funext f k
  simp only [relN, st]
  (repeat' split) <;> first | rfl | omega
theorem rel_y {sg : Nat → Int → Int} {j i : Int} (h0 : 0 ≤ i) (h1 : i < sg 503 0) (h2 : sg 102 i = j) : st (st (st (relN sg j i) 107 i (-1)) 108 i 0) 109 i 0 = relN sg j (i + 1) := by
  funext f k
  simp only [relN, st]
  by_cases hk : k = i
  · subst hk
    (repeat' split) <;> first | rfl | omega
  · have e : (k < i + 1) = (k < i) := propext ⟨fun _ => by omega, fun _ => by omega⟩
    simp only [hk, and_false, if_false, e]
theorem rel_n {sg : Nat → Int → Int} {j i : Int} (h : ¬ (i < sg 503 0 ∧ sg 102 i = j)) : relN sg j i = relN sg j (i + 1) := by
  funext f k
  simp only [relN]
  by_cases hk : k = i
  · subst hk
    (repeat' split) <;> first | rfl | omega
  · have e : (k < i + 1) = (k < i) := propext ⟨fun _ => by omega, fun _ => by omega⟩
    simp only [e]
theorem rel_f {sg : Nat → Int → Int} {j n k : Int} {f : Nat} (h : 700 ≤ f) : relN sg j n f k = sg f k := by
  unfold relN
  rw [if_neg (by omega), if_neg (by omega), if_neg (by omega), if_neg (by omega)]
theorem dm_rel {sg : Nat → Int → Int} {j n : Int} (k : Nat) {i : Int} (h : dmC sg k i) : dmC (relN sg j n) k i := ⟨h.1, by rw [rel_f (by omega)]; exact h.2⟩
theorem offT_209 {sg : Nat → Int → Int} {j w pr : Int} : offT sg j w pr 209 j = w := (st_f (by decide)).trans st_s
theorem gc_relN {sg : Nat → Int → Int} (hG : GC sg) (j n : Int) : GC (relN sg j n) := by
  refine ⟨fun f k hf => ?_, hG.2.1, hG.2.2.1, ⟨fun k => ?_, hG.2.2.2.1.2⟩, hG.2.2.2.2.1, hG.2.2.2.2.2⟩
  · have h := hG.1 f k hf
    unfold relN
    split
    · rename_i z; rw [z.1]; decide
    · split
      · rename_i z; rw [z.1]; decide
      · split
        · rename_i z; rw [z.1]; decide
        · split
          · rename_i z; rcases z.1 with z | z <;> rw [z] <;> decide
          · exact h
  · have h := hG.2.2.2.1.1 k
    have h2 := gr_505 hG 0
    show relN sg j n 204 k < sg 505 0
    unfold relN
    (repeat' split) <;> omega
noncomputable def lgT (sg : Nat → Int → Int) (j : Int) : Nat → Int → Int := if sg 203 j = 0 then relT sg j else if sg 208 j ≠ 0 then sg else offT sg j (ownBeh sg j (-1)) (worthT sg j * sg 205 j / 100)
theorem gc_lgT {sg : Nat → Int → Int} (hG : GC sg) (j : Int) : GC (lgT sg j) := by
  have h1 := ownBeh_rng hG j (-1)
  have h2 := worthT_rng hG j
  have h3 := gr_205 hG j
  have h4 := mul_rng h2 h3
  unfold lgT
  split
  · exact gc_relN hG j 24
  · split
    · exact hG
    · exact gc_offT hG h1 (by omega)
/-- the SUMS being fixed, interest by interest -/
def tkN (s : Nat → Int → Int) (j land : Int) : Nat → Nat → Int → Int
  | 0 => s
  | n + 1 => if (n : Int) < s 503 0 ∧ s 102 n = j then st (st (tkN s j land n) 110 n (sumB (tkN s j land n) n land)) 507 0 (tkN s j land n 507 0 + sumB (tkN s j land n) n land) else tkN s j land n
theorem tk_s {s : Nat → Int → Int} {j land i : Int} (hi : 0 ≤ i) : tkN s j land (i + 1).toNat = if i < s 503 0 ∧ s 102 i = j then st (st (tkN s j land i.toNat) 110 i (sumB (tkN s j land i.toNat) i land)) 507 0 (tkN s j land i.toNat 507 0 + sumB (tkN s j land i.toNat) i land) else tkN s j land i.toNat := by
  have e : (i + 1).toNat = i.toNat + 1 := by omega
  rw [e]
  show (if ((i.toNat : Nat) : Int) < s 503 0 ∧ s 102 (i.toNat : Int) = j then st (st (tkN s j land i.toNat) 110 (i.toNat : Int) (sumB (tkN s j land i.toNat) (i.toNat : Int) land)) 507 0 (tkN s j land i.toNat 507 0 + sumB (tkN s j land i.toNat) (i.toNat : Int) land) else tkN s j land i.toNat) = _
  rw [Int.toNat_of_nonneg hi]
theorem tk_f {s : Nat → Int → Int} {j land : Int} {f : Nat} (h1 : f ≠ 110) (h2 : f ≠ 507) (k : Int) : ∀ n : Nat, tkN s j land n f k = s f k
  | 0 => rfl
  | n + 1 => by
    show (if (n : Int) < s 503 0 ∧ s 102 n = j then _ else _ : Nat → Int → Int) f k = _
    split
    · rw [st_f h2, st_f h1]; exact tk_f h1 h2 k n
    · exact tk_f h1 h2 k n
theorem dm_tk {s : Nat → Int → Int} {j land : Int} (n k : Nat) {i : Int} (h : dmC s k i) : dmC (tkN s j land n) k i := ⟨h.1, by rw [tk_f (by omega) (by omega)]; exact h.2⟩
theorem gc_tkN {s : Nat → Int → Int} (hG : GC s) {j land : Int} (hl : 0 ≤ land ∧ land ≤ 100000) : ∀ n : Nat, GC (tkN s j land n)
  | 0 => hG
  | n + 1 => by
    have h := gc_tkN hG (j := j) hl n
    show GC (if (n : Int) < s 503 0 ∧ s 102 n = j then _ else _)
    split
    · exact gc_507 (gc_110 h n (sumB_rng h hl)) 0 trivial
    · exact h
def tk1 (sg : Nat → Int → Int) (j : Int) : Nat → Int → Int := st (st sg 203 j 1) 206 j (sg 506 0)
def tk2 (sg : Nat → Int → Int) (j : Int) : Nat → Int → Int := st (tk1 sg j) 207 j (prOn (tk1 sg j) (sg 202 j) (sg 506 0))
def tk3 (sg : Nat → Int → Int) (j : Int) : Nat → Int → Int := tkN (tk2 sg j) j (landO (tk2 sg j) j) 24
def tkT (sg : Nat → Int → Int) (j : Int) : Nat → Int → Int := st (st (tk3 sg j) 509 0 (tk3 sg j 509 0 + courtL (tk3 sg j) j (landO (tk2 sg j) j))) 511 0 (tk3 sg j 511 0 + landO (tk2 sg j) j)
theorem gc_tk1 {sg : Nat → Int → Int} (hG : GC sg) (j : Int) : GC (tk1 sg j) := by
  have h := gr_506 hG 0
  exact gc_206 (gc_203 hG j (by omega)) j (by omega)
theorem gc_tk2 {sg : Nat → Int → Int} (hG : GC sg) (j : Int) (hb : sg 702 0 ≤ 1000000) : GC (tk2 sg j) := by
  have h1 := gc_tk1 hG j
  have h2 := prOn_lt h1 (sg 202 j) (sg 506 0)
  have h3 : tk1 sg j 702 0 = sg 702 0 := rfl
  exact gc_207 h1 j ⟨by omega, by omega, by omega⟩
theorem gc_tk3 {sg : Nat → Int → Int} (hG : GC sg) (j : Int) (hb : sg 702 0 ≤ 1000000) : GC (tk3 sg j) := gc_tkN (gc_tk2 hG j hb) (landO_rng (gc_tk2 hG j hb) j) 24
theorem gc_tkT {sg : Nat → Int → Int} (hG : GC sg) (j : Int) (hb : sg 702 0 ≤ 1000000) : GC (tkT sg j) := gc_511 (gc_509 (gc_tk3 hG j hb) 0 trivial) 0 trivial
