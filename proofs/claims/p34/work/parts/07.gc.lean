/-! what holds of the class's table -/
section EXF
variable {p : Program} {l : Launch} {e : Env} {R : Room} {s : State} {m : MethodId} {args : Array Value} {below : List Frame} {meth : Method} {c : Code} {H H0 : Heap} {locs : List Loc} {cells slots mc ms : Nat} {Q : State → Prop}
variable {pc : Nat} {ls : Array Slot} {rest st0 : List Value} {A : Nat → Prop}
theorem xk_pF {v : Value} {a : Array Value} (hr : va_Run p l e R s m args below meth c H locs cells slots 0 0 (F0 m pc ls st0) rest (Qp v a) Kn) (kk : W p l e R s m args below meth c H locs cells slots Q (F0 m (pc + 3) ls (v :: rest))) : W p l e R s m args below meth c H locs cells slots Q (F0 m pc ls st0) := xk_p hr kk
theorem xk_mF {ov : Option Value} {P : Heap → Prop} {a : Array Value} (hr : va_Run p l e R s m args below meth c H locs cells slots mc ms (F0 m pc ls st0) rest (Qm ov P A a) A) (hS : va_S A H0 H locs) (kk : ∀ (H1 : Heap) (locs1 : List Loc), P H1 → va_S A H0 H1 locs1 → H.size ≤ H1.size → (∀ q : Nat, q < H.size → ¬ A q → H1[q]? = H[q]?) → W p l e R s m args below meth c H1 locs1 (cells + mc) (slots + ms) Q (F0 m (pc + 3) ls (ov.toList ++ rest))) : W p l e R s m args below meth c H locs cells slots Q (F0 m pc ls st0) := xk_m hr hS kk
end EXF
theorem cat_i (x : Int32) : (Value.int x).category = 1 := rfl
theorem cat_l (x : Int64) : (Value.long x).category = 2 := rfl
theorem cat_r (x : Nat) : (Value.ref x).category = 1 := rfl
theorem cat_n : Value.null.category = 1 := rfl
theorem ro_p {f : Int → Nat} {v : Int} (h : 0 ≤ v) : ro f v = some (f v) := if_neg (by omega)
theorem rv_eq_p {f : Int → Nat} {a b : Int} (h : 0 ≤ a) (e : a = b) : Value.ref (f a) = rv f b := by subst e; exact (rv_p h).symm
theorem rv_eq_n {f : Int → Nat} {b : Int} (h : b < 0) : Value.null = rv f b := (rv_n h).symm
def loC (f : Nat) : Int := if f = 107 then (-1) else if f = 112 then (-1) else if f = 113 then (-9000000) else if f = 201 then (1) else if f = 204 then (-1) else if f = 206 then (-1) else if f = 207 then (-1) else if f = 209 then (-1) else if f = 302 then (-1) else if f = 404 then (-1) else if f = 405 then (-1) else 0
def hiC (f : Nat) : Int := if f = 101 then 2 else if f = 102 then 35 else if f = 103 then 9 else if f = 104 then 20000 else if f = 105 then 100000 else if f = 106 then 100 else if f = 107 then 20000 else if f = 108 then 1 else if f = 109 then 1 else if f = 110 then 110000 else if f = 111 then 110000 else if f = 112 then 20000 else if f = 113 then 9000000 else if f = 114 then 1 else if f = 201 then 100 else if f = 202 then 2 else if f = 203 then 2 else if f = 204 then 3 else if f = 205 then 100 else if f = 206 then 20000 else if f = 207 then 1000000000 else if f = 208 then 1 else if f = 209 then 23 else if f = 210 then 100000 else if f = 300 then 20000 else if f = 301 then 1000 else if f = 302 then 1000000000 else if f = 401 then 50 else if f = 402 then 50 else if f = 403 then 2 else if f = 404 then 20000 else if f = 405 then 20000 else if f = 503 then 24 else if f = 505 then 4 else if f = 506 then 20000 else if f = 100 then 23 else if f = 200 then 35 else if f = 400 then 3 else 0
def GRng (sg : Nat → Int → Int) : Prop := ∀ (f : Nat) (j : Int), f < 507 → loC f ≤ sg f j ∧ sg f j ≤ hiC f
def GArr (sg : Nat → Int → Int) : Prop := (∀ q : Int, 0 ≤ q → q < 36 → sg 601 q = q) ∧ (∀ q : Int, 0 ≤ q → q < 24 → sg 600 q = if q < sg 503 0 then q else -1) ∧ (∀ q : Int, 0 ≤ q → q < 4 → sg 603 q = if q < sg 505 0 then q else -1) ∧ (∀ u : Int, 0 ≤ u → u < 3 → 0 ≤ sg 602 u ∧ sg 602 u < sg 702 0)
def GCnt (sg : Nat → Int → Int) : Prop := sg 700 0 = sg 503 0 ∧ sg 701 0 = 36 ∧ sg 703 0 = sg 505 0 ∧ sg 704 0 = 1 ∧ sg 709 0 = 1 ∧ sg 710 0 = 1 ∧ sg 711 0 = 1 ∧ sg 712 0 = 1
def GPtr (sg : Nat → Int → Int) : Prop := (∀ j : Int, sg 204 j < sg 505 0) ∧ (∀ j : Int, sg 207 j < sg 702 0) ∧ (∀ j : Int, sg 209 j < sg 503 0) ∧ (∀ n : Int, 0 ≤ n → sg 302 n < n)
def GNum (sg : Nat → Int → Int) : Prop := (∀ i : Int, 0 ≤ i → i < sg 503 0 → sg 100 i = i) ∧ (∀ j : Int, 0 ≤ j → j < 36 → sg 200 j = j) ∧ (∀ k : Int, 0 ≤ k → k < sg 505 0 → sg 400 k = k)
def GMea (sg : Nat → Int → Int) : Prop := ∀ i : Int, sg 101 i = 0 → sg 105 i ≤ 100
def GPt2 (sg : Nat → Int → Int) : Prop := (∀ q : Int, sg 600 q < sg 503 0) ∧ (∀ q : Int, sg 602 q < sg 702 0) ∧ (∀ q : Int, sg 603 q < sg 505 0) ∧ (∀ q : Int, sg 302 q < sg 702 0) ∧ (∀ q : Int, -1 ≤ sg 601 q ∧ sg 601 q ≤ 35) ∧ (∀ q : Int, -1 ≤ sg 600 q) ∧ (∀ q : Int, -1 ≤ sg 602 q) ∧ (∀ q : Int, -1 ≤ sg 603 q)
def GC (sg : Nat → Int → Int) : Prop := GRng sg ∧ GArr sg ∧ GCnt sg ∧ GPtr sg ∧ GNum sg ∧ GMea sg ∧ GPt2 sg
theorem gr_101 {sg : Nat → Int → Int} (hG : GC sg) (j : Int) : (0) ≤ sg 101 j ∧ sg 101 j ≤ 2 := hG.1 101 j (by decide)
theorem gr_102 {sg : Nat → Int → Int} (hG : GC sg) (j : Int) : (0) ≤ sg 102 j ∧ sg 102 j ≤ 35 := hG.1 102 j (by decide)
theorem gr_103 {sg : Nat → Int → Int} (hG : GC sg) (j : Int) : (0) ≤ sg 103 j ∧ sg 103 j ≤ 9 := hG.1 103 j (by decide)
theorem gr_104 {sg : Nat → Int → Int} (hG : GC sg) (j : Int) : (0) ≤ sg 104 j ∧ sg 104 j ≤ 20000 := hG.1 104 j (by decide)
theorem gr_105 {sg : Nat → Int → Int} (hG : GC sg) (j : Int) : (0) ≤ sg 105 j ∧ sg 105 j ≤ 100000 := hG.1 105 j (by decide)
theorem gr_106 {sg : Nat → Int → Int} (hG : GC sg) (j : Int) : (0) ≤ sg 106 j ∧ sg 106 j ≤ 100 := hG.1 106 j (by decide)
theorem gr_107 {sg : Nat → Int → Int} (hG : GC sg) (j : Int) : (-1) ≤ sg 107 j ∧ sg 107 j ≤ 20000 := hG.1 107 j (by decide)
theorem gr_108 {sg : Nat → Int → Int} (hG : GC sg) (j : Int) : (0) ≤ sg 108 j ∧ sg 108 j ≤ 1 := hG.1 108 j (by decide)
theorem gr_109 {sg : Nat → Int → Int} (hG : GC sg) (j : Int) : (0) ≤ sg 109 j ∧ sg 109 j ≤ 1 := hG.1 109 j (by decide)
theorem gr_110 {sg : Nat → Int → Int} (hG : GC sg) (j : Int) : (0) ≤ sg 110 j ∧ sg 110 j ≤ 110000 := hG.1 110 j (by decide)
theorem gr_111 {sg : Nat → Int → Int} (hG : GC sg) (j : Int) : (0) ≤ sg 111 j ∧ sg 111 j ≤ 110000 := hG.1 111 j (by decide)
theorem gr_112 {sg : Nat → Int → Int} (hG : GC sg) (j : Int) : (-1) ≤ sg 112 j ∧ sg 112 j ≤ 20000 := hG.1 112 j (by decide)
theorem gr_113 {sg : Nat → Int → Int} (hG : GC sg) (j : Int) : (-9000000) ≤ sg 113 j ∧ sg 113 j ≤ 9000000 := hG.1 113 j (by decide)
theorem gr_114 {sg : Nat → Int → Int} (hG : GC sg) (j : Int) : (0) ≤ sg 114 j ∧ sg 114 j ≤ 1 := hG.1 114 j (by decide)
theorem gr_201 {sg : Nat → Int → Int} (hG : GC sg) (j : Int) : (1) ≤ sg 201 j ∧ sg 201 j ≤ 100 := hG.1 201 j (by decide)
theorem gr_202 {sg : Nat → Int → Int} (hG : GC sg) (j : Int) : (0) ≤ sg 202 j ∧ sg 202 j ≤ 2 := hG.1 202 j (by decide)
theorem gr_203 {sg : Nat → Int → Int} (hG : GC sg) (j : Int) : (0) ≤ sg 203 j ∧ sg 203 j ≤ 2 := hG.1 203 j (by decide)
theorem gr_204 {sg : Nat → Int → Int} (hG : GC sg) (j : Int) : (-1) ≤ sg 204 j ∧ sg 204 j ≤ 3 := hG.1 204 j (by decide)
theorem gr_205 {sg : Nat → Int → Int} (hG : GC sg) (j : Int) : (0) ≤ sg 205 j ∧ sg 205 j ≤ 100 := hG.1 205 j (by decide)
theorem gr_206 {sg : Nat → Int → Int} (hG : GC sg) (j : Int) : (-1) ≤ sg 206 j ∧ sg 206 j ≤ 20000 := hG.1 206 j (by decide)
theorem gr_207 {sg : Nat → Int → Int} (hG : GC sg) (j : Int) : (-1) ≤ sg 207 j ∧ sg 207 j ≤ 1000000000 := hG.1 207 j (by decide)
theorem gr_208 {sg : Nat → Int → Int} (hG : GC sg) (j : Int) : (0) ≤ sg 208 j ∧ sg 208 j ≤ 1 := hG.1 208 j (by decide)
theorem gr_209 {sg : Nat → Int → Int} (hG : GC sg) (j : Int) : (-1) ≤ sg 209 j ∧ sg 209 j ≤ 23 := hG.1 209 j (by decide)
theorem gr_210 {sg : Nat → Int → Int} (hG : GC sg) (j : Int) : (0) ≤ sg 210 j ∧ sg 210 j ≤ 100000 := hG.1 210 j (by decide)
theorem gr_300 {sg : Nat → Int → Int} (hG : GC sg) (j : Int) : (0) ≤ sg 300 j ∧ sg 300 j ≤ 20000 := hG.1 300 j (by decide)
theorem gr_301 {sg : Nat → Int → Int} (hG : GC sg) (j : Int) : (0) ≤ sg 301 j ∧ sg 301 j ≤ 1000 := hG.1 301 j (by decide)
theorem gr_302 {sg : Nat → Int → Int} (hG : GC sg) (j : Int) : (-1) ≤ sg 302 j ∧ sg 302 j ≤ 1000000000 := hG.1 302 j (by decide)
theorem gr_401 {sg : Nat → Int → Int} (hG : GC sg) (j : Int) : (0) ≤ sg 401 j ∧ sg 401 j ≤ 50 := hG.1 401 j (by decide)
theorem gr_402 {sg : Nat → Int → Int} (hG : GC sg) (j : Int) : (0) ≤ sg 402 j ∧ sg 402 j ≤ 50 := hG.1 402 j (by decide)
theorem gr_403 {sg : Nat → Int → Int} (hG : GC sg) (j : Int) : (0) ≤ sg 403 j ∧ sg 403 j ≤ 2 := hG.1 403 j (by decide)
theorem gr_404 {sg : Nat → Int → Int} (hG : GC sg) (j : Int) : (-1) ≤ sg 404 j ∧ sg 404 j ≤ 20000 := hG.1 404 j (by decide)
theorem gr_405 {sg : Nat → Int → Int} (hG : GC sg) (j : Int) : (-1) ≤ sg 405 j ∧ sg 405 j ≤ 20000 := hG.1 405 j (by decide)
theorem gr_503 {sg : Nat → Int → Int} (hG : GC sg) (j : Int) : (0) ≤ sg 503 j ∧ sg 503 j ≤ 24 := hG.1 503 j (by decide)
theorem gr_505 {sg : Nat → Int → Int} (hG : GC sg) (j : Int) : (0) ≤ sg 505 j ∧ sg 505 j ≤ 4 := hG.1 505 j (by decide)
theorem gr_506 {sg : Nat → Int → Int} (hG : GC sg) (j : Int) : (0) ≤ sg 506 j ∧ sg 506 j ≤ 20000 := hG.1 506 j (by decide)
theorem gr_100 {sg : Nat → Int → Int} (hG : GC sg) (j : Int) : (0) ≤ sg 100 j ∧ sg 100 j ≤ 23 := hG.1 100 j (by decide)
theorem gr_200 {sg : Nat → Int → Int} (hG : GC sg) (j : Int) : (0) ≤ sg 200 j ∧ sg 200 j ≤ 35 := hG.1 200 j (by decide)
theorem gr_400 {sg : Nat → Int → Int} (hG : GC sg) (j : Int) : (0) ≤ sg 400 j ∧ sg 400 j ≤ 3 := hG.1 400 j (by decide)
theorem gh_500 {sg : Nat → Int → Int} (hG : GC sg) (j : Int) : sg 500 j = 0 := by have h : (0 : Int) ≤ sg 500 j ∧ sg 500 j ≤ 0 := hG.1 500 j (by decide); omega
theorem gh_501 {sg : Nat → Int → Int} (hG : GC sg) (j : Int) : sg 501 j = 0 := by have h : (0 : Int) ≤ sg 501 j ∧ sg 501 j ≤ 0 := hG.1 501 j (by decide); omega
theorem gh_502 {sg : Nat → Int → Int} (hG : GC sg) (j : Int) : sg 502 j = 0 := by have h : (0 : Int) ≤ sg 502 j ∧ sg 502 j ≤ 0 := hG.1 502 j (by decide); omega
theorem gh_504 {sg : Nat → Int → Int} (hG : GC sg) (j : Int) : sg 504 j = 0 := by have h : (0 : Int) ≤ sg 504 j ∧ sg 504 j ≤ 0 := hG.1 504 j (by decide); omega
theorem gd_0 {sg : Nat → Int → Int} (hG : GC sg) {j : Int} (h : 0 ≤ j ∧ j < sg 503 0) : dmC sg 0 j := ⟨h.1, by show j < sg 700 0; rw [hG.2.2.1.1]; exact h.2⟩
theorem gd_1 {sg : Nat → Int → Int} (hG : GC sg) {j : Int} (h : 0 ≤ j ∧ j < 36) : dmC sg 1 j := ⟨h.1, by show j < sg 701 0; rw [hG.2.2.1.2.1]; exact h.2⟩
theorem gd_2 {sg : Nat → Int → Int} (_ : GC sg) {j : Int} (h : 0 ≤ j ∧ j < sg 702 0) : dmC sg 2 j := h
theorem gd_3 {sg : Nat → Int → Int} (hG : GC sg) {j : Int} (h : 0 ≤ j ∧ j < sg 505 0) : dmC sg 3 j := ⟨h.1, by show j < sg 703 0; rw [hG.2.2.1.2.2.1]; exact h.2⟩
theorem gd_4 {sg : Nat → Int → Int} (hG : GC sg) : dmC sg 4 0 := ⟨Int.le_refl 0, by show (0 : Int) < sg 704 0; rw [hG.2.2.1.2.2.2.1]; decide⟩
theorem gd_9 {sg : Nat → Int → Int} (hG : GC sg) : dmC sg 9 0 := ⟨Int.le_refl 0, by show (0 : Int) < sg 709 0; rw [hG.2.2.1.2.2.2.2.1]; decide⟩
theorem gd_10 {sg : Nat → Int → Int} (hG : GC sg) : dmC sg 10 0 := ⟨Int.le_refl 0, by show (0 : Int) < sg 710 0; rw [hG.2.2.1.2.2.2.2.2.1]; decide⟩
theorem gd_11 {sg : Nat → Int → Int} (hG : GC sg) : dmC sg 11 0 := ⟨Int.le_refl 0, by show (0 : Int) < sg 711 0; rw [hG.2.2.1.2.2.2.2.2.2.1]; decide⟩
theorem gd_12 {sg : Nat → Int → Int} (hG : GC sg) : dmC sg 12 0 := ⟨Int.le_refl 0, by show (0 : Int) < sg 712 0; rw [hG.2.2.1.2.2.2.2.2.2.2]; decide⟩
theorem gp_204 {sg : Nat → Int → Int} (hG : GC sg) (j : Int) : -1 ≤ sg 204 j ∧ sg 204 j < sg 505 0 := ⟨(gr_204 hG j).1, hG.2.2.2.1.1 j⟩
theorem gp_207 {sg : Nat → Int → Int} (hG : GC sg) (j : Int) : -1 ≤ sg 207 j ∧ sg 207 j < sg 702 0 := ⟨(gr_207 hG j).1, hG.2.2.2.1.2.1 j⟩
theorem gp_209 {sg : Nat → Int → Int} (hG : GC sg) (j : Int) : -1 ≤ sg 209 j ∧ sg 209 j < sg 503 0 := ⟨(gr_209 hG j).1, hG.2.2.2.1.2.2.1 j⟩
theorem gp_302 {sg : Nat → Int → Int} (hG : GC sg) {j : Int} (h : 0 ≤ j) : -1 ≤ sg 302 j ∧ sg 302 j < j := ⟨(gr_302 hG j).1, hG.2.2.2.1.2.2.2 j h⟩
theorem ga_601 {sg : Nat → Int → Int} (hG : GC sg) {q : Int} (h : 0 ≤ q ∧ q < 36) : sg 601 q = q := hG.2.1.1 q h.1 h.2
theorem ga_600 {sg : Nat → Int → Int} (hG : GC sg) {q : Int} (h : 0 ≤ q ∧ q < 24) : sg 600 q = if q < sg 503 0 then q else -1 := hG.2.1.2.1 q h.1 h.2
theorem ga_603 {sg : Nat → Int → Int} (hG : GC sg) {q : Int} (h : 0 ≤ q ∧ q < 4) : sg 603 q = if q < sg 505 0 then q else -1 := hG.2.1.2.2.1 q h.1 h.2
theorem ga_602 {sg : Nat → Int → Int} (hG : GC sg) {q : Int} (h : 0 ≤ q ∧ q < 3) : 0 ≤ sg 602 q ∧ sg 602 q < sg 702 0 := hG.2.1.2.2.2 q h.1 h.2
theorem gn_100 {sg : Nat → Int → Int} (hG : GC sg) {q : Int} (h : 0 ≤ q ∧ q < sg 503 0) : sg 100 q = q := hG.2.2.2.2.1.1 q h.1 h.2
theorem gn_200 {sg : Nat → Int → Int} (hG : GC sg) {q : Int} (h : 0 ≤ q ∧ q < 36) : sg 200 q = q := hG.2.2.2.2.1.2.1 q h.1 h.2
theorem gn_400 {sg : Nat → Int → Int} (hG : GC sg) {q : Int} (h : 0 ≤ q ∧ q < sg 505 0) : sg 400 q = q := hG.2.2.2.2.1.2.2 q h.1 h.2
theorem gm_105 {sg : Nat → Int → Int} (hG : GC sg) (i : Int) : sg 101 i = 0 → sg 105 i ≤ 100 := hG.2.2.2.2.2.1 i
