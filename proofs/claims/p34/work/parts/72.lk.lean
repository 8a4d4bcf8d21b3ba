/-! the law's locals, and what follows a case -/
def LB (b hh : Nat) (adM : Nat → Int → Nat) (many today back turn : Int) : List (Nat × Value) := [(23, .int (iI 1)), (18, .int (iI many)), (19, .int (iI today)), (20, .long (lI back)), (24, .int (iI turn)), (0, .ref b), (1, .ref hh), (2, .ref (adM 20 0)), (3, .ref (adM 21 0)), (4, .ref (adM 22 0)), (5, .ref (adM 23 0)), (6, .ref (adM 24 0)), (7, .ref (adM 25 0)), (8, .ref (adM 26 0)), (9, .ref (adM 27 0)), (10, .ref (adM 28 0)), (11, .ref (adM 29 0)), (12, .ref (adM 30 0)), (13, .ref (adM 31 0)), (14, .ref (adM 32 0)), (15, .ref (adM 33 0)), (16, .ref (adM 34 0)), (17, .ref (adM 35 0))]
def LK (p : Program) (l : Launch) (e : Env) (s : State) (m : MethodId) (below : List Frame) (meth : Method) (c : Code) (b : Nat) (D : va_G) (cy : Nat → ClassId) (A A2 : Nat → Prop) (hh : Nat) (adM : Nat → Int → Nat) (cells slots : Nat) (Q : State → Prop) (sg : Nat → Int → Int) (turn : Int) : Prop :=
  ∀ (ad' : Nat → Int → Nat) (sg' mu' : Nat → Int → Int) (H' : Heap) (locs' : List Loc) (ls' : Array Slot) (many today back : Int), LI D cy A A2 s hh ad' adM sg' mu' H' locs' → sg' 702 0 ≤ sg 702 0 + 1 → sg' 503 0 = many → sg' 506 0 = today → sg' 510 0 = back → lv_has ls' 37 (LB b hh adM many today back turn) → W p l e room_1 s m #[Value.ref b] below meth c H' locs' (cells + 3) (slots + 45) Q (F0 m 3115 ls' [])
theorem a_nle {sg mu : Nat → Int → Int} (h : LR sg mu) (hG : GC sg) {k : Int} (hk : 0 ≤ k ∧ k ≤ 3) : mu 1000 (8 * k + 3) ≤ 1 := by
  have n := h.2.2.1 k hk.1 hk.2
  have nr := needO_in hG (pl k)
  have k5 := h.2.2.2.2.2.2.2.2.2.1.1
  omega
section LM
variable {p : Program} {l : Launch} {e : Env} {s : State} {m : MethodId} {args : Array Value} {below : List Frame} {meth : Method} {c : Code} {H : Heap} {locs : List Loc} {cells slots mc ms : Nat} {Q : State → Prop}
variable {pc : Nat} {ls : Array Slot} {rest st0 : List Value} {D : va_G} {cy : Nat → ClassId} {A A2 : Nat → Prop} {ad : Nat → Int → Nat} {sg : Nat → Int → Int}
theorem lw_mut {ov : Option Value} {P : Heap → Prop} {a : Array Value} (hr : va_Run p l e room_1 s m args below meth c H locs cells slots mc ms (F0 m pc ls st0) rest (Qm ov P A2 a) A2) (hS : va_S (fun q : Nat => s.heap.size ≤ q) s.heap H locs) (hA2 : ∀ q : Nat, A2 q → s.heap.size ≤ q) (hN : ∀ q : Nat, A q → ¬ A2 q) (hC : RC D cy A ad sg H)
    (kk : ∀ (H1 : Heap) (locs1 : List Loc), P H1 → RC D cy A ad sg H1 → va_S (fun q : Nat => s.heap.size ≤ q) s.heap H1 locs1 → W p l e room_1 s m args below meth c H1 locs1 (cells + mc) (slots + ms) Q (F0 m (pc + 3) ls (ov.toList ++ rest))) : W p l e room_1 s m args below meth c H locs cells slots Q (F0 m pc ls st0) :=
  xk_m2 hr hS hA2 (fun H1 locs1 hP hS1 hz hq => kk H1 locs1 hP (wr_kept hC fun k j hd => by
    have z := wr_lt hC hd
    exact hq _ z.1 (hN _ z.2)) hS1)
end LM
theorem tkT_f {sg : Nat → Int → Int} {j i : Int} {F : Nat} (a : F ≠ 110) (b : F ≠ 507) (c : F ≠ 509) (d : F ≠ 511) (e : F ≠ 203) (f : F ≠ 206) (g : F ≠ 207) : tkT sg j F i = sg F i := by
  unfold tkT tk3
  rw [st_f d, st_f c, tk_f a b]
  unfold tk2 tk1
  rw [st_f g, st_f f, st_f e]
theorem dropT_f {sg : Nat → Int → Int} {w i : Int} {F : Nat} (h : F ≠ 204) (h1 : F ≠ 205) (h2 : F ≠ 107) (h3 : F ≠ 108) (h4 : F ≠ 109) (h5 : F ≠ 209) (h6 : F ≠ 210) (h7 : F ≠ 403) (h8 : F ≠ 405) : dropT sg w F i = sg F i := by
  unfold dropT
  rw [st_f h8, st_f h7, dr_f h h1 h2 h3 h4 h5 h6]
theorem ldX_rng {M : Nat → Int → Int} {many q : Int} (h : 0 ≤ many ∧ many ≤ 24) : -1 ≤ ldX M many q ∧ ldX M many q ≤ 23 := by
  have z := lNx_rng (mu := M) (k := q) (b := -1) h.1 100
  unfold ldX
  split <;> omega
theorem a_plot {sg mu : Nat → Int → Int} (h : LR sg mu) (hG : GC sg) {k : Int} (hk : 0 ≤ k ∧ k ≤ 3) : (0 ≤ mu 1000 (8 * k) ∧ mu 1000 (8 * k) ≤ 100) ∧ (0 ≤ mu 1000 (8 * k + 1) ∧ mu 1000 (8 * k + 1) ≤ 2) ∧ (0 ≤ mu 1000 (8 * k + 4) ∧ mu 1000 (8 * k + 4) ≤ 100) ∧ mu 1000 (8 * k + 7) ≤ 23 := by
  have p := h.1 k hk.1 hk.2
  have s := (h.2.1 k hk.1 hk.2).2.1
  have o := (h.2.2.2.1 k hk.1 hk.2).1
  have r1 := gr_201 hG (pl k)
  have r2 := gr_202 hG (pl k)
  have r5 := gr_205 hG (pl k)
  have r9 := gr_209 hG (pl k)
  omega
theorem dj_r {sg mu : Nat → Int → Int} (hG : GC sg) {w q : Int} (D : DJ sg mu w q) {k : Int} (hk : 0 ≤ k ∧ k ≤ 3) : (0 ≤ ldN mu (sg 503 0) w q.toNat 1000 (8 * k) ∧ ldN mu (sg 503 0) w q.toNat 1000 (8 * k) ≤ 100) ∧ (0 ≤ ldN mu (sg 503 0) w q.toNat 1000 (8 * k + 1) ∧ ldN mu (sg 503 0) w q.toNat 1000 (8 * k + 1) ≤ 2) ∧ (0 ≤ ldN mu (sg 503 0) w q.toNat 1000 (8 * k + 4) ∧ ldN mu (sg 503 0) w q.toNat 1000 (8 * k + 4) ≤ 100) := by
  obtain ⟨a, b, c, -⟩ := a_plot D.1 (gc_drN hG _) hk
  rw [ovN_o (Or.inr (by omega))] at a
  rw [ovN_o (Or.inr (by omega))] at b
  rw [ovN_o (Or.inr (by omega))] at c
  exact ⟨a, b, c⟩
