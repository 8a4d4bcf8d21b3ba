/-! the law's locals, and what follows a case -/
def LB (b hh : Nat) (adM : Nat → Int → Nat) (many today back turn : Int) : List (Nat × Value) := [(23, .int (iI 1)), (18, .int (iI many)), (19, .int (iI today)), (20, .long (lI back)), (24, .int (iI turn)), (0, .ref b), (1, .ref hh), (2, .ref (adM 20 0)), (3, .ref (adM 21 0)), (4, .ref (adM 22 0)), (5, .ref (adM 23 0)), (6, .ref (adM 24 0)), (7, .ref (adM 25 0)), (8, .ref (adM 26 0)), (9, .ref (adM 27 0)), (10, .ref (adM 28 0)), (11, .ref (adM 29 0)), (12, .ref (adM 30 0)), (13, .ref (adM 31 0)), (14, .ref (adM 32 0)), (15, .ref (adM 33 0)), (16, .ref (adM 34 0)), (17, .ref (adM 35 0))]
def LK (p : Program) (l : Launch) (e : Env) (s : State) (m : MethodId) (below : List Frame) (meth : Method) (c : Code) (b : Nat) (D : va_G) (cy : Nat → ClassId) (A A2 : Nat → Prop) (hh : Nat) (adM : Nat → Int → Nat) (cells slots : Nat) (Q : State → Prop) (sg : Nat → Int → Int) (turn : Int) : Prop :=
  ∀ (ad' : Nat → Int → Nat) (sg' mu' : Nat → Int → Int) (H' : Heap) (locs' : List Loc) (ls' : Array Slot) (many today back : Int), LI D cy A A2 s hh ad' adM sg' mu' H' locs' → sg' 702 0 ≤ sg 702 0 + 1 → sg' 503 0 = many → sg' 506 0 = today → sg' 510 0 = back → lv_has ls' 37 (LB b hh adM many today back turn) → W p l e room_1 s m #[Value.ref b] below meth c H' locs' (cells + 3) (slots + 45) Q (F0 m 3115 ls' [])
theorem a_nle {sg mu : Nat → Int → Int} (h : LR sg mu) (hG : GC sg) {k : Int} (hk : 0 ≤ k ∧ k ≤ 3) : mu 1000 (8 * k + 3) ≤ 1 := by
  have n := h.2.2.1 k hk.1 hk.2
  have nr := needO_in hG (pl k)
  have k5 := h.2.2.2.2.2.2.2.2.2.1.1
  omega
section LM
variable {p : Program} {l : Launch} {e : Env} {s : State} {m : MethodId} {args : Array Value} {below : List Frame} {meth : Method} {c : Code} {H : Heap} {locs : List Loc} {cells slots mc ms : Nat} {Q : State → Prop}
variable {pc : Nat} {ls : Array Slot} {rest st0 : List Value} {D : va_G} {cy : Nat → ClassId} {A A2 : Nat → Prop} {ad : Nat → Int → Nat} {sg : Nat → Int → Int}
theorem lw_mut {ov : Option Value} {P : Heap → Prop} {a : Array Value} (hr : va_Run p l e room_1 s m args below meth c H locs cells slots mc ms (F0 m pc ls st0) rest (Qm ov P A2 a) A2) (hS : va_S (fun q : Nat => s.heap.size ≤ q) s.heap H locs) (hA2 : ∀ q : Nat, A2 q → s.heap.size ≤ q) (hN : ∀ q : Nat, A q → ¬ A2 q) (hC : RC D cy A ad sg H)
    (kk : ∀ (H1 : Heap) (locs1 : List Loc), P H1 → RC D cy A ad sg H1 → va_S (fun q : Nat => s.heap.size ≤ q) s.heap H1 locs1 → W p l e room_1 s m args below meth c H1 locs1 (cells + mc) (slots + ms) Q (F0 m (pc + 3) ls (ov.toList ++ rest))) : W p l e room_1 s m args below meth c H locs cells slots Q (F0 m pc ls st0) :=
  xk_m2 hr hS hA2 (fun H1 locs1 hP hS1 hz hq => kk H1 locs1 hP (wr_kept hC fun k j hd => by
    have z := wr_lt hC hd
    exact hq _ z.1 (hN _ z.2)) hS1)
end LM
