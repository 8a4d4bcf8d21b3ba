/-! making objects -/
section AL
variable {p : Program} {l : Launch} {e : Env} {R : Room} {s : State} {m : MethodId} {args : Array Value} {below : List Frame} {meth : Method} {c : Code} {H H0 : Heap} {locs : List Loc} {cells slots mc ms : Nat} {Q : State → Prop}
variable {cc : ByteArray} {pc : Nat} {ls : Array Slot} {rest st0 : List Value} {D : va_G} {cl : List vw_C} {A : Nat → Prop} {tys : List (ClassId × FieldType)} {dm : Nat → Int → Prop} {ad : Nat → Int → Nat} {cell : Nat → Int → va_E} {q : Nat}
theorem wr_new (hexec : p.tables.exec = Jvm.exec) (hb : c.code = cc) {own C : String} {T : u_T} {N ci index : Nat} (hw : ∀ w ∈ u_ws C T N, w.before args s = true) (ty : Nat → FieldType) (hty : ∀ k, k < N → parseFieldDescriptor (T k).2.2.1 = some (ty k)) (hown : s.vm.findClass own = some m.cls) (hcl : (Cond.classLink own index C).before args s = true) (hinst : (Cond.instantiable C N).before args s = true) (hini : (Cond.initialized C).before args s = true) (hK : va_K D cl tys s) (hR : wR D cl A dm ad cell H) (hS : va_S A H0 H locs) (hA : ∀ q, H0.size ≤ q → A q) (hc : cl[ci]? = some (C, T, N)) {fs : List Value} (hfs : ∀ j, j < N → defaultValue (ty j) = vp_V fs j) (hcells : cells + 1 ≤ R.cells) (hslots : slots + N ≤ R.slots) (hdg : decode cc pc = .ok (.new index, 3))
    (kk : ∀ (q : Nat) (H1 : Heap), wR D cl A dm ad cell H1 → va_at D cl (q, .inr (ci, fs)) H1 → (∀ k j, dm k j → ad k j ≠ q) → A q → va_S A H0 H1 locs → W p l e R s m args below meth c H1 locs (cells + 1) (slots + N) Q (F0 m (pc + 3) ls (.ref q :: rest))) : W p l e R s m args below meth c H locs cells slots Q (F0 m pc ls rest) := by
  obtain ⟨dl, hn, hm, hP, hD⟩ := hR
  refine va_new hexec hb hw (fun _ h => h) ty hty hown hcl hinst hini hK hP hD hS hA hc hfs hcells hslots hdg (fun q H1 hP1 hD1 hS1 => ?_)
  have hlen : ((dl.map fun q => (ad q.1 q.2, cell q.1 q.2)) ++ [(q, Sum.inr (ci, fs))])[(dl.map fun q => (ad q.1 q.2, cell q.1 q.2)).length]? = some (q, .inr (ci, fs)) := by
    rw [List.getElem?_append_right (Nat.le_refl _), Nat.sub_self]; rfl
  refine kk q H1 ⟨dl, hn, hm, fun i x hi => ?_, hD⟩ (hP1 _ _ hlen) (fun k j hd => ?_) (hD1.2 _ _ hlen) hS1
  · have hi2 := (List.getElem?_eq_some_iff.mp hi).1
    exact hP1 i x (by rw [List.getElem?_append_left hi2]; exact hi)
  · obtain ⟨i, hi⟩ := List.getElem?_of_mem ((hm k j).mpr hd)
    have hi3 : (dl.map fun q => (ad q.1 q.2, cell q.1 q.2))[i]? = some (ad k j, cell k j) := by rw [List.getElem?_map, hi]; rfl
    have hi2 := (List.getElem?_eq_some_iff.mp hi3).1
    intro he
    have := hD1.1 i _ _ _ (by rw [List.getElem?_append_left hi2]; exact hi3) hlen he
    omega
/-- an object by itself -/
theorem wo_put (hexec : p.tables.exec = Jvm.exec) (hb : c.code = cc) {own C : String} {T : u_T} {N ci index : Nat} (hw : ∀ w ∈ u_ws C T N, w.before args s = true) (ty0 : Nat → FieldType) (hty : ∀ k, k < N → parseFieldDescriptor (T k).2.2.1 = some (ty0 k)) (hnm : ∀ a, a < N → ∀ b, b < N → a ≠ b → (T a).2.1 ≠ (T b).2.1) (hown : s.vm.findClass own = some m.cls) (hK : va_K D cl tys s) {fs : List Value} (hO : va_at D cl (q, .inr (ci, fs)) H) (hS : va_S (fun a => a = q) H0 H locs) (hc : cl[ci]? = some (C, T, N)) (i : Nat) (hi : i < N) (hlink : (Cond.fieldLink own index (T i).1 (T i).2.1 (T i).2.2.1).before args s = true) (hfin : (T i).2.2.2 = false) {ty : FieldType} {v : Value} (hp : parseFieldDescriptor (T i).2.2.1 = some ty) (hn : narrow ty v = v) (hfit : fits ty v = true) (hl : i < fs.length)
    (hdg : decode cc pc = .ok (.putfield index, 3)) (kk : ∀ (H1 : Heap) (locs1 : List Loc), va_at D cl (q, .inr (ci, fs.set i v)) H1 → va_S (fun a => a = q) H0 H1 locs1 → W p l e R s m args below meth c H1 locs1 cells slots Q (F0 m (pc + 3) ls rest)) : W p l e R s m args below meth c H locs cells slots Q (F0 m pc ls (v :: .ref q :: rest)) := by
  have h1 : ∀ (k : Nat) (x : Nat × va_E), [(q, (Sum.inr (ci, fs) : va_E))][k]? = some x → k = 0 ∧ x = (q, .inr (ci, fs)) := by
    intro k x h
    cases k with
    | zero => cases h; exact ⟨rfl, rfl⟩
    | succ k => simp at h
  exact va_put (ws := [(q, .inr (ci, fs))]) hexec hb hw (fun _ h => h) ty0 hty hnm hown hK (fun k x h => by rw [(h1 k x h).2]; exact hO) ⟨fun i j x y hi hj _ => by rw [(h1 i x hi).1, (h1 j y hj).1], fun k x h => by rw [(h1 k x h).2]⟩ hS 0 rfl hc i hi hlink (fun _ h => h) hfin hp hn hfit hl hdg (fun H1 locs1 g1 _ g3 => kk H1 locs1 (g1 0 _ rfl) g3)
theorem wo_putF (hexec : p.tables.exec = Jvm.exec) (hb : c.code = cc) {own C : String} {T : u_T} {N ci index : Nat} (hw : ∀ w ∈ u_ws C T N, w.before args s = true) (ty0 : Nat → FieldType) (hty : ∀ k, k < N → parseFieldDescriptor (T k).2.2.1 = some (ty0 k)) (hnm : ∀ a, a < N → ∀ b, b < N → a ≠ b → (T a).2.1 ≠ (T b).2.1) (hown : s.vm.findClass own = some m.cls) (hK : va_K D cl tys s) {fs : List Value} (hO : va_at D cl (q, .inr (ci, fs)) H) (hS : va_S (fun a => a = q) H0 H locs) (hc : cl[ci]? = some (C, T, N)) (i : Nat) (hi : i < N) (hlink : (Cond.fieldLink own index (T i).1 (T i).2.1 (T i).2.2.1).before args s = true) (hfin : (T i).2.2.2 = true) (hin2 : meth.name = "<init>") (hdecl : (T i).1 = own) {ty : FieldType} {v : Value} (hp : parseFieldDescriptor (T i).2.2.1 = some ty) (hn : narrow ty v = v) (hfit : fits ty v = true) (hl : i < fs.length)
    (hdg : decode cc pc = .ok (.putfield index, 3)) (kk : ∀ (H1 : Heap) (locs1 : List Loc), va_at D cl (q, .inr (ci, fs.set i v)) H1 → va_S (fun a => a = q) H0 H1 locs1 → W p l e R s m args below meth c H1 locs1 cells slots Q (F0 m (pc + 3) ls rest)) : W p l e R s m args below meth c H locs cells slots Q (F0 m pc ls (v :: .ref q :: rest)) := by
  have h1 : ∀ (k : Nat) (x : Nat × va_E), [(q, (Sum.inr (ci, fs) : va_E))][k]? = some x → k = 0 ∧ x = (q, .inr (ci, fs)) := by
    intro k x h
    cases k with
    | zero => cases h; exact ⟨rfl, rfl⟩
    | succ k => simp at h
  exact va_putF (ws := [(q, .inr (ci, fs))]) hexec hb hw (fun _ h => h) ty0 hty hnm hown hK (fun k x h => by rw [(h1 k x h).2]; exact hO) ⟨fun i j x y hi hj _ => by rw [(h1 i x hi).1, (h1 j y hj).1], fun k x h => by rw [(h1 k x h).2]⟩ hS 0 rfl hc i hi hlink (fun _ h => h) hfin hin2 hdecl hp hn hfit hl hdg (fun H1 locs1 g1 _ g3 => kk H1 locs1 (g1 0 _ rfl) g3)
theorem xk_m2 {ov : Option Value} {P : Heap → Prop} {a : Array Value} {A1 : Nat → Prop} (hr : va_Run p l e R s m args below meth c H locs cells slots mc ms (F0 m pc ls st0) rest (Qm ov P A1 a) A1) (hS : va_S A H0 H locs) (h1A : ∀ x, A1 x → A x) (kk : ∀ (H1 : Heap) (locs1 : List Loc), P H1 → va_S A H0 H1 locs1 → H.size ≤ H1.size → (∀ x : Nat, x < H.size → ¬ A1 x → H1[x]? = H[x]?) → W p l e R s m args below meth c H1 locs1 (cells + mc) (slots + ms) Q (F0 m (pc + 3) ls (ov.toList ++ rest))) : W p l e R s m args below meth c H locs cells slots Q (F0 m pc ls st0) := by
  intro T hT X
  obtain ⟨v', st₀, t, T', L, h0, X', hL, e1, e2, ⟨hv, hp, hz, hk⟩, stp⟩ := hr T hT X
  have hv' : v' = ov := Outcome.returned.inj hv
  subst hv'
  rw [h0, ← e1] at hz hk
  rw [← e1] at hp
  obtain ⟨t2, a1, b1⟩ := kk T'.heap (locs ++ L) hp ⟨Nat.le_trans hS.1 hz, fun x h1 h2 => by rw [hk x (Nat.lt_of_lt_of_le h1 hS.1) (fun z => h2 (h1A x z))]; exact hS.2.1 x h1 h2, fun x hx => by
      rcases List.mem_append.mp hx with h | h
      · exact hS.2.2 x h
      · exact h1A _ (hL x h)⟩ hz hk T' rfl X'
  exact ⟨t2, stp t2 a1, b1⟩
end AL
theorem ad_ext {dm : Nat → Int → Prop} {ad : Nat → Int → Nat} {K : Nat} {n : Int} {q : Nat} (h : ¬ dm K n) : ∃ ad' : Nat → Int → Nat, ad' K n = q ∧ ∀ k j, dm k j → ad' k j = ad k j := by
  refine ⟨fun k j => if k = K ∧ j = n then q else ad k j, if_pos ⟨rfl, rfl⟩, fun k j hd => if_neg fun z => ?_⟩
  rw [z.1, z.2] at hd
  exact h hd
/-- a new row of a table -/
def nw (sg : Nat → Int → Int) (base cnt : Nat) (n : Int) (vs : List Int) : Nat → Int → Int := fun F j => if j = n ∧ base ≤ F ∧ F < base + vs.length then vs.getD (F - base) 0 else if F = cnt ∧ j = 0 then n + 1 else sg F j
theorem nw_o {sg : Nat → Int → Int} {base cnt : Nat} {n : Int} {vs : List Int} {F : Nat} {j : Int} (h : ¬ (base ≤ F ∧ F < base + vs.length) ∨ j ≠ n) (h2 : F ≠ cnt ∨ j ≠ 0) : nw sg base cnt n vs F j = sg F j := by
  unfold nw
  rw [if_neg (by omega), if_neg (by omega)]
theorem ro_ad {f g : Int → Nat} {v : Int} (h : 0 ≤ v → f v = g v) : ro f v = ro g v := by
  unfold ro
  split
  · rfl
  · rw [h (by omega)]
theorem rv_ad {f g : Int → Nat} {v : Int} (h : 0 ≤ v → f v = g v) : rv f v = rv g v := by unfold rv; rw [ro_ad h]
/-- the old cells, told by a longer table and other addresses -/
theorem cell_old {cy : Nat → ClassId} {ad ad' : Nat → Int → Nat} {sg sg' : Nat → Int → Int} (hG : GC sg) (ho : ∀ k j, dmC sg k j → ad' k j = ad k j) {k : Nat} {j : Int} (hd : dmC sg k j) (hs : ∀ F i, F < 700 → (F < 600 → (F < 100 * (k + 1) + 100 ∧ 100 * (k + 1) ≤ F ∧ i = j)) → sg' F i = sg F i) : cellC cy ad' sg' k j = cellC cy ad sg k j := by
  have e600 : ∀ i, sg' 600 i = sg 600 i := fun i => hs 600 i (by decide) (fun h => absurd h (by decide))
  have e601 : ∀ i, sg' 601 i = sg 601 i := fun i => hs 601 i (by decide) (fun h => absurd h (by decide))
  have e602 : ∀ i, sg' 602 i = sg 602 i := fun i => hs 602 i (by decide) (fun h => absurd h (by decide))
  have e603 : ∀ i, sg' 603 i = sg 603 i := fun i => hs 603 i (by decide) (fun h => absurd h (by decide))
  unfold cellC
  split
  · have e100 : sg' 100 j = sg 100 j := hs 100 j (by decide) (fun _ => ⟨by decide, by decide, rfl⟩)
    have e101 : sg' 101 j = sg 101 j := hs 101 j (by decide) (fun _ => ⟨by decide, by decide, rfl⟩)
    have e102 : sg' 102 j = sg 102 j := hs 102 j (by decide) (fun _ => ⟨by decide, by decide, rfl⟩)
    have e103 : sg' 103 j = sg 103 j := hs 103 j (by decide) (fun _ => ⟨by decide, by decide, rfl⟩)
    have e104 : sg' 104 j = sg 104 j := hs 104 j (by decide) (fun _ => ⟨by decide, by decide, rfl⟩)
    have e105 : sg' 105 j = sg 105 j := hs 105 j (by decide) (fun _ => ⟨by decide, by decide, rfl⟩)
    have e106 : sg' 106 j = sg 106 j := hs 106 j (by decide) (fun _ => ⟨by decide, by decide, rfl⟩)
    have e107 : sg' 107 j = sg 107 j := hs 107 j (by decide) (fun _ => ⟨by decide, by decide, rfl⟩)
    have e108 : sg' 108 j = sg 108 j := hs 108 j (by decide) (fun _ => ⟨by decide, by decide, rfl⟩)
    have e109 : sg' 109 j = sg 109 j := hs 109 j (by decide) (fun _ => ⟨by decide, by decide, rfl⟩)
    have e110 : sg' 110 j = sg 110 j := hs 110 j (by decide) (fun _ => ⟨by decide, by decide, rfl⟩)
    have e111 : sg' 111 j = sg 111 j := hs 111 j (by decide) (fun _ => ⟨by decide, by decide, rfl⟩)
    have e112 : sg' 112 j = sg 112 j := hs 112 j (by decide) (fun _ => ⟨by decide, by decide, rfl⟩)
    have e113 : sg' 113 j = sg 113 j := hs 113 j (by decide) (fun _ => ⟨by decide, by decide, rfl⟩)
    have e114 : sg' 114 j = sg 114 j := hs 114 j (by decide) (fun _ => ⟨by decide, by decide, rfl⟩)
    have r102 : rv (ad' 1) (sg 102 j) = rv (ad 1) (sg 102 j) := rv_ad fun h => ho 1 _ (gd_1 hG (by have z := gr_102 hG j; omega))
    show Sum.inr (0, fsC0 ad' sg' j) = Sum.inr (0, fsC0 ad sg j)
    simp only [fsC0, e100, e101, e102, e103, e104, e105, e106, e107, e108, e109, e110, e111, e112, e113, e114, r102]
  · have e200 : sg' 200 j = sg 200 j := hs 200 j (by decide) (fun _ => ⟨by decide, by decide, rfl⟩)
    have e201 : sg' 201 j = sg 201 j := hs 201 j (by decide) (fun _ => ⟨by decide, by decide, rfl⟩)
    have e202 : sg' 202 j = sg 202 j := hs 202 j (by decide) (fun _ => ⟨by decide, by decide, rfl⟩)
    have e203 : sg' 203 j = sg 203 j := hs 203 j (by decide) (fun _ => ⟨by decide, by decide, rfl⟩)
    have e204 : sg' 204 j = sg 204 j := hs 204 j (by decide) (fun _ => ⟨by decide, by decide, rfl⟩)
    have e205 : sg' 205 j = sg 205 j := hs 205 j (by decide) (fun _ => ⟨by decide, by decide, rfl⟩)
    have e206 : sg' 206 j = sg 206 j := hs 206 j (by decide) (fun _ => ⟨by decide, by decide, rfl⟩)
    have e207 : sg' 207 j = sg 207 j := hs 207 j (by decide) (fun _ => ⟨by decide, by decide, rfl⟩)
    have e208 : sg' 208 j = sg 208 j := hs 208 j (by decide) (fun _ => ⟨by decide, by decide, rfl⟩)
    have e209 : sg' 209 j = sg 209 j := hs 209 j (by decide) (fun _ => ⟨by decide, by decide, rfl⟩)
    have e210 : sg' 210 j = sg 210 j := hs 210 j (by decide) (fun _ => ⟨by decide, by decide, rfl⟩)
    have r204 : rv (ad' 3) (sg 204 j) = rv (ad 3) (sg 204 j) := rv_ad fun h => ho 3 _ (gd_3 hG (by have z := gp_204 hG j; omega))
    have r207 : rv (ad' 2) (sg 207 j) = rv (ad 2) (sg 207 j) := rv_ad fun h => ho 2 _ (gd_2 hG (by have z := gp_207 hG j; omega))
    have r209 : rv (ad' 0) (sg 209 j) = rv (ad 0) (sg 209 j) := rv_ad fun h => ho 0 _ (gd_0 hG (by have z := gp_209 hG j; omega))
    show Sum.inr (1, fsC1 ad' sg' j) = Sum.inr (1, fsC1 ad sg j)
    simp only [fsC1, e200, e201, e202, e203, e204, e205, e206, e207, e208, e209, e210, r204, r207, r209]
  · have e300 : sg' 300 j = sg 300 j := hs 300 j (by decide) (fun _ => ⟨by decide, by decide, rfl⟩)
    have e301 : sg' 301 j = sg 301 j := hs 301 j (by decide) (fun _ => ⟨by decide, by decide, rfl⟩)
    have e302 : sg' 302 j = sg 302 j := hs 302 j (by decide) (fun _ => ⟨by decide, by decide, rfl⟩)
    have r302 : rv (ad' 2) (sg 302 j) = rv (ad 2) (sg 302 j) := rv_ad fun h => ho 2 _ (gd_2 hG (by have z := hG.2.2.2.2.2.2.2.2.2.1 j; omega))
    show Sum.inr (2, fsC2 ad' sg' j) = Sum.inr (2, fsC2 ad sg j)
    simp only [fsC2, e300, e301, e302, r302]
  · have e400 : sg' 400 j = sg 400 j := hs 400 j (by decide) (fun _ => ⟨by decide, by decide, rfl⟩)
    have e401 : sg' 401 j = sg 401 j := hs 401 j (by decide) (fun _ => ⟨by decide, by decide, rfl⟩)
    have e402 : sg' 402 j = sg 402 j := hs 402 j (by decide) (fun _ => ⟨by decide, by decide, rfl⟩)
    have e403 : sg' 403 j = sg 403 j := hs 403 j (by decide) (fun _ => ⟨by decide, by decide, rfl⟩)
    have e404 : sg' 404 j = sg 404 j := hs 404 j (by decide) (fun _ => ⟨by decide, by decide, rfl⟩)
    have e405 : sg' 405 j = sg 405 j := hs 405 j (by decide) (fun _ => ⟨by decide, by decide, rfl⟩)
    show Sum.inr (3, fsC3 ad' sg' j) = Sum.inr (3, fsC3 ad sg j)
    simp only [fsC3, e400, e401, e402, e403, e404, e405]
  · have e500 : sg' 500 j = sg 500 j := hs 500 j (by decide) (fun _ => ⟨by decide, by decide, rfl⟩)
    have e501 : sg' 501 j = sg 501 j := hs 501 j (by decide) (fun _ => ⟨by decide, by decide, rfl⟩)
    have e502 : sg' 502 j = sg 502 j := hs 502 j (by decide) (fun _ => ⟨by decide, by decide, rfl⟩)
    have e503 : sg' 503 j = sg 503 j := hs 503 j (by decide) (fun _ => ⟨by decide, by decide, rfl⟩)
    have e504 : sg' 504 j = sg 504 j := hs 504 j (by decide) (fun _ => ⟨by decide, by decide, rfl⟩)
    have e505 : sg' 505 j = sg 505 j := hs 505 j (by decide) (fun _ => ⟨by decide, by decide, rfl⟩)
    have e506 : sg' 506 j = sg 506 j := hs 506 j (by decide) (fun _ => ⟨by decide, by decide, rfl⟩)
    have e507 : sg' 507 j = sg 507 j := hs 507 j (by decide) (fun _ => ⟨by decide, by decide, rfl⟩)
    have e508 : sg' 508 j = sg 508 j := hs 508 j (by decide) (fun _ => ⟨by decide, by decide, rfl⟩)
    have e509 : sg' 509 j = sg 509 j := hs 509 j (by decide) (fun _ => ⟨by decide, by decide, rfl⟩)
    have e510 : sg' 510 j = sg 510 j := hs 510 j (by decide) (fun _ => ⟨by decide, by decide, rfl⟩)
    have e511 : sg' 511 j = sg 511 j := hs 511 j (by decide) (fun _ => ⟨by decide, by decide, rfl⟩)
    have r500 : rv (ad' 10) (sg 500 j) = rv (ad 10) (sg 500 j) := rv_ad fun _ => by rw [gh_500 hG j]; exact ho 10 0 (gd_10 hG)
    have r501 : rv (ad' 11) (sg 501 j) = rv (ad 11) (sg 501 j) := rv_ad fun _ => by rw [gh_501 hG j]; exact ho 11 0 (gd_11 hG)
    have r502 : rv (ad' 9) (sg 502 j) = rv (ad 9) (sg 502 j) := rv_ad fun _ => by rw [gh_502 hG j]; exact ho 9 0 (gd_9 hG)
    have r504 : rv (ad' 12) (sg 504 j) = rv (ad 12) (sg 504 j) := rv_ad fun _ => by rw [gh_504 hG j]; exact ho 12 0 (gd_12 hG)
    show Sum.inr (4, fsC4 ad' sg' j) = Sum.inr (4, fsC4 ad sg j)
    simp only [fsC4, e500, e501, e502, e503, e504, e505, e506, e507, e508, e509, e510, e511, r500, r501, r502, r504]
  · have e : (fun i : Nat => ro (ad' 0) (sg' 600 (i : Int))) = fun i : Nat => ro (ad 0) (sg 600 (i : Int)) := by
      funext i
      rw [e600]
      exact ro_ad fun h => ho 0 _ (gd_0 hG (by have z := hG.2.2.2.2.2.2.1 (i : Int); omega))
    rw [e]
  · have e : (fun i : Nat => ro (ad' 1) (sg' 601 (i : Int))) = fun i : Nat => ro (ad 1) (sg 601 (i : Int)) := by
      funext i
      rw [e601]
      exact ro_ad fun h => ho 1 _ (gd_1 hG (by have z := hG.2.2.2.2.2.2.2.2.2.2.1 (i : Int); omega))
    rw [e]
  · have e : (fun i : Nat => ro (ad' 2) (sg' 602 (i : Int))) = fun i : Nat => ro (ad 2) (sg 602 (i : Int)) := by
      funext i
      rw [e602]
      exact ro_ad fun h => ho 2 _ (gd_2 hG (by have z := hG.2.2.2.2.2.2.2.1 (i : Int); omega))
    rw [e]
  · have e : (fun i : Nat => ro (ad' 3) (sg' 603 (i : Int))) = fun i : Nat => ro (ad 3) (sg 603 (i : Int)) := by
      funext i
      rw [e603]
      exact ro_ad fun h => ho 3 _ (gd_3 hG (by have z := hG.2.2.2.2.2.2.2.2.1 (i : Int); omega))
    rw [e]
  · rfl
theorem xd_0 : ∀ j, j < 15 → defaultValue (tyX0 j) = vp_V [.int 0, .int 0, .null, .int 0, .int 0, .int 0, .int 0, .int 0, .int 0, .int 0, .long 0, .long 0, .int 0, .long 0, .int 0] j := by decide +kernel
theorem pu_0 {D : va_G} {cy : Nat → ClassId} {A : Nat → Prop} {ad ad' : Nat → Int → Nat} {sg : Nat → Int → Int} {H : Heap} {q : Nat} {n a0 a1 a2 a3 a4 a5 a6 a7 a8 a9 a10 a11 a12 a13 a14 : Int} (hR : RC D cy A ad sg H) (hG : GC sg) (h7 : sg 700 0 = n) (hn0 : 0 ≤ n) (hn : ad' 0 n = q) (ho : ∀ k j, dmC sg k j → ad' k j = ad k j) (hne : ∀ k j, dmC sg k j → ad k j ≠ q) (hq : A q) (hO : va_at D vwCl (q, .inr (0, [.int (iI (a0)), .int (iI (a1)), rv (ad' 1) (a2), .int (iI (a3)), .int (iI (a4)), .int (iI (a5)), .int (iI (a6)), .int (iI (a7)), .int (iI (a8)), .int (iI (a9)), .long (lI (a10)), .long (lI (a11)), .int (iI (a12)), .long (lI (a13)), .int (iI (a14))])) H) : RC D cy A ad' (nw sg 100 700 n [a0, a1, a2, a3, a4, a5, a6, a7, a8, a9, a10, a11, a12, a13, a14]) H := by
  subst hn
  refine wr_push (k := 0) (j := n) (q := ad' 0 n) (e := .inr (0, [.int (iI (a0)), .int (iI (a1)), rv (ad' 1) (a2), .int (iI (a3)), .int (iI (a4)), .int (iI (a5)), .int (iI (a6)), .int (iI (a7)), .int (iI (a8)), .int (iI (a9)), .long (lI (a10)), .long (lI (a11)), .int (iI (a12)), .long (lI (a13)), .int (iI (a14))])) hR (fun h => ?_) (fun k' j' => ?_) (fun k' j' hd => ⟨ho k' j' hd, ?_⟩) rfl ?_ hne hq hO
  · have h2 : n < sg 700 0 := h.2
    omega
  · show (0 ≤ j' ∧ j' < nw sg 100 700 n [a0, a1, a2, a3, a4, a5, a6, a7, a8, a9, a10, a11, a12, a13, a14] (700 + k') 0) ↔ ((0 ≤ j' ∧ j' < sg (700 + k') 0) ∨ (k' = 0 ∧ j' = n))
    by_cases hk : k' = 0
    · subst hk
      have e : nw sg 100 700 n [a0, a1, a2, a3, a4, a5, a6, a7, a8, a9, a10, a11, a12, a13, a14] (700 + 0) 0 = n + 1 := by
        unfold nw
        rw [if_neg (by simp), if_pos ⟨rfl, rfl⟩]
      have e2 : sg (700 + 0) 0 = n := h7
      rw [e, e2]
      omega
    · rw [nw_o (Or.inl (by simp; omega)) (Or.inl (by omega))]
      omega
  · refine cell_old hG ho hd (fun F i hF hc => nw_o ?_ (Or.inl (by omega)))
    by_cases h6 : F < 600
    · obtain ⟨c1, c2, c3⟩ := hc h6
      by_cases hj : i = n
      · refine Or.inl fun z => ?_
        have hk : k' = 0 := by simp at z; omega
        subst hk
        have h2 : j' < sg 700 0 := hd.2
        omega
      · exact Or.inr hj
    · exact Or.inl (by simp; omega)
  · show (Sum.inr (0, fsC0 ad' (nw sg 100 700 n [a0, a1, a2, a3, a4, a5, a6, a7, a8, a9, a10, a11, a12, a13, a14]) n) : va_E) = _
    simp [fsC0, nw]
theorem xd_1 : ∀ j, j < 11 → defaultValue (tyX1 j) = vp_V [.int 0, .int 0, .int 0, .int 0, .null, .int 0, .int 0, .null, .int 0, .null, .int 0] j := by decide +kernel
theorem pu_1 {D : va_G} {cy : Nat → ClassId} {A : Nat → Prop} {ad ad' : Nat → Int → Nat} {sg : Nat → Int → Int} {H : Heap} {q : Nat} {n a0 a1 a2 a3 a4 a5 a6 a7 a8 a9 a10 : Int} (hR : RC D cy A ad sg H) (hG : GC sg) (h7 : sg 701 0 = n) (hn0 : 0 ≤ n) (hn : ad' 1 n = q) (ho : ∀ k j, dmC sg k j → ad' k j = ad k j) (hne : ∀ k j, dmC sg k j → ad k j ≠ q) (hq : A q) (hO : va_at D vwCl (q, .inr (1, [.int (iI (a0)), .int (iI (a1)), .int (iI (a2)), .int (iI (a3)), rv (ad' 3) (a4), .int (iI (a5)), .int (iI (a6)), rv (ad' 2) (a7), .int (iI (a8)), rv (ad' 0) (a9), .int (iI (a10))])) H) : RC D cy A ad' (nw sg 200 701 n [a0, a1, a2, a3, a4, a5, a6, a7, a8, a9, a10]) H := by
  subst hn
  refine wr_push (k := 1) (j := n) (q := ad' 1 n) (e := .inr (1, [.int (iI (a0)), .int (iI (a1)), .int (iI (a2)), .int (iI (a3)), rv (ad' 3) (a4), .int (iI (a5)), .int (iI (a6)), rv (ad' 2) (a7), .int (iI (a8)), rv (ad' 0) (a9), .int (iI (a10))])) hR (fun h => ?_) (fun k' j' => ?_) (fun k' j' hd => ⟨ho k' j' hd, ?_⟩) rfl ?_ hne hq hO
  · have h2 : n < sg 701 0 := h.2
    omega
  · show (0 ≤ j' ∧ j' < nw sg 200 701 n [a0, a1, a2, a3, a4, a5, a6, a7, a8, a9, a10] (700 + k') 0) ↔ ((0 ≤ j' ∧ j' < sg (700 + k') 0) ∨ (k' = 1 ∧ j' = n))
    by_cases hk : k' = 1
    · subst hk
      have e : nw sg 200 701 n [a0, a1, a2, a3, a4, a5, a6, a7, a8, a9, a10] (700 + 1) 0 = n + 1 := by
        unfold nw
        rw [if_neg (by simp), if_pos ⟨rfl, rfl⟩]
      have e2 : sg (700 + 1) 0 = n := h7
      rw [e, e2]
      omega
    · rw [nw_o (Or.inl (by simp; omega)) (Or.inl (by omega))]
      omega
  · refine cell_old hG ho hd (fun F i hF hc => nw_o ?_ (Or.inl (by omega)))
    by_cases h6 : F < 600
    · obtain ⟨c1, c2, c3⟩ := hc h6
      by_cases hj : i = n
      · refine Or.inl fun z => ?_
        have hk : k' = 1 := by simp at z; omega
        subst hk
        have h2 : j' < sg 701 0 := hd.2
        omega
      · exact Or.inr hj
    · exact Or.inl (by simp; omega)
  · show (Sum.inr (1, fsC1 ad' (nw sg 200 701 n [a0, a1, a2, a3, a4, a5, a6, a7, a8, a9, a10]) n) : va_E) = _
    simp [fsC1, nw]
theorem xd_2 : ∀ j, j < 3 → defaultValue (tyX2 j) = vp_V [.int 0, .int 0, .null] j := by decide +kernel
theorem pu_2 {D : va_G} {cy : Nat → ClassId} {A : Nat → Prop} {ad ad' : Nat → Int → Nat} {sg : Nat → Int → Int} {H : Heap} {q : Nat} {n a0 a1 a2 : Int} (hR : RC D cy A ad sg H) (hG : GC sg) (h7 : sg 702 0 = n) (hn0 : 0 ≤ n) (hn : ad' 2 n = q) (ho : ∀ k j, dmC sg k j → ad' k j = ad k j) (hne : ∀ k j, dmC sg k j → ad k j ≠ q) (hq : A q) (hO : va_at D vwCl (q, .inr (2, [.int (iI (a0)), .int (iI (a1)), rv (ad' 2) (a2)])) H) : RC D cy A ad' (nw sg 300 702 n [a0, a1, a2]) H := by
  subst hn
  refine wr_push (k := 2) (j := n) (q := ad' 2 n) (e := .inr (2, [.int (iI (a0)), .int (iI (a1)), rv (ad' 2) (a2)])) hR (fun h => ?_) (fun k' j' => ?_) (fun k' j' hd => ⟨ho k' j' hd, ?_⟩) rfl ?_ hne hq hO
  · have h2 : n < sg 702 0 := h.2
    omega
  · show (0 ≤ j' ∧ j' < nw sg 300 702 n [a0, a1, a2] (700 + k') 0) ↔ ((0 ≤ j' ∧ j' < sg (700 + k') 0) ∨ (k' = 2 ∧ j' = n))
    by_cases hk : k' = 2
    · subst hk
      have e : nw sg 300 702 n [a0, a1, a2] (700 + 2) 0 = n + 1 := by
        unfold nw
        rw [if_neg (by simp), if_pos ⟨rfl, rfl⟩]
      have e2 : sg (700 + 2) 0 = n := h7
      rw [e, e2]
      omega
    · rw [nw_o (Or.inl (by simp; omega)) (Or.inl (by omega))]
      omega
  · refine cell_old hG ho hd (fun F i hF hc => nw_o ?_ (Or.inl (by omega)))
    by_cases h6 : F < 600
    · obtain ⟨c1, c2, c3⟩ := hc h6
      by_cases hj : i = n
      · refine Or.inl fun z => ?_
        have hk : k' = 2 := by simp at z; omega
        subst hk
        have h2 : j' < sg 702 0 := hd.2
        omega
      · exact Or.inr hj
    · exact Or.inl (by simp; omega)
  · show (Sum.inr (2, fsC2 ad' (nw sg 300 702 n [a0, a1, a2]) n) : va_E) = _
    simp [fsC2, nw]
theorem xd_3 : ∀ j, j < 6 → defaultValue (tyX3 j) = vp_V [.int 0, .int 0, .int 0, .int 0, .int 0, .int 0] j := by decide +kernel
theorem pu_3 {D : va_G} {cy : Nat → ClassId} {A : Nat → Prop} {ad ad' : Nat → Int → Nat} {sg : Nat → Int → Int} {H : Heap} {q : Nat} {n a0 a1 a2 a3 a4 a5 : Int} (hR : RC D cy A ad sg H) (hG : GC sg) (h7 : sg 703 0 = n) (hn0 : 0 ≤ n) (hn : ad' 3 n = q) (ho : ∀ k j, dmC sg k j → ad' k j = ad k j) (hne : ∀ k j, dmC sg k j → ad k j ≠ q) (hq : A q) (hO : va_at D vwCl (q, .inr (3, [.int (iI (a0)), .int (iI (a1)), .int (iI (a2)), .int (iI (a3)), .int (iI (a4)), .int (iI (a5))])) H) : RC D cy A ad' (nw sg 400 703 n [a0, a1, a2, a3, a4, a5]) H := by
  subst hn
  refine wr_push (k := 3) (j := n) (q := ad' 3 n) (e := .inr (3, [.int (iI (a0)), .int (iI (a1)), .int (iI (a2)), .int (iI (a3)), .int (iI (a4)), .int (iI (a5))])) hR (fun h => ?_) (fun k' j' => ?_) (fun k' j' hd => ⟨ho k' j' hd, ?_⟩) rfl ?_ hne hq hO
  · have h2 : n < sg 703 0 := h.2
    omega
  · show (0 ≤ j' ∧ j' < nw sg 400 703 n [a0, a1, a2, a3, a4, a5] (700 + k') 0) ↔ ((0 ≤ j' ∧ j' < sg (700 + k') 0) ∨ (k' = 3 ∧ j' = n))
    by_cases hk : k' = 3
    · subst hk
      have e : nw sg 400 703 n [a0, a1, a2, a3, a4, a5] (700 + 3) 0 = n + 1 := by
        unfold nw
        rw [if_neg (by simp), if_pos ⟨rfl, rfl⟩]
      have e2 : sg (700 + 3) 0 = n := h7
      rw [e, e2]
      omega
    · rw [nw_o (Or.inl (by simp; omega)) (Or.inl (by omega))]
      omega
  · refine cell_old hG ho hd (fun F i hF hc => nw_o ?_ (Or.inl (by omega)))
    by_cases h6 : F < 600
    · obtain ⟨c1, c2, c3⟩ := hc h6
      by_cases hj : i = n
      · refine Or.inl fun z => ?_
        have hk : k' = 3 := by simp at z; omega
        subst hk
        have h2 : j' < sg 703 0 := hd.2
        omega
      · exact Or.inr hj
    · exact Or.inl (by simp; omega)
  · show (Sum.inr (3, fsC3 ad' (nw sg 400 703 n [a0, a1, a2, a3, a4, a5]) n) : va_E) = _
    simp [fsC3, nw]
theorem ms_X0_init : Cond.code yX0_init cX0_init 8 none ∈ wG ∧ Cond.instanceMethod yX0_init ∈ wG ∧ Cond.initialized yX0_init.cls ∈ wG := ⟨kw_469, kw_468, kw_11⟩
set_option maxRecDepth 100000 in
set_option maxHeartbeats 4000000 in
theorem c_X0_init {l : Launch} {D : va_G} {cy : Nat → ClassId} {H : Heap} {q : Nat} (hO : va_at D vwCl (q, .inr (0, [.int 0, .int 0, .null, .int 0, .int 0, .int 0, .int 0, .int 0, .int 0, .int 0, .long 0, .long 0, .int 0, .long 0, .int 0])) H) (number : Int) (kind : Int) {fv : Int → Nat} (plot : Int) {x : Value} (hxx : x = rv fv plot) (person : Int) (since : Int) (measure : Int) (profit : Int) : Met l yX0_init (Cond.code yX0_init cX0_init 8 none :: wG) (rmF 1 40 0 0) (Pc D cy H [.ref q, .int (iI number), .int (iI kind), x, .int (iI person), .int (iI since), .int (iI measure), .int (iI profit)]) (Qm none (fun H' => va_at D vwCl (q, .inr (0, [.int (iI number), .int (iI kind), rv fv plot, .int (iI person), .int (iI since), .int (iI measure), .int (iI profit), .int (iI (-1)), .int 0, .int 0, .long 0, .long 0, .int (iI (-1)), .long 0, .int 0])) H') (fun a => a = q)) 0 0 (fun a => a = q) := by
  subst hxx
  refine met_of (la := [(0, .ref q), (1, .int (iI number)), (2, .int (iI kind)), (3, rv fv plot), (4, .int (iI person)), (5, .int (iI since)), (6, .int (iI measure)), (7, .int (iI profit))]) (by decide) (by simp [lg_sl, rv_cat, cat_i, cat_l, cat_r, cat_n]) (by simp [lv_args, rv_cat, cat_i, cat_l, cat_r, cat_n]) ?_
  intro p e R s m args below meth c ls hRm hx hb hml hr hlk hin hown hts hsH hK hl
  subst hRm
  have hin := hin rfl
  have hown : s.vm.findClass "Takinghall$Interest" = some m.cls := hown
  have hw0 : ∀ w ∈ u_ws RX0 TX0 15, w.before args s = true := fun w h => hts w (uw_X0 w h)
  have hS : va_S (fun a => a = q) s.heap H [] := by rw [hsH]; exact va_S.rf
  refine lv_aload_n hx hb dX0_init_0 rfl (lv_at hl 0 rfl) ?_
  refine W.objInit hx hb hown (hts _ kw_470) (hts _ kw_19) (hts _ kw_20) rfl (by rw [hml]; exact hl.1) rfl dX0_init_1 (Nat.le_of_ble_eq_true rfl) (Nat.le_of_ble_eq_true rfl) ?_
  refine W.eq (g2 := F0 m 4 ls []) rfl ?_
  refine lv_aload_n hx hb dX0_init_4 rfl (lv_at hl 0 rfl) ?_
  refine lv_iconst (v := iI (-1)) hx hb dX0_init_5 rfl ?_
  refine wo_put (v := .int (iI (-1))) hx hb hw0 tyX0 tyX0_ok nmX0 hown hK hO hS rfl 7 (by decide) (hts _ kw_485) rfl (ty := .int) (by decide +kernel) rfl rfl (Nat.le_of_ble_eq_true rfl) dX0_init_6 (fun H locs hO hS => ?_)
  have hO : va_at D vwCl (q, .inr (0, [.int 0, .int 0, .null, .int 0, .int 0, .int 0, .int 0, .int (iI (-1)), .int 0, .int 0, .long 0, .long 0, .int 0, .long 0, .int 0])) H := hO
  refine lv_aload_n hx hb dX0_init_9 rfl (lv_at hl 0 rfl) ?_
  refine lv_iconst (v := iI (-1)) hx hb dX0_init_10 rfl ?_
  refine wo_put (v := .int (iI (-1))) hx hb hw0 tyX0 tyX0_ok nmX0 hown hK hO hS rfl 12 (by decide) (hts _ kw_491) rfl (ty := .int) (by decide +kernel) rfl rfl (Nat.le_of_ble_eq_true rfl) dX0_init_11 (fun H locs hO hS => ?_)
  have hO : va_at D vwCl (q, .inr (0, [.int 0, .int 0, .null, .int 0, .int 0, .int 0, .int 0, .int (iI (-1)), .int 0, .int 0, .long 0, .long 0, .int (iI (-1)), .long 0, .int 0])) H := hO
  refine lv_aload_n hx hb dX0_init_14 rfl (lv_at hl 0 rfl) ?_
  refine lv_iload_n hx hb dX0_init_15 rfl (lv_at hl 1 rfl) ?_
  refine wo_putF (v := .int (iI number)) hx hb hw0 tyX0 tyX0_ok nmX0 hown hK hO hS rfl 0 (by decide) (hts _ kw_471) rfl hin rfl (ty := .int) (by decide +kernel) rfl rfl (Nat.le_of_ble_eq_true rfl) dX0_init_16 (fun H locs hO hS => ?_)
  have hO : va_at D vwCl (q, .inr (0, [.int (iI number), .int 0, .null, .int 0, .int 0, .int 0, .int 0, .int (iI (-1)), .int 0, .int 0, .long 0, .long 0, .int (iI (-1)), .long 0, .int 0])) H := hO
  refine lv_aload_n hx hb dX0_init_19 rfl (lv_at hl 0 rfl) ?_
  refine lv_iload_n hx hb dX0_init_20 rfl (lv_at hl 2 rfl) ?_
  refine wo_putF (v := .int (iI kind)) hx hb hw0 tyX0 tyX0_ok nmX0 hown hK hO hS rfl 1 (by decide) (hts _ kw_473) rfl hin rfl (ty := .int) (by decide +kernel) rfl rfl (Nat.le_of_ble_eq_true rfl) dX0_init_21 (fun H locs hO hS => ?_)
  have hO : va_at D vwCl (q, .inr (0, [.int (iI number), .int (iI kind), .null, .int 0, .int 0, .int 0, .int 0, .int (iI (-1)), .int 0, .int 0, .long 0, .long 0, .int (iI (-1)), .long 0, .int 0])) H := hO
  refine lv_aload_n hx hb dX0_init_24 rfl (lv_at hl 0 rfl) ?_
  refine xr_aload_n hx hb dX0_init_25 rfl (lv_at hl 3 rfl) ?_
  refine wo_putF (v := rv fv plot) hx hb hw0 tyX0 tyX0_ok nmX0 hown hK hO hS rfl 2 (by decide) (hts _ kw_475) rfl hin rfl (ty := (.object "Takinghall$Plot")) (by decide +kernel) (rv_fit _ _ _).1 (rv_fit _ _ _).2 (Nat.le_of_ble_eq_true rfl) dX0_init_26 (fun H locs hO hS => ?_)
  have hO : va_at D vwCl (q, .inr (0, [.int (iI number), .int (iI kind), rv fv plot, .int 0, .int 0, .int 0, .int 0, .int (iI (-1)), .int 0, .int 0, .long 0, .long 0, .int (iI (-1)), .long 0, .int 0])) H := hO
  refine lv_aload_n hx hb dX0_init_29 rfl (lv_at hl 0 rfl) ?_
  refine lv_iload hx hb dX0_init_30 (lv_at hl 4 rfl) ?_
  refine wo_putF (v := .int (iI person)) hx hb hw0 tyX0 tyX0_ok nmX0 hown hK hO hS rfl 3 (by decide) (hts _ kw_477) rfl hin rfl (ty := .int) (by decide +kernel) rfl rfl (Nat.le_of_ble_eq_true rfl) dX0_init_32 (fun H locs hO hS => ?_)
  have hO : va_at D vwCl (q, .inr (0, [.int (iI number), .int (iI kind), rv fv plot, .int (iI person), .int 0, .int 0, .int 0, .int (iI (-1)), .int 0, .int 0, .long 0, .long 0, .int (iI (-1)), .long 0, .int 0])) H := hO
  refine lv_aload_n hx hb dX0_init_35 rfl (lv_at hl 0 rfl) ?_
  refine lv_iload hx hb dX0_init_36 (lv_at hl 5 rfl) ?_
  refine wo_putF (v := .int (iI since)) hx hb hw0 tyX0 tyX0_ok nmX0 hown hK hO hS rfl 4 (by decide) (hts _ kw_479) rfl hin rfl (ty := .int) (by decide +kernel) rfl rfl (Nat.le_of_ble_eq_true rfl) dX0_init_38 (fun H locs hO hS => ?_)
  have hO : va_at D vwCl (q, .inr (0, [.int (iI number), .int (iI kind), rv fv plot, .int (iI person), .int (iI since), .int 0, .int 0, .int (iI (-1)), .int 0, .int 0, .long 0, .long 0, .int (iI (-1)), .long 0, .int 0])) H := hO
  refine lv_aload_n hx hb dX0_init_41 rfl (lv_at hl 0 rfl) ?_
  refine lv_iload hx hb dX0_init_42 (lv_at hl 6 rfl) ?_
  refine wo_putF (v := .int (iI measure)) hx hb hw0 tyX0 tyX0_ok nmX0 hown hK hO hS rfl 5 (by decide) (hts _ kw_481) rfl hin rfl (ty := .int) (by decide +kernel) rfl rfl (Nat.le_of_ble_eq_true rfl) dX0_init_44 (fun H locs hO hS => ?_)
  have hO : va_at D vwCl (q, .inr (0, [.int (iI number), .int (iI kind), rv fv plot, .int (iI person), .int (iI since), .int (iI measure), .int 0, .int (iI (-1)), .int 0, .int 0, .long 0, .long 0, .int (iI (-1)), .long 0, .int 0])) H := hO
  refine lv_aload_n hx hb dX0_init_47 rfl (lv_at hl 0 rfl) ?_
  refine lv_iload hx hb dX0_init_48 (lv_at hl 7 rfl) ?_
  refine wo_putF (v := .int (iI profit)) hx hb hw0 tyX0 tyX0_ok nmX0 hown hK hO hS rfl 6 (by decide) (hts _ kw_483) rfl hin rfl (ty := .int) (by decide +kernel) rfl rfl (Nat.le_of_ble_eq_true rfl) dX0_init_50 (fun H locs hO hS => ?_)
  have hO : va_at D vwCl (q, .inr (0, [.int (iI number), .int (iI kind), rv fv plot, .int (iI person), .int (iI since), .int (iI measure), .int (iI profit), .int (iI (-1)), .int 0, .int 0, .long 0, .long 0, .int (iI (-1)), .long 0, .int 0])) H := hO
  exact xm_v hx hb hr hlk hS dX0_init_53 hO
theorem ms_X1_init : Cond.code yX1_init cX1_init 2 none ∈ wG ∧ Cond.instanceMethod yX1_init ∈ wG ∧ Cond.initialized yX1_init.cls ∈ wG := ⟨kw_32, kw_31, kw_2⟩
set_option maxRecDepth 100000 in
set_option maxHeartbeats 4000000 in
theorem c_X1_init {l : Launch} {D : va_G} {cy : Nat → ClassId} {H : Heap} {q : Nat} (hO : va_at D vwCl (q, .inr (1, [.int 0, .int 0, .int 0, .int 0, .null, .int 0, .int 0, .null, .int 0, .null, .int 0])) H) (number : Int) : Met l yX1_init (Cond.code yX1_init cX1_init 2 none :: wG) (rmF 1 40 0 0) (Pc D cy H [.ref q, .int (iI number)]) (Qm none (fun H' => va_at D vwCl (q, .inr (1, [.int (iI number), .int (iI (10)), .int (iI (0)), .int (iI (0)), .null, .int 0, .int (iI (-1)), .null, .int 0, .null, .int 0])) H') (fun a => a = q)) 0 0 (fun a => a = q) := by
  refine met_of (la := [(0, .ref q), (1, .int (iI number))]) (by decide) (Nat.le_of_ble_eq_true rfl) rfl ?_
  intro p e R s m args below meth c ls hRm hx hb hml hr hlk hin hown hts hsH hK hl
  subst hRm
  have hin := hin rfl
  have hown : s.vm.findClass "Takinghall$Plot" = some m.cls := hown
  have hw1 : ∀ w ∈ u_ws RX1 TX1 11, w.before args s = true := fun w h => hts w (uw_X1 w h)
  have hS : va_S (fun a => a = q) s.heap H [] := by rw [hsH]; exact va_S.rf
  refine lv_aload_n hx hb dX1_init_0 rfl (lv_at hl 0 rfl) ?_
  refine W.objInit hx hb hown (hts _ kw_33) (hts _ kw_19) (hts _ kw_20) rfl (by rw [hml]; exact hl.1) rfl dX1_init_1 (Nat.le_of_ble_eq_true rfl) (Nat.le_of_ble_eq_true rfl) ?_
  refine W.eq (g2 := F0 m 4 ls []) rfl ?_
  refine lv_aload_n hx hb dX1_init_4 rfl (lv_at hl 0 rfl) ?_
  refine lv_bipush (v := iI (10)) hx hb dX1_init_5 (by decide) ?_
  refine wo_put (v := .int (iI (10))) hx hb hw1 tyX1 tyX1_ok nmX1 hown hK hO hS rfl 1 (by decide) (hts _ kw_36) rfl (ty := .int) (by decide +kernel) rfl rfl (Nat.le_of_ble_eq_true rfl) dX1_init_7 (fun H locs hO hS => ?_)
  have hO : va_at D vwCl (q, .inr (1, [.int 0, .int (iI (10)), .int 0, .int 0, .null, .int 0, .int 0, .null, .int 0, .null, .int 0])) H := hO
  refine lv_aload_n hx hb dX1_init_10 rfl (lv_at hl 0 rfl) ?_
  refine lv_iconst (v := iI (0)) hx hb dX1_init_11 rfl ?_
  refine wo_put (v := .int (iI (0))) hx hb hw1 tyX1 tyX1_ok nmX1 hown hK hO hS rfl 2 (by decide) (hts _ kw_38) rfl (ty := .int) (by decide +kernel) rfl rfl (Nat.le_of_ble_eq_true rfl) dX1_init_12 (fun H locs hO hS => ?_)
  have hO : va_at D vwCl (q, .inr (1, [.int 0, .int (iI (10)), .int (iI (0)), .int 0, .null, .int 0, .int 0, .null, .int 0, .null, .int 0])) H := hO
  refine lv_aload_n hx hb dX1_init_15 rfl (lv_at hl 0 rfl) ?_
  refine lv_iconst (v := iI (0)) hx hb dX1_init_16 rfl ?_
  refine wo_put (v := .int (iI (0))) hx hb hw1 tyX1 tyX1_ok nmX1 hown hK hO hS rfl 3 (by decide) (hts _ kw_40) rfl (ty := .int) (by decide +kernel) rfl rfl (Nat.le_of_ble_eq_true rfl) dX1_init_17 (fun H locs hO hS => ?_)
  have hO : va_at D vwCl (q, .inr (1, [.int 0, .int (iI (10)), .int (iI (0)), .int (iI (0)), .null, .int 0, .int 0, .null, .int 0, .null, .int 0])) H := hO
  refine lv_aload_n hx hb dX1_init_20 rfl (lv_at hl 0 rfl) ?_
  refine lv_iconst (v := iI (-1)) hx hb dX1_init_21 rfl ?_
  refine wo_put (v := .int (iI (-1))) hx hb hw1 tyX1 tyX1_ok nmX1 hown hK hO hS rfl 6 (by decide) (hts _ kw_44) rfl (ty := .int) (by decide +kernel) rfl rfl (Nat.le_of_ble_eq_true rfl) dX1_init_22 (fun H locs hO hS => ?_)
  have hO : va_at D vwCl (q, .inr (1, [.int 0, .int (iI (10)), .int (iI (0)), .int (iI (0)), .null, .int 0, .int (iI (-1)), .null, .int 0, .null, .int 0])) H := hO
  refine lv_aload_n hx hb dX1_init_25 rfl (lv_at hl 0 rfl) ?_
  refine lv_iload_n hx hb dX1_init_26 rfl (lv_at hl 1 rfl) ?_
  refine wo_putF (v := .int (iI number)) hx hb hw1 tyX1 tyX1_ok nmX1 hown hK hO hS rfl 0 (by decide) (hts _ kw_34) rfl hin rfl (ty := .int) (by decide +kernel) rfl rfl (Nat.le_of_ble_eq_true rfl) dX1_init_27 (fun H locs hO hS => ?_)
  have hO : va_at D vwCl (q, .inr (1, [.int (iI number), .int (iI (10)), .int (iI (0)), .int (iI (0)), .null, .int 0, .int (iI (-1)), .null, .int 0, .null, .int 0])) H := hO
  exact xm_v hx hb hr hlk hS dX1_init_30 hO
theorem ms_X2_init : Cond.code yX2_init cX2_init 4 none ∈ wG ∧ Cond.instanceMethod yX2_init ∈ wG ∧ Cond.initialized yX2_init.cls ∈ wG := ⟨kw_76, kw_75, kw_3⟩
set_option maxRecDepth 100000 in
set_option maxHeartbeats 4000000 in
theorem c_X2_init {l : Launch} {D : va_G} {cy : Nat → ClassId} {H : Heap} {q : Nat} (hO : va_at D vwCl (q, .inr (2, [.int 0, .int 0, .null])) H) (day : Int) (cents : Int) {fv : Int → Nat} (earlier : Int) {x : Value} (hxx : x = rv fv earlier) : Met l yX2_init (Cond.code yX2_init cX2_init 4 none :: wG) (rmF 1 40 0 0) (Pc D cy H [.ref q, .int (iI day), .int (iI cents), x]) (Qm none (fun H' => va_at D vwCl (q, .inr (2, [.int (iI day), .int (iI cents), rv fv earlier])) H') (fun a => a = q)) 0 0 (fun a => a = q) := by
  subst hxx
  refine met_of (la := [(0, .ref q), (1, .int (iI day)), (2, .int (iI cents)), (3, rv fv earlier)]) (by decide) (by simp [lg_sl, rv_cat, cat_i, cat_l, cat_r, cat_n]) (by simp [lv_args, rv_cat, cat_i, cat_l, cat_r, cat_n]) ?_
  intro p e R s m args below meth c ls hRm hx hb hml hr hlk hin hown hts hsH hK hl
  subst hRm
  have hin := hin rfl
  have hown : s.vm.findClass "Takinghall$Price" = some m.cls := hown
  have hw2 : ∀ w ∈ u_ws RX2 TX2 3, w.before args s = true := fun w h => hts w (uw_X2 w h)
  have hS : va_S (fun a => a = q) s.heap H [] := by rw [hsH]; exact va_S.rf
  refine lv_aload_n hx hb dX2_init_0 rfl (lv_at hl 0 rfl) ?_
  refine W.objInit hx hb hown (hts _ kw_77) (hts _ kw_19) (hts _ kw_20) rfl (by rw [hml]; exact hl.1) rfl dX2_init_1 (Nat.le_of_ble_eq_true rfl) (Nat.le_of_ble_eq_true rfl) ?_
  refine W.eq (g2 := F0 m 4 ls []) rfl ?_
  refine lv_aload_n hx hb dX2_init_4 rfl (lv_at hl 0 rfl) ?_
  refine lv_iload_n hx hb dX2_init_5 rfl (lv_at hl 1 rfl) ?_
  refine wo_putF (v := .int (iI day)) hx hb hw2 tyX2 tyX2_ok nmX2 hown hK hO hS rfl 0 (by decide) (hts _ kw_78) rfl hin rfl (ty := .int) (by decide +kernel) rfl rfl (Nat.le_of_ble_eq_true rfl) dX2_init_6 (fun H locs hO hS => ?_)
  have hO : va_at D vwCl (q, .inr (2, [.int (iI day), .int 0, .null])) H := hO
  refine lv_aload_n hx hb dX2_init_9 rfl (lv_at hl 0 rfl) ?_
  refine lv_iload_n hx hb dX2_init_10 rfl (lv_at hl 2 rfl) ?_
  refine wo_putF (v := .int (iI cents)) hx hb hw2 tyX2 tyX2_ok nmX2 hown hK hO hS rfl 1 (by decide) (hts _ kw_80) rfl hin rfl (ty := .int) (by decide +kernel) rfl rfl (Nat.le_of_ble_eq_true rfl) dX2_init_11 (fun H locs hO hS => ?_)
  have hO : va_at D vwCl (q, .inr (2, [.int (iI day), .int (iI cents), .null])) H := hO
  refine lv_aload_n hx hb dX2_init_14 rfl (lv_at hl 0 rfl) ?_
  refine xr_aload_n hx hb dX2_init_15 rfl (lv_at hl 3 rfl) ?_
  refine wo_putF (v := rv fv earlier) hx hb hw2 tyX2 tyX2_ok nmX2 hown hK hO hS rfl 2 (by decide) (hts _ kw_82) rfl hin rfl (ty := (.object "Takinghall$Price")) (by decide +kernel) (rv_fit _ _ _).1 (rv_fit _ _ _).2 (Nat.le_of_ble_eq_true rfl) dX2_init_16 (fun H locs hO hS => ?_)
  have hO : va_at D vwCl (q, .inr (2, [.int (iI day), .int (iI cents), rv fv earlier])) H := hO
  exact xm_v hx hb hr hlk hS dX2_init_19 hO
theorem ms_X3_init : Cond.code yX3_init cX3_init 4 none ∈ wG ∧ Cond.instanceMethod yX3_init ∈ wG ∧ Cond.initialized yX3_init.cls ∈ wG := ⟨kw_315, kw_314, kw_10⟩
set_option maxRecDepth 100000 in
set_option maxHeartbeats 4000000 in
theorem c_X3_init {l : Launch} {D : va_G} {cy : Nat → ClassId} {H : Heap} {q : Nat} (hO : va_at D vwCl (q, .inr (3, [.int 0, .int 0, .int 0, .int 0, .int 0, .int 0])) H) (number : Int) (harm : Int) (rise : Int) : Met l yX3_init (Cond.code yX3_init cX3_init 4 none :: wG) (rmF 1 40 0 0) (Pc D cy H [.ref q, .int (iI number), .int (iI harm), .int (iI rise)]) (Qm none (fun H' => va_at D vwCl (q, .inr (3, [.int (iI number), .int (iI harm), .int (iI rise), .int (iI (0)), .int (iI (-1)), .int (iI (-1))])) H') (fun a => a = q)) 0 0 (fun a => a = q) := by
  refine met_of (la := [(0, .ref q), (1, .int (iI number)), (2, .int (iI harm)), (3, .int (iI rise))]) (by decide) (Nat.le_of_ble_eq_true rfl) rfl ?_
  intro p e R s m args below meth c ls hRm hx hb hml hr hlk hin hown hts hsH hK hl
  subst hRm
  have hin := hin rfl
  have hown : s.vm.findClass "Takinghall$Scheme" = some m.cls := hown
  have hw3 : ∀ w ∈ u_ws RX3 TX3 6, w.before args s = true := fun w h => hts w (uw_X3 w h)
  have hS : va_S (fun a => a = q) s.heap H [] := by rw [hsH]; exact va_S.rf
  refine lv_aload_n hx hb dX3_init_0 rfl (lv_at hl 0 rfl) ?_
  refine W.objInit hx hb hown (hts _ kw_316) (hts _ kw_19) (hts _ kw_20) rfl (by rw [hml]; exact hl.1) rfl dX3_init_1 (Nat.le_of_ble_eq_true rfl) (Nat.le_of_ble_eq_true rfl) ?_
  refine W.eq (g2 := F0 m 4 ls []) rfl ?_
  refine lv_aload_n hx hb dX3_init_4 rfl (lv_at hl 0 rfl) ?_
  refine lv_iconst (v := iI (0)) hx hb dX3_init_5 rfl ?_
  refine wo_put (v := .int (iI (0))) hx hb hw3 tyX3 tyX3_ok nmX3 hown hK hO hS rfl 3 (by decide) (hts _ kw_323) rfl (ty := .int) (by decide +kernel) rfl rfl (Nat.le_of_ble_eq_true rfl) dX3_init_6 (fun H locs hO hS => ?_)
  have hO : va_at D vwCl (q, .inr (3, [.int 0, .int 0, .int 0, .int (iI (0)), .int 0, .int 0])) H := hO
  refine lv_aload_n hx hb dX3_init_9 rfl (lv_at hl 0 rfl) ?_
  refine lv_iconst (v := iI (-1)) hx hb dX3_init_10 rfl ?_
  refine wo_put (v := .int (iI (-1))) hx hb hw3 tyX3 tyX3_ok nmX3 hown hK hO hS rfl 4 (by decide) (hts _ kw_325) rfl (ty := .int) (by decide +kernel) rfl rfl (Nat.le_of_ble_eq_true rfl) dX3_init_11 (fun H locs hO hS => ?_)
  have hO : va_at D vwCl (q, .inr (3, [.int 0, .int 0, .int 0, .int (iI (0)), .int (iI (-1)), .int 0])) H := hO
  refine lv_aload_n hx hb dX3_init_14 rfl (lv_at hl 0 rfl) ?_
  refine lv_iconst (v := iI (-1)) hx hb dX3_init_15 rfl ?_
  refine wo_put (v := .int (iI (-1))) hx hb hw3 tyX3 tyX3_ok nmX3 hown hK hO hS rfl 5 (by decide) (hts _ kw_327) rfl (ty := .int) (by decide +kernel) rfl rfl (Nat.le_of_ble_eq_true rfl) dX3_init_16 (fun H locs hO hS => ?_)
  have hO : va_at D vwCl (q, .inr (3, [.int 0, .int 0, .int 0, .int (iI (0)), .int (iI (-1)), .int (iI (-1))])) H := hO
  refine lv_aload_n hx hb dX3_init_19 rfl (lv_at hl 0 rfl) ?_
  refine lv_iload_n hx hb dX3_init_20 rfl (lv_at hl 1 rfl) ?_
  refine wo_putF (v := .int (iI number)) hx hb hw3 tyX3 tyX3_ok nmX3 hown hK hO hS rfl 0 (by decide) (hts _ kw_317) rfl hin rfl (ty := .int) (by decide +kernel) rfl rfl (Nat.le_of_ble_eq_true rfl) dX3_init_21 (fun H locs hO hS => ?_)
  have hO : va_at D vwCl (q, .inr (3, [.int (iI number), .int 0, .int 0, .int (iI (0)), .int (iI (-1)), .int (iI (-1))])) H := hO
  refine lv_aload_n hx hb dX3_init_24 rfl (lv_at hl 0 rfl) ?_
  refine lv_iload_n hx hb dX3_init_25 rfl (lv_at hl 2 rfl) ?_
  refine wo_putF (v := .int (iI harm)) hx hb hw3 tyX3 tyX3_ok nmX3 hown hK hO hS rfl 1 (by decide) (hts _ kw_319) rfl hin rfl (ty := .int) (by decide +kernel) rfl rfl (Nat.le_of_ble_eq_true rfl) dX3_init_26 (fun H locs hO hS => ?_)
  have hO : va_at D vwCl (q, .inr (3, [.int (iI number), .int (iI harm), .int 0, .int (iI (0)), .int (iI (-1)), .int (iI (-1))])) H := hO
  refine lv_aload_n hx hb dX3_init_29 rfl (lv_at hl 0 rfl) ?_
  refine lv_iload_n hx hb dX3_init_30 rfl (lv_at hl 3 rfl) ?_
  refine wo_putF (v := .int (iI rise)) hx hb hw3 tyX3 tyX3_ok nmX3 hown hK hO hS rfl 2 (by decide) (hts _ kw_321) rfl hin rfl (ty := .int) (by decide +kernel) rfl rfl (Nat.le_of_ble_eq_true rfl) dX3_init_31 (fun H locs hO hS => ?_)
  have hO : va_at D vwCl (q, .inr (3, [.int (iI number), .int (iI harm), .int (iI rise), .int (iI (0)), .int (iI (-1)), .int (iI (-1))])) H := hO
  exact xm_v hx hb hr hlk hS dX3_init_34 hO
