/-! the law's cases -/
def SimX (hk : List Int) (e1 e2 r rM : Int) (sg T mu2 : Nat → Int → Int) : Prop := SimP hk e1 e2 r rM ∧ Rel (if e1 = 0 then T else sg) mu2 ∧ GC (if e1 = 0 then T else sg) ∧ GM mu2 ∧ mu2 900 0 = e2 ∧ (if e1 = 0 then T else sg : Nat → Int → Int) 702 0 ≤ sg 702 0 + 1
theorem simX_w {hk : List Int} {e1 e2 r rM : Int} {sg T mu TM : Nat → Int → Int} (h : SimW hk e1 e2 r rM sg T mu TM) (h9 : TM 900 0 = 0) (h7 : T 702 0 ≤ sg 702 0 + 1) : SimX hk e1 e2 r rM sg T (mT mu e2 TM) := by
  refine ⟨h.1, h.2.1, h.2.2.1, h.2.2.2, mT_900 h9, ?_⟩
  by_cases z : e1 = 0
  · rw [if_pos z]; exact h7
  · rw [if_neg z]; omega
theorem simX_p {hk : List Int} {e1 e2 r rM : Int} {sg mu : Nat → Int → Int} (h : SimP hk e1 e2 r rM) (hR : Rel sg mu) (hG : GC sg) (hM : GM mu) : SimX hk e1 e2 r rM sg sg (st mu 900 0 e2) := by
  refine ⟨h, ?_, ?_, gc_900 hM 0 ⟨h.2.2.2.1, h.2.2.2.2⟩, st_s, ?_⟩
  · rw [ite_self]; exact Rel9 hR _
  · rw [ite_self]; exact hG
  · rw [ite_self]; omega
theorem mtk_9 {mu : Nat → Int → Int} (p : Int) (h : mu 900 0 = 0) : mtkT mu p 900 0 = 0 := by
  unfold mtkT mtk3
  rw [st_f (by decide), mtk_f (by decide)]
  exact h
theorem mps_9 {s : Nat → Int → Int} : ∀ n : Nat, s 900 0 = 0 → mpsN s n 900 0 = 0
  | 0, h => h
  | n + 1, h => mps_9 n h
theorem mdr_9 {s : Nat → Int → Int} {w : Int} : ∀ n : Nat, s 900 0 = 0 → mdrN s w n 900 0 = 0
  | 0, h => h
  | n + 1, h => by
    have ih := mdr_9 (s := s) (w := w) n h
    show (if mdrN s w n 1006 n = w ∧ mdrN s w n 1005 n = 0 then mLgT (mdrN s w n) n else if mdrN s w n 1006 n = w then mdr3 (mdrN s w n) n else mdrN s w n : Nat → Int → Int) 900 0 = 0
    split
    · exact ih
    · split
      · exact ih
      · exact ih
theorem tkT_7 {sg : Nat → Int → Int} {j : Int} : tkT sg j 702 0 = sg 702 0 := by
  unfold tkT tk3
  rw [st_f (by decide), st_f (by decide), tk_f (by decide) (by decide)]
  rfl
theorem dropT_7 {sg : Nat → Int → Int} {w : Int} : dropT sg w 702 0 = sg 702 0 := by
  unfold dropT
  rw [st_f (by decide), st_f (by decide), dr_f (by decide) (by decide) (by decide) (by decide) (by decide) (by decide) (by decide)]
/-- what the loop goes on with -/
def LK (p : Program) (l : Launch) (e : Env) (s : State) (m : MethodId) (below : List Frame) (meth : Method) (c : Code) (b : Nat) (D : va_G) (cy : Nat → ClassId) (A A2 : Nat → Prop) (b0 N0 : Nat) (adM : Nat → Int → Nat) (i cells slots : Nat) (Q : State → Prop) (sg : Nat → Int → Int) : Prop :=
  ∀ (ad' : Nat → Int → Nat) (sg' mu' : Nat → Int → Int) (H' : Heap) (locs' : List Loc) (ls' : Array Slot), LI D cy A A2 s b0 N0 ad' adM sg' mu' H' locs' → sg' 702 0 ≤ sg 702 0 + 1 → lv_has ls' 8 [(0, .ref b), (1, .ref (ad' 4 0)), (2, .ref (adM 5 0)), (3, .ref b0), (4, .int (iI (i : Int)))] → W p l e room_1 s m #[Value.ref b] below meth c H' locs' (cells + 1) (slots + 15) Q (F0 m 2095 ls' [])
theorem r32_plot {sg : Nat → Int → Int} (hG : GC sg) (x : Int) (a : Int) (u : Int) (hT : plotE sg x a u = 0) : in32 (sg 201 (pAt x)) := by have z0 := gr_201 hG (pAt x); omega
theorem r32_price {sg : Nat → Int → Int} (hG : GC sg) (u : Int) (ce : Int) (hT : priceE u ce = 0) : in32 (centsO sg (prOn sg u (sg 506 0))) := by have z0 := centsO_rng hG (prOn sg u (sg 506 0)); omega
theorem r32_worth {sg : Nat → Int → Int} (hG : GC sg) (x : Int) (d : Int) (hT : worthE sg x d = 0) : in32 (worthB sg (pAt x) (prOn sg (sg 202 (pAt x)) d)) := by have z0 := worthB_rng hG (pAt x) (prOn sg (sg 202 (pAt x)) d); omega
theorem r32_market {sg : Nat → Int → Int} (hG : GC sg) (x : Int) (hT : pE x = 0) : in32 (marketR sg (pAt x)) := by have z0 := worthT_rng hG (pAt x); unfold marketR; (repeat' split) <;> omega
theorem r32_plotOf {sg : Nat → Int → Int} (hG : GC sg) (x : Int) (w : Int) (hT : plotOfE x w = 0) : in32 (plotOfR sg (pAt x) w) := by have z0 := gr_201 hG (pAt x); have z1 := gr_202 hG (pAt x); have z2 := gr_203 hG (pAt x); have z3 := needO_rng hG (pAt x); have z4 := gr_205 hG (pAt x); have z5 := gr_206 hG (pAt x); have z6 := gr_209 hG (pAt x); have z7 := gr_210 hG (pAt x); unfold plotOfR opt; (repeat' split) <;> omega
theorem r32_own {sg : Nat → Int → Int} (hG : GC sg) (x : Int) (u : Int) (sh : Int) (hT : ownE sg x u sh = 0) : in32 (sg 503 0) := by have z0 := gr_503 hG 0; omega
theorem r32_lease {sg : Nat → Int → Int} (hG : GC sg) (x : Int) (u : Int) (til : Int) (pr : Int) (hT : leaseE sg x u til pr = 0) : in32 (sg 503 0) := by have z0 := gr_503 hG 0; omega
theorem r32_charge {sg : Nat → Int → Int} (hG : GC sg) (x : Int) (u : Int) (ms : Int) (hT : chargeE sg x u ms = 0) : in32 (sg 503 0) := by have z0 := gr_503 hG 0; omega
theorem r32_scheme {sg : Nat → Int → Int} (hG : GC sg) (a : Int) (b : Int) (hT : schemeE sg a b = 0) : in32 (sg 505 0) := by have z0 := gr_505 hG 0; omega
theorem r32_draw {sg : Nat → Int → Int} (hG : GC sg) (w : Int) (x : Int) (a : Int) (hT : drawE sg w x a = 0) : in32 (cntNeed (st (st sg 204 (pAt x) (sAt sg w)) 205 (pAt x) a) (sAt sg w)) := by have z0 := cntNeed_rng (st (st sg 204 (pAt x) (sAt sg w)) 205 (pAt x) a) (sAt sg w); omega
theorem r32_notice {sg : Nat → Int → Int} (hG : GC sg) (x : Int) (hT : noticeE sg x = 0) : in32 (draftO sg (sg 102 (iAt sg x))) := by have z0 := draftO_rng hG (sg 102 (iAt sg x)); omega
theorem r32_object {sg : Nat → Int → Int} (hG : GC sg) (x : Int) (hT : objectE sg x = 0) : in32 (cntOpen (st (st sg 108 (iAt sg x) 1) 109 (iAt sg x) 1) (draftO sg (sg 102 (iAt sg x)))) := by have z0 := cntOpen_rng (st (st sg 108 (iAt sg x) 1) 109 (iAt sg x) 1) (draftO sg (sg 102 (iAt sg x))); omega
theorem r32_hear {sg : Nat → Int → Int} (hG : GC sg) (x : Int) (b : Int) (hT : hearE sg x = 0) : in32 (cntOpen (hearT sg x b) (draftO sg (sg 102 (iAt sg x)))) := by have z0 := cntOpen_rng (hearT sg x b) (draftO sg (sg 102 (iAt sg x))); omega
theorem r32_confirm {sg : Nat → Int → Int} (hG : GC sg) (w : Int) (hT : confirmE sg w = 0) : in32 (cntFree sg (sAt sg w)) := by have z0 := cntFree_rng sg (sAt sg w); omega
theorem r32_whoStops {sg : Nat → Int → Int} (hG : GC sg) (w : Int) (hT : sE sg w = 0) : in32 (whoR sg (sAt sg w)) := by have z0 := stopper_rng (sg := sg) (sAt sg w); unfold whoR; try unfold opt; (repeat' split) <;> omega
theorem r32_drop {sg : Nat → Int → Int} (hG : GC sg) (w : Int) (hT : dropE sg w = 0) : in32 (drC sg (sAt sg w) 36) := by have z0 := drC_rng (sg := sg) (w := sAt sg w) 36; omega
theorem r32_schemeOf {sg : Nat → Int → Int} (hG : GC sg) (x : Int) (w : Int) (hT : schemeOfE sg x w = 0) : in32 (schemeOfR sg (sAt sg x) w) := by have z0 := gr_403 hG (sAt sg x); have z1 := cntNeed_rng sg (sAt sg x); have z2 := gr_404 hG (sAt sg x); have z3 := gr_405 hG (sAt sg x); unfold schemeOfR; (repeat' split) <;> omega
theorem r32_enter {sg : Nat → Int → Int} (hG : GC sg) (h2 : sg 702 0 ≤ 1000000) (x : Int) (hT : enterE sg x = 0) : in32 (landO (tk2 sg (pAt x)) (pAt x)) := by have z0 := landO_rng (gc_tk2 hG (pAt x) h2) (pAt x); omega
theorem r32_blight {sg : Nat → Int → Int} (hG : GC sg) (h2 : sg 702 0 ≤ 1000000) (x : Int) (hT : blightE sg x = 0) : in32 (landO (tk2 (st sg 205 (sg 102 (iAt sg x)) 100) (sg 102 (iAt sg x))) (sg 102 (iAt sg x))) := by have z0 := landO_rng (gc_tk2 (gc_205 hG (sg 102 (iAt sg x)) (v := 100) (by decide)) (sg 102 (iAt sg x)) h2) (sg 102 (iAt sg x)); omega
theorem r32_works {sg : Nat → Int → Int} (hG : GC sg) (x : Int) (hT : worksE sg x = 0) : in32 (cntWorks (st sg 208 (pAt x) 1)) := by have z0 := sum_b (f := fun q => bI (st sg 208 (pAt x) 1 208 q ≠ 0)) (M := 1) (fun i => bI_in _) 36; unfold cntWorks; omega
theorem r32_refuse {sg : Nat → Int → Int} (hG : GC sg) (x : Int) (hT : offE sg x = 0) : in32 (opt (ownBeh sg (pAt x) (sg 209 (pAt x)))) := by have z0 := ownBeh_rng hG (pAt x) (sg 209 (pAt x)); have z1 := gr_503 hG 0; unfold opt; split <;> omega
theorem r32_accept {sg : Nat → Int → Int} (hG : GC sg) (x : Int) (hT : offE sg x = 0) : in32 (sg 210 (pAt x)) := by have z0 := gr_210 hG (pAt x); omega
theorem r32_pass {sg : Nat → Int → Int} (hG : GC sg) (d : Int) (hT : passE sg d = 0) : in32 (sg 506 0 + d) := by have z0 := gr_506 hG 0; unfold passE at hT; (repeat' split at hT) <;> omega
theorem r32_creditors {sg : Nat → Int → Int} (hG : GC sg) (u : Int) (hT : credE u = 0) : in32 (credR sg u) := by have z0 := sum_b (f := fun q => bI (q < sg 503 0 ∧ sg 103 q = u ∧ 0 < owedO sg q)) (M := 1) (fun i => bI_in _) 24; unfold credR; omega
section LC
variable {p : Program} {l : Launch} {e : Env} {s : State} {m : MethodId} {below : List Frame} {meth : Method} {c : Code} {H : Heap} {locs : List Loc} {cells slots : Nat} {Q : State → Prop}
variable {ls : Array Slot} {D : va_G} {cy : Nat → ClassId} {A A2 : Nat → Prop} {b L i b0 N0 : Nat} {xs : Nat → Int32} {ad adM : Nat → Int → Nat} {sg mu : Nat → Int → Int}
set_option maxRecDepth 100000 in
set_option maxHeartbeats 4000000 in
theorem law_c0 (E : LE p l s m meth c b L xs D cy A A2 b0 N0) (I : LI D cy A A2 s b0 N0 ad adM sg mu H locs) (hi : i + 5 ≤ L) (h2 : sg 702 0 ≤ 1000000) (hc : cells + 1 ≤ 601024) (hs : slots + 15 ≤ 7293034) (hl : lv_has ls 8 [(0, .ref b), (1, .ref (ad 4 0)), (2, .ref (adM 5 0)), (3, .ref b0), (4, .int (iI (i : Int)))]) (kk : LK p l e s m below meth c b D cy A A2 b0 N0 adM i cells slots Q sg) : W p l e room_1 s m #[Value.ref b] below meth c H locs cells slots Q (F0 m 176 ls []) := by
  have E0 := E
  have I0 := I
  obtain ⟨⟨hx, hb, -, hml, hown, hts0, hX, hbl, -, -⟩, hl0, hK, hXS, hN, hA, hA2, hA3, hb0, hL⟩ := E
  obtain ⟨hR, hRM, ⟨g0, hB⟩, hRel, hG, hGM, hS, hz⟩ := I
  have hts : ∀ w ∈ wG, w.before #[Value.ref b] s = true := fun w hw => hts0 w (List.mem_filter.mp hw).1
  have hAH : ∀ q : Nat, H.size ≤ q → A q := fun q h => hA q (Nat.le_trans hz h)
  have hbA : ¬ A b0 := fun z => (hA2 _ z).2.2 rfl
  have hown : s.vm.findClass "TakinghallLaw" = some m.cls := hown
  have X := simX_w (s_plot hRel hG hGM (xo xs (i + 1)) (xo xs (i + 2)) (xo xs (i + 3))) (rfl) (by show sg 702 0 ≤ _; omega)
  refine lv_aload_n hx hb dL_law_176 rfl (lv_at hl 1 rfl) ?_
  refine xr_arg (P := 177) (j := i + 1) hx hb hX hbl hS hL (by omega) (by omega) (lv_at hl 0 rfl) (lv_at hl 4 rfl) dL_law_177 dL_law_178 dL_law_180 dL_law_181 dL_law_182 ?_
  refine xr_arg (P := 183) (j := i + 2) hx hb hX hbl hS hL (by omega) (by omega) (lv_at hl 0 rfl) (lv_at hl 4 rfl) dL_law_183 dL_law_184 dL_law_186 dL_law_187 dL_law_188 ?_
  refine xr_arg (P := 189) (j := i + 3) hx hb hX hbl hS hL (by omega) (by omega) (lv_at hl 0 rfl) (lv_at hl 4 rfl) dL_law_189 dL_law_190 dL_law_192 dL_law_193 dL_law_194 ?_
  refine lv_aload_n hx hb dL_law_195 rfl (lv_at hl 3 rfl) ?_
  refine law_w1 (P := 196) E0 I0 X.1 (by decide) (by decide) (xr_SW (As := [.ref (ad 4 0), .int (iI (xo xs (i + 1))), .int (iI (xo xs (i + 2))), .int (iI (xo xs (i + 3))), .ref b0]) (rest := []) hx hb hml hown hts hK hXS hN hS (fun q z => (hA2 q z).1) (c_L_plot hR hG hl0 hAH hB hbA (xo xs (i + 1)) (xo xs (i + 2)) (xo xs (i + 3)) (xo_in _ _) (xo_in _ _) (xo_in _ _)) ms_L_plot kw_133 ⟨Nat.le_of_ble_eq_true rfl, Nat.le_of_ble_eq_true rfl⟩ ⟨hc, Nat.le_trans (Nat.add_le_add_left (by decide) _) hs⟩ rfl rfl hl.1 rfl (lv_room (Nat.le_of_ble_eq_true rfl)) dL_law_196) hl dL_law_199 (fun ad1 g H1 locs1 ls hR1 hM1 hB1 hg1 hS1 hz1 hl => ?_)
  refine lv_aload_n hx hb dL_law_201 rfl (lv_at hl 3 rfl) ?_
  refine xr_arg (P := 202) (j := i + 1) hx hb hX hbl hS1 hL (by omega) (by omega) (lv_at hl 1 rfl) (lv_at hl 5 rfl) dL_law_202 dL_law_203 dL_law_205 dL_law_206 dL_law_207 ?_
  refine xr_arg (P := 208) (j := i + 2) hx hb hX hbl hS1 hL (by omega) (by omega) (lv_at hl 1 rfl) (lv_at hl 5 rfl) dL_law_208 dL_law_209 dL_law_211 dL_law_212 dL_law_213 ?_
  refine xr_arg (P := 214) (j := i + 3) hx hb hX hbl hS1 hL (by omega) (by omega) (lv_at hl 1 rfl) (lv_at hl 5 rfl) dL_law_214 dL_law_215 dL_law_217 dL_law_218 dL_law_219 ?_
  refine law_w2 (P := 220) E0 (xr_V (As := [.int (iI (xo xs (i + 1))), .int (iI (xo xs (i + 2))), .int (iI (xo xs (i + 3)))]) (rest := []) hx hb hml hown hts hK (c_X5_plot hM1 hGM (xo xs (i + 1)) (xo xs (i + 2)) (xo xs (i + 3)) (xo_in _ _) (xo_in _ _) (xo_in _ _)) ms_X5_plot kw_861 (wr_recv hK hM1 (md_5 hGM) rfl rfl) ⟨Nat.le_of_ble_eq_true rfl, Nat.le_of_ble_eq_true rfl⟩ ⟨hc, hs⟩ rfl rfl hl.1 rfl (lv_room (Nat.le_of_ble_eq_true rfl)) dL_law_220) hR1 hB1 hS1 hz1 (fun H2 locs2 hR2 hM2 hB2 hS2 hz2 => ?_)
  refine law_ti (P := 223) E0 hml hown hts hM2 X.2.2.2.1 hB2 ⟨X.1.2.2.2.1, X.1.2.2.2.2⟩ X.2.2.2.2.1 (fun z => ?_) hg1 ⟨Nat.le_of_ble_eq_true rfl, Nat.le_of_ble_eq_true rfl⟩ ⟨hc, hs⟩ hl dL_law_223 dL_law_225 dL_law_226 dL_law_229 dL_law_231 dL_law_236 dL_law_238 dL_law_241 dL_law_242 dL_law_243 dL_law_244 dL_law_246 dL_law_247 dL_law_248 dL_law_253 (by decide) (fun ls hl => ?_)
  · have hT := X.1.2.1.mpr z
    rw [← X.1.2.2.1 hT]
    exact r32_plot hG (xo xs (i + 1)) (xo xs (i + 2)) (xo xs (i + 3)) hT
  · exact kk ad1 _ _ H2 locs2 ls ⟨hR2, hM2, ⟨g, hB2⟩, X.2.1, X.2.2.1, X.2.2.2.1, hS2, hz2⟩ X.2.2.2.2.2 hl
set_option maxRecDepth 100000 in
set_option maxHeartbeats 4000000 in
theorem law_c1 (E : LE p l s m meth c b L xs D cy A A2 b0 N0) (I : LI D cy A A2 s b0 N0 ad adM sg mu H locs) (hi : i + 5 ≤ L) (h2 : sg 702 0 ≤ 1000000) (hc : cells + 1 ≤ 601024) (hs : slots + 15 ≤ 7293034) (hl : lv_has ls 8 [(0, .ref b), (1, .ref (ad 4 0)), (2, .ref (adM 5 0)), (3, .ref b0), (4, .int (iI (i : Int)))]) (kk : LK p l e s m below meth c b D cy A A2 b0 N0 adM i cells slots Q sg) : W p l e room_1 s m #[Value.ref b] below meth c H locs cells slots Q (F0 m 256 ls []) := by
  have E0 := E
  have I0 := I
  obtain ⟨⟨hx, hb, -, hml, hown, hts0, hX, hbl, -, -⟩, hl0, hK, hXS, hN, hA, hA2, hA3, hb0, hL⟩ := E
  obtain ⟨hR, hRM, ⟨g0, hB⟩, hRel, hG, hGM, hS, hz⟩ := I
  have hts : ∀ w ∈ wG, w.before #[Value.ref b] s = true := fun w hw => hts0 w (List.mem_filter.mp hw).1
  have hAH : ∀ q : Nat, H.size ≤ q → A q := fun q h => hA q (Nat.le_trans hz h)
  have hbA : ¬ A b0 := fun z => (hA2 _ z).2.2 rfl
  have hown : s.vm.findClass "TakinghallLaw" = some m.cls := hown
  have X := simX_w (s_price hRel hG hGM h2 (xo xs (i + 1)) (xo xs (i + 2))) (rfl) (by rw [pr_702]; omega)
  refine lv_aload_n hx hb dL_law_256 rfl (lv_at hl 1 rfl) ?_
  refine xr_arg (P := 257) (j := i + 1) hx hb hX hbl hS hL (by omega) (by omega) (lv_at hl 0 rfl) (lv_at hl 4 rfl) dL_law_257 dL_law_258 dL_law_260 dL_law_261 dL_law_262 ?_
  refine xr_arg (P := 263) (j := i + 2) hx hb hX hbl hS hL (by omega) (by omega) (lv_at hl 0 rfl) (lv_at hl 4 rfl) dL_law_263 dL_law_264 dL_law_266 dL_law_267 dL_law_268 ?_
  refine lv_aload_n hx hb dL_law_269 rfl (lv_at hl 3 rfl) ?_
  refine law_w1 (P := 270) E0 I0 X.1 (by decide) (by decide) (xr_SW (As := [.ref (ad 4 0), .int (iI (xo xs (i + 1))), .int (iI (xo xs (i + 2))), .ref b0]) (rest := []) hx hb hml hown hts hK hXS hN hS (fun q z => (hA2 q z).1) (c_L_price hR hG hl0 hAH hB hbA (xo xs (i + 1)) (xo xs (i + 2)) (xo_in _ _) (xo_in _ _)) ms_L_price kw_259 ⟨Nat.le_of_ble_eq_true rfl, Nat.le_of_ble_eq_true rfl⟩ ⟨hc, Nat.le_trans (Nat.add_le_add_left (by decide) _) hs⟩ rfl rfl hl.1 rfl (lv_room (Nat.le_of_ble_eq_true rfl)) dL_law_270) hl dL_law_273 (fun ad1 g H1 locs1 ls hR1 hM1 hB1 hg1 hS1 hz1 hl => ?_)
  refine lv_aload_n hx hb dL_law_275 rfl (lv_at hl 3 rfl) ?_
  refine xr_arg (P := 276) (j := i + 1) hx hb hX hbl hS1 hL (by omega) (by omega) (lv_at hl 1 rfl) (lv_at hl 5 rfl) dL_law_276 dL_law_277 dL_law_279 dL_law_280 dL_law_281 ?_
  refine xr_arg (P := 282) (j := i + 2) hx hb hX hbl hS1 hL (by omega) (by omega) (lv_at hl 1 rfl) (lv_at hl 5 rfl) dL_law_282 dL_law_283 dL_law_285 dL_law_286 dL_law_287 ?_
  refine law_w2 (P := 288) E0 (xr_V (As := [.int (iI (xo xs (i + 1))), .int (iI (xo xs (i + 2)))]) (rest := []) hx hb hml hown hts hK (c_X5_price hM1 hGM (xo xs (i + 1)) (xo xs (i + 2)) (xo_in _ _) (xo_in _ _)) ms_X5_price kw_877 (wr_recv hK hM1 (md_5 hGM) rfl rfl) ⟨Nat.le_of_ble_eq_true rfl, Nat.le_of_ble_eq_true rfl⟩ ⟨hc, hs⟩ rfl rfl hl.1 rfl (lv_room (Nat.le_of_ble_eq_true rfl)) dL_law_288) hR1 hB1 hS1 hz1 (fun H2 locs2 hR2 hM2 hB2 hS2 hz2 => ?_)
  refine law_ti (P := 291) E0 hml hown hts hM2 X.2.2.2.1 hB2 ⟨X.1.2.2.2.1, X.1.2.2.2.2⟩ X.2.2.2.2.1 (fun z => ?_) hg1 ⟨Nat.le_of_ble_eq_true rfl, Nat.le_of_ble_eq_true rfl⟩ ⟨hc, hs⟩ hl dL_law_291 dL_law_293 dL_law_294 dL_law_297 dL_law_299 dL_law_304 dL_law_306 dL_law_309 dL_law_310 dL_law_311 dL_law_312 dL_law_314 dL_law_315 dL_law_316 dL_law_321 (by decide) (fun ls hl => ?_)
  · have hT := X.1.2.1.mpr z
    rw [← X.1.2.2.1 hT]
    exact r32_price hG (xo xs (i + 1)) (xo xs (i + 2)) hT
  · exact kk ad1 _ _ H2 locs2 ls ⟨hR2, hM2, ⟨g, hB2⟩, X.2.1, X.2.2.1, X.2.2.2.1, hS2, hz2⟩ X.2.2.2.2.2 hl
set_option maxRecDepth 100000 in
set_option maxHeartbeats 4000000 in
theorem law_c2 (E : LE p l s m meth c b L xs D cy A A2 b0 N0) (I : LI D cy A A2 s b0 N0 ad adM sg mu H locs) (hi : i + 5 ≤ L) (h2 : sg 702 0 ≤ 1000000) (hc : cells + 1 ≤ 601024) (hs : slots + 15 ≤ 7293034) (hl : lv_has ls 8 [(0, .ref b), (1, .ref (ad 4 0)), (2, .ref (adM 5 0)), (3, .ref b0), (4, .int (iI (i : Int)))]) (kk : LK p l e s m below meth c b D cy A A2 b0 N0 adM i cells slots Q sg) : W p l e room_1 s m #[Value.ref b] below meth c H locs cells slots Q (F0 m 324 ls []) := by
  have E0 := E
  have I0 := I
  obtain ⟨⟨hx, hb, -, hml, hown, hts0, hX, hbl, -, -⟩, hl0, hK, hXS, hN, hA, hA2, hA3, hb0, hL⟩ := E
  obtain ⟨hR, hRM, ⟨g0, hB⟩, hRel, hG, hGM, hS, hz⟩ := I
  have hts : ∀ w ∈ wG, w.before #[Value.ref b] s = true := fun w hw => hts0 w (List.mem_filter.mp hw).1
  have hAH : ∀ q : Nat, H.size ≤ q → A q := fun q h => hA q (Nat.le_trans hz h)
  have hbA : ¬ A b0 := fun z => (hA2 _ z).2.2 rfl
  have hown : s.vm.findClass "TakinghallLaw" = some m.cls := hown
  have X := simX_p (s_worth hRel hG (xo xs (i + 1)) (xo xs (i + 2))) hRel hG hGM
  refine lv_aload_n hx hb dL_law_324 rfl (lv_at hl 1 rfl) ?_
  refine xr_arg (P := 325) (j := i + 1) hx hb hX hbl hS hL (by omega) (by omega) (lv_at hl 0 rfl) (lv_at hl 4 rfl) dL_law_325 dL_law_326 dL_law_328 dL_law_329 dL_law_330 ?_
  refine xr_arg (P := 331) (j := i + 2) hx hb hX hbl hS hL (by omega) (by omega) (lv_at hl 0 rfl) (lv_at hl 4 rfl) dL_law_331 dL_law_332 dL_law_334 dL_law_335 dL_law_336 ?_
  refine lv_aload_n hx hb dL_law_337 rfl (lv_at hl 3 rfl) ?_
  refine law_w1 (P := 338) E0 I0 X.1 (by decide) (by decide) (xr_SW (As := [.ref (ad 4 0), .int (iI (xo xs (i + 1))), .int (iI (xo xs (i + 2))), .ref b0]) (rest := []) hx hb hml hown hts hK hXS hN hS (fun q z => (hA2 q z).1) (c_L_worth hR hG hl0 hAH hB hbA (xo xs (i + 1)) (xo xs (i + 2)) (xo_in _ _) (xo_in _ _)) ms_L_worth kw_274 ⟨Nat.le_of_ble_eq_true rfl, Nat.le_of_ble_eq_true rfl⟩ ⟨hc, Nat.le_trans (Nat.add_le_add_left (by decide) _) hs⟩ rfl rfl hl.1 rfl (lv_room (Nat.le_of_ble_eq_true rfl)) dL_law_338) hl dL_law_341 (fun ad1 g H1 locs1 ls hR1 hM1 hB1 hg1 hS1 hz1 hl => ?_)
  refine lv_aload_n hx hb dL_law_343 rfl (lv_at hl 3 rfl) ?_
  refine xr_arg (P := 344) (j := i + 1) hx hb hX hbl hS1 hL (by omega) (by omega) (lv_at hl 1 rfl) (lv_at hl 5 rfl) dL_law_344 dL_law_345 dL_law_347 dL_law_348 dL_law_349 ?_
  refine xr_arg (P := 350) (j := i + 2) hx hb hX hbl hS1 hL (by omega) (by omega) (lv_at hl 1 rfl) (lv_at hl 5 rfl) dL_law_350 dL_law_351 dL_law_353 dL_law_354 dL_law_355 ?_
  refine law_w2 (P := 356) E0 (xr_V (As := [.int (iI (xo xs (i + 1))), .int (iI (xo xs (i + 2)))]) (rest := []) hx hb hml hown hts hK (c_X5_worth hM1 hGM (xo xs (i + 1)) (xo xs (i + 2)) (xo_in _ _) (xo_in _ _)) ms_X5_worth kw_881 (wr_recv hK hM1 (md_5 hGM) rfl rfl) ⟨Nat.le_of_ble_eq_true rfl, Nat.le_of_ble_eq_true rfl⟩ ⟨hc, hs⟩ rfl rfl hl.1 rfl (lv_room (Nat.le_of_ble_eq_true rfl)) dL_law_356) hR1 hB1 hS1 hz1 (fun H2 locs2 hR2 hM2 hB2 hS2 hz2 => ?_)
  refine law_ti (P := 359) E0 hml hown hts hM2 X.2.2.2.1 hB2 ⟨X.1.2.2.2.1, X.1.2.2.2.2⟩ X.2.2.2.2.1 (fun z => ?_) hg1 ⟨Nat.le_of_ble_eq_true rfl, Nat.le_of_ble_eq_true rfl⟩ ⟨hc, hs⟩ hl dL_law_359 dL_law_361 dL_law_362 dL_law_365 dL_law_367 dL_law_372 dL_law_374 dL_law_377 dL_law_378 dL_law_379 dL_law_380 dL_law_382 dL_law_383 dL_law_384 dL_law_389 (by decide) (fun ls hl => ?_)
  · have hT := X.1.2.1.mpr z
    rw [← X.1.2.2.1 hT]
    exact r32_worth hG (xo xs (i + 1)) (xo xs (i + 2)) hT
  · exact kk ad1 _ _ H2 locs2 ls ⟨hR2, hM2, ⟨g, hB2⟩, X.2.1, X.2.2.1, X.2.2.2.1, hS2, hz2⟩ X.2.2.2.2.2 hl
set_option maxRecDepth 100000 in
set_option maxHeartbeats 4000000 in
theorem law_c3 (E : LE p l s m meth c b L xs D cy A A2 b0 N0) (I : LI D cy A A2 s b0 N0 ad adM sg mu H locs) (hi : i + 5 ≤ L) (h2 : sg 702 0 ≤ 1000000) (hc : cells + 1 ≤ 601024) (hs : slots + 15 ≤ 7293034) (hl : lv_has ls 8 [(0, .ref b), (1, .ref (ad 4 0)), (2, .ref (adM 5 0)), (3, .ref b0), (4, .int (iI (i : Int)))]) (kk : LK p l e s m below meth c b D cy A A2 b0 N0 adM i cells slots Q sg) : W p l e room_1 s m #[Value.ref b] below meth c H locs cells slots Q (F0 m 392 ls []) := by
  have E0 := E
  have I0 := I
  obtain ⟨⟨hx, hb, -, hml, hown, hts0, hX, hbl, -, -⟩, hl0, hK, hXS, hN, hA, hA2, hA3, hb0, hL⟩ := E
  obtain ⟨hR, hRM, ⟨g0, hB⟩, hRel, hG, hGM, hS, hz⟩ := I
  have hts : ∀ w ∈ wG, w.before #[Value.ref b] s = true := fun w hw => hts0 w (List.mem_filter.mp hw).1
  have hAH : ∀ q : Nat, H.size ≤ q → A q := fun q h => hA q (Nat.le_trans hz h)
  have hbA : ¬ A b0 := fun z => (hA2 _ z).2.2 rfl
  have hown : s.vm.findClass "TakinghallLaw" = some m.cls := hown
  have X := simX_p (s_market hRel hG (xo xs (i + 1))) hRel hG hGM
  refine lv_aload_n hx hb dL_law_392 rfl (lv_at hl 1 rfl) ?_
  refine xr_arg (P := 393) (j := i + 1) hx hb hX hbl hS hL (by omega) (by omega) (lv_at hl 0 rfl) (lv_at hl 4 rfl) dL_law_393 dL_law_394 dL_law_396 dL_law_397 dL_law_398 ?_
  refine lv_aload_n hx hb dL_law_399 rfl (lv_at hl 3 rfl) ?_
  refine law_w1 (P := 400) E0 I0 X.1 (by decide) (by decide) (xr_SW (As := [.ref (ad 4 0), .int (iI (xo xs (i + 1))), .ref b0]) (rest := []) hx hb hml hown hts hK hXS hN hS (fun q z => (hA2 q z).1) (c_L_market hR hG hl0 hAH hB hbA (xo xs (i + 1)) (xo_in _ _)) ms_L_market kw_285 ⟨Nat.le_of_ble_eq_true rfl, Nat.le_of_ble_eq_true rfl⟩ ⟨hc, Nat.le_trans (Nat.add_le_add_left (by decide) _) hs⟩ rfl rfl hl.1 rfl (lv_room (Nat.le_of_ble_eq_true rfl)) dL_law_400) hl dL_law_403 (fun ad1 g H1 locs1 ls hR1 hM1 hB1 hg1 hS1 hz1 hl => ?_)
  refine lv_aload_n hx hb dL_law_405 rfl (lv_at hl 3 rfl) ?_
  refine xr_arg (P := 406) (j := i + 1) hx hb hX hbl hS1 hL (by omega) (by omega) (lv_at hl 1 rfl) (lv_at hl 5 rfl) dL_law_406 dL_law_407 dL_law_409 dL_law_410 dL_law_411 ?_
  refine law_w2 (P := 412) E0 (xr_V (As := [.int (iI (xo xs (i + 1)))]) (rest := []) hx hb hml hown hts hK (c_X5_market hM1 hGM (xo xs (i + 1)) (xo_in _ _)) ms_X5_market kw_889 (wr_recv hK hM1 (md_5 hGM) rfl rfl) ⟨Nat.le_of_ble_eq_true rfl, Nat.le_of_ble_eq_true rfl⟩ ⟨hc, hs⟩ rfl rfl hl.1 rfl (lv_room (Nat.le_of_ble_eq_true rfl)) dL_law_412) hR1 hB1 hS1 hz1 (fun H2 locs2 hR2 hM2 hB2 hS2 hz2 => ?_)
  refine law_ti (P := 415) E0 hml hown hts hM2 X.2.2.2.1 hB2 ⟨X.1.2.2.2.1, X.1.2.2.2.2⟩ X.2.2.2.2.1 (fun z => ?_) hg1 ⟨Nat.le_of_ble_eq_true rfl, Nat.le_of_ble_eq_true rfl⟩ ⟨hc, hs⟩ hl dL_law_415 dL_law_417 dL_law_418 dL_law_421 dL_law_423 dL_law_428 dL_law_430 dL_law_433 dL_law_434 dL_law_435 dL_law_436 dL_law_438 dL_law_439 dL_law_440 dL_law_445 (by decide) (fun ls hl => ?_)
  · have hT := X.1.2.1.mpr z
    rw [← X.1.2.2.1 hT]
    exact r32_market hG (xo xs (i + 1)) hT
  · exact kk ad1 _ _ H2 locs2 ls ⟨hR2, hM2, ⟨g, hB2⟩, X.2.1, X.2.2.1, X.2.2.2.1, hS2, hz2⟩ X.2.2.2.2.2 hl
set_option maxRecDepth 100000 in
set_option maxHeartbeats 4000000 in
theorem law_c4 (E : LE p l s m meth c b L xs D cy A A2 b0 N0) (I : LI D cy A A2 s b0 N0 ad adM sg mu H locs) (hi : i + 5 ≤ L) (h2 : sg 702 0 ≤ 1000000) (hc : cells + 1 ≤ 601024) (hs : slots + 15 ≤ 7293034) (hl : lv_has ls 8 [(0, .ref b), (1, .ref (ad 4 0)), (2, .ref (adM 5 0)), (3, .ref b0), (4, .int (iI (i : Int)))]) (kk : LK p l e s m below meth c b D cy A A2 b0 N0 adM i cells slots Q sg) : W p l e room_1 s m #[Value.ref b] below meth c H locs cells slots Q (F0 m 448 ls []) := by
  have E0 := E
  have I0 := I
  obtain ⟨⟨hx, hb, -, hml, hown, hts0, hX, hbl, -, -⟩, hl0, hK, hXS, hN, hA, hA2, hA3, hb0, hL⟩ := E
  obtain ⟨hR, hRM, ⟨g0, hB⟩, hRel, hG, hGM, hS, hz⟩ := I
  have hts : ∀ w ∈ wG, w.before #[Value.ref b] s = true := fun w hw => hts0 w (List.mem_filter.mp hw).1
  have hAH : ∀ q : Nat, H.size ≤ q → A q := fun q h => hA q (Nat.le_trans hz h)
  have hbA : ¬ A b0 := fun z => (hA2 _ z).2.2 rfl
  have hown : s.vm.findClass "TakinghallLaw" = some m.cls := hown
  have X := simX_p (s_plotOf hRel hG (xo xs (i + 1)) (xo xs (i + 2))) hRel hG hGM
  refine lv_aload_n hx hb dL_law_448 rfl (lv_at hl 1 rfl) ?_
  refine xr_arg (P := 449) (j := i + 1) hx hb hX hbl hS hL (by omega) (by omega) (lv_at hl 0 rfl) (lv_at hl 4 rfl) dL_law_449 dL_law_450 dL_law_452 dL_law_453 dL_law_454 ?_
  refine xr_arg (P := 455) (j := i + 2) hx hb hX hbl hS hL (by omega) (by omega) (lv_at hl 0 rfl) (lv_at hl 4 rfl) dL_law_455 dL_law_456 dL_law_458 dL_law_459 dL_law_460 ?_
  refine lv_aload_n hx hb dL_law_461 rfl (lv_at hl 3 rfl) ?_
  refine law_w1 (P := 462) E0 I0 X.1 (by decide) (by decide) (xr_SW (As := [.ref (ad 4 0), .int (iI (xo xs (i + 1))), .int (iI (xo xs (i + 2))), .ref b0]) (rest := []) hx hb hml hown hts hK hXS hN hS (fun q z => (hA2 q z).1) (c_L_plotOf hR hG hl0 hAH hB hbA (xo xs (i + 1)) (xo xs (i + 2)) (xo_in _ _) (xo_in _ _)) ms_L_plotOf kw_303 ⟨Nat.le_of_ble_eq_true rfl, Nat.le_of_ble_eq_true rfl⟩ ⟨hc, Nat.le_trans (Nat.add_le_add_left (by decide) _) hs⟩ rfl rfl hl.1 rfl (lv_room (Nat.le_of_ble_eq_true rfl)) dL_law_462) hl dL_law_465 (fun ad1 g H1 locs1 ls hR1 hM1 hB1 hg1 hS1 hz1 hl => ?_)
  refine lv_aload_n hx hb dL_law_467 rfl (lv_at hl 3 rfl) ?_
  refine xr_arg (P := 468) (j := i + 1) hx hb hX hbl hS1 hL (by omega) (by omega) (lv_at hl 1 rfl) (lv_at hl 5 rfl) dL_law_468 dL_law_469 dL_law_471 dL_law_472 dL_law_473 ?_
  refine xr_arg (P := 474) (j := i + 2) hx hb hX hbl hS1 hL (by omega) (by omega) (lv_at hl 1 rfl) (lv_at hl 5 rfl) dL_law_474 dL_law_475 dL_law_477 dL_law_478 dL_law_479 ?_
  refine law_w2 (P := 480) E0 (xr_V (As := [.int (iI (xo xs (i + 1))), .int (iI (xo xs (i + 2)))]) (rest := []) hx hb hml hown hts hK (c_X5_plotOf hM1 hGM (xo xs (i + 1)) (xo xs (i + 2)) (xo_in _ _) (xo_in _ _)) ms_X5_plotOf kw_897 (wr_recv hK hM1 (md_5 hGM) rfl rfl) ⟨Nat.le_of_ble_eq_true rfl, Nat.le_of_ble_eq_true rfl⟩ ⟨hc, hs⟩ rfl rfl hl.1 rfl (lv_room (Nat.le_of_ble_eq_true rfl)) dL_law_480) hR1 hB1 hS1 hz1 (fun H2 locs2 hR2 hM2 hB2 hS2 hz2 => ?_)
  refine law_ti (P := 483) E0 hml hown hts hM2 X.2.2.2.1 hB2 ⟨X.1.2.2.2.1, X.1.2.2.2.2⟩ X.2.2.2.2.1 (fun z => ?_) hg1 ⟨Nat.le_of_ble_eq_true rfl, Nat.le_of_ble_eq_true rfl⟩ ⟨hc, hs⟩ hl dL_law_483 dL_law_485 dL_law_486 dL_law_489 dL_law_491 dL_law_496 dL_law_498 dL_law_501 dL_law_502 dL_law_503 dL_law_504 dL_law_506 dL_law_507 dL_law_508 dL_law_513 (by decide) (fun ls hl => ?_)
  · have hT := X.1.2.1.mpr z
    rw [← X.1.2.2.1 hT]
    exact r32_plotOf hG (xo xs (i + 1)) (xo xs (i + 2)) hT
  · exact kk ad1 _ _ H2 locs2 ls ⟨hR2, hM2, ⟨g, hB2⟩, X.2.1, X.2.2.1, X.2.2.2.1, hS2, hz2⟩ X.2.2.2.2.2 hl
set_option maxRecDepth 100000 in
set_option maxHeartbeats 4000000 in
theorem law_c5 (E : LE p l s m meth c b L xs D cy A A2 b0 N0) (I : LI D cy A A2 s b0 N0 ad adM sg mu H locs) (hi : i + 5 ≤ L) (h2 : sg 702 0 ≤ 1000000) (hc : cells + 1 ≤ 601024) (hs : slots + 15 ≤ 7293034) (hl : lv_has ls 8 [(0, .ref b), (1, .ref (ad 4 0)), (2, .ref (adM 5 0)), (3, .ref b0), (4, .int (iI (i : Int)))]) (kk : LK p l e s m below meth c b D cy A A2 b0 N0 adM i cells slots Q sg) : W p l e room_1 s m #[Value.ref b] below meth c H locs cells slots Q (F0 m 516 ls []) := by
  have E0 := E
  have I0 := I
  obtain ⟨⟨hx, hb, -, hml, hown, hts0, hX, hbl, -, -⟩, hl0, hK, hXS, hN, hA, hA2, hA3, hb0, hL⟩ := E
  obtain ⟨hR, hRM, ⟨g0, hB⟩, hRel, hG, hGM, hS, hz⟩ := I
  have hts : ∀ w ∈ wG, w.before #[Value.ref b] s = true := fun w hw => hts0 w (List.mem_filter.mp hw).1
  have hAH : ∀ q : Nat, H.size ≤ q → A q := fun q h => hA q (Nat.le_trans hz h)
  have hbA : ¬ A b0 := fun z => (hA2 _ z).2.2 rfl
  have hown : s.vm.findClass "TakinghallLaw" = some m.cls := hown
  have X := simX_w (s_own hRel hG hGM (xo xs (i + 1)) (xo xs (i + 2)) (xo xs (i + 3))) (rfl) (by rw [te_f (F := 702) (by decide) (by decide) (by decide) (by decide)]; omega)
  refine lv_aload_n hx hb dL_law_516 rfl (lv_at hl 1 rfl) ?_
  refine xr_arg (P := 517) (j := i + 1) hx hb hX hbl hS hL (by omega) (by omega) (lv_at hl 0 rfl) (lv_at hl 4 rfl) dL_law_517 dL_law_518 dL_law_520 dL_law_521 dL_law_522 ?_
  refine xr_arg (P := 523) (j := i + 2) hx hb hX hbl hS hL (by omega) (by omega) (lv_at hl 0 rfl) (lv_at hl 4 rfl) dL_law_523 dL_law_524 dL_law_526 dL_law_527 dL_law_528 ?_
  refine xr_arg (P := 529) (j := i + 3) hx hb hX hbl hS hL (by omega) (by omega) (lv_at hl 0 rfl) (lv_at hl 4 rfl) dL_law_529 dL_law_530 dL_law_532 dL_law_533 dL_law_534 ?_
  refine lv_aload_n hx hb dL_law_535 rfl (lv_at hl 3 rfl) ?_
  refine law_w1 (P := 536) E0 I0 X.1 (by decide) (by decide) (xr_SW (As := [.ref (ad 4 0), .int (iI (xo xs (i + 1))), .int (iI (xo xs (i + 2))), .int (iI (xo xs (i + 3))), .ref b0]) (rest := []) hx hb hml hown hts hK hXS hN hS (fun q z => (hA2 q z).1) (c_L_own hR hG hl0 hAH hB hbA (xo xs (i + 1)) (xo xs (i + 2)) (xo xs (i + 3)) (xo_in _ _) (xo_in _ _) (xo_in _ _)) ms_L_own kw_317 ⟨Nat.le_of_ble_eq_true rfl, Nat.le_of_ble_eq_true rfl⟩ ⟨hc, Nat.le_trans (Nat.add_le_add_left (by decide) _) hs⟩ rfl rfl hl.1 rfl (lv_room (Nat.le_of_ble_eq_true rfl)) dL_law_536) hl dL_law_539 (fun ad1 g H1 locs1 ls hR1 hM1 hB1 hg1 hS1 hz1 hl => ?_)
  refine lv_aload_n hx hb dL_law_541 rfl (lv_at hl 3 rfl) ?_
  refine xr_arg (P := 542) (j := i + 1) hx hb hX hbl hS1 hL (by omega) (by omega) (lv_at hl 1 rfl) (lv_at hl 5 rfl) dL_law_542 dL_law_543 dL_law_545 dL_law_546 dL_law_547 ?_
  refine xr_arg (P := 548) (j := i + 2) hx hb hX hbl hS1 hL (by omega) (by omega) (lv_at hl 1 rfl) (lv_at hl 5 rfl) dL_law_548 dL_law_549 dL_law_551 dL_law_552 dL_law_553 ?_
  refine xr_arg (P := 554) (j := i + 3) hx hb hX hbl hS1 hL (by omega) (by omega) (lv_at hl 1 rfl) (lv_at hl 5 rfl) dL_law_554 dL_law_555 dL_law_557 dL_law_558 dL_law_559 ?_
  refine law_w2 (P := 560) E0 (xr_V (As := [.int (iI (xo xs (i + 1))), .int (iI (xo xs (i + 2))), .int (iI (xo xs (i + 3)))]) (rest := []) hx hb hml hown hts hK (c_X5_own hM1 hGM (xo xs (i + 1)) (xo xs (i + 2)) (xo xs (i + 3)) (xo_in _ _) (xo_in _ _) (xo_in _ _)) ms_X5_own kw_901 (wr_recv hK hM1 (md_5 hGM) rfl rfl) ⟨Nat.le_of_ble_eq_true rfl, Nat.le_of_ble_eq_true rfl⟩ ⟨hc, hs⟩ rfl rfl hl.1 rfl (lv_room (Nat.le_of_ble_eq_true rfl)) dL_law_560) hR1 hB1 hS1 hz1 (fun H2 locs2 hR2 hM2 hB2 hS2 hz2 => ?_)
  refine law_ti (P := 563) E0 hml hown hts hM2 X.2.2.2.1 hB2 ⟨X.1.2.2.2.1, X.1.2.2.2.2⟩ X.2.2.2.2.1 (fun z => ?_) hg1 ⟨Nat.le_of_ble_eq_true rfl, Nat.le_of_ble_eq_true rfl⟩ ⟨hc, hs⟩ hl dL_law_563 dL_law_565 dL_law_566 dL_law_569 dL_law_571 dL_law_576 dL_law_578 dL_law_581 dL_law_582 dL_law_583 dL_law_584 dL_law_586 dL_law_587 dL_law_588 dL_law_593 (by decide) (fun ls hl => ?_)
  · have hT := X.1.2.1.mpr z
    rw [← X.1.2.2.1 hT]
    exact r32_own hG (xo xs (i + 1)) (xo xs (i + 2)) (xo xs (i + 3)) hT
  · exact kk ad1 _ _ H2 locs2 ls ⟨hR2, hM2, ⟨g, hB2⟩, X.2.1, X.2.2.1, X.2.2.2.1, hS2, hz2⟩ X.2.2.2.2.2 hl
set_option maxRecDepth 100000 in
set_option maxHeartbeats 4000000 in
theorem law_c6 (E : LE p l s m meth c b L xs D cy A A2 b0 N0) (I : LI D cy A A2 s b0 N0 ad adM sg mu H locs) (hi : i + 5 ≤ L) (h2 : sg 702 0 ≤ 1000000) (hc : cells + 1 ≤ 601024) (hs : slots + 15 ≤ 7293034) (hl : lv_has ls 8 [(0, .ref b), (1, .ref (ad 4 0)), (2, .ref (adM 5 0)), (3, .ref b0), (4, .int (iI (i : Int)))]) (kk : LK p l e s m below meth c b D cy A A2 b0 N0 adM i cells slots Q sg) : W p l e room_1 s m #[Value.ref b] below meth c H locs cells slots Q (F0 m 596 ls []) := by
  have E0 := E
  have I0 := I
  obtain ⟨⟨hx, hb, -, hml, hown, hts0, hX, hbl, -, -⟩, hl0, hK, hXS, hN, hA, hA2, hA3, hb0, hL⟩ := E
  obtain ⟨hR, hRM, ⟨g0, hB⟩, hRel, hG, hGM, hS, hz⟩ := I
  have hts : ∀ w ∈ wG, w.before #[Value.ref b] s = true := fun w hw => hts0 w (List.mem_filter.mp hw).1
  have hAH : ∀ q : Nat, H.size ≤ q → A q := fun q h => hA q (Nat.le_trans hz h)
  have hbA : ¬ A b0 := fun z => (hA2 _ z).2.2 rfl
  have hown : s.vm.findClass "TakinghallLaw" = some m.cls := hown
  have X := simX_w (s_lease hRel hG hGM (xo xs (i + 1)) (xo xs (i + 2)) (xo xs (i + 3)) (xo xs (i + 4))) (rfl) (by rw [te_f (F := 702) (by decide) (by decide) (by decide) (by decide)]; omega)
  refine lv_aload_n hx hb dL_law_596 rfl (lv_at hl 1 rfl) ?_
  refine xr_arg (P := 597) (j := i + 1) hx hb hX hbl hS hL (by omega) (by omega) (lv_at hl 0 rfl) (lv_at hl 4 rfl) dL_law_597 dL_law_598 dL_law_600 dL_law_601 dL_law_602 ?_
  refine xr_arg (P := 603) (j := i + 2) hx hb hX hbl hS hL (by omega) (by omega) (lv_at hl 0 rfl) (lv_at hl 4 rfl) dL_law_603 dL_law_604 dL_law_606 dL_law_607 dL_law_608 ?_
  refine xr_arg (P := 609) (j := i + 3) hx hb hX hbl hS hL (by omega) (by omega) (lv_at hl 0 rfl) (lv_at hl 4 rfl) dL_law_609 dL_law_610 dL_law_612 dL_law_613 dL_law_614 ?_
  refine xr_arg (P := 615) (j := i + 4) hx hb hX hbl hS hL (by omega) (by omega) (lv_at hl 0 rfl) (lv_at hl 4 rfl) dL_law_615 dL_law_616 dL_law_618 dL_law_619 dL_law_620 ?_
  refine lv_aload_n hx hb dL_law_621 rfl (lv_at hl 3 rfl) ?_
  refine law_w1 (P := 622) E0 I0 X.1 (by decide) (by decide) (xr_SW (As := [.ref (ad 4 0), .int (iI (xo xs (i + 1))), .int (iI (xo xs (i + 2))), .int (iI (xo xs (i + 3))), .int (iI (xo xs (i + 4))), .ref b0]) (rest := []) hx hb hml hown hts hK hXS hN hS (fun q z => (hA2 q z).1) (c_L_lease hR hG hl0 hAH hB hbA (xo xs (i + 1)) (xo xs (i + 2)) (xo xs (i + 3)) (xo xs (i + 4)) (xo_in _ _) (xo_in _ _) (xo_in _ _) (xo_in _ _)) ms_L_lease kw_402 ⟨Nat.le_of_ble_eq_true rfl, Nat.le_of_ble_eq_true rfl⟩ ⟨hc, Nat.le_trans (Nat.add_le_add_left (by decide) _) hs⟩ rfl rfl hl.1 rfl (lv_room (Nat.le_of_ble_eq_true rfl)) dL_law_622) hl dL_law_625 (fun ad1 g H1 locs1 ls hR1 hM1 hB1 hg1 hS1 hz1 hl => ?_)
  refine lv_aload_n hx hb dL_law_627 rfl (lv_at hl 3 rfl) ?_
  refine xr_arg (P := 628) (j := i + 1) hx hb hX hbl hS1 hL (by omega) (by omega) (lv_at hl 1 rfl) (lv_at hl 5 rfl) dL_law_628 dL_law_629 dL_law_631 dL_law_632 dL_law_633 ?_
  refine xr_arg (P := 634) (j := i + 2) hx hb hX hbl hS1 hL (by omega) (by omega) (lv_at hl 1 rfl) (lv_at hl 5 rfl) dL_law_634 dL_law_635 dL_law_637 dL_law_638 dL_law_639 ?_
  refine xr_arg (P := 640) (j := i + 3) hx hb hX hbl hS1 hL (by omega) (by omega) (lv_at hl 1 rfl) (lv_at hl 5 rfl) dL_law_640 dL_law_641 dL_law_643 dL_law_644 dL_law_645 ?_
  refine xr_arg (P := 646) (j := i + 4) hx hb hX hbl hS1 hL (by omega) (by omega) (lv_at hl 1 rfl) (lv_at hl 5 rfl) dL_law_646 dL_law_647 dL_law_649 dL_law_650 dL_law_651 ?_
  refine law_w2 (P := 652) E0 (xr_V (As := [.int (iI (xo xs (i + 1))), .int (iI (xo xs (i + 2))), .int (iI (xo xs (i + 3))), .int (iI (xo xs (i + 4)))]) (rest := []) hx hb hml hown hts hK (c_X5_lease hM1 hGM (xo xs (i + 1)) (xo xs (i + 2)) (xo xs (i + 3)) (xo xs (i + 4)) (xo_in _ _) (xo_in _ _) (xo_in _ _) (xo_in _ _)) ms_X5_lease kw_909 (wr_recv hK hM1 (md_5 hGM) rfl rfl) ⟨Nat.le_of_ble_eq_true rfl, Nat.le_of_ble_eq_true rfl⟩ ⟨hc, hs⟩ rfl rfl hl.1 rfl (lv_room (Nat.le_of_ble_eq_true rfl)) dL_law_652) hR1 hB1 hS1 hz1 (fun H2 locs2 hR2 hM2 hB2 hS2 hz2 => ?_)
  refine law_ti (P := 655) E0 hml hown hts hM2 X.2.2.2.1 hB2 ⟨X.1.2.2.2.1, X.1.2.2.2.2⟩ X.2.2.2.2.1 (fun z => ?_) hg1 ⟨Nat.le_of_ble_eq_true rfl, Nat.le_of_ble_eq_true rfl⟩ ⟨hc, hs⟩ hl dL_law_655 dL_law_657 dL_law_658 dL_law_661 dL_law_663 dL_law_668 dL_law_670 dL_law_673 dL_law_674 dL_law_675 dL_law_676 dL_law_678 dL_law_679 dL_law_680 dL_law_685 (by decide) (fun ls hl => ?_)
  · have hT := X.1.2.1.mpr z
    rw [← X.1.2.2.1 hT]
    exact r32_lease hG (xo xs (i + 1)) (xo xs (i + 2)) (xo xs (i + 3)) (xo xs (i + 4)) hT
  · exact kk ad1 _ _ H2 locs2 ls ⟨hR2, hM2, ⟨g, hB2⟩, X.2.1, X.2.2.1, X.2.2.2.1, hS2, hz2⟩ X.2.2.2.2.2 hl
set_option maxRecDepth 100000 in
set_option maxHeartbeats 4000000 in
theorem law_c7 (E : LE p l s m meth c b L xs D cy A A2 b0 N0) (I : LI D cy A A2 s b0 N0 ad adM sg mu H locs) (hi : i + 5 ≤ L) (h2 : sg 702 0 ≤ 1000000) (hc : cells + 1 ≤ 601024) (hs : slots + 15 ≤ 7293034) (hl : lv_has ls 8 [(0, .ref b), (1, .ref (ad 4 0)), (2, .ref (adM 5 0)), (3, .ref b0), (4, .int (iI (i : Int)))]) (kk : LK p l e s m below meth c b D cy A A2 b0 N0 adM i cells slots Q sg) : W p l e room_1 s m #[Value.ref b] below meth c H locs cells slots Q (F0 m 688 ls []) := by
  have E0 := E
  have I0 := I
  obtain ⟨⟨hx, hb, -, hml, hown, hts0, hX, hbl, -, -⟩, hl0, hK, hXS, hN, hA, hA2, hA3, hb0, hL⟩ := E
  obtain ⟨hR, hRM, ⟨g0, hB⟩, hRel, hG, hGM, hS, hz⟩ := I
  have hts : ∀ w ∈ wG, w.before #[Value.ref b] s = true := fun w hw => hts0 w (List.mem_filter.mp hw).1
  have hAH : ∀ q : Nat, H.size ≤ q → A q := fun q h => hA q (Nat.le_trans hz h)
  have hbA : ¬ A b0 := fun z => (hA2 _ z).2.2 rfl
  have hown : s.vm.findClass "TakinghallLaw" = some m.cls := hown
  have X := simX_w (s_charge hRel hG hGM (xo xs (i + 1)) (xo xs (i + 2)) (xo xs (i + 3))) (rfl) (by rw [te_f (F := 702) (by decide) (by decide) (by decide) (by decide)]; omega)
  refine lv_aload_n hx hb dL_law_688 rfl (lv_at hl 1 rfl) ?_
  refine xr_arg (P := 689) (j := i + 1) hx hb hX hbl hS hL (by omega) (by omega) (lv_at hl 0 rfl) (lv_at hl 4 rfl) dL_law_689 dL_law_690 dL_law_692 dL_law_693 dL_law_694 ?_
  refine xr_arg (P := 695) (j := i + 2) hx hb hX hbl hS hL (by omega) (by omega) (lv_at hl 0 rfl) (lv_at hl 4 rfl) dL_law_695 dL_law_696 dL_law_698 dL_law_699 dL_law_700 ?_
  refine xr_arg (P := 701) (j := i + 3) hx hb hX hbl hS hL (by omega) (by omega) (lv_at hl 0 rfl) (lv_at hl 4 rfl) dL_law_701 dL_law_702 dL_law_704 dL_law_705 dL_law_706 ?_
  refine lv_aload_n hx hb dL_law_707 rfl (lv_at hl 3 rfl) ?_
  refine law_w1 (P := 708) E0 I0 X.1 (by decide) (by decide) (xr_SW (As := [.ref (ad 4 0), .int (iI (xo xs (i + 1))), .int (iI (xo xs (i + 2))), .int (iI (xo xs (i + 3))), .ref b0]) (rest := []) hx hb hml hown hts hK hXS hN hS (fun q z => (hA2 q z).1) (c_L_charge hR hG hl0 hAH hB hbA (xo xs (i + 1)) (xo xs (i + 2)) (xo xs (i + 3)) (xo_in _ _) (xo_in _ _) (xo_in _ _)) ms_L_charge kw_410 ⟨Nat.le_of_ble_eq_true rfl, Nat.le_of_ble_eq_true rfl⟩ ⟨hc, Nat.le_trans (Nat.add_le_add_left (by decide) _) hs⟩ rfl rfl hl.1 rfl (lv_room (Nat.le_of_ble_eq_true rfl)) dL_law_708) hl dL_law_711 (fun ad1 g H1 locs1 ls hR1 hM1 hB1 hg1 hS1 hz1 hl => ?_)
  refine lv_aload_n hx hb dL_law_713 rfl (lv_at hl 3 rfl) ?_
  refine xr_arg (P := 714) (j := i + 1) hx hb hX hbl hS1 hL (by omega) (by omega) (lv_at hl 1 rfl) (lv_at hl 5 rfl) dL_law_714 dL_law_715 dL_law_717 dL_law_718 dL_law_719 ?_
  refine xr_arg (P := 720) (j := i + 2) hx hb hX hbl hS1 hL (by omega) (by omega) (lv_at hl 1 rfl) (lv_at hl 5 rfl) dL_law_720 dL_law_721 dL_law_723 dL_law_724 dL_law_725 ?_
  refine xr_arg (P := 726) (j := i + 3) hx hb hX hbl hS1 hL (by omega) (by omega) (lv_at hl 1 rfl) (lv_at hl 5 rfl) dL_law_726 dL_law_727 dL_law_729 dL_law_730 dL_law_731 ?_
  refine law_w2 (P := 732) E0 (xr_V (As := [.int (iI (xo xs (i + 1))), .int (iI (xo xs (i + 2))), .int (iI (xo xs (i + 3)))]) (rest := []) hx hb hml hown hts hK (c_X5_charge hM1 hGM (xo xs (i + 1)) (xo xs (i + 2)) (xo xs (i + 3)) (xo_in _ _) (xo_in _ _) (xo_in _ _)) ms_X5_charge kw_913 (wr_recv hK hM1 (md_5 hGM) rfl rfl) ⟨Nat.le_of_ble_eq_true rfl, Nat.le_of_ble_eq_true rfl⟩ ⟨hc, hs⟩ rfl rfl hl.1 rfl (lv_room (Nat.le_of_ble_eq_true rfl)) dL_law_732) hR1 hB1 hS1 hz1 (fun H2 locs2 hR2 hM2 hB2 hS2 hz2 => ?_)
  refine law_ti (P := 735) E0 hml hown hts hM2 X.2.2.2.1 hB2 ⟨X.1.2.2.2.1, X.1.2.2.2.2⟩ X.2.2.2.2.1 (fun z => ?_) hg1 ⟨Nat.le_of_ble_eq_true rfl, Nat.le_of_ble_eq_true rfl⟩ ⟨hc, hs⟩ hl dL_law_735 dL_law_737 dL_law_738 dL_law_741 dL_law_743 dL_law_748 dL_law_750 dL_law_753 dL_law_754 dL_law_755 dL_law_756 dL_law_758 dL_law_759 dL_law_760 dL_law_765 (by decide) (fun ls hl => ?_)
  · have hT := X.1.2.1.mpr z
    rw [← X.1.2.2.1 hT]
    exact r32_charge hG (xo xs (i + 1)) (xo xs (i + 2)) (xo xs (i + 3)) hT
  · exact kk ad1 _ _ H2 locs2 ls ⟨hR2, hM2, ⟨g, hB2⟩, X.2.1, X.2.2.1, X.2.2.2.1, hS2, hz2⟩ X.2.2.2.2.2 hl
set_option maxRecDepth 100000 in
set_option maxHeartbeats 4000000 in
theorem law_c8 (E : LE p l s m meth c b L xs D cy A A2 b0 N0) (I : LI D cy A A2 s b0 N0 ad adM sg mu H locs) (hi : i + 5 ≤ L) (h2 : sg 702 0 ≤ 1000000) (hc : cells + 1 ≤ 601024) (hs : slots + 15 ≤ 7293034) (hl : lv_has ls 8 [(0, .ref b), (1, .ref (ad 4 0)), (2, .ref (adM 5 0)), (3, .ref b0), (4, .int (iI (i : Int)))]) (kk : LK p l e s m below meth c b D cy A A2 b0 N0 adM i cells slots Q sg) : W p l e room_1 s m #[Value.ref b] below meth c H locs cells slots Q (F0 m 768 ls []) := by
  have E0 := E
  have I0 := I
  obtain ⟨⟨hx, hb, -, hml, hown, hts0, hX, hbl, -, -⟩, hl0, hK, hXS, hN, hA, hA2, hA3, hb0, hL⟩ := E
  obtain ⟨hR, hRM, ⟨g0, hB⟩, hRel, hG, hGM, hS, hz⟩ := I
  have hts : ∀ w ∈ wG, w.before #[Value.ref b] s = true := fun w hw => hts0 w (List.mem_filter.mp hw).1
  have hAH : ∀ q : Nat, H.size ≤ q → A q := fun q h => hA q (Nat.le_trans hz h)
  have hbA : ¬ A b0 := fun z => (hA2 _ z).2.2 rfl
  have hown : s.vm.findClass "TakinghallLaw" = some m.cls := hown
  have X := simX_p (s_interestOf hRel hG (xo xs (i + 1)) (xo xs (i + 2))) hRel hG hGM
  refine lv_aload_n hx hb dL_law_768 rfl (lv_at hl 1 rfl) ?_
  refine xr_arg (P := 769) (j := i + 1) hx hb hX hbl hS hL (by omega) (by omega) (lv_at hl 0 rfl) (lv_at hl 4 rfl) dL_law_769 dL_law_770 dL_law_772 dL_law_773 dL_law_774 ?_
  refine xr_arg (P := 775) (j := i + 2) hx hb hX hbl hS hL (by omega) (by omega) (lv_at hl 0 rfl) (lv_at hl 4 rfl) dL_law_775 dL_law_776 dL_law_778 dL_law_779 dL_law_780 ?_
  refine lv_aload_n hx hb dL_law_781 rfl (lv_at hl 3 rfl) ?_
  refine law_w1 (P := 782) E0 I0 X.1 (by decide) (by decide) (xr_SW (As := [.ref (ad 4 0), .int (iI (xo xs (i + 1))), .int (iI (xo xs (i + 2))), .ref b0]) (rest := []) hx hb hml hown hts hK hXS hN hS (fun q z => (hA2 q z).1) (c_L_interestOf hR hG hl0 hAH hB hbA (xo xs (i + 1)) (xo xs (i + 2)) (xo_in _ _) (xo_in _ _)) ms_L_interestOf kw_419 ⟨Nat.le_of_ble_eq_true rfl, Nat.le_of_ble_eq_true rfl⟩ ⟨hc, Nat.le_trans (Nat.add_le_add_left (by decide) _) hs⟩ rfl rfl hl.1 rfl (lv_room (Nat.le_of_ble_eq_true rfl)) dL_law_782) hl dL_law_785 (fun ad1 g H1 locs1 ls hR1 hM1 hB1 hg1 hS1 hz1 hl => ?_)
  refine lv_aload_n hx hb dL_law_787 rfl (lv_at hl 3 rfl) ?_
  refine xr_arg (P := 788) (j := i + 1) hx hb hX hbl hS1 hL (by omega) (by omega) (lv_at hl 1 rfl) (lv_at hl 5 rfl) dL_law_788 dL_law_789 dL_law_791 dL_law_792 dL_law_793 ?_
  refine xr_arg (P := 794) (j := i + 2) hx hb hX hbl hS1 hL (by omega) (by omega) (lv_at hl 1 rfl) (lv_at hl 5 rfl) dL_law_794 dL_law_795 dL_law_797 dL_law_798 dL_law_799 ?_
  refine law_w2 (P := 800) E0 (xr_V (As := [.int (iI (xo xs (i + 1))), .int (iI (xo xs (i + 2)))]) (rest := []) hx hb hml hown hts hK (c_X5_interestOf hM1 hGM (xo xs (i + 1)) (xo xs (i + 2)) (xo_in _ _) (xo_in _ _)) ms_X5_interestOf kw_918 (wr_recv hK hM1 (md_5 hGM) rfl rfl) ⟨Nat.le_of_ble_eq_true rfl, Nat.le_of_ble_eq_true rfl⟩ ⟨hc, hs⟩ rfl rfl hl.1 rfl (lv_room (Nat.le_of_ble_eq_true rfl)) dL_law_800) hR1 hB1 hS1 hz1 (fun H2 locs2 hR2 hM2 hB2 hS2 hz2 => ?_)
  refine law_tl (P := 803) E0 hml hown hts hM2 X.2.2.2.1 hB2 ⟨X.1.2.2.2.1, X.1.2.2.2.2⟩ X.2.2.2.2.1 hg1 ⟨Nat.le_of_ble_eq_true rfl, Nat.le_of_ble_eq_true rfl⟩ ⟨hc, hs⟩ hl dL_law_803 dL_law_805 dL_law_806 dL_law_809 dL_law_811 dL_law_816 dL_law_818 dL_law_821 dL_law_822 dL_law_823 dL_law_824 dL_law_826 dL_law_827 dL_law_832 (by decide) (fun ls hl => ?_)
  exact kk ad1 _ _ H2 locs2 ls ⟨hR2, hM2, ⟨g, hB2⟩, X.2.1, X.2.2.1, X.2.2.2.1, hS2, hz2⟩ X.2.2.2.2.2 hl
set_option maxRecDepth 100000 in
set_option maxHeartbeats 4000000 in
theorem law_c9 (E : LE p l s m meth c b L xs D cy A A2 b0 N0) (I : LI D cy A A2 s b0 N0 ad adM sg mu H locs) (hi : i + 5 ≤ L) (h2 : sg 702 0 ≤ 1000000) (hc : cells + 1 ≤ 601024) (hs : slots + 15 ≤ 7293034) (hl : lv_has ls 8 [(0, .ref b), (1, .ref (ad 4 0)), (2, .ref (adM 5 0)), (3, .ref b0), (4, .int (iI (i : Int)))]) (kk : LK p l e s m below meth c b D cy A A2 b0 N0 adM i cells slots Q sg) : W p l e room_1 s m #[Value.ref b] below meth c H locs cells slots Q (F0 m 835 ls []) := by
  have E0 := E
  have I0 := I
  obtain ⟨⟨hx, hb, -, hml, hown, hts0, hX, hbl, -, -⟩, hl0, hK, hXS, hN, hA, hA2, hA3, hb0, hL⟩ := E
  obtain ⟨hR, hRM, ⟨g0, hB⟩, hRel, hG, hGM, hS, hz⟩ := I
  have hts : ∀ w ∈ wG, w.before #[Value.ref b] s = true := fun w hw => hts0 w (List.mem_filter.mp hw).1
  have hAH : ∀ q : Nat, H.size ≤ q → A q := fun q h => hA q (Nat.le_trans hz h)
  have hbA : ¬ A b0 := fun z => (hA2 _ z).2.2 rfl
  have hown : s.vm.findClass "TakinghallLaw" = some m.cls := hown
  have X := simX_w (s_scheme hRel hG hGM (xo xs (i + 1)) (xo xs (i + 2))) (rfl) (by rw [sc_f (F := 702) (by decide) (by decide) (by decide) (by decide)]; omega)
  refine lv_aload_n hx hb dL_law_835 rfl (lv_at hl 1 rfl) ?_
  refine xr_arg (P := 836) (j := i + 1) hx hb hX hbl hS hL (by omega) (by omega) (lv_at hl 0 rfl) (lv_at hl 4 rfl) dL_law_836 dL_law_837 dL_law_839 dL_law_840 dL_law_841 ?_
  refine xr_arg (P := 842) (j := i + 2) hx hb hX hbl hS hL (by omega) (by omega) (lv_at hl 0 rfl) (lv_at hl 4 rfl) dL_law_842 dL_law_843 dL_law_845 dL_law_846 dL_law_847 ?_
  refine lv_aload_n hx hb dL_law_848 rfl (lv_at hl 3 rfl) ?_
  refine law_w1 (P := 849) E0 I0 X.1 (by decide) (by decide) (xr_SW (As := [.ref (ad 4 0), .int (iI (xo xs (i + 1))), .int (iI (xo xs (i + 2))), .ref b0]) (rest := []) hx hb hml hown hts hK hXS hN hS (fun q z => (hA2 q z).1) (c_L_scheme hR hG hl0 hAH hB hbA (xo xs (i + 1)) (xo xs (i + 2)) (xo_in _ _) (xo_in _ _)) ms_L_scheme kw_434 ⟨Nat.le_of_ble_eq_true rfl, Nat.le_of_ble_eq_true rfl⟩ ⟨hc, Nat.le_trans (Nat.add_le_add_left (by decide) _) hs⟩ rfl rfl hl.1 rfl (lv_room (Nat.le_of_ble_eq_true rfl)) dL_law_849) hl dL_law_852 (fun ad1 g H1 locs1 ls hR1 hM1 hB1 hg1 hS1 hz1 hl => ?_)
  refine lv_aload_n hx hb dL_law_854 rfl (lv_at hl 3 rfl) ?_
  refine xr_arg (P := 855) (j := i + 1) hx hb hX hbl hS1 hL (by omega) (by omega) (lv_at hl 1 rfl) (lv_at hl 5 rfl) dL_law_855 dL_law_856 dL_law_858 dL_law_859 dL_law_860 ?_
  refine xr_arg (P := 861) (j := i + 2) hx hb hX hbl hS1 hL (by omega) (by omega) (lv_at hl 1 rfl) (lv_at hl 5 rfl) dL_law_861 dL_law_862 dL_law_864 dL_law_865 dL_law_866 ?_
  refine law_w2 (P := 867) E0 (xr_V (As := [.int (iI (xo xs (i + 1))), .int (iI (xo xs (i + 2)))]) (rest := []) hx hb hml hown hts hK (c_X5_scheme hM1 hGM (xo xs (i + 1)) (xo xs (i + 2)) (xo_in _ _) (xo_in _ _)) ms_X5_scheme kw_926 (wr_recv hK hM1 (md_5 hGM) rfl rfl) ⟨Nat.le_of_ble_eq_true rfl, Nat.le_of_ble_eq_true rfl⟩ ⟨hc, hs⟩ rfl rfl hl.1 rfl (lv_room (Nat.le_of_ble_eq_true rfl)) dL_law_867) hR1 hB1 hS1 hz1 (fun H2 locs2 hR2 hM2 hB2 hS2 hz2 => ?_)
  refine law_ti (P := 870) E0 hml hown hts hM2 X.2.2.2.1 hB2 ⟨X.1.2.2.2.1, X.1.2.2.2.2⟩ X.2.2.2.2.1 (fun z => ?_) hg1 ⟨Nat.le_of_ble_eq_true rfl, Nat.le_of_ble_eq_true rfl⟩ ⟨hc, hs⟩ hl dL_law_870 dL_law_872 dL_law_873 dL_law_876 dL_law_878 dL_law_883 dL_law_885 dL_law_888 dL_law_889 dL_law_890 dL_law_891 dL_law_893 dL_law_894 dL_law_895 dL_law_900 (by decide) (fun ls hl => ?_)
  · have hT := X.1.2.1.mpr z
    rw [← X.1.2.2.1 hT]
    exact r32_scheme hG (xo xs (i + 1)) (xo xs (i + 2)) hT
  · exact kk ad1 _ _ H2 locs2 ls ⟨hR2, hM2, ⟨g, hB2⟩, X.2.1, X.2.2.1, X.2.2.2.1, hS2, hz2⟩ X.2.2.2.2.2 hl
set_option maxRecDepth 100000 in
set_option maxHeartbeats 4000000 in
theorem law_c10 (E : LE p l s m meth c b L xs D cy A A2 b0 N0) (I : LI D cy A A2 s b0 N0 ad adM sg mu H locs) (hi : i + 5 ≤ L) (h2 : sg 702 0 ≤ 1000000) (hc : cells + 1 ≤ 601024) (hs : slots + 15 ≤ 7293034) (hl : lv_has ls 8 [(0, .ref b), (1, .ref (ad 4 0)), (2, .ref (adM 5 0)), (3, .ref b0), (4, .int (iI (i : Int)))]) (kk : LK p l e s m below meth c b D cy A A2 b0 N0 adM i cells slots Q sg) : W p l e room_1 s m #[Value.ref b] below meth c H locs cells slots Q (F0 m 903 ls []) := by
  have E0 := E
  have I0 := I
  obtain ⟨⟨hx, hb, -, hml, hown, hts0, hX, hbl, -, -⟩, hl0, hK, hXS, hN, hA, hA2, hA3, hb0, hL⟩ := E
  obtain ⟨hR, hRM, ⟨g0, hB⟩, hRel, hG, hGM, hS, hz⟩ := I
  have hts : ∀ w ∈ wG, w.before #[Value.ref b] s = true := fun w hw => hts0 w (List.mem_filter.mp hw).1
  have hAH : ∀ q : Nat, H.size ≤ q → A q := fun q h => hA q (Nat.le_trans hz h)
  have hbA : ¬ A b0 := fun z => (hA2 _ z).2.2 rfl
  have hown : s.vm.findClass "TakinghallLaw" = some m.cls := hown
  have X := simX_w (s_draw hRel hG hGM (xo xs (i + 1)) (xo xs (i + 2)) (xo xs (i + 3))) (rfl) (by show sg 702 0 ≤ _; omega)
  refine lv_aload_n hx hb dL_law_903 rfl (lv_at hl 1 rfl) ?_
  refine xr_arg (P := 904) (j := i + 1) hx hb hX hbl hS hL (by omega) (by omega) (lv_at hl 0 rfl) (lv_at hl 4 rfl) dL_law_904 dL_law_905 dL_law_907 dL_law_908 dL_law_909 ?_
  refine xr_arg (P := 910) (j := i + 2) hx hb hX hbl hS hL (by omega) (by omega) (lv_at hl 0 rfl) (lv_at hl 4 rfl) dL_law_910 dL_law_911 dL_law_913 dL_law_914 dL_law_915 ?_
  refine xr_arg (P := 916) (j := i + 3) hx hb hX hbl hS hL (by omega) (by omega) (lv_at hl 0 rfl) (lv_at hl 4 rfl) dL_law_916 dL_law_917 dL_law_919 dL_law_920 dL_law_921 ?_
  refine lv_aload_n hx hb dL_law_922 rfl (lv_at hl 3 rfl) ?_
  refine law_w1 (P := 923) E0 I0 X.1 (by decide) (by decide) (xr_SW (As := [.ref (ad 4 0), .int (iI (xo xs (i + 1))), .int (iI (xo xs (i + 2))), .int (iI (xo xs (i + 3))), .ref b0]) (rest := []) hx hb hml hown hts hK hXS hN hS (fun q z => (hA2 q z).1) (c_L_draw hR hG hl0 hAH hB hbA (xo xs (i + 1)) (xo xs (i + 2)) (xo xs (i + 3)) (xo_in _ _) (xo_in _ _) (xo_in _ _)) ms_L_draw kw_473 ⟨Nat.le_of_ble_eq_true rfl, Nat.le_of_ble_eq_true rfl⟩ ⟨hc, Nat.le_trans (Nat.add_le_add_left (by decide) _) hs⟩ rfl rfl hl.1 rfl (lv_room (Nat.le_of_ble_eq_true rfl)) dL_law_923) hl dL_law_926 (fun ad1 g H1 locs1 ls hR1 hM1 hB1 hg1 hS1 hz1 hl => ?_)
  refine lv_aload_n hx hb dL_law_928 rfl (lv_at hl 3 rfl) ?_
  refine xr_arg (P := 929) (j := i + 1) hx hb hX hbl hS1 hL (by omega) (by omega) (lv_at hl 1 rfl) (lv_at hl 5 rfl) dL_law_929 dL_law_930 dL_law_932 dL_law_933 dL_law_934 ?_
  refine xr_arg (P := 935) (j := i + 2) hx hb hX hbl hS1 hL (by omega) (by omega) (lv_at hl 1 rfl) (lv_at hl 5 rfl) dL_law_935 dL_law_936 dL_law_938 dL_law_939 dL_law_940 ?_
  refine xr_arg (P := 941) (j := i + 3) hx hb hX hbl hS1 hL (by omega) (by omega) (lv_at hl 1 rfl) (lv_at hl 5 rfl) dL_law_941 dL_law_942 dL_law_944 dL_law_945 dL_law_946 ?_
  refine law_w2 (P := 947) E0 (xr_V (As := [.int (iI (xo xs (i + 1))), .int (iI (xo xs (i + 2))), .int (iI (xo xs (i + 3)))]) (rest := []) hx hb hml hown hts hK (c_X5_draw hM1 hGM (xo xs (i + 1)) (xo xs (i + 2)) (xo xs (i + 3)) (xo_in _ _) (xo_in _ _) (xo_in _ _)) ms_X5_draw kw_930 (wr_recv hK hM1 (md_5 hGM) rfl rfl) ⟨Nat.le_of_ble_eq_true rfl, Nat.le_of_ble_eq_true rfl⟩ ⟨hc, hs⟩ rfl rfl hl.1 rfl (lv_room (Nat.le_of_ble_eq_true rfl)) dL_law_947) hR1 hB1 hS1 hz1 (fun H2 locs2 hR2 hM2 hB2 hS2 hz2 => ?_)
  refine law_ti (P := 950) E0 hml hown hts hM2 X.2.2.2.1 hB2 ⟨X.1.2.2.2.1, X.1.2.2.2.2⟩ X.2.2.2.2.1 (fun z => ?_) hg1 ⟨Nat.le_of_ble_eq_true rfl, Nat.le_of_ble_eq_true rfl⟩ ⟨hc, hs⟩ hl dL_law_950 dL_law_952 dL_law_953 dL_law_956 dL_law_958 dL_law_963 dL_law_965 dL_law_968 dL_law_969 dL_law_970 dL_law_971 dL_law_973 dL_law_974 dL_law_975 dL_law_980 (by decide) (fun ls hl => ?_)
  · have hT := X.1.2.1.mpr z
    rw [← X.1.2.2.1 hT]
    exact r32_draw hG (xo xs (i + 1)) (xo xs (i + 2)) (xo xs (i + 3)) hT
  · exact kk ad1 _ _ H2 locs2 ls ⟨hR2, hM2, ⟨g, hB2⟩, X.2.1, X.2.2.1, X.2.2.2.1, hS2, hz2⟩ X.2.2.2.2.2 hl
set_option maxRecDepth 100000 in
set_option maxHeartbeats 4000000 in
theorem law_c11 (E : LE p l s m meth c b L xs D cy A A2 b0 N0) (I : LI D cy A A2 s b0 N0 ad adM sg mu H locs) (hi : i + 5 ≤ L) (h2 : sg 702 0 ≤ 1000000) (hc : cells + 1 ≤ 601024) (hs : slots + 15 ≤ 7293034) (hl : lv_has ls 8 [(0, .ref b), (1, .ref (ad 4 0)), (2, .ref (adM 5 0)), (3, .ref b0), (4, .int (iI (i : Int)))]) (kk : LK p l e s m below meth c b D cy A A2 b0 N0 adM i cells slots Q sg) : W p l e room_1 s m #[Value.ref b] below meth c H locs cells slots Q (F0 m 983 ls []) := by
  have E0 := E
  have I0 := I
  obtain ⟨⟨hx, hb, -, hml, hown, hts0, hX, hbl, -, -⟩, hl0, hK, hXS, hN, hA, hA2, hA3, hb0, hL⟩ := E
  obtain ⟨hR, hRM, ⟨g0, hB⟩, hRel, hG, hGM, hS, hz⟩ := I
  have hts : ∀ w ∈ wG, w.before #[Value.ref b] s = true := fun w hw => hts0 w (List.mem_filter.mp hw).1
  have hAH : ∀ q : Nat, H.size ≤ q → A q := fun q h => hA q (Nat.le_trans hz h)
  have hbA : ¬ A b0 := fun z => (hA2 _ z).2.2 rfl
  have hown : s.vm.findClass "TakinghallLaw" = some m.cls := hown
  have X := simX_w (s_notice hRel hG hGM (xo xs (i + 1))) (rfl) (by show sg 702 0 ≤ _; omega)
  refine lv_aload_n hx hb dL_law_983 rfl (lv_at hl 1 rfl) ?_
  refine xr_arg (P := 984) (j := i + 1) hx hb hX hbl hS hL (by omega) (by omega) (lv_at hl 0 rfl) (lv_at hl 4 rfl) dL_law_984 dL_law_985 dL_law_987 dL_law_988 dL_law_989 ?_
  refine lv_aload_n hx hb dL_law_990 rfl (lv_at hl 3 rfl) ?_
  refine law_w1 (P := 991) E0 I0 X.1 (by decide) (by decide) (xr_SW (As := [.ref (ad 4 0), .int (iI (xo xs (i + 1))), .ref b0]) (rest := []) hx hb hml hown hts hK hXS hN hS (fun q z => (hA2 q z).1) (c_L_notice hR hG hl0 hAH hB hbA (xo xs (i + 1)) (xo_in _ _)) ms_L_notice kw_494 ⟨Nat.le_of_ble_eq_true rfl, Nat.le_of_ble_eq_true rfl⟩ ⟨hc, Nat.le_trans (Nat.add_le_add_left (by decide) _) hs⟩ rfl rfl hl.1 rfl (lv_room (Nat.le_of_ble_eq_true rfl)) dL_law_991) hl dL_law_994 (fun ad1 g H1 locs1 ls hR1 hM1 hB1 hg1 hS1 hz1 hl => ?_)
  refine lv_aload_n hx hb dL_law_996 rfl (lv_at hl 3 rfl) ?_
  refine xr_arg (P := 997) (j := i + 1) hx hb hX hbl hS1 hL (by omega) (by omega) (lv_at hl 1 rfl) (lv_at hl 5 rfl) dL_law_997 dL_law_998 dL_law_1000 dL_law_1001 dL_law_1002 ?_
  refine law_w2 (P := 1003) E0 (xr_V (As := [.int (iI (xo xs (i + 1)))]) (rest := []) hx hb hml hown hts hK (c_X5_notice hM1 hGM (xo xs (i + 1)) (xo_in _ _)) ms_X5_notice kw_942 (wr_recv hK hM1 (md_5 hGM) rfl rfl) ⟨Nat.le_of_ble_eq_true rfl, Nat.le_of_ble_eq_true rfl⟩ ⟨hc, hs⟩ rfl rfl hl.1 rfl (lv_room (Nat.le_of_ble_eq_true rfl)) dL_law_1003) hR1 hB1 hS1 hz1 (fun H2 locs2 hR2 hM2 hB2 hS2 hz2 => ?_)
  refine law_ti (P := 1006) E0 hml hown hts hM2 X.2.2.2.1 hB2 ⟨X.1.2.2.2.1, X.1.2.2.2.2⟩ X.2.2.2.2.1 (fun z => ?_) hg1 ⟨Nat.le_of_ble_eq_true rfl, Nat.le_of_ble_eq_true rfl⟩ ⟨hc, hs⟩ hl dL_law_1006 dL_law_1008 dL_law_1009 dL_law_1012 dL_law_1014 dL_law_1019 dL_law_1021 dL_law_1024 dL_law_1025 dL_law_1026 dL_law_1027 dL_law_1029 dL_law_1030 dL_law_1031 dL_law_1036 (by decide) (fun ls hl => ?_)
  · have hT := X.1.2.1.mpr z
    rw [← X.1.2.2.1 hT]
    exact r32_notice hG (xo xs (i + 1)) hT
  · exact kk ad1 _ _ H2 locs2 ls ⟨hR2, hM2, ⟨g, hB2⟩, X.2.1, X.2.2.1, X.2.2.2.1, hS2, hz2⟩ X.2.2.2.2.2 hl
set_option maxRecDepth 100000 in
set_option maxHeartbeats 4000000 in
theorem law_c12 (E : LE p l s m meth c b L xs D cy A A2 b0 N0) (I : LI D cy A A2 s b0 N0 ad adM sg mu H locs) (hi : i + 5 ≤ L) (h2 : sg 702 0 ≤ 1000000) (hc : cells + 1 ≤ 601024) (hs : slots + 15 ≤ 7293034) (hl : lv_has ls 8 [(0, .ref b), (1, .ref (ad 4 0)), (2, .ref (adM 5 0)), (3, .ref b0), (4, .int (iI (i : Int)))]) (kk : LK p l e s m below meth c b D cy A A2 b0 N0 adM i cells slots Q sg) : W p l e room_1 s m #[Value.ref b] below meth c H locs cells slots Q (F0 m 1039 ls []) := by
  have E0 := E
  have I0 := I
  obtain ⟨⟨hx, hb, -, hml, hown, hts0, hX, hbl, -, -⟩, hl0, hK, hXS, hN, hA, hA2, hA3, hb0, hL⟩ := E
  obtain ⟨hR, hRM, ⟨g0, hB⟩, hRel, hG, hGM, hS, hz⟩ := I
  have hts : ∀ w ∈ wG, w.before #[Value.ref b] s = true := fun w hw => hts0 w (List.mem_filter.mp hw).1
  have hAH : ∀ q : Nat, H.size ≤ q → A q := fun q h => hA q (Nat.le_trans hz h)
  have hbA : ¬ A b0 := fun z => (hA2 _ z).2.2 rfl
  have hown : s.vm.findClass "TakinghallLaw" = some m.cls := hown
  have X := simX_w (s_object hRel hG hGM (xo xs (i + 1))) (rfl) (by show sg 702 0 ≤ _; omega)
  refine lv_aload_n hx hb dL_law_1039 rfl (lv_at hl 1 rfl) ?_
  refine xr_arg (P := 1040) (j := i + 1) hx hb hX hbl hS hL (by omega) (by omega) (lv_at hl 0 rfl) (lv_at hl 4 rfl) dL_law_1040 dL_law_1041 dL_law_1043 dL_law_1044 dL_law_1045 ?_
  refine lv_aload_n hx hb dL_law_1046 rfl (lv_at hl 3 rfl) ?_
  refine law_w1 (P := 1047) E0 I0 X.1 (by decide) (by decide) (xr_SW (As := [.ref (ad 4 0), .int (iI (xo xs (i + 1))), .ref b0]) (rest := []) hx hb hml hown hts hK hXS hN hS (fun q z => (hA2 q z).1) (c_L_object hR hG hl0 hAH hB hbA (xo xs (i + 1)) (xo_in _ _)) ms_L_object kw_508 ⟨Nat.le_of_ble_eq_true rfl, Nat.le_of_ble_eq_true rfl⟩ ⟨hc, Nat.le_trans (Nat.add_le_add_left (by decide) _) hs⟩ rfl rfl hl.1 rfl (lv_room (Nat.le_of_ble_eq_true rfl)) dL_law_1047) hl dL_law_1050 (fun ad1 g H1 locs1 ls hR1 hM1 hB1 hg1 hS1 hz1 hl => ?_)
  refine lv_aload_n hx hb dL_law_1052 rfl (lv_at hl 3 rfl) ?_
  refine xr_arg (P := 1053) (j := i + 1) hx hb hX hbl hS1 hL (by omega) (by omega) (lv_at hl 1 rfl) (lv_at hl 5 rfl) dL_law_1053 dL_law_1054 dL_law_1056 dL_law_1057 dL_law_1058 ?_
  refine law_w2 (P := 1059) E0 (xr_V (As := [.int (iI (xo xs (i + 1)))]) (rest := []) hx hb hml hown hts hK (c_X5_object hM1 hGM (xo xs (i + 1)) (xo_in _ _)) ms_X5_object kw_950 (wr_recv hK hM1 (md_5 hGM) rfl rfl) ⟨Nat.le_of_ble_eq_true rfl, Nat.le_of_ble_eq_true rfl⟩ ⟨hc, hs⟩ rfl rfl hl.1 rfl (lv_room (Nat.le_of_ble_eq_true rfl)) dL_law_1059) hR1 hB1 hS1 hz1 (fun H2 locs2 hR2 hM2 hB2 hS2 hz2 => ?_)
  refine law_ti (P := 1062) E0 hml hown hts hM2 X.2.2.2.1 hB2 ⟨X.1.2.2.2.1, X.1.2.2.2.2⟩ X.2.2.2.2.1 (fun z => ?_) hg1 ⟨Nat.le_of_ble_eq_true rfl, Nat.le_of_ble_eq_true rfl⟩ ⟨hc, hs⟩ hl dL_law_1062 dL_law_1064 dL_law_1065 dL_law_1068 dL_law_1070 dL_law_1075 dL_law_1077 dL_law_1080 dL_law_1081 dL_law_1082 dL_law_1083 dL_law_1085 dL_law_1086 dL_law_1087 dL_law_1092 (by decide) (fun ls hl => ?_)
  · have hT := X.1.2.1.mpr z
    rw [← X.1.2.2.1 hT]
    exact r32_object hG (xo xs (i + 1)) hT
  · exact kk ad1 _ _ H2 locs2 ls ⟨hR2, hM2, ⟨g, hB2⟩, X.2.1, X.2.2.1, X.2.2.2.1, hS2, hz2⟩ X.2.2.2.2.2 hl
set_option maxRecDepth 100000 in
set_option maxHeartbeats 4000000 in
theorem law_c13 (E : LE p l s m meth c b L xs D cy A A2 b0 N0) (I : LI D cy A A2 s b0 N0 ad adM sg mu H locs) (hi : i + 5 ≤ L) (h2 : sg 702 0 ≤ 1000000) (hc : cells + 1 ≤ 601024) (hs : slots + 15 ≤ 7293034) (hl : lv_has ls 8 [(0, .ref b), (1, .ref (ad 4 0)), (2, .ref (adM 5 0)), (3, .ref b0), (4, .int (iI (i : Int)))]) (kk : LK p l e s m below meth c b D cy A A2 b0 N0 adM i cells slots Q sg) : W p l e room_1 s m #[Value.ref b] below meth c H locs cells slots Q (F0 m 1095 ls []) := by
  have E0 := E
  have I0 := I
  obtain ⟨⟨hx, hb, -, hml, hown, hts0, hX, hbl, -, -⟩, hl0, hK, hXS, hN, hA, hA2, hA3, hb0, hL⟩ := E
  obtain ⟨hR, hRM, ⟨g0, hB⟩, hRel, hG, hGM, hS, hz⟩ := I
  have hts : ∀ w ∈ wG, w.before #[Value.ref b] s = true := fun w hw => hts0 w (List.mem_filter.mp hw).1
  have hAH : ∀ q : Nat, H.size ≤ q → A q := fun q h => hA q (Nat.le_trans hz h)
  have hbA : ¬ A b0 := fun z => (hA2 _ z).2.2 rfl
  have hown : s.vm.findClass "TakinghallLaw" = some m.cls := hown
  obtain ⟨bv, hbv, hb00, hb11⟩ : ∃ bv : Int, (0 ≤ bv ∧ bv ≤ 1) ∧ ((xo xs (i + 2)) = 0 → bv = 0) ∧ ((xo xs (i + 2)) ≠ 0 → bv = 1) := by
    by_cases z : (xo xs (i + 2)) = 0
    · exact ⟨0, by decide, fun _ => rfl, fun y => absurd z y⟩
    · exact ⟨1, by decide, fun y => absurd y z, fun _ => rfl⟩
  have X := simX_w (s_hear hRel hG hGM (xo xs (i + 1)) bv) (by unfold mHearT; split <;> rfl) (by unfold hearT; split; (show sg 702 0 ≤ _; omega); (unfold relT; rw [rel_f (by decide)]; omega))
  refine lv_aload_n hx hb dL_law_1095 rfl (lv_at hl 1 rfl) ?_
  refine xr_arg (P := 1096) (j := i + 1) hx hb hX hbl hS hL (by omega) (by omega) (lv_at hl 0 rfl) (lv_at hl 4 rfl) dL_law_1096 dL_law_1097 dL_law_1099 dL_law_1100 dL_law_1101 ?_
  refine xr_arg (P := 1102) (j := i + 2) hx hb hX hbl hS hL (by omega) (by omega) (lv_at hl 0 rfl) (lv_at hl 4 rfl) dL_law_1102 dL_law_1103 dL_law_1105 dL_law_1106 dL_law_1107 ?_
  have key : W p l e room_1 s m #[Value.ref b] below meth c H locs cells slots Q (F0 m 1116 ls (.int (iI bv) :: [.int (iI (xo xs (i + 1))), .ref (ad 4 0)])) := by
    refine lv_aload_n hx hb dL_law_1116 rfl (lv_at hl 3 rfl) ?_
    refine law_w1 (P := 1117) E0 I0 X.1 (by decide) (by decide) (xr_SW (As := [.ref (ad 4 0), .int (iI (xo xs (i + 1))), .int (iI bv), .ref b0]) (rest := []) hx hb hml hown hts hK hXS hN hS (fun q z => (hA2 q z).1) (c_L_hear hR hG hl0 hAH hB hbA (xo xs (i + 1)) bv (xo_in _ _) hbv) ms_L_hear kw_520 ⟨Nat.le_of_ble_eq_true rfl, Nat.le_of_ble_eq_true rfl⟩ ⟨hc, Nat.le_trans (Nat.add_le_add_left (by decide) _) hs⟩ rfl rfl hl.1 rfl (lv_room (Nat.le_of_ble_eq_true rfl)) dL_law_1117) hl dL_law_1120 (fun ad1 g H1 locs1 ls hR1 hM1 hB1 hg1 hS1 hz1 hl => ?_)
    refine lv_aload_n hx hb dL_law_1122 rfl (lv_at hl 3 rfl) ?_
    refine xr_arg (P := 1123) (j := i + 1) hx hb hX hbl hS1 hL (by omega) (by omega) (lv_at hl 1 rfl) (lv_at hl 5 rfl) dL_law_1123 dL_law_1124 dL_law_1126 dL_law_1127 dL_law_1128 ?_
    refine xr_arg (P := 1129) (j := i + 2) hx hb hX hbl hS1 hL (by omega) (by omega) (lv_at hl 1 rfl) (lv_at hl 5 rfl) dL_law_1129 dL_law_1130 dL_law_1132 dL_law_1133 dL_law_1134 ?_
    have key : W p l e room_1 s m #[Value.ref b] below meth c H1 locs1 (cells + 1) (slots + 15) Q (F0 m 1143 ls (.int (iI bv) :: [.int (iI (xo xs (i + 1))), .ref (adM 5 0)])) := by
      refine law_w2 (P := 1143) E0 (xr_V (As := [.int (iI (xo xs (i + 1))), .int (iI bv)]) (rest := []) hx hb hml hown hts hK (c_X5_hear hM1 hGM (xo xs (i + 1)) bv (xo_in _ _) hbv) ms_X5_hear kw_958 (wr_recv hK hM1 (md_5 hGM) rfl rfl) ⟨Nat.le_of_ble_eq_true rfl, Nat.le_of_ble_eq_true rfl⟩ ⟨hc, hs⟩ rfl rfl hl.1 rfl (lv_room (Nat.le_of_ble_eq_true rfl)) dL_law_1143) hR1 hB1 hS1 hz1 (fun H2 locs2 hR2 hM2 hB2 hS2 hz2 => ?_)
      refine law_ti (P := 1146) E0 hml hown hts hM2 X.2.2.2.1 hB2 ⟨X.1.2.2.2.1, X.1.2.2.2.2⟩ X.2.2.2.2.1 (fun z => ?_) hg1 ⟨Nat.le_of_ble_eq_true rfl, Nat.le_of_ble_eq_true rfl⟩ ⟨hc, hs⟩ hl dL_law_1146 dL_law_1148 dL_law_1149 dL_law_1152 dL_law_1154 dL_law_1159 dL_law_1161 dL_law_1164 dL_law_1165 dL_law_1166 dL_law_1167 dL_law_1169 dL_law_1170 dL_law_1171 dL_law_1176 (by decide) (fun ls hl => ?_)
      · have hT := X.1.2.1.mpr z
        rw [← X.1.2.2.1 hT]
        exact r32_hear hG (xo xs (i + 1)) bv hT
      · exact kk ad1 _ _ H2 locs2 ls ⟨hR2, hM2, ⟨g, hB2⟩, X.2.1, X.2.2.1, X.2.2.2.1, hS2, hz2⟩ X.2.2.2.2.2 hl
    refine xr_if_eq (tgt := 1142) hx hb dL_law_1135 (by decide) (xo_in _ _) (fun z => ?_) (fun z => ?_)
    · refine lv_iconst (v := iI 0) hx hb dL_law_1142 rfl ?_
      rw [hb00 z] at key; exact key
    · refine lv_iconst (v := iI 1) hx hb dL_law_1138 rfl ?_
      refine lv_goto (tgt := 1143) hx hb dL_law_1139 (by decide) ?_
      rw [hb11 z] at key; exact key
  refine xr_if_eq (tgt := 1115) hx hb dL_law_1108 (by decide) (xo_in _ _) (fun z => ?_) (fun z => ?_)
  · refine lv_iconst (v := iI 0) hx hb dL_law_1115 rfl ?_
    rw [hb00 z] at key; exact key
  · refine lv_iconst (v := iI 1) hx hb dL_law_1111 rfl ?_
    refine lv_goto (tgt := 1116) hx hb dL_law_1112 (by decide) ?_
    rw [hb11 z] at key; exact key
set_option maxRecDepth 100000 in
set_option maxHeartbeats 4000000 in
theorem law_c14 (E : LE p l s m meth c b L xs D cy A A2 b0 N0) (I : LI D cy A A2 s b0 N0 ad adM sg mu H locs) (hi : i + 5 ≤ L) (h2 : sg 702 0 ≤ 1000000) (hc : cells + 1 ≤ 601024) (hs : slots + 15 ≤ 7293034) (hl : lv_has ls 8 [(0, .ref b), (1, .ref (ad 4 0)), (2, .ref (adM 5 0)), (3, .ref b0), (4, .int (iI (i : Int)))]) (kk : LK p l e s m below meth c b D cy A A2 b0 N0 adM i cells slots Q sg) : W p l e room_1 s m #[Value.ref b] below meth c H locs cells slots Q (F0 m 1179 ls []) := by
  have E0 := E
  have I0 := I
  obtain ⟨⟨hx, hb, -, hml, hown, hts0, hX, hbl, -, -⟩, hl0, hK, hXS, hN, hA, hA2, hA3, hb0, hL⟩ := E
  obtain ⟨hR, hRM, ⟨g0, hB⟩, hRel, hG, hGM, hS, hz⟩ := I
  have hts : ∀ w ∈ wG, w.before #[Value.ref b] s = true := fun w hw => hts0 w (List.mem_filter.mp hw).1
  have hAH : ∀ q : Nat, H.size ≤ q → A q := fun q h => hA q (Nat.le_trans hz h)
  have hbA : ¬ A b0 := fun z => (hA2 _ z).2.2 rfl
  have hown : s.vm.findClass "TakinghallLaw" = some m.cls := hown
  have X := simX_w (s_confirm hRel hG hGM (xo xs (i + 1))) (rfl) (by show sg 702 0 ≤ _; omega)
  refine lv_aload_n hx hb dL_law_1179 rfl (lv_at hl 1 rfl) ?_
  refine xr_arg (P := 1180) (j := i + 1) hx hb hX hbl hS hL (by omega) (by omega) (lv_at hl 0 rfl) (lv_at hl 4 rfl) dL_law_1180 dL_law_1181 dL_law_1183 dL_law_1184 dL_law_1185 ?_
  refine lv_aload_n hx hb dL_law_1186 rfl (lv_at hl 3 rfl) ?_
  refine law_w1 (P := 1187) E0 I0 X.1 (by decide) (by decide) (xr_SW (As := [.ref (ad 4 0), .int (iI (xo xs (i + 1))), .ref b0]) (rest := []) hx hb hml hown hts hK hXS hN hS (fun q z => (hA2 q z).1) (c_L_confirm hR hG hl0 hAH hB hbA (xo xs (i + 1)) (xo_in _ _)) ms_L_confirm kw_532 ⟨Nat.le_of_ble_eq_true rfl, Nat.le_of_ble_eq_true rfl⟩ ⟨hc, Nat.le_trans (Nat.add_le_add_left (by decide) _) hs⟩ rfl rfl hl.1 rfl (lv_room (Nat.le_of_ble_eq_true rfl)) dL_law_1187) hl dL_law_1190 (fun ad1 g H1 locs1 ls hR1 hM1 hB1 hg1 hS1 hz1 hl => ?_)
  refine lv_aload_n hx hb dL_law_1192 rfl (lv_at hl 3 rfl) ?_
  refine xr_arg (P := 1193) (j := i + 1) hx hb hX hbl hS1 hL (by omega) (by omega) (lv_at hl 1 rfl) (lv_at hl 5 rfl) dL_law_1193 dL_law_1194 dL_law_1196 dL_law_1197 dL_law_1198 ?_
  refine law_w2 (P := 1199) E0 (xr_V (As := [.int (iI (xo xs (i + 1)))]) (rest := []) hx hb hml hown hts hK (c_X5_confirm hM1 hGM (xo xs (i + 1)) (xo_in _ _)) ms_X5_confirm kw_966 (wr_recv hK hM1 (md_5 hGM) rfl rfl) ⟨Nat.le_of_ble_eq_true rfl, Nat.le_of_ble_eq_true rfl⟩ ⟨hc, hs⟩ rfl rfl hl.1 rfl (lv_room (Nat.le_of_ble_eq_true rfl)) dL_law_1199) hR1 hB1 hS1 hz1 (fun H2 locs2 hR2 hM2 hB2 hS2 hz2 => ?_)
  refine law_ti (P := 1202) E0 hml hown hts hM2 X.2.2.2.1 hB2 ⟨X.1.2.2.2.1, X.1.2.2.2.2⟩ X.2.2.2.2.1 (fun z => ?_) hg1 ⟨Nat.le_of_ble_eq_true rfl, Nat.le_of_ble_eq_true rfl⟩ ⟨hc, hs⟩ hl dL_law_1202 dL_law_1204 dL_law_1205 dL_law_1208 dL_law_1210 dL_law_1215 dL_law_1217 dL_law_1220 dL_law_1221 dL_law_1222 dL_law_1223 dL_law_1225 dL_law_1226 dL_law_1227 dL_law_1232 (by decide) (fun ls hl => ?_)
  · have hT := X.1.2.1.mpr z
    rw [← X.1.2.2.1 hT]
    exact r32_confirm hG (xo xs (i + 1)) hT
  · exact kk ad1 _ _ H2 locs2 ls ⟨hR2, hM2, ⟨g, hB2⟩, X.2.1, X.2.2.1, X.2.2.2.1, hS2, hz2⟩ X.2.2.2.2.2 hl
set_option maxRecDepth 100000 in
set_option maxHeartbeats 4000000 in
theorem law_c15 (E : LE p l s m meth c b L xs D cy A A2 b0 N0) (I : LI D cy A A2 s b0 N0 ad adM sg mu H locs) (hi : i + 5 ≤ L) (h2 : sg 702 0 ≤ 1000000) (hc : cells + 1 ≤ 601024) (hs : slots + 15 ≤ 7293034) (hl : lv_has ls 8 [(0, .ref b), (1, .ref (ad 4 0)), (2, .ref (adM 5 0)), (3, .ref b0), (4, .int (iI (i : Int)))]) (kk : LK p l e s m below meth c b D cy A A2 b0 N0 adM i cells slots Q sg) : W p l e room_1 s m #[Value.ref b] below meth c H locs cells slots Q (F0 m 1235 ls []) := by
  have E0 := E
  have I0 := I
  obtain ⟨⟨hx, hb, -, hml, hown, hts0, hX, hbl, -, -⟩, hl0, hK, hXS, hN, hA, hA2, hA3, hb0, hL⟩ := E
  obtain ⟨hR, hRM, ⟨g0, hB⟩, hRel, hG, hGM, hS, hz⟩ := I
  have hts : ∀ w ∈ wG, w.before #[Value.ref b] s = true := fun w hw => hts0 w (List.mem_filter.mp hw).1
  have hAH : ∀ q : Nat, H.size ≤ q → A q := fun q h => hA q (Nat.le_trans hz h)
  have hbA : ¬ A b0 := fun z => (hA2 _ z).2.2 rfl
  have hown : s.vm.findClass "TakinghallLaw" = some m.cls := hown
  have X := simX_p (s_whoStops hRel hG (xo xs (i + 1))) hRel hG hGM
  refine lv_aload_n hx hb dL_law_1235 rfl (lv_at hl 1 rfl) ?_
  refine xr_arg (P := 1236) (j := i + 1) hx hb hX hbl hS hL (by omega) (by omega) (lv_at hl 0 rfl) (lv_at hl 4 rfl) dL_law_1236 dL_law_1237 dL_law_1239 dL_law_1240 dL_law_1241 ?_
  refine lv_aload_n hx hb dL_law_1242 rfl (lv_at hl 3 rfl) ?_
  refine law_w1 (P := 1243) E0 I0 X.1 (by decide) (by decide) (xr_SW (As := [.ref (ad 4 0), .int (iI (xo xs (i + 1))), .ref b0]) (rest := []) hx hb hml hown hts hK hXS hN hS (fun q z => (hA2 q z).1) (c_L_whoStops hR hG hl0 hAH hB hbA (xo xs (i + 1)) (xo_in _ _)) ms_L_whoStops kw_557 ⟨Nat.le_of_ble_eq_true rfl, Nat.le_of_ble_eq_true rfl⟩ ⟨hc, Nat.le_trans (Nat.add_le_add_left (by decide) _) hs⟩ rfl rfl hl.1 rfl (lv_room (Nat.le_of_ble_eq_true rfl)) dL_law_1243) hl dL_law_1246 (fun ad1 g H1 locs1 ls hR1 hM1 hB1 hg1 hS1 hz1 hl => ?_)
  refine lv_aload_n hx hb dL_law_1248 rfl (lv_at hl 3 rfl) ?_
  refine xr_arg (P := 1249) (j := i + 1) hx hb hX hbl hS1 hL (by omega) (by omega) (lv_at hl 1 rfl) (lv_at hl 5 rfl) dL_law_1249 dL_law_1250 dL_law_1252 dL_law_1253 dL_law_1254 ?_
  refine law_w2 (P := 1255) E0 (xr_V (As := [.int (iI (xo xs (i + 1)))]) (rest := []) hx hb hml hown hts hK (c_X5_whoStops hM1 hGM (xo xs (i + 1)) (xo_in _ _)) ms_X5_whoStops kw_974 (wr_recv hK hM1 (md_5 hGM) rfl rfl) ⟨Nat.le_of_ble_eq_true rfl, Nat.le_of_ble_eq_true rfl⟩ ⟨hc, hs⟩ rfl rfl hl.1 rfl (lv_room (Nat.le_of_ble_eq_true rfl)) dL_law_1255) hR1 hB1 hS1 hz1 (fun H2 locs2 hR2 hM2 hB2 hS2 hz2 => ?_)
  refine law_ti (P := 1258) E0 hml hown hts hM2 X.2.2.2.1 hB2 ⟨X.1.2.2.2.1, X.1.2.2.2.2⟩ X.2.2.2.2.1 (fun z => ?_) hg1 ⟨Nat.le_of_ble_eq_true rfl, Nat.le_of_ble_eq_true rfl⟩ ⟨hc, hs⟩ hl dL_law_1258 dL_law_1260 dL_law_1261 dL_law_1264 dL_law_1266 dL_law_1271 dL_law_1273 dL_law_1276 dL_law_1277 dL_law_1278 dL_law_1279 dL_law_1281 dL_law_1282 dL_law_1283 dL_law_1288 (by decide) (fun ls hl => ?_)
  · have hT := X.1.2.1.mpr z
    rw [← X.1.2.2.1 hT]
    exact r32_whoStops hG (xo xs (i + 1)) hT
  · exact kk ad1 _ _ H2 locs2 ls ⟨hR2, hM2, ⟨g, hB2⟩, X.2.1, X.2.2.1, X.2.2.2.1, hS2, hz2⟩ X.2.2.2.2.2 hl
set_option maxRecDepth 100000 in
set_option maxHeartbeats 4000000 in
theorem law_c16 (E : LE p l s m meth c b L xs D cy A A2 b0 N0) (I : LI D cy A A2 s b0 N0 ad adM sg mu H locs) (hi : i + 5 ≤ L) (h2 : sg 702 0 ≤ 1000000) (hc : cells + 1 ≤ 601024) (hs : slots + 15 ≤ 7293034) (hl : lv_has ls 8 [(0, .ref b), (1, .ref (ad 4 0)), (2, .ref (adM 5 0)), (3, .ref b0), (4, .int (iI (i : Int)))]) (kk : LK p l e s m below meth c b D cy A A2 b0 N0 adM i cells slots Q sg) : W p l e room_1 s m #[Value.ref b] below meth c H locs cells slots Q (F0 m 1291 ls []) := by
  have E0 := E
  have I0 := I
  obtain ⟨⟨hx, hb, -, hml, hown, hts0, hX, hbl, -, -⟩, hl0, hK, hXS, hN, hA, hA2, hA3, hb0, hL⟩ := E
  obtain ⟨hR, hRM, ⟨g0, hB⟩, hRel, hG, hGM, hS, hz⟩ := I
  have hts : ∀ w ∈ wG, w.before #[Value.ref b] s = true := fun w hw => hts0 w (List.mem_filter.mp hw).1
  have hAH : ∀ q : Nat, H.size ≤ q → A q := fun q h => hA q (Nat.le_trans hz h)
  have hbA : ¬ A b0 := fun z => (hA2 _ z).2.2 rfl
  have hown : s.vm.findClass "TakinghallLaw" = some m.cls := hown
  have X := simX_w (s_drop hRel hG hGM (xo xs (i + 1))) (mdr_9 _ rfl) (by rw [dropT_7]; omega)
  refine lv_aload_n hx hb dL_law_1291 rfl (lv_at hl 1 rfl) ?_
  refine xr_arg (P := 1292) (j := i + 1) hx hb hX hbl hS hL (by omega) (by omega) (lv_at hl 0 rfl) (lv_at hl 4 rfl) dL_law_1292 dL_law_1293 dL_law_1295 dL_law_1296 dL_law_1297 ?_
  refine lv_aload_n hx hb dL_law_1298 rfl (lv_at hl 3 rfl) ?_
  refine law_w1 (P := 1299) E0 I0 X.1 (by decide) (by decide) (xr_SW (As := [.ref (ad 4 0), .int (iI (xo xs (i + 1))), .ref b0]) (rest := []) hx hb hml hown hts hK hXS hN hS (fun q z => (hA2 q z).1) (c_L_drop hR hG hl0 hAH hB hbA (xo xs (i + 1)) (xo_in _ _)) ms_L_drop kw_564 ⟨Nat.le_of_ble_eq_true rfl, Nat.le_of_ble_eq_true rfl⟩ ⟨hc, Nat.le_trans (Nat.add_le_add_left (by decide) _) hs⟩ rfl rfl hl.1 rfl (lv_room (Nat.le_of_ble_eq_true rfl)) dL_law_1299) hl dL_law_1302 (fun ad1 g H1 locs1 ls hR1 hM1 hB1 hg1 hS1 hz1 hl => ?_)
  refine lv_aload_n hx hb dL_law_1304 rfl (lv_at hl 3 rfl) ?_
  refine xr_arg (P := 1305) (j := i + 1) hx hb hX hbl hS1 hL (by omega) (by omega) (lv_at hl 1 rfl) (lv_at hl 5 rfl) dL_law_1305 dL_law_1306 dL_law_1308 dL_law_1309 dL_law_1310 ?_
  refine law_w2 (P := 1311) E0 (xr_V (As := [.int (iI (xo xs (i + 1)))]) (rest := []) hx hb hml hown hts hK (c_X5_drop hM1 hGM (xo xs (i + 1)) (xo_in _ _)) ms_X5_drop kw_978 (wr_recv hK hM1 (md_5 hGM) rfl rfl) ⟨Nat.le_of_ble_eq_true rfl, Nat.le_of_ble_eq_true rfl⟩ ⟨hc, hs⟩ rfl rfl hl.1 rfl (lv_room (Nat.le_of_ble_eq_true rfl)) dL_law_1311) hR1 hB1 hS1 hz1 (fun H2 locs2 hR2 hM2 hB2 hS2 hz2 => ?_)
  refine law_ti (P := 1314) E0 hml hown hts hM2 X.2.2.2.1 hB2 ⟨X.1.2.2.2.1, X.1.2.2.2.2⟩ X.2.2.2.2.1 (fun z => ?_) hg1 ⟨Nat.le_of_ble_eq_true rfl, Nat.le_of_ble_eq_true rfl⟩ ⟨hc, hs⟩ hl dL_law_1314 dL_law_1316 dL_law_1317 dL_law_1320 dL_law_1322 dL_law_1327 dL_law_1329 dL_law_1332 dL_law_1333 dL_law_1334 dL_law_1335 dL_law_1337 dL_law_1338 dL_law_1339 dL_law_1344 (by decide) (fun ls hl => ?_)
  · have hT := X.1.2.1.mpr z
    rw [← X.1.2.2.1 hT]
    exact r32_drop hG (xo xs (i + 1)) hT
  · exact kk ad1 _ _ H2 locs2 ls ⟨hR2, hM2, ⟨g, hB2⟩, X.2.1, X.2.2.1, X.2.2.2.1, hS2, hz2⟩ X.2.2.2.2.2 hl
set_option maxRecDepth 100000 in
set_option maxHeartbeats 4000000 in
theorem law_c17 (E : LE p l s m meth c b L xs D cy A A2 b0 N0) (I : LI D cy A A2 s b0 N0 ad adM sg mu H locs) (hi : i + 5 ≤ L) (h2 : sg 702 0 ≤ 1000000) (hc : cells + 1 ≤ 601024) (hs : slots + 15 ≤ 7293034) (hl : lv_has ls 8 [(0, .ref b), (1, .ref (ad 4 0)), (2, .ref (adM 5 0)), (3, .ref b0), (4, .int (iI (i : Int)))]) (kk : LK p l e s m below meth c b D cy A A2 b0 N0 adM i cells slots Q sg) : W p l e room_1 s m #[Value.ref b] below meth c H locs cells slots Q (F0 m 1347 ls []) := by
  have E0 := E
  have I0 := I
  obtain ⟨⟨hx, hb, -, hml, hown, hts0, hX, hbl, -, -⟩, hl0, hK, hXS, hN, hA, hA2, hA3, hb0, hL⟩ := E
  obtain ⟨hR, hRM, ⟨g0, hB⟩, hRel, hG, hGM, hS, hz⟩ := I
  have hts : ∀ w ∈ wG, w.before #[Value.ref b] s = true := fun w hw => hts0 w (List.mem_filter.mp hw).1
  have hAH : ∀ q : Nat, H.size ≤ q → A q := fun q h => hA q (Nat.le_trans hz h)
  have hbA : ¬ A b0 := fun z => (hA2 _ z).2.2 rfl
  have hown : s.vm.findClass "TakinghallLaw" = some m.cls := hown
  have X := simX_p (s_schemeOf hRel (xo xs (i + 1)) (xo xs (i + 2))) hRel hG hGM
  refine lv_aload_n hx hb dL_law_1347 rfl (lv_at hl 1 rfl) ?_
  refine xr_arg (P := 1348) (j := i + 1) hx hb hX hbl hS hL (by omega) (by omega) (lv_at hl 0 rfl) (lv_at hl 4 rfl) dL_law_1348 dL_law_1349 dL_law_1351 dL_law_1352 dL_law_1353 ?_
  refine xr_arg (P := 1354) (j := i + 2) hx hb hX hbl hS hL (by omega) (by omega) (lv_at hl 0 rfl) (lv_at hl 4 rfl) dL_law_1354 dL_law_1355 dL_law_1357 dL_law_1358 dL_law_1359 ?_
  refine lv_aload_n hx hb dL_law_1360 rfl (lv_at hl 3 rfl) ?_
  refine law_w1 (P := 1361) E0 I0 X.1 (by decide) (by decide) (xr_SW (As := [.ref (ad 4 0), .int (iI (xo xs (i + 1))), .int (iI (xo xs (i + 2))), .ref b0]) (rest := []) hx hb hml hown hts hK hXS hN hS (fun q z => (hA2 q z).1) (c_L_schemeOf hR hG hl0 hAH hB hbA (xo xs (i + 1)) (xo xs (i + 2)) (xo_in _ _) (xo_in _ _)) ms_L_schemeOf kw_586 ⟨Nat.le_of_ble_eq_true rfl, Nat.le_of_ble_eq_true rfl⟩ ⟨hc, Nat.le_trans (Nat.add_le_add_left (by decide) _) hs⟩ rfl rfl hl.1 rfl (lv_room (Nat.le_of_ble_eq_true rfl)) dL_law_1361) hl dL_law_1364 (fun ad1 g H1 locs1 ls hR1 hM1 hB1 hg1 hS1 hz1 hl => ?_)
  refine lv_aload_n hx hb dL_law_1366 rfl (lv_at hl 3 rfl) ?_
  refine xr_arg (P := 1367) (j := i + 1) hx hb hX hbl hS1 hL (by omega) (by omega) (lv_at hl 1 rfl) (lv_at hl 5 rfl) dL_law_1367 dL_law_1368 dL_law_1370 dL_law_1371 dL_law_1372 ?_
  refine xr_arg (P := 1373) (j := i + 2) hx hb hX hbl hS1 hL (by omega) (by omega) (lv_at hl 1 rfl) (lv_at hl 5 rfl) dL_law_1373 dL_law_1374 dL_law_1376 dL_law_1377 dL_law_1378 ?_
  refine law_w2 (P := 1379) E0 (xr_V (As := [.int (iI (xo xs (i + 1))), .int (iI (xo xs (i + 2)))]) (rest := []) hx hb hml hown hts hK (c_X5_schemeOf hM1 hGM (xo xs (i + 1)) (xo xs (i + 2)) (xo_in _ _) (xo_in _ _)) ms_X5_schemeOf kw_986 (wr_recv hK hM1 (md_5 hGM) rfl rfl) ⟨Nat.le_of_ble_eq_true rfl, Nat.le_of_ble_eq_true rfl⟩ ⟨hc, hs⟩ rfl rfl hl.1 rfl (lv_room (Nat.le_of_ble_eq_true rfl)) dL_law_1379) hR1 hB1 hS1 hz1 (fun H2 locs2 hR2 hM2 hB2 hS2 hz2 => ?_)
  refine law_ti (P := 1382) E0 hml hown hts hM2 X.2.2.2.1 hB2 ⟨X.1.2.2.2.1, X.1.2.2.2.2⟩ X.2.2.2.2.1 (fun z => ?_) hg1 ⟨Nat.le_of_ble_eq_true rfl, Nat.le_of_ble_eq_true rfl⟩ ⟨hc, hs⟩ hl dL_law_1382 dL_law_1384 dL_law_1385 dL_law_1388 dL_law_1390 dL_law_1395 dL_law_1397 dL_law_1400 dL_law_1401 dL_law_1402 dL_law_1403 dL_law_1405 dL_law_1406 dL_law_1407 dL_law_1412 (by decide) (fun ls hl => ?_)
  · have hT := X.1.2.1.mpr z
    rw [← X.1.2.2.1 hT]
    exact r32_schemeOf hG (xo xs (i + 1)) (xo xs (i + 2)) hT
  · exact kk ad1 _ _ H2 locs2 ls ⟨hR2, hM2, ⟨g, hB2⟩, X.2.1, X.2.2.1, X.2.2.2.1, hS2, hz2⟩ X.2.2.2.2.2 hl
set_option maxRecDepth 100000 in
set_option maxHeartbeats 4000000 in
theorem law_c18 (E : LE p l s m meth c b L xs D cy A A2 b0 N0) (I : LI D cy A A2 s b0 N0 ad adM sg mu H locs) (hi : i + 5 ≤ L) (h2 : sg 702 0 ≤ 1000000) (hc : cells + 1 ≤ 601024) (hs : slots + 15 ≤ 7293034) (hl : lv_has ls 8 [(0, .ref b), (1, .ref (ad 4 0)), (2, .ref (adM 5 0)), (3, .ref b0), (4, .int (iI (i : Int)))]) (kk : LK p l e s m below meth c b D cy A A2 b0 N0 adM i cells slots Q sg) : W p l e room_1 s m #[Value.ref b] below meth c H locs cells slots Q (F0 m 1415 ls []) := by
  have E0 := E
  have I0 := I
  obtain ⟨⟨hx, hb, -, hml, hown, hts0, hX, hbl, -, -⟩, hl0, hK, hXS, hN, hA, hA2, hA3, hb0, hL⟩ := E
  obtain ⟨hR, hRM, ⟨g0, hB⟩, hRel, hG, hGM, hS, hz⟩ := I
  have hts : ∀ w ∈ wG, w.before #[Value.ref b] s = true := fun w hw => hts0 w (List.mem_filter.mp hw).1
  have hAH : ∀ q : Nat, H.size ≤ q → A q := fun q h => hA q (Nat.le_trans hz h)
  have hbA : ¬ A b0 := fun z => (hA2 _ z).2.2 rfl
  have hown : s.vm.findClass "TakinghallLaw" = some m.cls := hown
  have X := simX_w (s_enter hRel hG hGM h2 (xo xs (i + 1))) (mtk_9 _ rfl) (by rw [tkT_7]; omega)
  refine lv_aload_n hx hb dL_law_1415 rfl (lv_at hl 1 rfl) ?_
  refine xr_arg (P := 1416) (j := i + 1) hx hb hX hbl hS hL (by omega) (by omega) (lv_at hl 0 rfl) (lv_at hl 4 rfl) dL_law_1416 dL_law_1417 dL_law_1419 dL_law_1420 dL_law_1421 ?_
  refine lv_aload_n hx hb dL_law_1422 rfl (lv_at hl 3 rfl) ?_
  refine law_w1 (P := 1423) E0 I0 X.1 (by decide) (by decide) (xr_SW (As := [.ref (ad 4 0), .int (iI (xo xs (i + 1))), .ref b0]) (rest := []) hx hb hml hown hts hK hXS hN hS (fun q z => (hA2 q z).1) (c_L_enter hR hG hl0 hAH hB hbA (xo xs (i + 1)) (xo_in _ _) h2) ms_L_enter kw_593 ⟨Nat.le_of_ble_eq_true rfl, Nat.le_of_ble_eq_true rfl⟩ ⟨hc, Nat.le_trans (Nat.add_le_add_left (by decide) _) hs⟩ rfl rfl hl.1 rfl (lv_room (Nat.le_of_ble_eq_true rfl)) dL_law_1423) hl dL_law_1426 (fun ad1 g H1 locs1 ls hR1 hM1 hB1 hg1 hS1 hz1 hl => ?_)
  refine lv_aload_n hx hb dL_law_1428 rfl (lv_at hl 3 rfl) ?_
  refine xr_arg (P := 1429) (j := i + 1) hx hb hX hbl hS1 hL (by omega) (by omega) (lv_at hl 1 rfl) (lv_at hl 5 rfl) dL_law_1429 dL_law_1430 dL_law_1432 dL_law_1433 dL_law_1434 ?_
  refine law_w2 (P := 1435) E0 (xr_V (As := [.int (iI (xo xs (i + 1)))]) (rest := []) hx hb hml hown hts hK (c_X5_enter hM1 hGM (xo xs (i + 1)) (xo_in _ _)) ms_X5_enter kw_990 (wr_recv hK hM1 (md_5 hGM) rfl rfl) ⟨Nat.le_of_ble_eq_true rfl, Nat.le_of_ble_eq_true rfl⟩ ⟨hc, hs⟩ rfl rfl hl.1 rfl (lv_room (Nat.le_of_ble_eq_true rfl)) dL_law_1435) hR1 hB1 hS1 hz1 (fun H2 locs2 hR2 hM2 hB2 hS2 hz2 => ?_)
  refine law_ti (P := 1438) E0 hml hown hts hM2 X.2.2.2.1 hB2 ⟨X.1.2.2.2.1, X.1.2.2.2.2⟩ X.2.2.2.2.1 (fun z => ?_) hg1 ⟨Nat.le_of_ble_eq_true rfl, Nat.le_of_ble_eq_true rfl⟩ ⟨hc, hs⟩ hl dL_law_1438 dL_law_1440 dL_law_1441 dL_law_1444 dL_law_1446 dL_law_1451 dL_law_1453 dL_law_1456 dL_law_1457 dL_law_1458 dL_law_1459 dL_law_1461 dL_law_1462 dL_law_1463 dL_law_1468 (by decide) (fun ls hl => ?_)
  · have hT := X.1.2.1.mpr z
    rw [← X.1.2.2.1 hT]
    exact r32_enter hG h2 (xo xs (i + 1)) hT
  · exact kk ad1 _ _ H2 locs2 ls ⟨hR2, hM2, ⟨g, hB2⟩, X.2.1, X.2.2.1, X.2.2.2.1, hS2, hz2⟩ X.2.2.2.2.2 hl
set_option maxRecDepth 100000 in
set_option maxHeartbeats 4000000 in
theorem law_c19 (E : LE p l s m meth c b L xs D cy A A2 b0 N0) (I : LI D cy A A2 s b0 N0 ad adM sg mu H locs) (hi : i + 5 ≤ L) (h2 : sg 702 0 ≤ 1000000) (hc : cells + 1 ≤ 601024) (hs : slots + 15 ≤ 7293034) (hl : lv_has ls 8 [(0, .ref b), (1, .ref (ad 4 0)), (2, .ref (adM 5 0)), (3, .ref b0), (4, .int (iI (i : Int)))]) (kk : LK p l e s m below meth c b D cy A A2 b0 N0 adM i cells slots Q sg) : W p l e room_1 s m #[Value.ref b] below meth c H locs cells slots Q (F0 m 1471 ls []) := by
  have E0 := E
  have I0 := I
  obtain ⟨⟨hx, hb, -, hml, hown, hts0, hX, hbl, -, -⟩, hl0, hK, hXS, hN, hA, hA2, hA3, hb0, hL⟩ := E
  obtain ⟨hR, hRM, ⟨g0, hB⟩, hRel, hG, hGM, hS, hz⟩ := I
  have hts : ∀ w ∈ wG, w.before #[Value.ref b] s = true := fun w hw => hts0 w (List.mem_filter.mp hw).1
  have hAH : ∀ q : Nat, H.size ≤ q → A q := fun q h => hA q (Nat.le_trans hz h)
  have hbA : ¬ A b0 := fun z => (hA2 _ z).2.2 rfl
  have hown : s.vm.findClass "TakinghallLaw" = some m.cls := hown
  have X := simX_w (s_blight hRel hG hGM h2 (xo xs (i + 1))) (mtk_9 _ rfl) (by rw [tkT_7]; show sg 702 0 ≤ _; omega)
  refine lv_aload_n hx hb dL_law_1471 rfl (lv_at hl 1 rfl) ?_
  refine xr_arg (P := 1472) (j := i + 1) hx hb hX hbl hS hL (by omega) (by omega) (lv_at hl 0 rfl) (lv_at hl 4 rfl) dL_law_1472 dL_law_1473 dL_law_1475 dL_law_1476 dL_law_1477 ?_
  refine lv_aload_n hx hb dL_law_1478 rfl (lv_at hl 3 rfl) ?_
  refine law_w1 (P := 1479) E0 I0 X.1 (by decide) (by decide) (xr_SW (As := [.ref (ad 4 0), .int (iI (xo xs (i + 1))), .ref b0]) (rest := []) hx hb hml hown hts hK hXS hN hS (fun q z => (hA2 q z).1) (c_L_blight hR hG hl0 hAH hB hbA (xo xs (i + 1)) (xo_in _ _) h2) ms_L_blight kw_633 ⟨Nat.le_of_ble_eq_true rfl, Nat.le_of_ble_eq_true rfl⟩ ⟨hc, Nat.le_trans (Nat.add_le_add_left (by decide) _) hs⟩ rfl rfl hl.1 rfl (lv_room (Nat.le_of_ble_eq_true rfl)) dL_law_1479) hl dL_law_1482 (fun ad1 g H1 locs1 ls hR1 hM1 hB1 hg1 hS1 hz1 hl => ?_)
  refine lv_aload_n hx hb dL_law_1484 rfl (lv_at hl 3 rfl) ?_
  refine xr_arg (P := 1485) (j := i + 1) hx hb hX hbl hS1 hL (by omega) (by omega) (lv_at hl 1 rfl) (lv_at hl 5 rfl) dL_law_1485 dL_law_1486 dL_law_1488 dL_law_1489 dL_law_1490 ?_
  refine law_w2 (P := 1491) E0 (xr_V (As := [.int (iI (xo xs (i + 1)))]) (rest := []) hx hb hml hown hts hK (c_X5_blight hM1 hGM (xo xs (i + 1)) (xo_in _ _)) ms_X5_blight kw_1016 (wr_recv hK hM1 (md_5 hGM) rfl rfl) ⟨Nat.le_of_ble_eq_true rfl, Nat.le_of_ble_eq_true rfl⟩ ⟨hc, hs⟩ rfl rfl hl.1 rfl (lv_room (Nat.le_of_ble_eq_true rfl)) dL_law_1491) hR1 hB1 hS1 hz1 (fun H2 locs2 hR2 hM2 hB2 hS2 hz2 => ?_)
  refine law_ti (P := 1494) E0 hml hown hts hM2 X.2.2.2.1 hB2 ⟨X.1.2.2.2.1, X.1.2.2.2.2⟩ X.2.2.2.2.1 (fun z => ?_) hg1 ⟨Nat.le_of_ble_eq_true rfl, Nat.le_of_ble_eq_true rfl⟩ ⟨hc, hs⟩ hl dL_law_1494 dL_law_1496 dL_law_1497 dL_law_1500 dL_law_1502 dL_law_1507 dL_law_1509 dL_law_1512 dL_law_1513 dL_law_1514 dL_law_1515 dL_law_1517 dL_law_1518 dL_law_1519 dL_law_1524 (by decide) (fun ls hl => ?_)
  · have hT := X.1.2.1.mpr z
    rw [← X.1.2.2.1 hT]
    exact r32_blight hG h2 (xo xs (i + 1)) hT
  · exact kk ad1 _ _ H2 locs2 ls ⟨hR2, hM2, ⟨g, hB2⟩, X.2.1, X.2.2.1, X.2.2.2.1, hS2, hz2⟩ X.2.2.2.2.2 hl
set_option maxRecDepth 100000 in
set_option maxHeartbeats 4000000 in
theorem law_c20 (E : LE p l s m meth c b L xs D cy A A2 b0 N0) (I : LI D cy A A2 s b0 N0 ad adM sg mu H locs) (hi : i + 5 ≤ L) (h2 : sg 702 0 ≤ 1000000) (hc : cells + 1 ≤ 601024) (hs : slots + 15 ≤ 7293034) (hl : lv_has ls 8 [(0, .ref b), (1, .ref (ad 4 0)), (2, .ref (adM 5 0)), (3, .ref b0), (4, .int (iI (i : Int)))]) (kk : LK p l e s m below meth c b D cy A A2 b0 N0 adM i cells slots Q sg) : W p l e room_1 s m #[Value.ref b] below meth c H locs cells slots Q (F0 m 1527 ls []) := by
  have E0 := E
  have I0 := I
  obtain ⟨⟨hx, hb, -, hml, hown, hts0, hX, hbl, -, -⟩, hl0, hK, hXS, hN, hA, hA2, hA3, hb0, hL⟩ := E
  obtain ⟨hR, hRM, ⟨g0, hB⟩, hRel, hG, hGM, hS, hz⟩ := I
  have hts : ∀ w ∈ wG, w.before #[Value.ref b] s = true := fun w hw => hts0 w (List.mem_filter.mp hw).1
  have hAH : ∀ q : Nat, H.size ≤ q → A q := fun q h => hA q (Nat.le_trans hz h)
  have hbA : ¬ A b0 := fun z => (hA2 _ z).2.2 rfl
  have hown : s.vm.findClass "TakinghallLaw" = some m.cls := hown
  have X := simX_w (s_works hRel hG hGM (xo xs (i + 1))) (rfl) (by show sg 702 0 ≤ _; omega)
  refine lv_aload_n hx hb dL_law_1527 rfl (lv_at hl 1 rfl) ?_
  refine xr_arg (P := 1528) (j := i + 1) hx hb hX hbl hS hL (by omega) (by omega) (lv_at hl 0 rfl) (lv_at hl 4 rfl) dL_law_1528 dL_law_1529 dL_law_1531 dL_law_1532 dL_law_1533 ?_
  refine lv_aload_n hx hb dL_law_1534 rfl (lv_at hl 3 rfl) ?_
  refine law_w1 (P := 1535) E0 I0 X.1 (by decide) (by decide) (xr_SW (As := [.ref (ad 4 0), .int (iI (xo xs (i + 1))), .ref b0]) (rest := []) hx hb hml hown hts hK hXS hN hS (fun q z => (hA2 q z).1) (c_L_works hR hG hl0 hAH hB hbA (xo xs (i + 1)) (xo_in _ _)) ms_L_works kw_642 ⟨Nat.le_of_ble_eq_true rfl, Nat.le_of_ble_eq_true rfl⟩ ⟨hc, Nat.le_trans (Nat.add_le_add_left (by decide) _) hs⟩ rfl rfl hl.1 rfl (lv_room (Nat.le_of_ble_eq_true rfl)) dL_law_1535) hl dL_law_1538 (fun ad1 g H1 locs1 ls hR1 hM1 hB1 hg1 hS1 hz1 hl => ?_)
  refine lv_aload_n hx hb dL_law_1540 rfl (lv_at hl 3 rfl) ?_
  refine xr_arg (P := 1541) (j := i + 1) hx hb hX hbl hS1 hL (by omega) (by omega) (lv_at hl 1 rfl) (lv_at hl 5 rfl) dL_law_1541 dL_law_1542 dL_law_1544 dL_law_1545 dL_law_1546 ?_
  refine law_w2 (P := 1547) E0 (xr_V (As := [.int (iI (xo xs (i + 1)))]) (rest := []) hx hb hml hown hts hK (c_X5_works hM1 hGM (xo xs (i + 1)) (xo_in _ _)) ms_X5_works kw_1020 (wr_recv hK hM1 (md_5 hGM) rfl rfl) ⟨Nat.le_of_ble_eq_true rfl, Nat.le_of_ble_eq_true rfl⟩ ⟨hc, hs⟩ rfl rfl hl.1 rfl (lv_room (Nat.le_of_ble_eq_true rfl)) dL_law_1547) hR1 hB1 hS1 hz1 (fun H2 locs2 hR2 hM2 hB2 hS2 hz2 => ?_)
  refine law_ti (P := 1550) E0 hml hown hts hM2 X.2.2.2.1 hB2 ⟨X.1.2.2.2.1, X.1.2.2.2.2⟩ X.2.2.2.2.1 (fun z => ?_) hg1 ⟨Nat.le_of_ble_eq_true rfl, Nat.le_of_ble_eq_true rfl⟩ ⟨hc, hs⟩ hl dL_law_1550 dL_law_1552 dL_law_1553 dL_law_1556 dL_law_1558 dL_law_1563 dL_law_1565 dL_law_1568 dL_law_1569 dL_law_1570 dL_law_1571 dL_law_1573 dL_law_1574 dL_law_1575 dL_law_1580 (by decide) (fun ls hl => ?_)
  · have hT := X.1.2.1.mpr z
    rw [← X.1.2.2.1 hT]
    exact r32_works hG (xo xs (i + 1)) hT
  · exact kk ad1 _ _ H2 locs2 ls ⟨hR2, hM2, ⟨g, hB2⟩, X.2.1, X.2.2.1, X.2.2.2.1, hS2, hz2⟩ X.2.2.2.2.2 hl
set_option maxRecDepth 100000 in
set_option maxHeartbeats 4000000 in
theorem law_c21 (E : LE p l s m meth c b L xs D cy A A2 b0 N0) (I : LI D cy A A2 s b0 N0 ad adM sg mu H locs) (hi : i + 5 ≤ L) (h2 : sg 702 0 ≤ 1000000) (hc : cells + 1 ≤ 601024) (hs : slots + 15 ≤ 7293034) (hl : lv_has ls 8 [(0, .ref b), (1, .ref (ad 4 0)), (2, .ref (adM 5 0)), (3, .ref b0), (4, .int (iI (i : Int)))]) (kk : LK p l e s m below meth c b D cy A A2 b0 N0 adM i cells slots Q sg) : W p l e room_1 s m #[Value.ref b] below meth c H locs cells slots Q (F0 m 1583 ls []) := by
  have E0 := E
  have I0 := I
  obtain ⟨⟨hx, hb, -, hml, hown, hts0, hX, hbl, -, -⟩, hl0, hK, hXS, hN, hA, hA2, hA3, hb0, hL⟩ := E
  obtain ⟨hR, hRM, ⟨g0, hB⟩, hRel, hG, hGM, hS, hz⟩ := I
  have hts : ∀ w ∈ wG, w.before #[Value.ref b] s = true := fun w hw => hts0 w (List.mem_filter.mp hw).1
  have hAH : ∀ q : Nat, H.size ≤ q → A q := fun q h => hA q (Nat.le_trans hz h)
  have hbA : ¬ A b0 := fun z => (hA2 _ z).2.2 rfl
  have hown : s.vm.findClass "TakinghallLaw" = some m.cls := hown
  have X := simX_p (s_sumAnew hRel hG (xo xs (i + 1))) hRel hG hGM
  refine lv_aload_n hx hb dL_law_1583 rfl (lv_at hl 1 rfl) ?_
  refine xr_arg (P := 1584) (j := i + 1) hx hb hX hbl hS hL (by omega) (by omega) (lv_at hl 0 rfl) (lv_at hl 4 rfl) dL_law_1584 dL_law_1585 dL_law_1587 dL_law_1588 dL_law_1589 ?_
  refine lv_aload_n hx hb dL_law_1590 rfl (lv_at hl 3 rfl) ?_
  refine law_w1 (P := 1591) E0 I0 X.1 (by decide) (by decide) (xr_SW (As := [.ref (ad 4 0), .int (iI (xo xs (i + 1))), .ref b0]) (rest := []) hx hb hml hown hts hK hXS hN hS (fun q z => (hA2 q z).1) (c_L_sumAnew hR hG hl0 hAH hB hbA (xo xs (i + 1)) (xo_in _ _)) ms_L_sumAnew kw_654 ⟨Nat.le_of_ble_eq_true rfl, Nat.le_of_ble_eq_true rfl⟩ ⟨hc, Nat.le_trans (Nat.add_le_add_left (by decide) _) hs⟩ rfl rfl hl.1 rfl (lv_room (Nat.le_of_ble_eq_true rfl)) dL_law_1591) hl dL_law_1594 (fun ad1 g H1 locs1 ls hR1 hM1 hB1 hg1 hS1 hz1 hl => ?_)
  refine lv_aload_n hx hb dL_law_1596 rfl (lv_at hl 3 rfl) ?_
  refine xr_arg (P := 1597) (j := i + 1) hx hb hX hbl hS1 hL (by omega) (by omega) (lv_at hl 1 rfl) (lv_at hl 5 rfl) dL_law_1597 dL_law_1598 dL_law_1600 dL_law_1601 dL_law_1602 ?_
  refine law_w2 (P := 1603) E0 (xr_V (As := [.int (iI (xo xs (i + 1)))]) (rest := []) hx hb hml hown hts hK (c_X5_sumAnew hM1 hGM (xo xs (i + 1)) (xo_in _ _)) ms_X5_sumAnew kw_1024 (wr_recv hK hM1 (md_5 hGM) rfl rfl) ⟨Nat.le_of_ble_eq_true rfl, Nat.le_of_ble_eq_true rfl⟩ ⟨hc, hs⟩ rfl rfl hl.1 rfl (lv_room (Nat.le_of_ble_eq_true rfl)) dL_law_1603) hR1 hB1 hS1 hz1 (fun H2 locs2 hR2 hM2 hB2 hS2 hz2 => ?_)
  refine law_tl (P := 1606) E0 hml hown hts hM2 X.2.2.2.1 hB2 ⟨X.1.2.2.2.1, X.1.2.2.2.2⟩ X.2.2.2.2.1 hg1 ⟨Nat.le_of_ble_eq_true rfl, Nat.le_of_ble_eq_true rfl⟩ ⟨hc, hs⟩ hl dL_law_1606 dL_law_1608 dL_law_1609 dL_law_1612 dL_law_1614 dL_law_1619 dL_law_1621 dL_law_1624 dL_law_1625 dL_law_1626 dL_law_1627 dL_law_1629 dL_law_1630 dL_law_1635 (by decide) (fun ls hl => ?_)
  exact kk ad1 _ _ H2 locs2 ls ⟨hR2, hM2, ⟨g, hB2⟩, X.2.1, X.2.2.1, X.2.2.2.1, hS2, hz2⟩ X.2.2.2.2.2 hl
set_option maxRecDepth 100000 in
set_option maxHeartbeats 4000000 in
theorem law_c22 (E : LE p l s m meth c b L xs D cy A A2 b0 N0) (I : LI D cy A A2 s b0 N0 ad adM sg mu H locs) (hi : i + 5 ≤ L) (h2 : sg 702 0 ≤ 1000000) (hc : cells + 1 ≤ 601024) (hs : slots + 15 ≤ 7293034) (hl : lv_has ls 8 [(0, .ref b), (1, .ref (ad 4 0)), (2, .ref (adM 5 0)), (3, .ref b0), (4, .int (iI (i : Int)))]) (kk : LK p l e s m below meth c b D cy A A2 b0 N0 adM i cells slots Q sg) : W p l e room_1 s m #[Value.ref b] below meth c H locs cells slots Q (F0 m 1638 ls []) := by
  have E0 := E
  have I0 := I
  obtain ⟨⟨hx, hb, -, hml, hown, hts0, hX, hbl, -, -⟩, hl0, hK, hXS, hN, hA, hA2, hA3, hb0, hL⟩ := E
  obtain ⟨hR, hRM, ⟨g0, hB⟩, hRel, hG, hGM, hS, hz⟩ := I
  have hts : ∀ w ∈ wG, w.before #[Value.ref b] s = true := fun w hw => hts0 w (List.mem_filter.mp hw).1
  have hAH : ∀ q : Nat, H.size ≤ q → A q := fun q h => hA q (Nat.le_trans hz h)
  have hbA : ¬ A b0 := fun z => (hA2 _ z).2.2 rfl
  have hown : s.vm.findClass "TakinghallLaw" = some m.cls := hown
  have X := simX_p (s_owed hRel hG (xo xs (i + 1))) hRel hG hGM
  refine lv_aload_n hx hb dL_law_1638 rfl (lv_at hl 1 rfl) ?_
  refine xr_arg (P := 1639) (j := i + 1) hx hb hX hbl hS hL (by omega) (by omega) (lv_at hl 0 rfl) (lv_at hl 4 rfl) dL_law_1639 dL_law_1640 dL_law_1642 dL_law_1643 dL_law_1644 ?_
  refine lv_aload_n hx hb dL_law_1645 rfl (lv_at hl 3 rfl) ?_
  refine law_w1 (P := 1646) E0 I0 X.1 (by decide) (by decide) (xr_SW (As := [.ref (ad 4 0), .int (iI (xo xs (i + 1))), .ref b0]) (rest := []) hx hb hml hown hts hK hXS hN hS (fun q z => (hA2 q z).1) (c_L_owed hR hG hl0 hAH hB hbA (xo xs (i + 1)) (xo_in _ _)) ms_L_owed kw_664 ⟨Nat.le_of_ble_eq_true rfl, Nat.le_of_ble_eq_true rfl⟩ ⟨hc, Nat.le_trans (Nat.add_le_add_left (by decide) _) hs⟩ rfl rfl hl.1 rfl (lv_room (Nat.le_of_ble_eq_true rfl)) dL_law_1646) hl dL_law_1649 (fun ad1 g H1 locs1 ls hR1 hM1 hB1 hg1 hS1 hz1 hl => ?_)
  refine lv_aload_n hx hb dL_law_1651 rfl (lv_at hl 3 rfl) ?_
  refine xr_arg (P := 1652) (j := i + 1) hx hb hX hbl hS1 hL (by omega) (by omega) (lv_at hl 1 rfl) (lv_at hl 5 rfl) dL_law_1652 dL_law_1653 dL_law_1655 dL_law_1656 dL_law_1657 ?_
  refine law_w2 (P := 1658) E0 (xr_V (As := [.int (iI (xo xs (i + 1)))]) (rest := []) hx hb hml hown hts hK (c_X5_owed hM1 hGM (xo xs (i + 1)) (xo_in _ _)) ms_X5_owed kw_1032 (wr_recv hK hM1 (md_5 hGM) rfl rfl) ⟨Nat.le_of_ble_eq_true rfl, Nat.le_of_ble_eq_true rfl⟩ ⟨hc, hs⟩ rfl rfl hl.1 rfl (lv_room (Nat.le_of_ble_eq_true rfl)) dL_law_1658) hR1 hB1 hS1 hz1 (fun H2 locs2 hR2 hM2 hB2 hS2 hz2 => ?_)
  refine law_tl (P := 1661) E0 hml hown hts hM2 X.2.2.2.1 hB2 ⟨X.1.2.2.2.1, X.1.2.2.2.2⟩ X.2.2.2.2.1 hg1 ⟨Nat.le_of_ble_eq_true rfl, Nat.le_of_ble_eq_true rfl⟩ ⟨hc, hs⟩ hl dL_law_1661 dL_law_1663 dL_law_1664 dL_law_1667 dL_law_1669 dL_law_1674 dL_law_1676 dL_law_1679 dL_law_1680 dL_law_1681 dL_law_1682 dL_law_1684 dL_law_1685 dL_law_1690 (by decide) (fun ls hl => ?_)
  exact kk ad1 _ _ H2 locs2 ls ⟨hR2, hM2, ⟨g, hB2⟩, X.2.1, X.2.2.1, X.2.2.2.1, hS2, hz2⟩ X.2.2.2.2.2 hl
set_option maxRecDepth 100000 in
set_option maxHeartbeats 4000000 in
theorem law_c23 (E : LE p l s m meth c b L xs D cy A A2 b0 N0) (I : LI D cy A A2 s b0 N0 ad adM sg mu H locs) (hi : i + 5 ≤ L) (h2 : sg 702 0 ≤ 1000000) (hc : cells + 1 ≤ 601024) (hs : slots + 15 ≤ 7293034) (hl : lv_has ls 8 [(0, .ref b), (1, .ref (ad 4 0)), (2, .ref (adM 5 0)), (3, .ref b0), (4, .int (iI (i : Int)))]) (kk : LK p l e s m below meth c b D cy A A2 b0 N0 adM i cells slots Q sg) : W p l e room_1 s m #[Value.ref b] below meth c H locs cells slots Q (F0 m 1693 ls []) := by
  have E0 := E
  have I0 := I
  obtain ⟨⟨hx, hb, -, hml, hown, hts0, hX, hbl, -, -⟩, hl0, hK, hXS, hN, hA, hA2, hA3, hb0, hL⟩ := E
  obtain ⟨hR, hRM, ⟨g0, hB⟩, hRel, hG, hGM, hS, hz⟩ := I
  have hts : ∀ w ∈ wG, w.before #[Value.ref b] s = true := fun w hw => hts0 w (List.mem_filter.mp hw).1
  have hAH : ∀ q : Nat, H.size ≤ q → A q := fun q h => hA q (Nat.le_trans hz h)
  have hbA : ¬ A b0 := fun z => (hA2 _ z).2.2 rfl
  have hown : s.vm.findClass "TakinghallLaw" = some m.cls := hown
  have X := simX_w (s_advance hRel hG hGM (xo xs (i + 1))) (rfl) (by show sg 702 0 ≤ _; omega)
  refine lv_aload_n hx hb dL_law_1693 rfl (lv_at hl 1 rfl) ?_
  refine xr_arg (P := 1694) (j := i + 1) hx hb hX hbl hS hL (by omega) (by omega) (lv_at hl 0 rfl) (lv_at hl 4 rfl) dL_law_1694 dL_law_1695 dL_law_1697 dL_law_1698 dL_law_1699 ?_
  refine lv_aload_n hx hb dL_law_1700 rfl (lv_at hl 3 rfl) ?_
  refine law_w1 (P := 1701) E0 I0 X.1 (by decide) (by decide) (xr_SW (As := [.ref (ad 4 0), .int (iI (xo xs (i + 1))), .ref b0]) (rest := []) hx hb hml hown hts hK hXS hN hS (fun q z => (hA2 q z).1) (c_L_advance hR hG hl0 hAH hB hbA (xo xs (i + 1)) (xo_in _ _)) ms_L_advance kw_684 ⟨Nat.le_of_ble_eq_true rfl, Nat.le_of_ble_eq_true rfl⟩ ⟨hc, Nat.le_trans (Nat.add_le_add_left (by decide) _) hs⟩ rfl rfl hl.1 rfl (lv_room (Nat.le_of_ble_eq_true rfl)) dL_law_1701) hl dL_law_1704 (fun ad1 g H1 locs1 ls hR1 hM1 hB1 hg1 hS1 hz1 hl => ?_)
  refine lv_aload_n hx hb dL_law_1706 rfl (lv_at hl 3 rfl) ?_
  refine xr_arg (P := 1707) (j := i + 1) hx hb hX hbl hS1 hL (by omega) (by omega) (lv_at hl 1 rfl) (lv_at hl 5 rfl) dL_law_1707 dL_law_1708 dL_law_1710 dL_law_1711 dL_law_1712 ?_
  refine law_w2 (P := 1713) E0 (xr_V (As := [.int (iI (xo xs (i + 1)))]) (rest := []) hx hb hml hown hts hK (c_X5_advance hM1 hGM (xo xs (i + 1)) (xo_in _ _)) ms_X5_advance kw_1046 (wr_recv hK hM1 (md_5 hGM) rfl rfl) ⟨Nat.le_of_ble_eq_true rfl, Nat.le_of_ble_eq_true rfl⟩ ⟨hc, hs⟩ rfl rfl hl.1 rfl (lv_room (Nat.le_of_ble_eq_true rfl)) dL_law_1713) hR1 hB1 hS1 hz1 (fun H2 locs2 hR2 hM2 hB2 hS2 hz2 => ?_)
  refine law_tl (P := 1716) E0 hml hown hts hM2 X.2.2.2.1 hB2 ⟨X.1.2.2.2.1, X.1.2.2.2.2⟩ X.2.2.2.2.1 hg1 ⟨Nat.le_of_ble_eq_true rfl, Nat.le_of_ble_eq_true rfl⟩ ⟨hc, hs⟩ hl dL_law_1716 dL_law_1718 dL_law_1719 dL_law_1722 dL_law_1724 dL_law_1729 dL_law_1731 dL_law_1734 dL_law_1735 dL_law_1736 dL_law_1737 dL_law_1739 dL_law_1740 dL_law_1745 (by decide) (fun ls hl => ?_)
  exact kk ad1 _ _ H2 locs2 ls ⟨hR2, hM2, ⟨g, hB2⟩, X.2.1, X.2.2.1, X.2.2.2.1, hS2, hz2⟩ X.2.2.2.2.2 hl
set_option maxRecDepth 100000 in
set_option maxHeartbeats 4000000 in
theorem law_c24 (E : LE p l s m meth c b L xs D cy A A2 b0 N0) (I : LI D cy A A2 s b0 N0 ad adM sg mu H locs) (hi : i + 5 ≤ L) (h2 : sg 702 0 ≤ 1000000) (hc : cells + 1 ≤ 601024) (hs : slots + 15 ≤ 7293034) (hl : lv_has ls 8 [(0, .ref b), (1, .ref (ad 4 0)), (2, .ref (adM 5 0)), (3, .ref b0), (4, .int (iI (i : Int)))]) (kk : LK p l e s m below meth c b D cy A A2 b0 N0 adM i cells slots Q sg) : W p l e room_1 s m #[Value.ref b] below meth c H locs cells slots Q (F0 m 1748 ls []) := by
  have E0 := E
  have I0 := I
  obtain ⟨⟨hx, hb, -, hml, hown, hts0, hX, hbl, -, -⟩, hl0, hK, hXS, hN, hA, hA2, hA3, hb0, hL⟩ := E
  obtain ⟨hR, hRM, ⟨g0, hB⟩, hRel, hG, hGM, hS, hz⟩ := I
  have hts : ∀ w ∈ wG, w.before #[Value.ref b] s = true := fun w hw => hts0 w (List.mem_filter.mp hw).1
  have hAH : ∀ q : Nat, H.size ≤ q → A q := fun q h => hA q (Nat.le_trans hz h)
  have hbA : ¬ A b0 := fun z => (hA2 _ z).2.2 rfl
  have hown : s.vm.findClass "TakinghallLaw" = some m.cls := hown
  have X := simX_w (s_settle hRel hG hGM (xo xs (i + 1))) (rfl) (by show sg 702 0 ≤ _; omega)
  refine lv_aload_n hx hb dL_law_1748 rfl (lv_at hl 1 rfl) ?_
  refine xr_arg (P := 1749) (j := i + 1) hx hb hX hbl hS hL (by omega) (by omega) (lv_at hl 0 rfl) (lv_at hl 4 rfl) dL_law_1749 dL_law_1750 dL_law_1752 dL_law_1753 dL_law_1754 ?_
  refine lv_aload_n hx hb dL_law_1755 rfl (lv_at hl 3 rfl) ?_
  refine law_w1 (P := 1756) E0 I0 X.1 (by decide) (by decide) (xr_SW (As := [.ref (ad 4 0), .int (iI (xo xs (i + 1))), .ref b0]) (rest := []) hx hb hml hown hts hK hXS hN hS (fun q z => (hA2 q z).1) (c_L_settle hR hG hl0 hAH hB hbA (xo xs (i + 1)) (xo_in _ _)) ms_L_settle kw_694 ⟨Nat.le_of_ble_eq_true rfl, Nat.le_of_ble_eq_true rfl⟩ ⟨hc, Nat.le_trans (Nat.add_le_add_left (by decide) _) hs⟩ rfl rfl hl.1 rfl (lv_room (Nat.le_of_ble_eq_true rfl)) dL_law_1756) hl dL_law_1759 (fun ad1 g H1 locs1 ls hR1 hM1 hB1 hg1 hS1 hz1 hl => ?_)
  refine lv_aload_n hx hb dL_law_1761 rfl (lv_at hl 3 rfl) ?_
  refine xr_arg (P := 1762) (j := i + 1) hx hb hX hbl hS1 hL (by omega) (by omega) (lv_at hl 1 rfl) (lv_at hl 5 rfl) dL_law_1762 dL_law_1763 dL_law_1765 dL_law_1766 dL_law_1767 ?_
  refine law_w2 (P := 1768) E0 (xr_V (As := [.int (iI (xo xs (i + 1)))]) (rest := []) hx hb hml hown hts hK (c_X5_settle hM1 hGM (xo xs (i + 1)) (xo_in _ _)) ms_X5_settle kw_1051 (wr_recv hK hM1 (md_5 hGM) rfl rfl) ⟨Nat.le_of_ble_eq_true rfl, Nat.le_of_ble_eq_true rfl⟩ ⟨hc, hs⟩ rfl rfl hl.1 rfl (lv_room (Nat.le_of_ble_eq_true rfl)) dL_law_1768) hR1 hB1 hS1 hz1 (fun H2 locs2 hR2 hM2 hB2 hS2 hz2 => ?_)
  refine law_tl (P := 1771) E0 hml hown hts hM2 X.2.2.2.1 hB2 ⟨X.1.2.2.2.1, X.1.2.2.2.2⟩ X.2.2.2.2.1 hg1 ⟨Nat.le_of_ble_eq_true rfl, Nat.le_of_ble_eq_true rfl⟩ ⟨hc, hs⟩ hl dL_law_1771 dL_law_1773 dL_law_1774 dL_law_1777 dL_law_1779 dL_law_1784 dL_law_1786 dL_law_1789 dL_law_1790 dL_law_1791 dL_law_1792 dL_law_1794 dL_law_1795 dL_law_1800 (by decide) (fun ls hl => ?_)
  exact kk ad1 _ _ H2 locs2 ls ⟨hR2, hM2, ⟨g, hB2⟩, X.2.1, X.2.2.1, X.2.2.2.1, hS2, hz2⟩ X.2.2.2.2.2 hl
set_option maxRecDepth 100000 in
set_option maxHeartbeats 4000000 in
theorem law_c25 (E : LE p l s m meth c b L xs D cy A A2 b0 N0) (I : LI D cy A A2 s b0 N0 ad adM sg mu H locs) (hi : i + 5 ≤ L) (h2 : sg 702 0 ≤ 1000000) (hc : cells + 1 ≤ 601024) (hs : slots + 15 ≤ 7293034) (hl : lv_has ls 8 [(0, .ref b), (1, .ref (ad 4 0)), (2, .ref (adM 5 0)), (3, .ref b0), (4, .int (iI (i : Int)))]) (kk : LK p l e s m below meth c b D cy A A2 b0 N0 adM i cells slots Q sg) : W p l e room_1 s m #[Value.ref b] below meth c H locs cells slots Q (F0 m 1803 ls []) := by
  have E0 := E
  have I0 := I
  obtain ⟨⟨hx, hb, -, hml, hown, hts0, hX, hbl, -, -⟩, hl0, hK, hXS, hN, hA, hA2, hA3, hb0, hL⟩ := E
  obtain ⟨hR, hRM, ⟨g0, hB⟩, hRel, hG, hGM, hS, hz⟩ := I
  have hts : ∀ w ∈ wG, w.before #[Value.ref b] s = true := fun w hw => hts0 w (List.mem_filter.mp hw).1
  have hAH : ∀ q : Nat, H.size ≤ q → A q := fun q h => hA q (Nat.le_trans hz h)
  have hbA : ¬ A b0 := fun z => (hA2 _ z).2.2 rfl
  have hown : s.vm.findClass "TakinghallLaw" = some m.cls := hown
  have X := simX_w (s_refuse hRel hG hGM (xo xs (i + 1))) (rfl) (by show sg 702 0 ≤ _; omega)
  refine lv_aload_n hx hb dL_law_1803 rfl (lv_at hl 1 rfl) ?_
  refine xr_arg (P := 1804) (j := i + 1) hx hb hX hbl hS hL (by omega) (by omega) (lv_at hl 0 rfl) (lv_at hl 4 rfl) dL_law_1804 dL_law_1805 dL_law_1807 dL_law_1808 dL_law_1809 ?_
  refine lv_aload_n hx hb dL_law_1810 rfl (lv_at hl 3 rfl) ?_
  refine law_w1 (P := 1811) E0 I0 X.1 (by decide) (by decide) (xr_SW (As := [.ref (ad 4 0), .int (iI (xo xs (i + 1))), .ref b0]) (rest := []) hx hb hml hown hts hK hXS hN hS (fun q z => (hA2 q z).1) (c_L_refuse hR hG hl0 hAH hB hbA (xo xs (i + 1)) (xo_in _ _)) ms_L_refuse kw_702 ⟨Nat.le_of_ble_eq_true rfl, Nat.le_of_ble_eq_true rfl⟩ ⟨hc, Nat.le_trans (Nat.add_le_add_left (by decide) _) hs⟩ rfl rfl hl.1 rfl (lv_room (Nat.le_of_ble_eq_true rfl)) dL_law_1811) hl dL_law_1814 (fun ad1 g H1 locs1 ls hR1 hM1 hB1 hg1 hS1 hz1 hl => ?_)
  refine lv_aload_n hx hb dL_law_1816 rfl (lv_at hl 3 rfl) ?_
  refine xr_arg (P := 1817) (j := i + 1) hx hb hX hbl hS1 hL (by omega) (by omega) (lv_at hl 1 rfl) (lv_at hl 5 rfl) dL_law_1817 dL_law_1818 dL_law_1820 dL_law_1821 dL_law_1822 ?_
  refine law_w2 (P := 1823) E0 (xr_V (As := [.int (iI (xo xs (i + 1)))]) (rest := []) hx hb hml hown hts hK (c_X5_refuse hM1 hGM (xo xs (i + 1)) (xo_in _ _)) ms_X5_refuse kw_1055 (wr_recv hK hM1 (md_5 hGM) rfl rfl) ⟨Nat.le_of_ble_eq_true rfl, Nat.le_of_ble_eq_true rfl⟩ ⟨hc, hs⟩ rfl rfl hl.1 rfl (lv_room (Nat.le_of_ble_eq_true rfl)) dL_law_1823) hR1 hB1 hS1 hz1 (fun H2 locs2 hR2 hM2 hB2 hS2 hz2 => ?_)
  refine law_ti (P := 1826) E0 hml hown hts hM2 X.2.2.2.1 hB2 ⟨X.1.2.2.2.1, X.1.2.2.2.2⟩ X.2.2.2.2.1 (fun z => ?_) hg1 ⟨Nat.le_of_ble_eq_true rfl, Nat.le_of_ble_eq_true rfl⟩ ⟨hc, hs⟩ hl dL_law_1826 dL_law_1828 dL_law_1829 dL_law_1832 dL_law_1834 dL_law_1839 dL_law_1841 dL_law_1844 dL_law_1845 dL_law_1846 dL_law_1847 dL_law_1849 dL_law_1850 dL_law_1851 dL_law_1856 (by decide) (fun ls hl => ?_)
  · have hT := X.1.2.1.mpr z
    rw [← X.1.2.2.1 hT]
    exact r32_refuse hG (xo xs (i + 1)) hT
  · exact kk ad1 _ _ H2 locs2 ls ⟨hR2, hM2, ⟨g, hB2⟩, X.2.1, X.2.2.1, X.2.2.2.1, hS2, hz2⟩ X.2.2.2.2.2 hl
set_option maxRecDepth 100000 in
set_option maxHeartbeats 4000000 in
theorem law_c26 (E : LE p l s m meth c b L xs D cy A A2 b0 N0) (I : LI D cy A A2 s b0 N0 ad adM sg mu H locs) (hi : i + 5 ≤ L) (h2 : sg 702 0 ≤ 1000000) (hc : cells + 1 ≤ 601024) (hs : slots + 15 ≤ 7293034) (hl : lv_has ls 8 [(0, .ref b), (1, .ref (ad 4 0)), (2, .ref (adM 5 0)), (3, .ref b0), (4, .int (iI (i : Int)))]) (kk : LK p l e s m below meth c b D cy A A2 b0 N0 adM i cells slots Q sg) : W p l e room_1 s m #[Value.ref b] below meth c H locs cells slots Q (F0 m 1859 ls []) := by
  have E0 := E
  have I0 := I
  obtain ⟨⟨hx, hb, -, hml, hown, hts0, hX, hbl, -, -⟩, hl0, hK, hXS, hN, hA, hA2, hA3, hb0, hL⟩ := E
  obtain ⟨hR, hRM, ⟨g0, hB⟩, hRel, hG, hGM, hS, hz⟩ := I
  have hts : ∀ w ∈ wG, w.before #[Value.ref b] s = true := fun w hw => hts0 w (List.mem_filter.mp hw).1
  have hAH : ∀ q : Nat, H.size ≤ q → A q := fun q h => hA q (Nat.le_trans hz h)
  have hbA : ¬ A b0 := fun z => (hA2 _ z).2.2 rfl
  have hown : s.vm.findClass "TakinghallLaw" = some m.cls := hown
  have X := simX_w (s_accept hRel hG hGM (xo xs (i + 1))) (rfl) (by show sg 702 0 ≤ _; omega)
  refine lv_aload_n hx hb dL_law_1859 rfl (lv_at hl 1 rfl) ?_
  refine xr_arg (P := 1860) (j := i + 1) hx hb hX hbl hS hL (by omega) (by omega) (lv_at hl 0 rfl) (lv_at hl 4 rfl) dL_law_1860 dL_law_1861 dL_law_1863 dL_law_1864 dL_law_1865 ?_
  refine lv_aload_n hx hb dL_law_1866 rfl (lv_at hl 3 rfl) ?_
  refine law_w1 (P := 1867) E0 I0 X.1 (by decide) (by decide) (xr_SW (As := [.ref (ad 4 0), .int (iI (xo xs (i + 1))), .ref b0]) (rest := []) hx hb hml hown hts hK hXS hN hS (fun q z => (hA2 q z).1) (c_L_accept hR hG hl0 hAH hB hbA (xo xs (i + 1)) (xo_in _ _)) ms_L_accept kw_710 ⟨Nat.le_of_ble_eq_true rfl, Nat.le_of_ble_eq_true rfl⟩ ⟨hc, Nat.le_trans (Nat.add_le_add_left (by decide) _) hs⟩ rfl rfl hl.1 rfl (lv_room (Nat.le_of_ble_eq_true rfl)) dL_law_1867) hl dL_law_1870 (fun ad1 g H1 locs1 ls hR1 hM1 hB1 hg1 hS1 hz1 hl => ?_)
  refine lv_aload_n hx hb dL_law_1872 rfl (lv_at hl 3 rfl) ?_
  refine xr_arg (P := 1873) (j := i + 1) hx hb hX hbl hS1 hL (by omega) (by omega) (lv_at hl 1 rfl) (lv_at hl 5 rfl) dL_law_1873 dL_law_1874 dL_law_1876 dL_law_1877 dL_law_1878 ?_
  refine law_w2 (P := 1879) E0 (xr_V (As := [.int (iI (xo xs (i + 1)))]) (rest := []) hx hb hml hown hts hK (c_X5_accept hM1 hGM (xo xs (i + 1)) (xo_in _ _)) ms_X5_accept kw_1059 (wr_recv hK hM1 (md_5 hGM) rfl rfl) ⟨Nat.le_of_ble_eq_true rfl, Nat.le_of_ble_eq_true rfl⟩ ⟨hc, hs⟩ rfl rfl hl.1 rfl (lv_room (Nat.le_of_ble_eq_true rfl)) dL_law_1879) hR1 hB1 hS1 hz1 (fun H2 locs2 hR2 hM2 hB2 hS2 hz2 => ?_)
  refine law_ti (P := 1882) E0 hml hown hts hM2 X.2.2.2.1 hB2 ⟨X.1.2.2.2.1, X.1.2.2.2.2⟩ X.2.2.2.2.1 (fun z => ?_) hg1 ⟨Nat.le_of_ble_eq_true rfl, Nat.le_of_ble_eq_true rfl⟩ ⟨hc, hs⟩ hl dL_law_1882 dL_law_1884 dL_law_1885 dL_law_1888 dL_law_1890 dL_law_1895 dL_law_1897 dL_law_1900 dL_law_1901 dL_law_1902 dL_law_1903 dL_law_1905 dL_law_1906 dL_law_1907 dL_law_1912 (by decide) (fun ls hl => ?_)
  · have hT := X.1.2.1.mpr z
    rw [← X.1.2.2.1 hT]
    exact r32_accept hG (xo xs (i + 1)) hT
  · exact kk ad1 _ _ H2 locs2 ls ⟨hR2, hM2, ⟨g, hB2⟩, X.2.1, X.2.2.1, X.2.2.2.1, hS2, hz2⟩ X.2.2.2.2.2 hl
set_option maxRecDepth 100000 in
set_option maxHeartbeats 4000000 in
theorem law_c27 (E : LE p l s m meth c b L xs D cy A A2 b0 N0) (I : LI D cy A A2 s b0 N0 ad adM sg mu H locs) (hi : i + 5 ≤ L) (h2 : sg 702 0 ≤ 1000000) (hc : cells + 1 ≤ 601024) (hs : slots + 15 ≤ 7293034) (hl : lv_has ls 8 [(0, .ref b), (1, .ref (ad 4 0)), (2, .ref (adM 5 0)), (3, .ref b0), (4, .int (iI (i : Int)))]) (kk : LK p l e s m below meth c b D cy A A2 b0 N0 adM i cells slots Q sg) : W p l e room_1 s m #[Value.ref b] below meth c H locs cells slots Q (F0 m 1915 ls []) := by
  have E0 := E
  have I0 := I
  obtain ⟨⟨hx, hb, -, hml, hown, hts0, hX, hbl, -, -⟩, hl0, hK, hXS, hN, hA, hA2, hA3, hb0, hL⟩ := E
  obtain ⟨hR, hRM, ⟨g0, hB⟩, hRel, hG, hGM, hS, hz⟩ := I
  have hts : ∀ w ∈ wG, w.before #[Value.ref b] s = true := fun w hw => hts0 w (List.mem_filter.mp hw).1
  have hAH : ∀ q : Nat, H.size ≤ q → A q := fun q h => hA q (Nat.le_trans hz h)
  have hbA : ¬ A b0 := fun z => (hA2 _ z).2.2 rfl
  have hown : s.vm.findClass "TakinghallLaw" = some m.cls := hown
  have X := simX_w (s_pass hRel hG hGM (xo xs (i + 1))) (mps_9 _ rfl) (by show sg 702 0 ≤ _; omega)
  refine lv_aload_n hx hb dL_law_1915 rfl (lv_at hl 1 rfl) ?_
  refine xr_arg (P := 1916) (j := i + 1) hx hb hX hbl hS hL (by omega) (by omega) (lv_at hl 0 rfl) (lv_at hl 4 rfl) dL_law_1916 dL_law_1917 dL_law_1919 dL_law_1920 dL_law_1921 ?_
  refine lv_aload_n hx hb dL_law_1922 rfl (lv_at hl 3 rfl) ?_
  refine law_w1 (P := 1923) E0 I0 X.1 (by decide) (by decide) (xr_SW (As := [.ref (ad 4 0), .int (iI (xo xs (i + 1))), .ref b0]) (rest := []) hx hb hml hown hts hK hXS hN hS (fun q z => (hA2 q z).1) (c_L_pass hR hG hl0 hAH hB hbA (xo xs (i + 1)) (xo_in _ _)) ms_L_pass kw_717 ⟨Nat.le_of_ble_eq_true rfl, Nat.le_of_ble_eq_true rfl⟩ ⟨hc, Nat.le_trans (Nat.add_le_add_left (by decide) _) hs⟩ rfl rfl hl.1 rfl (lv_room (Nat.le_of_ble_eq_true rfl)) dL_law_1923) hl dL_law_1926 (fun ad1 g H1 locs1 ls hR1 hM1 hB1 hg1 hS1 hz1 hl => ?_)
  refine lv_aload_n hx hb dL_law_1928 rfl (lv_at hl 3 rfl) ?_
  refine xr_arg (P := 1929) (j := i + 1) hx hb hX hbl hS1 hL (by omega) (by omega) (lv_at hl 1 rfl) (lv_at hl 5 rfl) dL_law_1929 dL_law_1930 dL_law_1932 dL_law_1933 dL_law_1934 ?_
  refine law_w2 (P := 1935) E0 (xr_V (As := [.int (iI (xo xs (i + 1)))]) (rest := []) hx hb hml hown hts hK (c_X5_pass hM1 hGM (xo xs (i + 1)) (xo_in _ _)) ms_X5_pass kw_1063 (wr_recv hK hM1 (md_5 hGM) rfl rfl) ⟨Nat.le_of_ble_eq_true rfl, Nat.le_of_ble_eq_true rfl⟩ ⟨hc, hs⟩ rfl rfl hl.1 rfl (lv_room (Nat.le_of_ble_eq_true rfl)) dL_law_1935) hR1 hB1 hS1 hz1 (fun H2 locs2 hR2 hM2 hB2 hS2 hz2 => ?_)
  refine law_ti (P := 1938) E0 hml hown hts hM2 X.2.2.2.1 hB2 ⟨X.1.2.2.2.1, X.1.2.2.2.2⟩ X.2.2.2.2.1 (fun z => ?_) hg1 ⟨Nat.le_of_ble_eq_true rfl, Nat.le_of_ble_eq_true rfl⟩ ⟨hc, hs⟩ hl dL_law_1938 dL_law_1940 dL_law_1941 dL_law_1944 dL_law_1946 dL_law_1951 dL_law_1953 dL_law_1956 dL_law_1957 dL_law_1958 dL_law_1959 dL_law_1961 dL_law_1962 dL_law_1963 dL_law_1968 (by decide) (fun ls hl => ?_)
  · have hT := X.1.2.1.mpr z
    rw [← X.1.2.2.1 hT]
    exact r32_pass hG (xo xs (i + 1)) hT
  · exact kk ad1 _ _ H2 locs2 ls ⟨hR2, hM2, ⟨g, hB2⟩, X.2.1, X.2.2.1, X.2.2.2.1, hS2, hz2⟩ X.2.2.2.2.2 hl
set_option maxRecDepth 100000 in
set_option maxHeartbeats 4000000 in
theorem law_c28 (E : LE p l s m meth c b L xs D cy A A2 b0 N0) (I : LI D cy A A2 s b0 N0 ad adM sg mu H locs) (hi : i + 5 ≤ L) (h2 : sg 702 0 ≤ 1000000) (hc : cells + 1 ≤ 601024) (hs : slots + 15 ≤ 7293034) (hl : lv_has ls 8 [(0, .ref b), (1, .ref (ad 4 0)), (2, .ref (adM 5 0)), (3, .ref b0), (4, .int (iI (i : Int)))]) (kk : LK p l e s m below meth c b D cy A A2 b0 N0 adM i cells slots Q sg) : W p l e room_1 s m #[Value.ref b] below meth c H locs cells slots Q (F0 m 1971 ls []) := by
  have E0 := E
  have I0 := I
  obtain ⟨⟨hx, hb, -, hml, hown, hts0, hX, hbl, -, -⟩, hl0, hK, hXS, hN, hA, hA2, hA3, hb0, hL⟩ := E
  obtain ⟨hR, hRM, ⟨g0, hB⟩, hRel, hG, hGM, hS, hz⟩ := I
  have hts : ∀ w ∈ wG, w.before #[Value.ref b] s = true := fun w hw => hts0 w (List.mem_filter.mp hw).1
  have hAH : ∀ q : Nat, H.size ≤ q → A q := fun q h => hA q (Nat.le_trans hz h)
  have hbA : ¬ A b0 := fun z => (hA2 _ z).2.2 rfl
  have hown : s.vm.findClass "TakinghallLaw" = some m.cls := hown
  refine lv_aload_n hx hb dL_law_1971 rfl (lv_at hl 1 rfl) ?_
  refine W.widen (k := cells + 1) (n := slots + 15) (by omega) (by omega) ?_
  refine xk_pF (xr_V (As := []) (rest := []) hx hb hml hown hts hK (c_X4_today hR hG) ms_X4_today kw_129 (wr_recv hK hR (gd_4 hG) rfl rfl) ⟨Nat.le_of_ble_eq_true rfl, Nat.le_of_ble_eq_true rfl⟩ ⟨hc, hs⟩ rfl rfl hl.1 rfl (lv_room (Nat.le_of_ble_eq_true rfl)) dL_law_1972) ?_
  refine lv_aload_n hx hb dL_law_1975 rfl (lv_at hl 2 rfl) ?_
  refine law_w2 (P := 1976) E0 (xr_V (As := []) (rest := [.int (iI (sg 506 0))]) hx hb hml hown hts hK (c_X5_today hRM hGM) ms_X5_today kw_1067 (wr_recv hK hRM (md_5 hGM) rfl rfl) ⟨Nat.le_of_ble_eq_true rfl, Nat.le_of_ble_eq_true rfl⟩ ⟨hc, hs⟩ rfl rfl hl.1 rfl (lv_room (Nat.le_of_ble_eq_true rfl)) dL_law_1976) hR hB hS hz (fun H2 locs2 hR2 hM2 hB2 hS2 hz2 => ?_)
  have h1 : mu 901 0 = sg 506 0 := hRel.1.1
  have g6 := gr_506 hG 0
  rw [mR_0 rfl, h1]
  refine xr_icmp_eq (tgt := 2095) hx hb dL_law_1979 (by decide) ⟨by omega, by omega⟩ ⟨by omega, by omega⟩ (fun _ => ?_) (fun z => absurd rfl z)
  exact kk ad _ _ H2 locs2 ls ⟨hR2, hM2, ⟨g0, hB2⟩, Rel9 hRel _, hG, gc_900 hGM 0 (by decide), hS2, hz2⟩ (by omega) hl
set_option maxRecDepth 100000 in
set_option maxHeartbeats 4000000 in
theorem law_c29 (E : LE p l s m meth c b L xs D cy A A2 b0 N0) (I : LI D cy A A2 s b0 N0 ad adM sg mu H locs) (hi : i + 5 ≤ L) (h2 : sg 702 0 ≤ 1000000) (hc : cells + 1 ≤ 601024) (hs : slots + 15 ≤ 7293034) (hl : lv_has ls 8 [(0, .ref b), (1, .ref (ad 4 0)), (2, .ref (adM 5 0)), (3, .ref b0), (4, .int (iI (i : Int)))]) (kk : LK p l e s m below meth c b D cy A A2 b0 N0 adM i cells slots Q sg) : W p l e room_1 s m #[Value.ref b] below meth c H locs cells slots Q (F0 m 1984 ls []) := by
  have E0 := E
  have I0 := I
  obtain ⟨⟨hx, hb, -, hml, hown, hts0, hX, hbl, -, -⟩, hl0, hK, hXS, hN, hA, hA2, hA3, hb0, hL⟩ := E
  obtain ⟨hR, hRM, ⟨g0, hB⟩, hRel, hG, hGM, hS, hz⟩ := I
  have hts : ∀ w ∈ wG, w.before #[Value.ref b] s = true := fun w hw => hts0 w (List.mem_filter.mp hw).1
  have hAH : ∀ q : Nat, H.size ≤ q → A q := fun q h => hA q (Nat.le_trans hz h)
  have hbA : ¬ A b0 := fun z => (hA2 _ z).2.2 rfl
  have hown : s.vm.findClass "TakinghallLaw" = some m.cls := hown
  have X := simX_p (s_total hRel (xo xs (i + 1))) hRel hG hGM
  refine lv_aload_n hx hb dL_law_1984 rfl (lv_at hl 1 rfl) ?_
  refine xr_arg (P := 1985) (j := i + 1) hx hb hX hbl hS hL (by omega) (by omega) (lv_at hl 0 rfl) (lv_at hl 4 rfl) dL_law_1985 dL_law_1986 dL_law_1988 dL_law_1989 dL_law_1990 ?_
  refine lv_aload_n hx hb dL_law_1991 rfl (lv_at hl 3 rfl) ?_
  refine law_w1 (P := 1992) E0 I0 X.1 (by decide) (by decide) (xr_SW (As := [.ref (ad 4 0), .int (iI (xo xs (i + 1))), .ref b0]) (rest := []) hx hb hml hown hts hK hXS hN hS (fun q z => (hA2 q z).1) (c_L_total hR hG hl0 hAH hB hbA (xo xs (i + 1)) (xo_in _ _)) ms_L_total kw_726 ⟨Nat.le_of_ble_eq_true rfl, Nat.le_of_ble_eq_true rfl⟩ ⟨hc, Nat.le_trans (Nat.add_le_add_left (by decide) _) hs⟩ rfl rfl hl.1 rfl (lv_room (Nat.le_of_ble_eq_true rfl)) dL_law_1992) hl dL_law_1995 (fun ad1 g H1 locs1 ls hR1 hM1 hB1 hg1 hS1 hz1 hl => ?_)
  refine lv_aload_n hx hb dL_law_1997 rfl (lv_at hl 3 rfl) ?_
  refine xr_arg (P := 1998) (j := i + 1) hx hb hX hbl hS1 hL (by omega) (by omega) (lv_at hl 1 rfl) (lv_at hl 5 rfl) dL_law_1998 dL_law_1999 dL_law_2001 dL_law_2002 dL_law_2003 ?_
  refine law_w2 (P := 2004) E0 (xr_V (As := [.int (iI (xo xs (i + 1)))]) (rest := []) hx hb hml hown hts hK (c_X5_total hM1 hGM (xo xs (i + 1)) (xo_in _ _)) ms_X5_total kw_1071 (wr_recv hK hM1 (md_5 hGM) rfl rfl) ⟨Nat.le_of_ble_eq_true rfl, Nat.le_of_ble_eq_true rfl⟩ ⟨hc, hs⟩ rfl rfl hl.1 rfl (lv_room (Nat.le_of_ble_eq_true rfl)) dL_law_2004) hR1 hB1 hS1 hz1 (fun H2 locs2 hR2 hM2 hB2 hS2 hz2 => ?_)
  refine law_tl (P := 2007) E0 hml hown hts hM2 X.2.2.2.1 hB2 ⟨X.1.2.2.2.1, X.1.2.2.2.2⟩ X.2.2.2.2.1 hg1 ⟨Nat.le_of_ble_eq_true rfl, Nat.le_of_ble_eq_true rfl⟩ ⟨hc, hs⟩ hl dL_law_2007 dL_law_2009 dL_law_2010 dL_law_2013 dL_law_2015 dL_law_2020 dL_law_2022 dL_law_2025 dL_law_2026 dL_law_2027 dL_law_2028 dL_law_2030 dL_law_2031 dL_law_2036 (by decide) (fun ls hl => ?_)
  exact kk ad1 _ _ H2 locs2 ls ⟨hR2, hM2, ⟨g, hB2⟩, X.2.1, X.2.2.1, X.2.2.2.1, hS2, hz2⟩ X.2.2.2.2.2 hl
set_option maxRecDepth 100000 in
set_option maxHeartbeats 4000000 in
theorem law_c30 (E : LE p l s m meth c b L xs D cy A A2 b0 N0) (I : LI D cy A A2 s b0 N0 ad adM sg mu H locs) (hi : i + 5 ≤ L) (h2 : sg 702 0 ≤ 1000000) (hc : cells + 1 ≤ 601024) (hs : slots + 15 ≤ 7293034) (hl : lv_has ls 8 [(0, .ref b), (1, .ref (ad 4 0)), (2, .ref (adM 5 0)), (3, .ref b0), (4, .int (iI (i : Int)))]) (kk : LK p l e s m below meth c b D cy A A2 b0 N0 adM i cells slots Q sg) : W p l e room_1 s m #[Value.ref b] below meth c H locs cells slots Q (F0 m 2039 ls []) := by
  have E0 := E
  have I0 := I
  obtain ⟨⟨hx, hb, -, hml, hown, hts0, hX, hbl, -, -⟩, hl0, hK, hXS, hN, hA, hA2, hA3, hb0, hL⟩ := E
  obtain ⟨hR, hRM, ⟨g0, hB⟩, hRel, hG, hGM, hS, hz⟩ := I
  have hts : ∀ w ∈ wG, w.before #[Value.ref b] s = true := fun w hw => hts0 w (List.mem_filter.mp hw).1
  have hAH : ∀ q : Nat, H.size ≤ q → A q := fun q h => hA q (Nat.le_trans hz h)
  have hbA : ¬ A b0 := fun z => (hA2 _ z).2.2 rfl
  have hown : s.vm.findClass "TakinghallLaw" = some m.cls := hown
  have X := simX_p (s_creditors hRel hG (xo xs (i + 1))) hRel hG hGM
  refine lv_aload_n hx hb dL_law_2039 rfl (lv_at hl 1 rfl) ?_
  refine xr_arg (P := 2040) (j := i + 1) hx hb hX hbl hS hL (by omega) (by omega) (lv_at hl 0 rfl) (lv_at hl 4 rfl) dL_law_2040 dL_law_2041 dL_law_2043 dL_law_2044 dL_law_2045 ?_
  refine lv_aload_n hx hb dL_law_2046 rfl (lv_at hl 3 rfl) ?_
  refine law_w1 (P := 2047) E0 I0 X.1 (by decide) (by decide) (xr_SW (As := [.ref (ad 4 0), .int (iI (xo xs (i + 1))), .ref b0]) (rest := []) hx hb hml hown hts hK hXS hN hS (fun q z => (hA2 q z).1) (c_L_creditors hR hG hl0 hAH hB hbA (xo xs (i + 1)) (xo_in _ _)) ms_L_creditors kw_733 ⟨Nat.le_of_ble_eq_true rfl, Nat.le_of_ble_eq_true rfl⟩ ⟨hc, Nat.le_trans (Nat.add_le_add_left (by decide) _) hs⟩ rfl rfl hl.1 rfl (lv_room (Nat.le_of_ble_eq_true rfl)) dL_law_2047) hl dL_law_2050 (fun ad1 g H1 locs1 ls hR1 hM1 hB1 hg1 hS1 hz1 hl => ?_)
  refine lv_aload_n hx hb dL_law_2052 rfl (lv_at hl 3 rfl) ?_
  refine xr_arg (P := 2053) (j := i + 1) hx hb hX hbl hS1 hL (by omega) (by omega) (lv_at hl 1 rfl) (lv_at hl 5 rfl) dL_law_2053 dL_law_2054 dL_law_2056 dL_law_2057 dL_law_2058 ?_
  refine law_w2 (P := 2059) E0 (xr_V (As := [.int (iI (xo xs (i + 1)))]) (rest := []) hx hb hml hown hts hK (c_X5_creditors hM1 hGM (xo xs (i + 1)) (xo_in _ _)) ms_X5_creditors kw_1075 (wr_recv hK hM1 (md_5 hGM) rfl rfl) ⟨Nat.le_of_ble_eq_true rfl, Nat.le_of_ble_eq_true rfl⟩ ⟨hc, hs⟩ rfl rfl hl.1 rfl (lv_room (Nat.le_of_ble_eq_true rfl)) dL_law_2059) hR1 hB1 hS1 hz1 (fun H2 locs2 hR2 hM2 hB2 hS2 hz2 => ?_)
  refine law_ti (P := 2062) E0 hml hown hts hM2 X.2.2.2.1 hB2 ⟨X.1.2.2.2.1, X.1.2.2.2.2⟩ X.2.2.2.2.1 (fun z => ?_) hg1 ⟨Nat.le_of_ble_eq_true rfl, Nat.le_of_ble_eq_true rfl⟩ ⟨hc, hs⟩ hl dL_law_2062 dL_law_2064 dL_law_2065 dL_law_2068 dL_law_2070 dL_law_2075 dL_law_2077 dL_law_2080 dL_law_2081 dL_law_2082 dL_law_2083 dL_law_2085 dL_law_2086 dL_law_2087 dL_law_2092 (by decide) (fun ls hl => ?_)
  · have hT := X.1.2.1.mpr z
    rw [← X.1.2.2.1 hT]
    exact r32_creditors hG (xo xs (i + 1)) hT
  · exact kk ad1 _ _ H2 locs2 ls ⟨hR2, hM2, ⟨g, hB2⟩, X.2.1, X.2.2.1, X.2.2.2.1, hS2, hz2⟩ X.2.2.2.2.2 hl
end LC
