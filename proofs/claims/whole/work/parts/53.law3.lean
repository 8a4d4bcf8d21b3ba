/-! the law's loop -/
/-- the law's own end, with 1 on the stack, nothing written that was there before, its room as the claim has it -/
theorem lw_ret {p : Program} {l : Launch} {e : Env} {s : State} {m : MethodId} {below : List Frame} {meth : Method} {c : Code} {b : Nat} (hx : p.tables.exec = Jvm.exec) (hb : c.code = code) (hr : meth.sig.returnType = ret) (hlocks : meth.locks = false) {pc : Nat} {H : Heap} {ls : Array Slot} (hdg : decode code pc = .ok (.ireturn, 1)) : W p l e room_1 s m #[Value.ref b] below meth c H [] 601024 7293034 (lw_Z below #[Value.ref b] s) (F0 m pc ls [.int 1]) := by
  intro T hT X
  obtain ⟨fs, hret, hrun, hended, hW, hframe⟩ := X.leave (v := some (.int 1)) (hlocks := hlocks) (fun h => by rw [hr] at h; cases h)
  have hmeth' : T.vm.method? m = some meth := X.method'
  refine ⟨T.setFrames fs, ?_, .returned (some (.int 1)), hrun, hended, rfl, ⟨_, rfl⟩, hW, hframe⟩
  jvm_step X.here [X.here.top, hx, hb, hdg, hmeth', hr, ret, narrow_b1]
  (try refine ⟨rfl, ?_⟩); (try refine ⟨rfl, ?_⟩)
  first | (intro acts; rw [hret _ acts rfl rfl rfl]) | rw [hret _ _ rfl rfl rfl]
  exact Steps.refl _
set_option maxRecDepth 100000 in
set_option maxHeartbeats 4000000 in
theorem law_loop {p : Program} {l : Launch} {e : Env} {s : State} {m : MethodId} {below : List Frame} {meth : Method} {c : Code} {D : va_G} {cy : Nat → ClassId} {A A2 : Nat → Prop} {b L b0 N0 : Nat} {xs : Nat → Int32} {adM : Nat → Int → Nat} (E : LE p l s m meth c b L xs D cy A A2 b0 N0) :
    ∀ (n i : Nat), i ≤ L → L + 1 ≤ i + n → ∀ (ad : Nat → Int → Nat) (sg mu : Nat → Int → Int) (H : Heap) (locs : List Loc) (cells slots : Nat) (ls : Array Slot), LI D cy A A2 s b0 N0 ad adM sg mu H locs → sg 702 0 ≤ 3 + (i : Int) → cells ≤ 100 + i → slots ≤ 70000 + 15 * i → lv_has ls 8 [(0, .ref b), (1, .ref (ad 4 0)), (2, .ref (adM 5 0)), (3, .ref b0), (4, .int (iI (i : Int)))] → W p l e room_1 s m #[Value.ref b] below meth c H locs cells slots (lw_Z below #[Value.ref b] s) (F0 m 23 ls []) := by
  intro n
  induction n with
  | zero => intro i h1 h2; exact absurd h2 (by omega)
  | succ n ih =>
    intro i hi hn ad sg mu H locs cells slots ls I h7 hcl hsl hl
    have E0 := E
    have I0 := I
    obtain ⟨⟨hx, hb, hr, hml, hown, hts0, hX, hbl, hlocks, -⟩, hl0, hK, hXS, hN, hA, hA2, hA3, hb0, hL⟩ := E
    obtain ⟨hR, hRM, ⟨g0, hB⟩, hRel, hG, hGM, hS, hz⟩ := I
    refine lv_iload hx hb dL_law_23 (lv_at hl 4 rfl) ?_
    refine lv_aload_n hx hb dL_law_25 rfl (lv_at hl 0 rfl) ?_
    refine va_slen hx hb hX hbl (Nat.not_le.mpr hbl) hS dL_law_26 ?_
    rw [show Int32.ofNat L = iI (L : Int) from Int32.ofInt_eq_ofNat.symm]
    refine lv_iconst (v := iI 5) hx hb dL_law_27 rfl ?_
    refine xr_isub hx hb dL_law_28 ?_
    refine xr_icmp_gt (tgt := 2101) hx hb dL_law_29 (by decide) ⟨by omega, by omega⟩ ⟨by omega, by omega⟩ (fun _ => ?_) (fun hle => ?_)
    · refine lv_iconst (v := 1) hx hb dL_law_2101 (by decide) ?_
      refine va_forget (fun q hq => hS.2.2 q hq) ?_
      refine W.widen (k := 601024) (n := 7293034) (by omega) (by omega) ?_
      exact lw_ret hx hb hr hlocks dL_law_2102
    · have hi5 : i + 5 ≤ L := by omega
      have kk : LK p l e s m below meth c b D cy A A2 b0 N0 adM i cells slots (lw_Z below #[Value.ref b] s) sg := by
        intro ad' sg' mu' H' locs' ls' I' h7' hl'
        refine lv_iinc (v := iI ((i + 5 : Nat) : Int)) (lv' := [(4, .int (iI ((i + 5 : Nat) : Int))), (0, .ref b), (1, .ref (ad' 4 0)), (2, .ref (adM 5 0)), (3, .ref b0)]) hx hb dL_law_2095 hl' (k := 4) rfl (by rw [show Int32.ofInt 5 = iI 5 from rfl, iI_add]; rfl) (by decide) rfl (fun ls hl => ?_)
        refine lv_goto (tgt := 23) hx hb dL_law_2098 (by decide) ?_
        exact ih (i + 5) hi5 (by omega) ad' sg' mu' H' locs' _ _ ls I' (by omega) (by omega) (by omega) (lv_sub hl [1, 2, 3, 4, 0] rfl)
      refine lv_aload_n hx hb dL_law_32 rfl (lv_at hl 0 rfl) ?_
      refine lv_iload hx hb dL_law_33 (lv_at hl 4 rfl) ?_
      refine va_sld hx hb hX hbl (Nat.not_le.mpr hbl) hS (iI_vin (n := L) (by omega) (by omega)) dL_law_35 ?_
      refine lv_bipush (v := 31) hx hb dL_law_36 (by decide) ?_
      refine lv_iand hx hb dL_law_38 ?_
      obtain ⟨j, hj, ej⟩ := pk_andE (xs (iI (i : Int)).toNatClampNeg) (m := 31) 5 (by decide)
      rw [ej]
      have hc1 : cells + 1 ≤ 601024 := by omega
      have hs1 : slots + 15 ≤ 7293034 := by omega
      have h71 : sg 702 0 ≤ 1000000 := by omega
      have hj2 : j < 32 := hj
      rcases (show j = 0 ∨ j = 1 ∨ j = 2 ∨ j = 3 ∨ j = 4 ∨ j = 5 ∨ j = 6 ∨ j = 7 ∨ j = 8 ∨ j = 9 ∨ j = 10 ∨ j = 11 ∨ j = 12 ∨ j = 13 ∨ j = 14 ∨ j = 15 ∨ j = 16 ∨ j = 17 ∨ j = 18 ∨ j = 19 ∨ j = 20 ∨ j = 21 ∨ j = 22 ∨ j = 23 ∨ j = 24 ∨ j = 25 ∨ j = 26 ∨ j = 27 ∨ j = 28 ∨ j = 29 ∨ j = 30 ∨ j = 31 by omega) with rfl | rfl | rfl | rfl | rfl | rfl | rfl | rfl | rfl | rfl | rfl | rfl | rfl | rfl | rfl | rfl | rfl | rfl | rfl | rfl | rfl | rfl | rfl | rfl | rfl | rfl | rfl | rfl | rfl | rfl | rfl | rfl
      · refine lv_tableIn (tgt := 176) (off := 137) hx hb dL_law_39 (by decide) (by decide) (by decide) (by decide) ?_
        exact law_c0 E0 I0 hi5 h71 hc1 hs1 hl kk
      · refine lv_tableIn (tgt := 256) (off := 217) hx hb dL_law_39 (by decide) (by decide) (by decide) (by decide) ?_
        exact law_c1 E0 I0 hi5 h71 hc1 hs1 hl kk
      · refine lv_tableIn (tgt := 324) (off := 285) hx hb dL_law_39 (by decide) (by decide) (by decide) (by decide) ?_
        exact law_c2 E0 I0 hi5 h71 hc1 hs1 hl kk
      · refine lv_tableIn (tgt := 392) (off := 353) hx hb dL_law_39 (by decide) (by decide) (by decide) (by decide) ?_
        exact law_c3 E0 I0 hi5 h71 hc1 hs1 hl kk
      · refine lv_tableIn (tgt := 448) (off := 409) hx hb dL_law_39 (by decide) (by decide) (by decide) (by decide) ?_
        exact law_c4 E0 I0 hi5 h71 hc1 hs1 hl kk
      · refine lv_tableIn (tgt := 516) (off := 477) hx hb dL_law_39 (by decide) (by decide) (by decide) (by decide) ?_
        exact law_c5 E0 I0 hi5 h71 hc1 hs1 hl kk
      · refine lv_tableIn (tgt := 596) (off := 557) hx hb dL_law_39 (by decide) (by decide) (by decide) (by decide) ?_
        exact law_c6 E0 I0 hi5 h71 hc1 hs1 hl kk
      · refine lv_tableIn (tgt := 688) (off := 649) hx hb dL_law_39 (by decide) (by decide) (by decide) (by decide) ?_
        exact law_c7 E0 I0 hi5 h71 hc1 hs1 hl kk
      · refine lv_tableIn (tgt := 768) (off := 729) hx hb dL_law_39 (by decide) (by decide) (by decide) (by decide) ?_
        exact law_c8 E0 I0 hi5 h71 hc1 hs1 hl kk
      · refine lv_tableIn (tgt := 835) (off := 796) hx hb dL_law_39 (by decide) (by decide) (by decide) (by decide) ?_
        exact law_c9 E0 I0 hi5 h71 hc1 hs1 hl kk
      · refine lv_tableIn (tgt := 903) (off := 864) hx hb dL_law_39 (by decide) (by decide) (by decide) (by decide) ?_
        exact law_c10 E0 I0 hi5 h71 hc1 hs1 hl kk
      · refine lv_tableIn (tgt := 983) (off := 944) hx hb dL_law_39 (by decide) (by decide) (by decide) (by decide) ?_
        exact law_c11 E0 I0 hi5 h71 hc1 hs1 hl kk
      · refine lv_tableIn (tgt := 1039) (off := 1000) hx hb dL_law_39 (by decide) (by decide) (by decide) (by decide) ?_
        exact law_c12 E0 I0 hi5 h71 hc1 hs1 hl kk
      · refine lv_tableIn (tgt := 1095) (off := 1056) hx hb dL_law_39 (by decide) (by decide) (by decide) (by decide) ?_
        exact law_c13 E0 I0 hi5 h71 hc1 hs1 hl kk
      · refine lv_tableIn (tgt := 1179) (off := 1140) hx hb dL_law_39 (by decide) (by decide) (by decide) (by decide) ?_
        exact law_c14 E0 I0 hi5 h71 hc1 hs1 hl kk
      · refine lv_tableIn (tgt := 1235) (off := 1196) hx hb dL_law_39 (by decide) (by decide) (by decide) (by decide) ?_
        exact law_c15 E0 I0 hi5 h71 hc1 hs1 hl kk
      · refine lv_tableIn (tgt := 1291) (off := 1252) hx hb dL_law_39 (by decide) (by decide) (by decide) (by decide) ?_
        exact law_c16 E0 I0 hi5 h71 hc1 hs1 hl kk
      · refine lv_tableIn (tgt := 1347) (off := 1308) hx hb dL_law_39 (by decide) (by decide) (by decide) (by decide) ?_
        exact law_c17 E0 I0 hi5 h71 hc1 hs1 hl kk
      · refine lv_tableIn (tgt := 1415) (off := 1376) hx hb dL_law_39 (by decide) (by decide) (by decide) (by decide) ?_
        exact law_c18 E0 I0 hi5 h71 hc1 hs1 hl kk
      · refine lv_tableIn (tgt := 1471) (off := 1432) hx hb dL_law_39 (by decide) (by decide) (by decide) (by decide) ?_
        exact law_c19 E0 I0 hi5 h71 hc1 hs1 hl kk
      · refine lv_tableIn (tgt := 1527) (off := 1488) hx hb dL_law_39 (by decide) (by decide) (by decide) (by decide) ?_
        exact law_c20 E0 I0 hi5 h71 hc1 hs1 hl kk
      · refine lv_tableIn (tgt := 1583) (off := 1544) hx hb dL_law_39 (by decide) (by decide) (by decide) (by decide) ?_
        exact law_c21 E0 I0 hi5 h71 hc1 hs1 hl kk
      · refine lv_tableIn (tgt := 1638) (off := 1599) hx hb dL_law_39 (by decide) (by decide) (by decide) (by decide) ?_
        exact law_c22 E0 I0 hi5 h71 hc1 hs1 hl kk
      · refine lv_tableIn (tgt := 1693) (off := 1654) hx hb dL_law_39 (by decide) (by decide) (by decide) (by decide) ?_
        exact law_c23 E0 I0 hi5 h71 hc1 hs1 hl kk
      · refine lv_tableIn (tgt := 1748) (off := 1709) hx hb dL_law_39 (by decide) (by decide) (by decide) (by decide) ?_
        exact law_c24 E0 I0 hi5 h71 hc1 hs1 hl kk
      · refine lv_tableIn (tgt := 1803) (off := 1764) hx hb dL_law_39 (by decide) (by decide) (by decide) (by decide) ?_
        exact law_c25 E0 I0 hi5 h71 hc1 hs1 hl kk
      · refine lv_tableIn (tgt := 1859) (off := 1820) hx hb dL_law_39 (by decide) (by decide) (by decide) (by decide) ?_
        exact law_c26 E0 I0 hi5 h71 hc1 hs1 hl kk
      · refine lv_tableIn (tgt := 1915) (off := 1876) hx hb dL_law_39 (by decide) (by decide) (by decide) (by decide) ?_
        exact law_c27 E0 I0 hi5 h71 hc1 hs1 hl kk
      · refine lv_tableIn (tgt := 1971) (off := 1932) hx hb dL_law_39 (by decide) (by decide) (by decide) (by decide) ?_
        exact law_c28 E0 I0 hi5 h71 hc1 hs1 hl kk
      · refine lv_tableIn (tgt := 1984) (off := 1945) hx hb dL_law_39 (by decide) (by decide) (by decide) (by decide) ?_
        exact law_c29 E0 I0 hi5 h71 hc1 hs1 hl kk
      · refine lv_tableIn (tgt := 2039) (off := 2000) hx hb dL_law_39 (by decide) (by decide) (by decide) (by decide) ?_
        exact law_c30 E0 I0 hi5 h71 hc1 hs1 hl kk
      · refine lv_tableOut (tgt := 2095) hx hb dL_law_39 (Or.inr (by decide)) (by decide) ?_
        exact W.widen (by omega) (by omega) (kk ad sg mu H locs ls I0 (by omega) hl)
