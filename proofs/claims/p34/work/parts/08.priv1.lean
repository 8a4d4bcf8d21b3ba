/-! what the class's methods answer, out of its table -/
def pAt (x : Int) : Int := if 0 ≤ x ∧ x < 36 then x else -1
def iAt (sg : Nat → Int → Int) (x : Int) : Int := if 0 ≤ x ∧ x < sg 503 0 then x else -1
def sAt (sg : Nat → Int → Int) (x : Int) : Int := if 0 ≤ x ∧ x < sg 505 0 then x else -1
def centsO (sg : Nat → Int → Int) (n : Int) : Int := if n < 0 then 0 else sg 301 n
def worthB (sg : Nat → Int → Int) (v n : Int) : Int := if v < 0 then 0 else sg 201 v * centsO sg n
def needO (sg : Nat → Int → Int) (v : Int) : Int := if v < 0 then -1 else if sg 204 v < 0 then -1 else if sg 403 (sg 204 v) = 2 then -1 else sg 204 v
def freeNeed (sg : Nat → Int → Int) (v w : Int) : Prop := 0 ≤ v ∧ sg 203 v = 0 ∧ 0 ≤ w ∧ needO sg v = w
def draftO (sg : Nat → Int → Int) (v : Int) : Int := if 0 ≤ v ∧ sg 203 v = 0 ∧ 0 ≤ needO sg v ∧ sg 403 (needO sg v) = 0 then needO sg v else -1
def overO (sg : Nat → Int → Int) (v d : Int) : Prop := 0 ≤ v ∧ sg 101 v = 1 ∧ sg 105 v ≤ d
def takenO (sg : Nat → Int → Int) (v : Int) : Prop := 0 ≤ v ∧ sg 206 v ≠ -1
def behind (sg : Nat → Int → Int) (v w : Int) : Prop := 0 ≤ v ∧ (0 ≤ w → (sg 105 v < sg 105 w ∨ (sg 105 v = sg 105 w ∧ w < v)))
theorem pAt_rng (x : Int) : -1 ≤ pAt x ∧ pAt x < 36 := by unfold pAt; split <;> omega
theorem iAt_rng {sg : Nat → Int → Int} (hG : GC sg) (x : Int) : -1 ≤ iAt sg x ∧ iAt sg x < sg 503 0 := by have h := gr_503 hG 0; unfold iAt; split <;> omega
theorem sAt_rng {sg : Nat → Int → Int} (hG : GC sg) (x : Int) : -1 ≤ sAt sg x ∧ sAt sg x < sg 505 0 := by have h := gr_505 hG 0; unfold sAt; split <;> omega
theorem needO_rng {sg : Nat → Int → Int} (hG : GC sg) (v : Int) : -1 ≤ needO sg v ∧ needO sg v < sg 505 0 ∧ needO sg v ≤ 3 := by
  have h1 := gp_204 hG v
  have h2 := gr_204 hG v
  have h3 := gr_505 hG 0
  unfold needO
  (repeat' split) <;> omega
theorem centsO_rng {sg : Nat → Int → Int} (hG : GC sg) (n : Int) : 0 ≤ centsO sg n ∧ centsO sg n ≤ 1000 := by
  have h1 := gr_301 hG n
  unfold centsO
  split <;> omega
theorem mul_rng {a b m n : Int} (ha : 0 ≤ a ∧ a ≤ m) (hb : 0 ≤ b ∧ b ≤ n) : 0 ≤ a * b ∧ a * b ≤ m * n := ⟨Int.mul_nonneg ha.1 hb.1, Int.mul_le_mul ha.2 hb.2 hb.1 (by omega)⟩
theorem draftO_rng {sg : Nat → Int → Int} (hG : GC sg) (v : Int) : -1 ≤ draftO sg v ∧ draftO sg v < sg 505 0 ∧ draftO sg v ≤ 3 := by
  have h1 := needO_rng hG v
  have h2 := gr_505 hG 0
  unfold draftO
  split <;> omega
theorem worthB_rng {sg : Nat → Int → Int} (hG : GC sg) (v n : Int) : 0 ≤ worthB sg v n ∧ worthB sg v n ≤ 100000 := by
  have h1 := gr_201 hG v
  have h2 := centsO_rng hG n
  have h3 := mul_rng (a := sg 201 v) (m := 100) ⟨by omega, h1.2⟩ h2
  unfold worthB
  split <;> omega

theorem ms_X4_isWithin : MSt yX4_isWithin cX4_isWithin 3 (some .boolean) 3 := ⟨kw_206, kw_205, kw_1, by decide, by decide, by decide +kernel⟩
set_option maxRecDepth 100000 in
set_option maxHeartbeats 4000000 in
theorem c_X4_isWithin {l : Launch} {D : va_G} {cy : Nat → ClassId} {A : Nat → Prop} {ad : Nat → Int → Nat} {sg : Nat → Int → Int} {H : Heap} (hR : RC D cy A ad sg H) (hG : GC sg)  (v : Int) (lo : Int) (hi : Int) (h_v : in32 v) (h_lo : in32 lo) (h_hi : in32 hi) : Met l yX4_isWithin (Cond.code yX4_isWithin cX4_isWithin 3 (some .boolean) :: wG) (rmF 0 0 0 0) (Pc D cy H [.int (iI (v)), .int (iI (lo)), .int (iI (hi))]) (Qp (.int (iI (bI (lo ≤ v ∧ v ≤ hi))))) 0 0 Kn := by
  refine met_of (la := [(0, .int (iI (v))), (1, .int (iI (lo))), (2, .int (iI (hi)))]) (by decide) (Nat.le_of_ble_eq_true rfl) rfl ?_
  intro p e R s m args below meth c ls hRm hx hb hml hr hlk hin hown hts hsH hK hl
  subst hRm
  have hown : s.vm.findClass "Takinghall" = some m.cls := hown
  refine lv_iload_n hx hb dX4_isWithin_0 rfl (lv_at hl 0 rfl) ?_
  refine lv_iload_n hx hb dX4_isWithin_1 rfl (lv_at hl 1 rfl) ?_
  refine xr_icmp_lt (tgt := 14) hx hb dX4_isWithin_2 (by decide) (by omega) (by omega) (fun h1 => ?_) (fun h1 => ?_)
  · skip
    refine lv_iconst (v := iI (0)) hx hb dX4_isWithin_14 rfl ?_
    exact xe_zb hx hb hr hlk hsH dX4_isWithin_15 (by omega)
  · skip
    refine lv_iload_n hx hb dX4_isWithin_5 rfl (lv_at hl 0 rfl) ?_
    refine lv_iload_n hx hb dX4_isWithin_6 rfl (lv_at hl 2 rfl) ?_
    refine xr_icmp_gt (tgt := 14) hx hb dX4_isWithin_7 (by decide) (by omega) (by omega) (fun h2 => ?_) (fun h2 => ?_)
    · skip
      refine lv_iconst (v := iI (0)) hx hb dX4_isWithin_14 rfl ?_
      exact xe_zb hx hb hr hlk hsH dX4_isWithin_15 (by omega)
    · skip
      refine lv_iconst (v := iI (1)) hx hb dX4_isWithin_10 rfl ?_
      refine lv_goto (tgt := 15) hx hb dX4_isWithin_11 (by decide) ?_
      exact xe_zb hx hb hr hlk hsH dX4_isWithin_15 (by omega)
theorem ms_X4_isUse : MSt yX4_isUse cX4_isUse 1 (some .boolean) 1 := ⟨kw_209, kw_208, kw_1, by decide, by decide, by decide +kernel⟩
set_option maxRecDepth 100000 in
set_option maxHeartbeats 4000000 in
theorem c_X4_isUse {l : Launch} {D : va_G} {cy : Nat → ClassId} {A : Nat → Prop} {ad : Nat → Int → Nat} {sg : Nat → Int → Int} {H : Heap} (hR : RC D cy A ad sg H) (hG : GC sg)  (u : Int) (h_u : in32 u) : Met l yX4_isUse (Cond.code yX4_isUse cX4_isUse 1 (some .boolean) :: wG) (rmF 1 22 0 0) (Pc D cy H [.int (iI (u))]) (Qp (.int (iI (bI (0 ≤ u ∧ u ≤ 2))))) 0 0 Kn := by
  refine met_of (la := [(0, .int (iI (u)))]) (by decide) (Nat.le_of_ble_eq_true rfl) rfl ?_
  intro p e R s m args below meth c ls hRm hx hb hml hr hlk hin hown hts hsH hK hl
  subst hRm
  have hown : s.vm.findClass "Takinghall" = some m.cls := hown
  refine lv_iload_n hx hb dX4_isUse_0 rfl (lv_at hl 0 rfl) ?_
  refine lv_iconst (v := iI (0)) hx hb dX4_isUse_1 rfl ?_
  refine lv_iconst (v := iI (2)) hx hb dX4_isUse_2 rfl ?_
  refine xk_pF (xr_S (As := [.int (iI (u)), .int (iI (0)), .int (iI (2))]) (rest := []) hx hb hml hown hts hK (c_X4_isWithin hR hG u 0 2 (by omega) (by omega) (by omega)) ms_X4_isWithin kw_204 ⟨by decide, by decide⟩ ⟨by decide, by decide⟩ rfl rfl hl.1 rfl (lv_room (by decide)) dX4_isUse_3) ?_
  exact xe_bb hx hb hr hlk hsH dX4_isUse_6 (by omega)
theorem ms_X4_isPerson : MSt yX4_isPerson cX4_isPerson 1 (some .boolean) 1 := ⟨kw_450, kw_449, kw_1, by decide, by decide, by decide +kernel⟩
set_option maxRecDepth 100000 in
set_option maxHeartbeats 4000000 in
theorem c_X4_isPerson {l : Launch} {D : va_G} {cy : Nat → ClassId} {A : Nat → Prop} {ad : Nat → Int → Nat} {sg : Nat → Int → Int} {H : Heap} (hR : RC D cy A ad sg H) (hG : GC sg)  (u : Int) (h_u : in32 u) : Met l yX4_isPerson (Cond.code yX4_isPerson cX4_isPerson 1 (some .boolean) :: wG) (rmF 1 22 0 0) (Pc D cy H [.int (iI (u))]) (Qp (.int (iI (bI (0 ≤ u ∧ u ≤ 9))))) 0 0 Kn := by
  refine met_of (la := [(0, .int (iI (u)))]) (by decide) (Nat.le_of_ble_eq_true rfl) rfl ?_
  intro p e R s m args below meth c ls hRm hx hb hml hr hlk hin hown hts hsH hK hl
  subst hRm
  have hown : s.vm.findClass "Takinghall" = some m.cls := hown
  refine lv_iload_n hx hb dX4_isPerson_0 rfl (lv_at hl 0 rfl) ?_
  refine lv_iconst (v := iI (0)) hx hb dX4_isPerson_1 rfl ?_
  refine lv_bipush (v := iI (9)) hx hb dX4_isPerson_2 (by decide) ?_
  refine xk_pF (xr_S (As := [.int (iI (u)), .int (iI (0)), .int (iI (9))]) (rest := []) hx hb hml hown hts hK (c_X4_isWithin hR hG u 0 9 (by omega) (by omega) (by omega)) ms_X4_isWithin kw_204 ⟨by decide, by decide⟩ ⟨by decide, by decide⟩ rfl rfl hl.1 rfl (lv_room (by decide)) dX4_isPerson_4) ?_
  exact xe_bb hx hb hr hlk hsH dX4_isPerson_7 (by omega)
theorem ms_X4_hundredths : MSt yX4_hundredths cX4_hundredths 2 (some .int) 2 := ⟨kw_278, kw_277, kw_1, by decide, by decide, by decide +kernel⟩
set_option maxRecDepth 100000 in
set_option maxHeartbeats 4000000 in
theorem c_X4_hundredths {l : Launch} {D : va_G} {cy : Nat → ClassId} {A : Nat → Prop} {ad : Nat → Int → Nat} {sg : Nat → Int → Int} {H : Heap} (hR : RC D cy A ad sg H) (hG : GC sg)  (v : Int) (w : Int) (h1 : 0 ≤ v * w ∧ v * w < 2147483648) : Met l yX4_hundredths (Cond.code yX4_hundredths cX4_hundredths 2 (some .int) :: wG) (rmF 0 0 0 0) (Pc D cy H [.int (iI (v)), .int (iI (w))]) (Qp (.int (iI (v * w / 100)))) 0 0 Kn := by
  refine met_of (la := [(0, .int (iI (v))), (1, .int (iI (w)))]) (by decide) (Nat.le_of_ble_eq_true rfl) rfl ?_
  intro p e R s m args below meth c ls hRm hx hb hml hr hlk hin hown hts hsH hK hl
  subst hRm
  have hown : s.vm.findClass "Takinghall" = some m.cls := hown
  refine lv_iload_n hx hb dX4_hundredths_0 rfl (lv_at hl 0 rfl) ?_
  refine lv_iload_n hx hb dX4_hundredths_1 rfl (lv_at hl 1 rfl) ?_
  refine xr_imul hx hb dX4_hundredths_2 ?_
  refine lv_bipush (v := iI (100)) hx hb dX4_hundredths_3 (by decide) ?_
  refine xr_idiv hx hb dX4_hundredths_5 (by omega) (by omega) ?_
  exact xe_i hx hb hr hlk hsH dX4_hundredths_6 (by rfl)
theorem ms_X4_plotAt : MVi RX4 yX4_plotAt cX4_plotAt 2 (some (.object "Takinghall$Plot")) 1 := ⟨kw_135, kw_134, kp_0, kw_1, rfl, by decide, by decide, by decide +kernel⟩
set_option maxRecDepth 100000 in
set_option maxHeartbeats 4000000 in
theorem c_X4_plotAt {l : Launch} {D : va_G} {cy : Nat → ClassId} {A : Nat → Prop} {ad : Nat → Int → Nat} {sg : Nat → Int → Int} {H : Heap} (hR : RC D cy A ad sg H) (hG : GC sg)  (x : Int) (h_x : in32 x) : Met l yX4_plotAt (Cond.code yX4_plotAt cX4_plotAt 2 (some (.object "Takinghall$Plot")) :: wG) (rmF 0 0 0 0) (Pc D cy H [.ref (ad 4 (0)), .int (iI (x))]) (Qp (rv (ad 1) (pAt x))) 0 0 Kn := by
  refine met_of (la := [(0, .ref (ad 4 (0))), (1, .int (iI (x)))]) (by decide) (Nat.le_of_ble_eq_true rfl) rfl ?_
  intro p e R s m args below meth c ls hRm hx hb hml hr hlk hin hown hts hsH hK hl
  subst hRm
  have hown : s.vm.findClass "Takinghall" = some m.cls := hown
  have hw4 : ∀ w ∈ u_ws RX4 TX4 12, w.before args s = true := fun w h => hts w (uw_X4 w h)
  refine lv_iload_n hx hb dX4_plotAt_0 rfl (lv_at hl 1 rfl) ?_
  refine xr_if_lt (tgt := 22) hx hb dX4_plotAt_1 (by decide) (by omega) (fun h1 => ?_) (fun h1 => ?_)
  · skip
    refine lv_null hx hb dX4_plotAt_22 ?_
    exact xe_a hx hb hr hlk hsH dX4_plotAt_23 (by exact (rv_eq_n (f := ad 1) (b := pAt x) (by (try unfold pAt); (repeat' split) <;> omega)))
  · skip
    refine lv_iload_n hx hb dX4_plotAt_4 rfl (lv_at hl 1 rfl) ?_
    refine lv_aload_n hx hb dX4_plotAt_5 rfl (lv_at hl 0 rfl) ?_
    refine xg_500 (v := sg 500 0) hx hb hw4 hown hK hR (gd_4 hG) (hts _ kw_91) rfl dX4_plotAt_6 ?_
    have g2 := gh_500 hG (0)
    have q3 : sg 500 0 = 0 := gh_500 hG _
    rw [q3, rv_p (Int.le_refl 0)]
    refine xl_601 hx hb hK hR (gd_10 hG) dX4_plotAt_9 ?_
    refine xr_icmp_ge (tgt := 22) hx hb dX4_plotAt_10 (by decide) (by omega) (by omega) (fun h4 => ?_) (fun h4 => ?_)
    · skip
      refine lv_null hx hb dX4_plotAt_22 ?_
      exact xe_a hx hb hr hlk hsH dX4_plotAt_23 (by exact (rv_eq_n (f := ad 1) (b := pAt x) (by (try unfold pAt); (repeat' split) <;> omega)))
    · skip
      refine lv_aload_n hx hb dX4_plotAt_13 rfl (lv_at hl 0 rfl) ?_
      refine xg_500 (v := sg 500 0) hx hb hw4 hown hK hR (gd_4 hG) (hts _ kw_91) rfl dX4_plotAt_14 ?_
      have q5 : sg 500 0 = 0 := gh_500 hG _
      rw [q5, rv_p (Int.le_refl 0)]
      refine lv_iload_n hx hb dX4_plotAt_17 rfl (lv_at hl 1 rfl) ?_
      refine xa_601 (v := sg 601 x) hx hb hK hR (gd_10 hG) (by omega) rfl dX4_plotAt_18 ?_
      have q6 := ga_601 hG (q := x) (by omega)
      rw [q6, rv_p (f := ad 1) (v := x) (by omega)]
      refine lv_goto (tgt := 23) hx hb dX4_plotAt_19 (by decide) ?_
      exact xe_a hx hb hr hlk hsH dX4_plotAt_23 (by exact (rv_eq_p (a := x) (b := pAt x) (by omega) (by (try unfold pAt); (repeat' split) <;> omega)))
theorem ms_X4_interestAt : MVi RX4 yX4_interestAt cX4_interestAt 2 (some (.object "Takinghall$Interest")) 1 := ⟨kw_301, kw_300, kp_5, kw_1, rfl, by decide, by decide, by decide +kernel⟩
set_option maxRecDepth 100000 in
set_option maxHeartbeats 4000000 in
theorem c_X4_interestAt {l : Launch} {D : va_G} {cy : Nat → ClassId} {A : Nat → Prop} {ad : Nat → Int → Nat} {sg : Nat → Int → Int} {H : Heap} (hR : RC D cy A ad sg H) (hG : GC sg)  (x : Int) (h_x : in32 x) : Met l yX4_interestAt (Cond.code yX4_interestAt cX4_interestAt 2 (some (.object "Takinghall$Interest")) :: wG) (rmF 0 0 0 0) (Pc D cy H [.ref (ad 4 (0)), .int (iI (x))]) (Qp (rv (ad 0) (iAt sg x))) 0 0 Kn := by
  refine met_of (la := [(0, .ref (ad 4 (0))), (1, .int (iI (x)))]) (by decide) (Nat.le_of_ble_eq_true rfl) rfl ?_
  intro p e R s m args below meth c ls hRm hx hb hml hr hlk hin hown hts hsH hK hl
  subst hRm
  have hown : s.vm.findClass "Takinghall" = some m.cls := hown
  have hw4 : ∀ w ∈ u_ws RX4 TX4 12, w.before args s = true := fun w h => hts w (uw_X4 w h)
  have g503 := gr_503 hG 0
  refine lv_iload_n hx hb dX4_interestAt_0 rfl (lv_at hl 1 rfl) ?_
  refine xr_if_lt (tgt := 22) hx hb dX4_interestAt_1 (by decide) (by omega) (fun h1 => ?_) (fun h1 => ?_)
  · skip
    refine lv_null hx hb dX4_interestAt_22 ?_
    exact xe_a hx hb hr hlk hsH dX4_interestAt_23 (by exact (rv_eq_n (f := ad 0) (b := iAt sg x) (by (try unfold iAt); (repeat' split) <;> omega)))
  · skip
    refine lv_iload_n hx hb dX4_interestAt_4 rfl (lv_at hl 1 rfl) ?_
    refine lv_aload_n hx hb dX4_interestAt_5 rfl (lv_at hl 0 rfl) ?_
    refine xg_502 (v := sg 502 0) hx hb hw4 hown hK hR (gd_4 hG) (hts _ kw_93) rfl dX4_interestAt_6 ?_
    have g2 := gh_502 hG (0)
    have q3 : sg 502 0 = 0 := gh_502 hG _
    rw [q3, rv_p (Int.le_refl 0)]
    refine xl_600 hx hb hK hR (gd_9 hG) dX4_interestAt_9 ?_
    refine xr_icmp_ge (tgt := 22) hx hb dX4_interestAt_10 (by decide) (by omega) (by omega) (fun h4 => ?_) (fun h4 => ?_)
    · skip
      refine lv_null hx hb dX4_interestAt_22 ?_
      exact xe_a hx hb hr hlk hsH dX4_interestAt_23 (by exact (rv_eq_n (f := ad 0) (b := iAt sg x) (by (try unfold iAt); (repeat' split) <;> omega)))
    · skip
      refine lv_aload_n hx hb dX4_interestAt_13 rfl (lv_at hl 0 rfl) ?_
      refine xg_502 (v := sg 502 0) hx hb hw4 hown hK hR (gd_4 hG) (hts _ kw_93) rfl dX4_interestAt_14 ?_
      have q5 : sg 502 0 = 0 := gh_502 hG _
      rw [q5, rv_p (Int.le_refl 0)]
      refine lv_iload_n hx hb dX4_interestAt_17 rfl (lv_at hl 1 rfl) ?_
      refine xa_600 (v := sg 600 x) hx hb hK hR (gd_9 hG) (by omega) rfl dX4_interestAt_18 ?_
      have q6 := ga_600 hG (q := x) (by omega)
      rcases (show x < sg 503 0 ∨ sg 503 0 ≤ x by omega) with i7 | i7
      · skip
        rw [if_pos i7] at q6
        rw [q6, rv_p (f := ad 0) (v := x) (by omega)]
        refine lv_goto (tgt := 23) hx hb dX4_interestAt_19 (by decide) ?_
        exact xe_a hx hb hr hlk hsH dX4_interestAt_23 (by exact (rv_eq_p (a := x) (b := iAt sg x) (by omega) (by (try unfold iAt); (repeat' split) <;> omega)))
      · skip
        rw [if_neg (by omega)] at q6
        rw [q6, rv_n (f := ad 0) (v := -1) (by decide)]
        refine lv_goto (tgt := 23) hx hb dX4_interestAt_19 (by decide) ?_
        exact xe_a hx hb hr hlk hsH dX4_interestAt_23 (by exact (rv_eq_n (f := ad 0) (b := iAt sg x) (by (try unfold iAt); (repeat' split) <;> omega)))
theorem ms_X4_schemeAt : MVi RX4 yX4_schemeAt cX4_schemeAt 2 (some (.object "Takinghall$Scheme")) 1 := ⟨kw_349, kw_348, kp_6, kw_1, rfl, by decide, by decide, by decide +kernel⟩
set_option maxRecDepth 100000 in
set_option maxHeartbeats 4000000 in
theorem c_X4_schemeAt {l : Launch} {D : va_G} {cy : Nat → ClassId} {A : Nat → Prop} {ad : Nat → Int → Nat} {sg : Nat → Int → Int} {H : Heap} (hR : RC D cy A ad sg H) (hG : GC sg)  (x : Int) (h_x : in32 x) : Met l yX4_schemeAt (Cond.code yX4_schemeAt cX4_schemeAt 2 (some (.object "Takinghall$Scheme")) :: wG) (rmF 0 0 0 0) (Pc D cy H [.ref (ad 4 (0)), .int (iI (x))]) (Qp (rv (ad 3) (sAt sg x))) 0 0 Kn := by
  refine met_of (la := [(0, .ref (ad 4 (0))), (1, .int (iI (x)))]) (by decide) (Nat.le_of_ble_eq_true rfl) rfl ?_
  intro p e R s m args below meth c ls hRm hx hb hml hr hlk hin hown hts hsH hK hl
  subst hRm
  have hown : s.vm.findClass "Takinghall" = some m.cls := hown
  have hw4 : ∀ w ∈ u_ws RX4 TX4 12, w.before args s = true := fun w h => hts w (uw_X4 w h)
  have g505 := gr_505 hG 0
  refine lv_iload_n hx hb dX4_schemeAt_0 rfl (lv_at hl 1 rfl) ?_
  refine xr_if_lt (tgt := 22) hx hb dX4_schemeAt_1 (by decide) (by omega) (fun h1 => ?_) (fun h1 => ?_)
  · skip
    refine lv_null hx hb dX4_schemeAt_22 ?_
    exact xe_a hx hb hr hlk hsH dX4_schemeAt_23 (by exact (rv_eq_n (f := ad 3) (b := sAt sg x) (by (try unfold sAt); (repeat' split) <;> omega)))
  · skip
    refine lv_iload_n hx hb dX4_schemeAt_4 rfl (lv_at hl 1 rfl) ?_
    refine lv_aload_n hx hb dX4_schemeAt_5 rfl (lv_at hl 0 rfl) ?_
    refine xg_504 (v := sg 504 0) hx hb hw4 hown hK hR (gd_4 hG) (hts _ kw_95) rfl dX4_schemeAt_6 ?_
    have g2 := gh_504 hG (0)
    have q3 : sg 504 0 = 0 := gh_504 hG _
    rw [q3, rv_p (Int.le_refl 0)]
    refine xl_603 hx hb hK hR (gd_12 hG) dX4_schemeAt_9 ?_
    refine xr_icmp_ge (tgt := 22) hx hb dX4_schemeAt_10 (by decide) (by omega) (by omega) (fun h4 => ?_) (fun h4 => ?_)
    · skip
      refine lv_null hx hb dX4_schemeAt_22 ?_
      exact xe_a hx hb hr hlk hsH dX4_schemeAt_23 (by exact (rv_eq_n (f := ad 3) (b := sAt sg x) (by (try unfold sAt); (repeat' split) <;> omega)))
    · skip
      refine lv_aload_n hx hb dX4_schemeAt_13 rfl (lv_at hl 0 rfl) ?_
      refine xg_504 (v := sg 504 0) hx hb hw4 hown hK hR (gd_4 hG) (hts _ kw_95) rfl dX4_schemeAt_14 ?_
      have q5 : sg 504 0 = 0 := gh_504 hG _
      rw [q5, rv_p (Int.le_refl 0)]
      refine lv_iload_n hx hb dX4_schemeAt_17 rfl (lv_at hl 1 rfl) ?_
      refine xa_603 (v := sg 603 x) hx hb hK hR (gd_12 hG) (by omega) rfl dX4_schemeAt_18 ?_
      have q6 := ga_603 hG (q := x) (by omega)
      rcases (show x < sg 505 0 ∨ sg 505 0 ≤ x by omega) with i7 | i7
      · skip
        rw [if_pos i7] at q6
        rw [q6, rv_p (f := ad 3) (v := x) (by omega)]
        refine lv_goto (tgt := 23) hx hb dX4_schemeAt_19 (by decide) ?_
        exact xe_a hx hb hr hlk hsH dX4_schemeAt_23 (by exact (rv_eq_p (a := x) (b := sAt sg x) (by omega) (by (try unfold sAt); (repeat' split) <;> omega)))
      · skip
        rw [if_neg (by omega)] at q6
        rw [q6, rv_n (f := ad 3) (v := -1) (by decide)]
        refine lv_goto (tgt := 23) hx hb dX4_schemeAt_19 (by decide) ?_
        exact xe_a hx hb hr hlk hsH dX4_schemeAt_23 (by exact (rv_eq_n (f := ad 3) (b := sAt sg x) (by (try unfold sAt); (repeat' split) <;> omega)))
theorem ms_X4_numberOf : MSt yX4_numberOf cX4_numberOf 1 (some .int) 1 := ⟨kw_305, kw_304, kw_1, by decide, by decide, by decide +kernel⟩
set_option maxRecDepth 100000 in
set_option maxHeartbeats 4000000 in
theorem c_X4_numberOf {l : Launch} {D : va_G} {cy : Nat → ClassId} {A : Nat → Prop} {ad : Nat → Int → Nat} {sg : Nat → Int → Int} {H : Heap} (hR : RC D cy A ad sg H) (hG : GC sg)  (v : Int) {x_v : Value} (hx_v : x_v = rv (ad 1) v) (h1 : v < 36) : Met l yX4_numberOf (Cond.code yX4_numberOf cX4_numberOf 1 (some .int) :: wG) (rmF 0 0 0 0) (Pc D cy H [x_v]) (Qp (.int (iI (if v < 0 then -1 else v)))) 0 0 Kn := by
  subst hx_v
  refine met_of (la := [(0, rv (ad 1) (v))]) (by decide) (by simp [lg_sl, rv_cat, cat_i, cat_l, cat_r, cat_n]) (by simp [lv_args, rv_cat, cat_i, cat_l, cat_r, cat_n]) ?_
  intro p e R s m args below meth c ls hRm hx hb hml hr hlk hin hown hts hsH hK hl
  subst hRm
  have hown : s.vm.findClass "Takinghall" = some m.cls := hown
  have hw1 : ∀ w ∈ u_ws RX1 TX1 11, w.before args s = true := fun w h => hts w (uw_X1 w h)
  refine xr_aload_n hx hb dX4_numberOf_0 rfl (lv_at hl 0 rfl) ?_
  refine xr_ifnonnull (tgt := 8) hx hb dX4_numberOf_1 (by decide) (fun h1 => ?_) (fun h1 => ?_)
  · skip
    rw [rv_p h1] at hl
    refine lv_aload_n hx hb dX4_numberOf_8 rfl (lv_at hl 0 rfl) ?_
    refine xg_200 (v := sg 200 v) hx hb hw1 hown hK hR (gd_1 hG (by omega)) (hts _ kw_35) rfl dX4_numberOf_9 ?_
    have g2 := gn_200 hG (q := v) (by omega)
    exact xe_i hx hb hr hlk hsH dX4_numberOf_12 (by (try unfold pAt); (repeat' split) <;> omega)
  · skip
    rw [rv_n h1] at hl
    refine lv_iconst (v := iI (-1)) hx hb dX4_numberOf_4 rfl ?_
    refine lv_goto (tgt := 12) hx hb dX4_numberOf_5 (by decide) ?_
    exact xe_i hx hb hr hlk hsH dX4_numberOf_12 (by (try unfold pAt); (repeat' split) <;> omega)
theorem ms_X4_numberOf_ : MSt yX4_numberOf_ cX4_numberOf_ 1 (some .int) 1 := ⟨kw_292, kw_291, kw_1, by decide, by decide, by decide +kernel⟩
set_option maxRecDepth 100000 in
set_option maxHeartbeats 4000000 in
theorem c_X4_numberOf_ {l : Launch} {D : va_G} {cy : Nat → ClassId} {A : Nat → Prop} {ad : Nat → Int → Nat} {sg : Nat → Int → Int} {H : Heap} (hR : RC D cy A ad sg H) (hG : GC sg)  (v : Int) {x_v : Value} (hx_v : x_v = rv (ad 0) v) (h1 : v < sg 503 0) : Met l yX4_numberOf_ (Cond.code yX4_numberOf_ cX4_numberOf_ 1 (some .int) :: wG) (rmF 0 0 0 0) (Pc D cy H [x_v]) (Qp (.int (iI (if v < 0 then -1 else v)))) 0 0 Kn := by
  subst hx_v
  refine met_of (la := [(0, rv (ad 0) (v))]) (by decide) (by simp [lg_sl, rv_cat, cat_i, cat_l, cat_r, cat_n]) (by simp [lv_args, rv_cat, cat_i, cat_l, cat_r, cat_n]) ?_
  intro p e R s m args below meth c ls hRm hx hb hml hr hlk hin hown hts hsH hK hl
  subst hRm
  have hown : s.vm.findClass "Takinghall" = some m.cls := hown
  have hw0 : ∀ w ∈ u_ws RX0 TX0 15, w.before args s = true := fun w h => hts w (uw_X0 w h)
  refine xr_aload_n hx hb dX4_numberOf__0 rfl (lv_at hl 0 rfl) ?_
  refine xr_ifnonnull (tgt := 8) hx hb dX4_numberOf__1 (by decide) (fun h1 => ?_) (fun h1 => ?_)
  · skip
    rw [rv_p h1] at hl
    refine lv_aload_n hx hb dX4_numberOf__8 rfl (lv_at hl 0 rfl) ?_
    refine xg_100 (v := sg 100 v) hx hb hw0 hown hK hR (gd_0 hG (by omega)) (hts _ kw_472) rfl dX4_numberOf__9 ?_
    have g2 := gn_100 hG (q := v) (by omega)
    have g3 := gr_503 hG 0
    exact xe_i hx hb hr hlk hsH dX4_numberOf__12 (by (try unfold pAt); (repeat' split) <;> omega)
  · skip
    rw [rv_n h1] at hl
    refine lv_iconst (v := iI (-1)) hx hb dX4_numberOf__4 rfl ?_
    refine lv_goto (tgt := 12) hx hb dX4_numberOf__5 (by decide) ?_
    exact xe_i hx hb hr hlk hsH dX4_numberOf__12 (by (try unfold pAt); (repeat' split) <;> omega)
theorem ms_X4_numberOf__ : MSt yX4_numberOf__ cX4_numberOf__ 1 (some .int) 1 := ⟨kw_289, kw_288, kw_1, by decide, by decide, by decide +kernel⟩
set_option maxRecDepth 100000 in
set_option maxHeartbeats 4000000 in
theorem c_X4_numberOf__ {l : Launch} {D : va_G} {cy : Nat → ClassId} {A : Nat → Prop} {ad : Nat → Int → Nat} {sg : Nat → Int → Int} {H : Heap} (hR : RC D cy A ad sg H) (hG : GC sg)  (v : Int) {x_v : Value} (hx_v : x_v = rv (ad 3) v) (h1 : v < sg 505 0) : Met l yX4_numberOf__ (Cond.code yX4_numberOf__ cX4_numberOf__ 1 (some .int) :: wG) (rmF 0 0 0 0) (Pc D cy H [x_v]) (Qp (.int (iI (if v < 0 then -1 else v)))) 0 0 Kn := by
  subst hx_v
  refine met_of (la := [(0, rv (ad 3) (v))]) (by decide) (by simp [lg_sl, rv_cat, cat_i, cat_l, cat_r, cat_n]) (by simp [lv_args, rv_cat, cat_i, cat_l, cat_r, cat_n]) ?_
  intro p e R s m args below meth c ls hRm hx hb hml hr hlk hin hown hts hsH hK hl
  subst hRm
  have hown : s.vm.findClass "Takinghall" = some m.cls := hown
  have hw3 : ∀ w ∈ u_ws RX3 TX3 6, w.before args s = true := fun w h => hts w (uw_X3 w h)
  refine xr_aload_n hx hb dX4_numberOf___0 rfl (lv_at hl 0 rfl) ?_
  refine xr_ifnonnull (tgt := 8) hx hb dX4_numberOf___1 (by decide) (fun h1 => ?_) (fun h1 => ?_)
  · skip
    rw [rv_p h1] at hl
    refine lv_aload_n hx hb dX4_numberOf___8 rfl (lv_at hl 0 rfl) ?_
    refine xg_400 (v := sg 400 v) hx hb hw3 hown hK hR (gd_3 hG (by omega)) (hts _ kw_318) rfl dX4_numberOf___9 ?_
    have g2 := gn_400 hG (q := v) (by omega)
    have g3 := gr_505 hG 0
    exact xe_i hx hb hr hlk hsH dX4_numberOf___12 (by (try unfold pAt); (repeat' split) <;> omega)
  · skip
    rw [rv_n h1] at hl
    refine lv_iconst (v := iI (-1)) hx hb dX4_numberOf___4 rfl ?_
    refine lv_goto (tgt := 12) hx hb dX4_numberOf___5 (by decide) ?_
    exact xe_i hx hb hr hlk hsH dX4_numberOf___12 (by (try unfold pAt); (repeat' split) <;> omega)
theorem ms_X4_centsOf : MSt yX4_centsOf cX4_centsOf 1 (some .int) 1 := ⟨kw_259, kw_258, kw_1, by decide, by decide, by decide +kernel⟩
set_option maxRecDepth 100000 in
set_option maxHeartbeats 4000000 in
theorem c_X4_centsOf {l : Launch} {D : va_G} {cy : Nat → ClassId} {A : Nat → Prop} {ad : Nat → Int → Nat} {sg : Nat → Int → Int} {H : Heap} (hR : RC D cy A ad sg H) (hG : GC sg)  (n : Int) {x_n : Value} (hx_n : x_n = rv (ad 2) n) (h1 : n < sg 702 0) : Met l yX4_centsOf (Cond.code yX4_centsOf cX4_centsOf 1 (some .int) :: wG) (rmF 0 0 0 0) (Pc D cy H [x_n]) (Qp (.int (iI (centsO sg n)))) 0 0 Kn := by
  subst hx_n
  refine met_of (la := [(0, rv (ad 2) (n))]) (by decide) (by simp [lg_sl, rv_cat, cat_i, cat_l, cat_r, cat_n]) (by simp [lv_args, rv_cat, cat_i, cat_l, cat_r, cat_n]) ?_
  intro p e R s m args below meth c ls hRm hx hb hml hr hlk hin hown hts hsH hK hl
  subst hRm
  have hown : s.vm.findClass "Takinghall" = some m.cls := hown
  have hw2 : ∀ w ∈ u_ws RX2 TX2 3, w.before args s = true := fun w h => hts w (uw_X2 w h)
  refine xr_aload_n hx hb dX4_centsOf_0 rfl (lv_at hl 0 rfl) ?_
  refine xr_ifnonnull (tgt := 8) hx hb dX4_centsOf_1 (by decide) (fun h1 => ?_) (fun h1 => ?_)
  · skip
    rw [rv_p h1] at hl
    refine lv_aload_n hx hb dX4_centsOf_8 rfl (lv_at hl 0 rfl) ?_
    refine xg_301 (v := sg 301 n) hx hb hw2 hown hK hR (gd_2 hG (by omega)) (hts _ kw_81) rfl dX4_centsOf_9 ?_
    have g2 := gr_301 hG (n)
    exact xe_i hx hb hr hlk hsH dX4_centsOf_12 (by (try unfold centsO); (repeat' split) <;> omega)
  · skip
    rw [rv_n h1] at hl
    refine lv_iconst (v := iI (0)) hx hb dX4_centsOf_4 rfl ?_
    refine lv_goto (tgt := 12) hx hb dX4_centsOf_5 (by decide) ?_
    exact xe_i hx hb hr hlk hsH dX4_centsOf_12 (by (try unfold centsO); (repeat' split) <;> omega)
theorem ms_X4_worthBy : MSt yX4_worthBy cX4_worthBy 2 (some .int) 2 := ⟨kw_267, kw_266, kw_1, by decide, by decide, by decide +kernel⟩
set_option maxRecDepth 100000 in
set_option maxHeartbeats 4000000 in
theorem c_X4_worthBy {l : Launch} {D : va_G} {cy : Nat → ClassId} {A : Nat → Prop} {ad : Nat → Int → Nat} {sg : Nat → Int → Int} {H : Heap} (hR : RC D cy A ad sg H) (hG : GC sg)  (v : Int) {x_v : Value} (hx_v : x_v = rv (ad 1) v) (n : Int) {x_n : Value} (hx_n : x_n = rv (ad 2) n) (h1 : v < 36) (h2 : n < sg 702 0) : Met l yX4_worthBy (Cond.code yX4_worthBy cX4_worthBy 2 (some .int) :: wG) (rmF 1 20 0 0) (Pc D cy H [x_v, x_n]) (Qp (.int (iI (worthB sg v n)))) 0 0 Kn := by
  subst hx_v
  subst hx_n
  refine met_of (la := [(0, rv (ad 1) (v)), (1, rv (ad 2) (n))]) (by decide) (by simp [lg_sl, rv_cat, cat_i, cat_l, cat_r, cat_n]) (by simp [lv_args, rv_cat, cat_i, cat_l, cat_r, cat_n]) ?_
  intro p e R s m args below meth c ls hRm hx hb hml hr hlk hin hown hts hsH hK hl
  subst hRm
  have hown : s.vm.findClass "Takinghall" = some m.cls := hown
  have hw1 : ∀ w ∈ u_ws RX1 TX1 11, w.before args s = true := fun w h => hts w (uw_X1 w h)
  refine xr_aload_n hx hb dX4_worthBy_0 rfl (lv_at hl 0 rfl) ?_
  refine xr_ifnonnull (tgt := 8) hx hb dX4_worthBy_1 (by decide) (fun h1 => ?_) (fun h1 => ?_)
  · skip
    rw [rv_p h1] at hl
    refine lv_aload_n hx hb dX4_worthBy_8 rfl (lv_at hl 0 rfl) ?_
    refine xg_201 (v := sg 201 v) hx hb hw1 hown hK hR (gd_1 hG (by omega)) (hts _ kw_37) rfl dX4_worthBy_9 ?_
    have g2 := gr_201 hG (v)
    refine xr_aload_n hx hb dX4_worthBy_12 rfl (lv_at hl 1 rfl) ?_
    refine xk_pF (xr_S (As := [rv (ad 2) (n)]) (rest := [.int (iI (sg 201 v))]) hx hb hml hown hts hK (c_X4_centsOf hR hG n (rfl) (by omega)) ms_X4_centsOf kw_257 ⟨by decide, by decide⟩ ⟨by decide, by decide⟩ rfl rfl hl.1 rfl (lv_room (Nat.le_of_ble_eq_true rfl)) dX4_worthBy_13) ?_
    have g3 := centsO_rng hG (n)
    refine xr_imul hx hb dX4_worthBy_16 ?_
    exact xe_i hx hb hr hlk hsH dX4_worthBy_17 (by unfold worthB; split <;> first | omega | rfl)
  · skip
    rw [rv_n h1] at hl
    refine lv_iconst (v := iI (0)) hx hb dX4_worthBy_4 rfl ?_
    refine lv_goto (tgt := 17) hx hb dX4_worthBy_5 (by decide) ?_
    exact xe_i hx hb hr hlk hsH dX4_worthBy_17 (by unfold worthB; split <;> first | omega | rfl)
theorem ms_X4_neederOf : MSt yX4_neederOf cX4_neederOf 2 (some (.object "Takinghall$Scheme")) 1 := ⟨kw_231, kw_230, kw_1, by decide, by decide, by decide +kernel⟩
set_option maxRecDepth 100000 in
set_option maxHeartbeats 4000000 in
theorem c_X4_neederOf {l : Launch} {D : va_G} {cy : Nat → ClassId} {A : Nat → Prop} {ad : Nat → Int → Nat} {sg : Nat → Int → Int} {H : Heap} (hR : RC D cy A ad sg H) (hG : GC sg)  (v : Int) {x_v : Value} (hx_v : x_v = rv (ad 1) v) (h1 : v < 36) : Met l yX4_neederOf (Cond.code yX4_neederOf cX4_neederOf 2 (some (.object "Takinghall$Scheme")) :: wG) (rmF 0 0 0 0) (Pc D cy H [x_v]) (Qp (rv (ad 3) (needO sg v))) 0 0 Kn := by
  subst hx_v
  refine met_of (la := [(0, rv (ad 1) (v))]) (by decide) (by simp [lg_sl, rv_cat, cat_i, cat_l, cat_r, cat_n]) (by simp [lv_args, rv_cat, cat_i, cat_l, cat_r, cat_n]) ?_
  intro p e R s m args below meth c ls hRm hx hb hml hr hlk hin hown hts hsH hK hl
  subst hRm
  have hown : s.vm.findClass "Takinghall" = some m.cls := hown
  have hw1 : ∀ w ∈ u_ws RX1 TX1 11, w.before args s = true := fun w h => hts w (uw_X1 w h)
  have hw3 : ∀ w ∈ u_ws RX3 TX3 6, w.before args s = true := fun w h => hts w (uw_X3 w h)
  refine xr_aload_n hx hb dX4_neederOf_0 rfl (lv_at hl 0 rfl) ?_
  refine xr_ifnonnull (tgt := 8) hx hb dX4_neederOf_1 (by decide) (fun h1 => ?_) (fun h1 => ?_)
  · skip
    rw [rv_p h1] at hl
    refine lv_aload_n hx hb dX4_neederOf_8 rfl (lv_at hl 0 rfl) ?_
    refine xg_204 (v := sg 204 v) hx hb hw1 hown hK hR (gd_1 hG (by omega)) (hts _ kw_42) rfl dX4_neederOf_9 ?_
    have g2 := gp_204 hG (v)
    have g3 := gr_505 hG 0
    refine xr_astore_n (i := 1) (lv' := [(1, rv (ad 3) (sg 204 v)), (0, .ref (ad 1 (v)))]) hx hb dX4_neederOf_12 rfl hl (by decide) rfl (fun ls hl => ?_)
    refine xr_aload_n hx hb dX4_neederOf_13 rfl (lv_at hl 0 rfl) ?_
    refine xr_ifnull (tgt := 25) hx hb dX4_neederOf_14 (by decide) (fun h4 => ?_) (fun h4 => ?_)
    · skip
      rw [rv_n h4] at hl
      refine lv_null hx hb dX4_neederOf_25 ?_
      refine lv_goto (tgt := 30) hx hb dX4_neederOf_26 (by decide) ?_
      exact xe_a hx hb hr hlk hsH dX4_neederOf_30 (by exact (rv_eq_n (f := ad 3) (b := needO sg v) (by (try unfold needO); (repeat' split) <;> omega)))
    · skip
      rw [rv_p h4] at hl
      refine lv_aload_n hx hb dX4_neederOf_17 rfl (lv_at hl 0 rfl) ?_
      refine xg_403 (v := sg 403 (sg 204 v)) hx hb hw3 hown hK hR (gd_3 hG (by omega)) (hts _ kw_324) rfl dX4_neederOf_18 ?_
      have g5 := gr_403 hG (sg 204 v)
      refine lv_iconst (v := iI (2)) hx hb dX4_neederOf_21 rfl ?_
      refine xr_icmp_ne (tgt := 29) hx hb dX4_neederOf_22 (by decide) (by omega) (by omega) (fun h6 => ?_) (fun h6 => ?_)
      · skip
        refine lv_aload_n hx hb dX4_neederOf_29 rfl (lv_at hl 0 rfl) ?_
        exact xe_a hx hb hr hlk hsH dX4_neederOf_30 (by exact (rv_eq_p (a := sg 204 v) (b := needO sg v) (by omega) (by (try unfold needO); (repeat' split) <;> omega)))
      · skip
        refine lv_null hx hb dX4_neederOf_25 ?_
        refine lv_goto (tgt := 30) hx hb dX4_neederOf_26 (by decide) ?_
        exact xe_a hx hb hr hlk hsH dX4_neederOf_30 (by exact (rv_eq_n (f := ad 3) (b := needO sg v) (by (try unfold needO); (repeat' split) <;> omega)))
  · skip
    rw [rv_n h1] at hl
    refine lv_null hx hb dX4_neederOf_4 ?_
    refine lv_goto (tgt := 12) hx hb dX4_neederOf_5 (by decide) ?_
    refine lv_astore_nN (i := 1) (lv' := [(1, .null), (0, .null)]) hx hb dX4_neederOf_12 rfl hl (by decide) rfl (fun ls hl => ?_)
    refine lv_aload_nN hx hb dX4_neederOf_13 rfl (lv_at hl 0 rfl) ?_
    refine lv_ifnullN (tgt := 25) hx hb dX4_neederOf_14 (by decide) ?_
    refine lv_null hx hb dX4_neederOf_25 ?_
    refine lv_goto (tgt := 30) hx hb dX4_neederOf_26 (by decide) ?_
    exact xe_a hx hb hr hlk hsH dX4_neederOf_30 (by exact (rv_eq_n (f := ad 3) (b := needO sg v) (by (try unfold needO); (repeat' split) <;> omega)))
theorem ms_X4_isNeeded : MSt yX4_isNeeded cX4_isNeeded 1 (some .boolean) 1 := ⟨kw_228, kw_227, kw_1, by decide, by decide, by decide +kernel⟩
set_option maxRecDepth 100000 in
set_option maxHeartbeats 4000000 in
theorem c_X4_isNeeded {l : Launch} {D : va_G} {cy : Nat → ClassId} {A : Nat → Prop} {ad : Nat → Int → Nat} {sg : Nat → Int → Int} {H : Heap} (hR : RC D cy A ad sg H) (hG : GC sg)  (v : Int) {x_v : Value} (hx_v : x_v = rv (ad 1) v) (h1 : v < 36) : Met l yX4_isNeeded (Cond.code yX4_isNeeded cX4_isNeeded 1 (some .boolean) :: wG) (rmF 1 21 0 0) (Pc D cy H [x_v]) (Qp (.int (iI (bI (0 ≤ needO sg v))))) 0 0 Kn := by
  subst hx_v
  refine met_of (la := [(0, rv (ad 1) (v))]) (by decide) (by simp [lg_sl, rv_cat, cat_i, cat_l, cat_r, cat_n]) (by simp [lv_args, rv_cat, cat_i, cat_l, cat_r, cat_n]) ?_
  intro p e R s m args below meth c ls hRm hx hb hml hr hlk hin hown hts hsH hK hl
  subst hRm
  have hown : s.vm.findClass "Takinghall" = some m.cls := hown
  refine xr_aload_n hx hb dX4_isNeeded_0 rfl (lv_at hl 0 rfl) ?_
  refine xk_pF (xr_S (As := [rv (ad 1) (v)]) (rest := []) hx hb hml hown hts hK (c_X4_neederOf hR hG v (rfl) (by omega)) ms_X4_neederOf kw_229 ⟨by decide, by decide⟩ ⟨by decide, by decide⟩ rfl rfl hl.1 rfl (lv_room (by decide)) dX4_isNeeded_1) ?_
  have g1 := needO_rng hG (v)
  refine xr_ifnull (tgt := 11) hx hb dX4_isNeeded_4 (by decide) (fun h2 => ?_) (fun h2 => ?_)
  · skip
    refine lv_iconst (v := iI (0)) hx hb dX4_isNeeded_11 rfl ?_
    exact xe_zb hx hb hr hlk hsH dX4_isNeeded_12 (by omega)
  · skip
    refine lv_iconst (v := iI (1)) hx hb dX4_isNeeded_7 rfl ?_
    refine lv_goto (tgt := 12) hx hb dX4_isNeeded_8 (by decide) ?_
    exact xe_zb hx hb hr hlk hsH dX4_isNeeded_12 (by omega)
theorem ms_X4_isNeededBy : MSt yX4_isNeededBy cX4_isNeededBy 2 (some .boolean) 2 := ⟨kw_360, kw_359, kw_1, by decide, by decide, by decide +kernel⟩
set_option maxRecDepth 100000 in
set_option maxHeartbeats 4000000 in
theorem c_X4_isNeededBy {l : Launch} {D : va_G} {cy : Nat → ClassId} {A : Nat → Prop} {ad : Nat → Int → Nat} {sg : Nat → Int → Int} {H : Heap} (hR : RC D cy A ad sg H) (hG : GC sg)  (v : Int) {x_v : Value} (hx_v : x_v = rv (ad 1) v) (w : Int) {x_w : Value} (hx_w : x_w = rv (ad 3) w) (h1 : v < 36) (h2 : w < sg 505 0) : Met l yX4_isNeededBy (Cond.code yX4_isNeededBy cX4_isNeededBy 2 (some .boolean) :: wG) (rmF 1 21 0 0) (Pc D cy H [x_v, x_w]) (Qp (.int (iI (bI (0 ≤ w ∧ needO sg v = w))))) 0 0 Kn := by
  subst hx_v
  subst hx_w
  refine met_of (la := [(0, rv (ad 1) (v)), (1, rv (ad 3) (w))]) (by decide) (by simp [lg_sl, rv_cat, cat_i, cat_l, cat_r, cat_n]) (by simp [lv_args, rv_cat, cat_i, cat_l, cat_r, cat_n]) ?_
  intro p e R s m args below meth c ls hRm hx hb hml hr hlk hin hown hts hsH hK hl
  subst hRm
  have hown : s.vm.findClass "Takinghall" = some m.cls := hown
  refine xr_aload_n hx hb dX4_isNeededBy_0 rfl (lv_at hl 1 rfl) ?_
  refine xr_ifnull (tgt := 16) hx hb dX4_isNeededBy_1 (by decide) (fun h1 => ?_) (fun h1 => ?_)
  · skip
    rw [rv_n h1] at hl
    refine lv_iconst (v := iI (0)) hx hb dX4_isNeededBy_16 rfl ?_
    exact xe_zb hx hb hr hlk hsH dX4_isNeededBy_17 (by omega)
  · skip
    rw [rv_p h1] at hl
    refine xr_aload_n hx hb dX4_isNeededBy_4 rfl (lv_at hl 0 rfl) ?_
    refine xk_pF (xr_S (As := [rv (ad 1) (v)]) (rest := []) hx hb hml hown hts hK (c_X4_neederOf hR hG v (rfl) (by omega)) ms_X4_neederOf kw_229 ⟨by decide, by decide⟩ ⟨by decide, by decide⟩ rfl rfl hl.1 rfl (lv_room (by decide)) dX4_isNeededBy_5) ?_
    have g2 := needO_rng hG (v)
    refine lv_aload_n hx hb dX4_isNeededBy_8 rfl (lv_at hl 1 rfl) ?_
    refine lv_acmp_ne (rx := ro (ad 3) (needO sg v)) (ry := some (ad 3 (w))) (tgt := 16) hx hb dX4_isNeededBy_9 (by decide) (fun h3 => ?_) (fun h3 => ?_)
    · skip
      rw [← ro_p (f := ad 3) (v := w) (by omega)] at h3
      have h4 := (not_congr (wr_eq hR (k := 3) (a := needO sg v) (b := w) (fun _ => (gd_3 hG (by omega))) (fun _ => (gd_3 hG (by omega))))).mp h3
      refine lv_iconst (v := iI (0)) hx hb dX4_isNeededBy_16 rfl ?_
      exact xe_zb hx hb hr hlk hsH dX4_isNeededBy_17 (by omega)
    · skip
      rw [← ro_p (f := ad 3) (v := w) (by omega)] at h3
      have h5 := (wr_eq hR (k := 3) (a := needO sg v) (b := w) (fun _ => (gd_3 hG (by omega))) (fun _ => (gd_3 hG (by omega)))).mp h3
      refine lv_iconst (v := iI (1)) hx hb dX4_isNeededBy_12 rfl ?_
      refine lv_goto (tgt := 17) hx hb dX4_isNeededBy_13 (by decide) ?_
      exact xe_zb hx hb hr hlk hsH dX4_isNeededBy_17 (by omega)
theorem ms_X4_isFreeAndNeededBy : MSt yX4_isFreeAndNeededBy cX4_isFreeAndNeededBy 2 (some .boolean) 2 := ⟨kw_357, kw_356, kw_1, by decide, by decide, by decide +kernel⟩
set_option maxRecDepth 100000 in
set_option maxHeartbeats 4000000 in
theorem c_X4_isFreeAndNeededBy {l : Launch} {D : va_G} {cy : Nat → ClassId} {A : Nat → Prop} {ad : Nat → Int → Nat} {sg : Nat → Int → Int} {H : Heap} (hR : RC D cy A ad sg H) (hG : GC sg)  (v : Int) {x_v : Value} (hx_v : x_v = rv (ad 1) v) (w : Int) {x_w : Value} (hx_w : x_w = rv (ad 3) w) (h1 : v < 36) (h2 : w < sg 505 0) : Met l yX4_isFreeAndNeededBy (Cond.code yX4_isFreeAndNeededBy cX4_isFreeAndNeededBy 2 (some .boolean) :: wG) (rmF 2 42 0 0) (Pc D cy H [x_v, x_w]) (Qp (.int (iI (bI (freeNeed sg v w))))) 0 0 Kn := by
  subst hx_v
  subst hx_w
  refine met_of (la := [(0, rv (ad 1) (v)), (1, rv (ad 3) (w))]) (by decide) (by simp [lg_sl, rv_cat, cat_i, cat_l, cat_r, cat_n]) (by simp [lv_args, rv_cat, cat_i, cat_l, cat_r, cat_n]) ?_
  intro p e R s m args below meth c ls hRm hx hb hml hr hlk hin hown hts hsH hK hl
  subst hRm
  have hown : s.vm.findClass "Takinghall" = some m.cls := hown
  have hw1 : ∀ w ∈ u_ws RX1 TX1 11, w.before args s = true := fun w h => hts w (uw_X1 w h)
  refine xr_aload_n hx hb dX4_isFreeAndNeededBy_0 rfl (lv_at hl 0 rfl) ?_
  refine xr_ifnull (tgt := 23) hx hb dX4_isFreeAndNeededBy_1 (by decide) (fun h1 => ?_) (fun h1 => ?_)
  · skip
    rw [rv_n h1] at hl
    refine lv_iconst (v := iI (0)) hx hb dX4_isFreeAndNeededBy_23 rfl ?_
    exact xe_zb hx hb hr hlk hsH dX4_isFreeAndNeededBy_24 (by unfold freeNeed; omega)
  · skip
    rw [rv_p h1] at hl
    refine lv_aload_n hx hb dX4_isFreeAndNeededBy_4 rfl (lv_at hl 0 rfl) ?_
    refine xg_203 (v := sg 203 v) hx hb hw1 hown hK hR (gd_1 hG (by omega)) (hts _ kw_41) rfl dX4_isFreeAndNeededBy_5 ?_
    have g2 := gr_203 hG (v)
    refine xr_if_ne (tgt := 23) hx hb dX4_isFreeAndNeededBy_8 (by decide) (by omega) (fun h3 => ?_) (fun h3 => ?_)
    · skip
      refine lv_iconst (v := iI (0)) hx hb dX4_isFreeAndNeededBy_23 rfl ?_
      exact xe_zb hx hb hr hlk hsH dX4_isFreeAndNeededBy_24 (by unfold freeNeed; omega)
    · skip
      refine lv_aload_n hx hb dX4_isFreeAndNeededBy_11 rfl (lv_at hl 0 rfl) ?_
      refine xr_aload_n hx hb dX4_isFreeAndNeededBy_12 rfl (lv_at hl 1 rfl) ?_
      refine xk_pF (xr_S (As := [.ref (ad 1 (v)), rv (ad 3) (w)]) (rest := []) hx hb hml hown hts hK (c_X4_isNeededBy hR hG v ((rv_p (by omega)).symm) w (rfl) (by omega) (by omega)) ms_X4_isNeededBy kw_358 ⟨by decide, by decide⟩ ⟨by decide, by decide⟩ rfl rfl hl.1 rfl (lv_room (by decide)) dX4_isFreeAndNeededBy_13) ?_
      refine xr_ifb_eq (tgt := 23) hx hb dX4_isFreeAndNeededBy_16 (by decide) (fun h4 => ?_) (fun h4 => ?_)
      · skip
        refine lv_iconst (v := iI (0)) hx hb dX4_isFreeAndNeededBy_23 rfl ?_
        exact xe_zb hx hb hr hlk hsH dX4_isFreeAndNeededBy_24 (by unfold freeNeed; omega)
      · skip
        refine lv_iconst (v := iI (1)) hx hb dX4_isFreeAndNeededBy_19 rfl ?_
        refine lv_goto (tgt := 24) hx hb dX4_isFreeAndNeededBy_20 (by decide) ?_
        exact xe_zb hx hb hr hlk hsH dX4_isFreeAndNeededBy_24 (by unfold freeNeed; omega)
theorem ms_X4_draftOfFreePlot : MSt yX4_draftOfFreePlot cX4_draftOfFreePlot 2 (some (.object "Takinghall$Scheme")) 1 := ⟨kw_554, kw_553, kw_1, by decide, by decide, by decide +kernel⟩
set_option maxRecDepth 100000 in
set_option maxHeartbeats 4000000 in
theorem c_X4_draftOfFreePlot {l : Launch} {D : va_G} {cy : Nat → ClassId} {A : Nat → Prop} {ad : Nat → Int → Nat} {sg : Nat → Int → Int} {H : Heap} (hR : RC D cy A ad sg H) (hG : GC sg)  (v : Int) {x_v : Value} (hx_v : x_v = rv (ad 1) v) (h1 : v < 36) : Met l yX4_draftOfFreePlot (Cond.code yX4_draftOfFreePlot cX4_draftOfFreePlot 2 (some (.object "Takinghall$Scheme")) :: wG) (rmF 3 63 0 0) (Pc D cy H [x_v]) (Qp (rv (ad 3) (draftO sg v))) 0 0 Kn := by
  subst hx_v
  refine met_of (la := [(0, rv (ad 1) (v))]) (by decide) (by simp [lg_sl, rv_cat, cat_i, cat_l, cat_r, cat_n]) (by simp [lv_args, rv_cat, cat_i, cat_l, cat_r, cat_n]) ?_
  intro p e R s m args below meth c ls hRm hx hb hml hr hlk hin hown hts hsH hK hl
  subst hRm
  have hown : s.vm.findClass "Takinghall" = some m.cls := hown
  have hw3 : ∀ w ∈ u_ws RX3 TX3 6, w.before args s = true := fun w h => hts w (uw_X3 w h)
  refine xr_aload_n hx hb dX4_draftOfFreePlot_0 rfl (lv_at hl 0 rfl) ?_
  refine xk_pF (xr_S (As := [rv (ad 1) (v)]) (rest := []) hx hb hml hown hts hK (c_X4_neederOf hR hG v (rfl) (by omega)) ms_X4_neederOf kw_229 ⟨by decide, by decide⟩ ⟨by decide, by decide⟩ rfl rfl hl.1 rfl (lv_room (by decide)) dX4_draftOfFreePlot_1) ?_
  have g1 := needO_rng hG (v)
  refine xr_astore_n (i := 1) (lv' := [(1, rv (ad 3) (needO sg v)), (0, rv (ad 1) (v))]) hx hb dX4_draftOfFreePlot_4 rfl hl (by decide) (by simp [rv_cat, cat_i, cat_l, cat_r, cat_n]) (fun ls hl => ?_)
  refine xr_aload_n hx hb dX4_draftOfFreePlot_5 rfl (lv_at hl 0 rfl) ?_
  refine xr_ifnull (tgt := 28) hx hb dX4_draftOfFreePlot_6 (by decide) (fun h2 => ?_) (fun h2 => ?_)
  · skip
    rw [rv_n h2] at hl
    refine lv_null hx hb dX4_draftOfFreePlot_28 ?_
    exact xe_a hx hb hr hlk hsH dX4_draftOfFreePlot_29 (by exact (rv_eq_n (f := ad 3) (b := draftO sg v) (by unfold draftO; (try unfold freeNeed at *); (repeat' split) <;> omega)))
  · skip
    rw [rv_p h2] at hl
    refine lv_aload_n hx hb dX4_draftOfFreePlot_9 rfl (lv_at hl 0 rfl) ?_
    refine xg_403 (v := sg 403 (needO sg v)) hx hb hw3 hown hK hR (gd_3 hG (by omega)) (hts _ kw_324) rfl dX4_draftOfFreePlot_10 ?_
    have g3 := gr_403 hG (needO sg v)
    refine xr_if_ne (tgt := 28) hx hb dX4_draftOfFreePlot_13 (by decide) (by omega) (fun h4 => ?_) (fun h4 => ?_)
    · skip
      refine lv_null hx hb dX4_draftOfFreePlot_28 ?_
      exact xe_a hx hb hr hlk hsH dX4_draftOfFreePlot_29 (by exact (rv_eq_n (f := ad 3) (b := draftO sg v) (by unfold draftO; (try unfold freeNeed at *); (repeat' split) <;> omega)))
    · skip
      refine xr_aload_n hx hb dX4_draftOfFreePlot_16 rfl (lv_at hl 1 rfl) ?_
      refine lv_aload_n hx hb dX4_draftOfFreePlot_17 rfl (lv_at hl 0 rfl) ?_
      refine xk_pF (xr_S (As := [rv (ad 1) (v), .ref (ad 3 (needO sg v))]) (rest := []) hx hb hml hown hts hK (c_X4_isFreeAndNeededBy hR hG v (rfl) (needO sg v) ((rv_p (by omega)).symm) (by omega) (by omega)) ms_X4_isFreeAndNeededBy kw_355 ⟨by decide, by decide⟩ ⟨by decide, by decide⟩ rfl rfl hl.1 rfl (lv_room (by decide)) dX4_draftOfFreePlot_18) ?_
      refine xr_ifb_eq (tgt := 28) hx hb dX4_draftOfFreePlot_21 (by decide) (fun h5 => ?_) (fun h5 => ?_)
      · skip
        refine lv_null hx hb dX4_draftOfFreePlot_28 ?_
        exact xe_a hx hb hr hlk hsH dX4_draftOfFreePlot_29 (by exact (rv_eq_n (f := ad 3) (b := draftO sg v) (by unfold draftO; (try unfold freeNeed at *); (repeat' split) <;> omega)))
      · skip
        refine lv_aload_n hx hb dX4_draftOfFreePlot_24 rfl (lv_at hl 0 rfl) ?_
        refine lv_goto (tgt := 29) hx hb dX4_draftOfFreePlot_25 (by decide) ?_
        exact xe_a hx hb hr hlk hsH dX4_draftOfFreePlot_29 (by exact (rv_eq_p (a := needO sg v) (b := draftO sg v) (by omega) (by unfold draftO; (try unfold freeNeed at *); (repeat' split) <;> omega)))
theorem ms_X4_isOver : MSt yX4_isOver cX4_isOver 2 (some .boolean) 2 := ⟨kw_367, kw_366, kw_1, by decide, by decide, by decide +kernel⟩
set_option maxRecDepth 100000 in
set_option maxHeartbeats 4000000 in
theorem c_X4_isOver {l : Launch} {D : va_G} {cy : Nat → ClassId} {A : Nat → Prop} {ad : Nat → Int → Nat} {sg : Nat → Int → Int} {H : Heap} (hR : RC D cy A ad sg H) (hG : GC sg)  (v : Int) {x_v : Value} (hx_v : x_v = rv (ad 0) v) (d : Int) (h1 : v < sg 503 0) (h_d : in32 d) : Met l yX4_isOver (Cond.code yX4_isOver cX4_isOver 2 (some .boolean) :: wG) (rmF 0 0 0 0) (Pc D cy H [x_v, .int (iI (d))]) (Qp (.int (iI (bI (overO sg v d))))) 0 0 Kn := by
  subst hx_v
  refine met_of (la := [(0, rv (ad 0) (v)), (1, .int (iI (d)))]) (by decide) (by simp [lg_sl, rv_cat, cat_i, cat_l, cat_r, cat_n]) (by simp [lv_args, rv_cat, cat_i, cat_l, cat_r, cat_n]) ?_
  intro p e R s m args below meth c ls hRm hx hb hml hr hlk hin hown hts hsH hK hl
  subst hRm
  have hown : s.vm.findClass "Takinghall" = some m.cls := hown
  have hw0 : ∀ w ∈ u_ws RX0 TX0 15, w.before args s = true := fun w h => hts w (uw_X0 w h)
  refine xr_aload_n hx hb dX4_isOver_0 rfl (lv_at hl 0 rfl) ?_
  refine xr_ifnull (tgt := 24) hx hb dX4_isOver_1 (by decide) (fun h1 => ?_) (fun h1 => ?_)
  · skip
    rw [rv_n h1] at hl
    refine lv_iconst (v := iI (0)) hx hb dX4_isOver_24 rfl ?_
    exact xe_zb hx hb hr hlk hsH dX4_isOver_25 (by unfold overO; omega)
  · skip
    rw [rv_p h1] at hl
    refine lv_aload_n hx hb dX4_isOver_4 rfl (lv_at hl 0 rfl) ?_
    refine xg_101 (v := sg 101 v) hx hb hw0 hown hK hR (gd_0 hG (by omega)) (hts _ kw_474) rfl dX4_isOver_5 ?_
    have g2 := gr_101 hG (v)
    refine lv_iconst (v := iI (1)) hx hb dX4_isOver_8 rfl ?_
    refine xr_icmp_ne (tgt := 24) hx hb dX4_isOver_9 (by decide) (by omega) (by omega) (fun h3 => ?_) (fun h3 => ?_)
    · skip
      refine lv_iconst (v := iI (0)) hx hb dX4_isOver_24 rfl ?_
      exact xe_zb hx hb hr hlk hsH dX4_isOver_25 (by unfold overO; omega)
    · skip
      refine lv_iload_n hx hb dX4_isOver_12 rfl (lv_at hl 1 rfl) ?_
      refine lv_aload_n hx hb dX4_isOver_13 rfl (lv_at hl 0 rfl) ?_
      refine xg_105 (v := sg 105 v) hx hb hw0 hown hK hR (gd_0 hG (by omega)) (hts _ kw_482) rfl dX4_isOver_14 ?_
      have g4 := gr_105 hG (v)
      refine xr_icmp_lt (tgt := 24) hx hb dX4_isOver_17 (by decide) (by omega) (by omega) (fun h5 => ?_) (fun h5 => ?_)
      · skip
        refine lv_iconst (v := iI (0)) hx hb dX4_isOver_24 rfl ?_
        exact xe_zb hx hb hr hlk hsH dX4_isOver_25 (by unfold overO; omega)
      · skip
        refine lv_iconst (v := iI (1)) hx hb dX4_isOver_20 rfl ?_
        refine lv_goto (tgt := 25) hx hb dX4_isOver_21 (by decide) ?_
        exact xe_zb hx hb hr hlk hsH dX4_isOver_25 (by unfold overO; omega)
theorem ms_X4_wasTaken : MSt yX4_wasTaken cX4_wasTaken 1 (some .boolean) 1 := ⟨kw_374, kw_373, kw_1, by decide, by decide, by decide +kernel⟩
set_option maxRecDepth 100000 in
set_option maxHeartbeats 4000000 in
theorem c_X4_wasTaken {l : Launch} {D : va_G} {cy : Nat → ClassId} {A : Nat → Prop} {ad : Nat → Int → Nat} {sg : Nat → Int → Int} {H : Heap} (hR : RC D cy A ad sg H) (hG : GC sg)  (v : Int) {x_v : Value} (hx_v : x_v = rv (ad 1) v) (h1 : v < 36) : Met l yX4_wasTaken (Cond.code yX4_wasTaken cX4_wasTaken 1 (some .boolean) :: wG) (rmF 0 0 0 0) (Pc D cy H [x_v]) (Qp (.int (iI (bI (takenO sg v))))) 0 0 Kn := by
  subst hx_v
  refine met_of (la := [(0, rv (ad 1) (v))]) (by decide) (by simp [lg_sl, rv_cat, cat_i, cat_l, cat_r, cat_n]) (by simp [lv_args, rv_cat, cat_i, cat_l, cat_r, cat_n]) ?_
  intro p e R s m args below meth c ls hRm hx hb hml hr hlk hin hown hts hsH hK hl
  subst hRm
  have hown : s.vm.findClass "Takinghall" = some m.cls := hown
  have hw1 : ∀ w ∈ u_ws RX1 TX1 11, w.before args s = true := fun w h => hts w (uw_X1 w h)
  refine xr_aload_n hx hb dX4_wasTaken_0 rfl (lv_at hl 0 rfl) ?_
  refine xr_ifnull (tgt := 16) hx hb dX4_wasTaken_1 (by decide) (fun h1 => ?_) (fun h1 => ?_)
  · skip
    rw [rv_n h1] at hl
    refine lv_iconst (v := iI (0)) hx hb dX4_wasTaken_16 rfl ?_
    exact xe_zb hx hb hr hlk hsH dX4_wasTaken_17 (by unfold takenO; omega)
  · skip
    rw [rv_p h1] at hl
    refine lv_aload_n hx hb dX4_wasTaken_4 rfl (lv_at hl 0 rfl) ?_
    refine xg_206 (v := sg 206 v) hx hb hw1 hown hK hR (gd_1 hG (by omega)) (hts _ kw_45) rfl dX4_wasTaken_5 ?_
    have g2 := gr_206 hG (v)
    refine lv_iconst (v := iI (-1)) hx hb dX4_wasTaken_8 rfl ?_
    refine xr_icmp_eq (tgt := 16) hx hb dX4_wasTaken_9 (by decide) (by omega) (by omega) (fun h3 => ?_) (fun h3 => ?_)
    · skip
      refine lv_iconst (v := iI (0)) hx hb dX4_wasTaken_16 rfl ?_
      exact xe_zb hx hb hr hlk hsH dX4_wasTaken_17 (by unfold takenO; omega)
    · skip
      refine lv_iconst (v := iI (1)) hx hb dX4_wasTaken_12 rfl ?_
      refine lv_goto (tgt := 17) hx hb dX4_wasTaken_13 (by decide) ?_
      exact xe_zb hx hb hr hlk hsH dX4_wasTaken_17 (by unfold takenO; omega)
theorem ms_X4_comesBehind : MSt yX4_comesBehind cX4_comesBehind 2 (some .boolean) 2 := ⟨kw_627, kw_626, kw_1, by decide, by decide, by decide +kernel⟩
set_option maxRecDepth 100000 in
set_option maxHeartbeats 4000000 in
theorem c_X4_comesBehind {l : Launch} {D : va_G} {cy : Nat → ClassId} {A : Nat → Prop} {ad : Nat → Int → Nat} {sg : Nat → Int → Int} {H : Heap} (hR : RC D cy A ad sg H) (hG : GC sg)  (v : Int) {x_v : Value} (hx_v : x_v = rv (ad 0) v) (w : Int) {x_w : Value} (hx_w : x_w = rv (ad 0) w) (h1 : v < sg 503 0) (h2 : w < sg 503 0) : Met l yX4_comesBehind (Cond.code yX4_comesBehind cX4_comesBehind 2 (some .boolean) :: wG) (rmF 0 0 0 0) (Pc D cy H [x_v, x_w]) (Qp (.int (iI (bI (behind sg v w))))) 0 0 Kn := by
  subst hx_v
  subst hx_w
  refine met_of (la := [(0, rv (ad 0) (v)), (1, rv (ad 0) (w))]) (by decide) (by simp [lg_sl, rv_cat, cat_i, cat_l, cat_r, cat_n]) (by simp [lv_args, rv_cat, cat_i, cat_l, cat_r, cat_n]) ?_
  intro p e R s m args below meth c ls hRm hx hb hml hr hlk hin hown hts hsH hK hl
  subst hRm
  have hown : s.vm.findClass "Takinghall" = some m.cls := hown
  have hw0 : ∀ w ∈ u_ws RX0 TX0 15, w.before args s = true := fun w h => hts w (uw_X0 w h)
  refine xr_aload_n hx hb dX4_comesBehind_0 rfl (lv_at hl 0 rfl) ?_
  refine xr_ifnull (tgt := 8) hx hb dX4_comesBehind_1 (by decide) (fun h1 => ?_) (fun h1 => ?_)
  · skip
    rw [rv_n h1] at hl
    refine lv_aload_nN hx hb dX4_comesBehind_8 rfl (lv_at hl 0 rfl) ?_
    refine lv_ifnullN (tgt := 16) hx hb dX4_comesBehind_9 (by decide) ?_
    refine lv_iconst (v := iI (0)) hx hb dX4_comesBehind_16 rfl ?_
    exact xe_zb hx hb hr hlk hsH dX4_comesBehind_17 (by unfold behind; omega)
  · skip
    rw [rv_p h1] at hl
    refine xr_aload_n hx hb dX4_comesBehind_4 rfl (lv_at hl 1 rfl) ?_
    refine xr_ifnonnull (tgt := 18) hx hb dX4_comesBehind_5 (by decide) (fun h3 => ?_) (fun h3 => ?_)
    · skip
      rw [rv_p h3] at hl
      refine lv_aload_n hx hb dX4_comesBehind_18 rfl (lv_at hl 0 rfl) ?_
      refine xg_105 (v := sg 105 v) hx hb hw0 hown hK hR (gd_0 hG (by omega)) (hts _ kw_482) rfl dX4_comesBehind_19 ?_
      have g4 := gr_105 hG (v)
      refine lv_aload_n hx hb dX4_comesBehind_22 rfl (lv_at hl 1 rfl) ?_
      refine xg_105 (v := sg 105 w) hx hb hw0 hown hK hR (gd_0 hG (by omega)) (hts _ kw_482) rfl dX4_comesBehind_23 ?_
      have g5 := gr_105 hG (w)
      refine xr_icmp_lt (tgt := 51) hx hb dX4_comesBehind_26 (by decide) (by omega) (by omega) (fun h6 => ?_) (fun h6 => ?_)
      · skip
        refine lv_iconst (v := iI (1)) hx hb dX4_comesBehind_51 rfl ?_
        refine lv_goto (tgt := 56) hx hb dX4_comesBehind_52 (by decide) ?_
        exact xe_zb hx hb hr hlk hsH dX4_comesBehind_56 (by unfold behind; omega)
      · skip
        refine lv_aload_n hx hb dX4_comesBehind_29 rfl (lv_at hl 0 rfl) ?_
        refine xg_105 (v := sg 105 v) hx hb hw0 hown hK hR (gd_0 hG (by omega)) (hts _ kw_482) rfl dX4_comesBehind_30 ?_
        refine lv_aload_n hx hb dX4_comesBehind_33 rfl (lv_at hl 1 rfl) ?_
        refine xg_105 (v := sg 105 w) hx hb hw0 hown hK hR (gd_0 hG (by omega)) (hts _ kw_482) rfl dX4_comesBehind_34 ?_
        refine xr_icmp_ne (tgt := 55) hx hb dX4_comesBehind_37 (by decide) (by omega) (by omega) (fun h7 => ?_) (fun h7 => ?_)
        · skip
          refine lv_iconst (v := iI (0)) hx hb dX4_comesBehind_55 rfl ?_
          exact xe_zb hx hb hr hlk hsH dX4_comesBehind_56 (by unfold behind; omega)
        · skip
          refine lv_aload_n hx hb dX4_comesBehind_40 rfl (lv_at hl 0 rfl) ?_
          refine xg_100 (v := sg 100 v) hx hb hw0 hown hK hR (gd_0 hG (by omega)) (hts _ kw_472) rfl dX4_comesBehind_41 ?_
          have g8 := gn_100 hG (q := v) (by omega)
          have g9 := gr_503 hG 0
          refine lv_aload_n hx hb dX4_comesBehind_44 rfl (lv_at hl 1 rfl) ?_
          refine xg_100 (v := sg 100 w) hx hb hw0 hown hK hR (gd_0 hG (by omega)) (hts _ kw_472) rfl dX4_comesBehind_45 ?_
          have g10 := gn_100 hG (q := w) (by omega)
          have g11 := gr_503 hG 0
          refine xr_icmp_le (tgt := 55) hx hb dX4_comesBehind_48 (by decide) (by omega) (by omega) (fun h12 => ?_) (fun h12 => ?_)
          · skip
            refine lv_iconst (v := iI (0)) hx hb dX4_comesBehind_55 rfl ?_
            exact xe_zb hx hb hr hlk hsH dX4_comesBehind_56 (by unfold behind; omega)
          · skip
            refine lv_iconst (v := iI (1)) hx hb dX4_comesBehind_51 rfl ?_
            refine lv_goto (tgt := 56) hx hb dX4_comesBehind_52 (by decide) ?_
            exact xe_zb hx hb hr hlk hsH dX4_comesBehind_56 (by unfold behind; omega)
    · skip
      rw [rv_n h3] at hl
      refine lv_aload_n hx hb dX4_comesBehind_8 rfl (lv_at hl 0 rfl) ?_
      refine lv_ifnull hx hb dX4_comesBehind_9 ?_
      refine lv_iconst (v := iI (1)) hx hb dX4_comesBehind_12 rfl ?_
      refine lv_goto (tgt := 17) hx hb dX4_comesBehind_13 (by decide) ?_
      exact xe_zb hx hb hr hlk hsH dX4_comesBehind_17 (by unfold behind; omega)
