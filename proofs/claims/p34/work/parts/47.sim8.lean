/-! own, lease, charge -/
theorem te_f {sg : Nat → Int → Int} {k j u m pr : Int} {F : Nat} (h1 : ¬ (100 ≤ F ∧ F < 115)) (h2 : F ≠ 700) (h3 : F ≠ 600) (h4 : F ≠ 503) : tellT sg k j u m pr F = sg F := by
  unfold tellT
  rw [st_F h4, st_F h3, nw_f (by simp only [List.length_cons, List.length_nil]; omega) h2]
theorem te_r {sg : Nat → Int → Int} {k j u m pr v : Int} {F : Nat} (h1 : 100 ≤ F ∧ F < 115) (hv : [sg 503 0, k, j, u, sg 506 0, m, pr, -1, 0, 0, 0, 0, -1, 0, 0].getD (F - 100) 0 = v) (i : Int) : tellT sg k j u m pr F i = if i = sg 503 0 then v else sg F i := by
  unfold tellT
  rw [st_F (by omega), st_F (by omega)]
  exact nw_r (by simp only [List.length_cons, List.length_nil]; omega) hv (by omega) i
theorem te_600 {sg : Nat → Int → Int} {k j u m pr : Int} (i : Int) : tellT sg k j u m pr 600 i = if i = sg 503 0 then sg 503 0 else sg 600 i := by
  unfold tellT
  rw [st_f (by decide), st_i, nw_f (by simp only [List.length_cons, List.length_nil]; omega) (by decide)]
theorem te_700 {sg : Nat → Int → Int} {k j u m pr : Int} : tellT sg k j u m pr 700 0 = sg 503 0 + 1 := by
  unfold tellT
  rw [st_f (by decide), st_f (by decide)]
  exact nw_c (by simp only [List.length_cons, List.length_nil]; omega)
theorem te_503 {sg : Nat → Int → Int} {k j u m pr : Int} : tellT sg k j u m pr 503 0 = sg 503 0 + 1 := st_s
theorem gc_tell {sg : Nat → Int → Int} (hG : GC sg) {k j u m pr : Int} (hk : 0 ≤ k ∧ k ≤ 2) (hj : 0 ≤ j ∧ j ≤ 35) (hu : 0 ≤ u ∧ u ≤ 9) (hm : 0 ≤ m ∧ m ≤ 100000) (hpr : 0 ≤ pr ∧ pr ≤ 100) (hkm : k = 0 → m ≤ 100) (hn : sg 503 0 < 24) : GC (tellT sg k j u m pr) := by
  have g3 := gr_503 hG 0
  have g6 := gr_506 hG 0
  have hR : GRng (tellT sg k j u m pr) := by
    refine gc_rng (rng_hi (rng_nw hG.1 (by decide) ?_) (by decide)) (show (0 : Int) ≤ sg 503 0 + 1 ∧ sg 503 0 + 1 ≤ 24 by omega)
    intro i hi
    match i, hi with
    | 0, _ => exact (show (0 : Int) ≤ sg 503 0 ∧ sg 503 0 ≤ 23 by omega)
    | 1, _ => exact hk
    | 2, _ => exact hj
    | 3, _ => exact hu
    | 4, _ => exact (show (0 : Int) ≤ sg 506 0 ∧ sg 506 0 ≤ 20000 by omega)
    | 5, _ => exact hm
    | 6, _ => exact hpr
    | 7, _ => exact (show (-1 : Int) ≤ -1 ∧ (-1 : Int) ≤ 20000 by decide)
    | 8, _ => exact (show (0 : Int) ≤ 0 ∧ (0 : Int) ≤ 1 by decide)
    | 9, _ => exact (show (0 : Int) ≤ 0 ∧ (0 : Int) ≤ 1 by decide)
    | 10, _ => exact (show (0 : Int) ≤ 0 ∧ (0 : Int) ≤ 110000 by decide)
    | 11, _ => exact (show (0 : Int) ≤ 0 ∧ (0 : Int) ≤ 110000 by decide)
    | 12, _ => exact (show (-1 : Int) ≤ -1 ∧ (-1 : Int) ≤ 20000 by decide)
    | 13, _ => exact (show (-9000000 : Int) ≤ 0 ∧ (0 : Int) ≤ 9000000 by decide)
    | 14, _ => exact (show (0 : Int) ≤ 0 ∧ (0 : Int) ≤ 1 by decide)
    | i + 15, hi => exact absurd hi (by simp only [List.length_cons, List.length_nil]; omega)
  have f : ∀ {F : Nat}, ¬ (100 ≤ F ∧ F < 115) → F ≠ 700 → F ≠ 600 → F ≠ 503 → tellT sg k j u m pr F = sg F := fun h1 h2 h3 h4 => te_f h1 h2 h3 h4
  obtain ⟨-, a1, a2, a3, a4, a5, a6⟩ := hG
  refine ⟨hR, ⟨?_, fun q q1 q2 => ?_, ?_, ?_⟩, ?_, ⟨?_, ?_, fun j => ?_, ?_⟩, ⟨fun i i1 i2 => ?_, ?_, ?_⟩, fun i h0 => ?_, ⟨fun q => ?_, ?_, ?_, ?_, ?_, fun q => ?_, ?_, ?_⟩⟩
  · rw [f (F := 601) (by decide) (by decide) (by decide) (by decide)]; exact a1.1
  · rw [te_503, te_600]
    have z := a1.2.1 q q1 q2
    by_cases e : q = sg 503 0
    · rw [if_pos e, if_pos (by omega), e]
    · rw [if_neg e, z]
      (repeat' split) <;> omega
  · rw [f (F := 603) (by decide) (by decide) (by decide) (by decide), f (F := 505) (by decide) (by decide) (by decide) (by decide)]; exact a1.2.2.1
  · rw [f (F := 602) (by decide) (by decide) (by decide) (by decide), f (F := 702) (by decide) (by decide) (by decide) (by decide)]; exact a1.2.2.2
  · unfold GCnt
    rw [te_503, te_700, f (F := 701) (by decide) (by decide) (by decide) (by decide), f (F := 703) (by decide) (by decide) (by decide) (by decide), f (F := 505) (by decide) (by decide) (by decide) (by decide), f (F := 704) (by decide) (by decide) (by decide) (by decide), f (F := 709) (by decide) (by decide) (by decide) (by decide), f (F := 710) (by decide) (by decide) (by decide) (by decide), f (F := 711) (by decide) (by decide) (by decide) (by decide), f (F := 712) (by decide) (by decide) (by decide) (by decide)]
    exact ⟨rfl, a2.2⟩
  · rw [f (F := 204) (by decide) (by decide) (by decide) (by decide), f (F := 505) (by decide) (by decide) (by decide) (by decide)]; exact a3.1
  · rw [f (F := 207) (by decide) (by decide) (by decide) (by decide), f (F := 702) (by decide) (by decide) (by decide) (by decide)]; exact a3.2.1
  · rw [te_503, f (F := 209) (by decide) (by decide) (by decide) (by decide)]
    have := a3.2.2.1 j; omega
  · rw [f (F := 302) (by decide) (by decide) (by decide) (by decide)]; exact a3.2.2.2
  · rw [te_503] at i2
    rw [te_r (F := 100) (by decide) rfl]
    split
    · rename_i e; exact e.symm
    · exact a4.1 i i1 (by omega)
  · rw [f (F := 200) (by decide) (by decide) (by decide) (by decide)]; exact a4.2.1
  · rw [f (F := 505) (by decide) (by decide) (by decide) (by decide), f (F := 400) (by decide) (by decide) (by decide) (by decide)]; exact a4.2.2
  · rw [te_r (F := 101) (by decide) rfl] at h0
    rw [te_r (F := 105) (by decide) rfl]
    split
    · rename_i e; rw [if_pos e] at h0; exact hkm h0
    · rename_i e; rw [if_neg e] at h0; exact a5 i h0
  · rw [te_503, te_600]
    have := a6.1 q
    split <;> omega
  · rw [f (F := 602) (by decide) (by decide) (by decide) (by decide), f (F := 702) (by decide) (by decide) (by decide) (by decide)]; exact a6.2.1
  · rw [f (F := 603) (by decide) (by decide) (by decide) (by decide), f (F := 505) (by decide) (by decide) (by decide) (by decide)]; exact a6.2.2.1
  · rw [f (F := 302) (by decide) (by decide) (by decide) (by decide), f (F := 702) (by decide) (by decide) (by decide) (by decide)]; exact a6.2.2.2.1
  · rw [f (F := 601) (by decide) (by decide) (by decide) (by decide)]; exact a6.2.2.2.2.1
  · rw [te_600]
    have := a6.2.2.2.2.2.1 q
    split <;> omega
  · rw [f (F := 602) (by decide) (by decide) (by decide) (by decide)]; exact a6.2.2.2.2.2.2.1
  · rw [f (F := 603) (by decide) (by decide) (by decide) (by decide)]; exact a6.2.2.2.2.2.2.2
theorem mt_f {mu : Nat → Int → Int} {k j u m n pr : Int} {F : Nat} (h0 : F ≠ 900) (h1 : F ≠ 1014) (h2 : F ≠ 1015) (h3 : F ≠ 1016) (h4 : F ≠ 1017) (h5 : F ≠ 1018) (h6 : F ≠ 1019) (h7 : F ≠ 1024) (h8 : F ≠ 913) (h9 : F ≠ 1034) : st (mTellT mu k j u m) 1034 n pr F = mu F := by
  unfold mTellT
  rw [st_F h9, st_F h8, st_F h7, st_F h6, st_F h5, st_F h4, st_F h3, st_F h2, st_F h1, st_F h0]
theorem mt_1014 {mu : Nat → Int → Int} {k j u m n pr : Int} (i : Int) : st (mTellT mu k j u m) 1034 n pr 1014 i = if i = mu 913 0 then k else mu 1014 i := by
  unfold mTellT
  rw [st_F (by decide), st_F (by decide), st_F (by decide), st_F (by decide), st_F (by decide), st_F (by decide), st_F (by decide), st_F (by decide), st_i, st_F (by decide)]
theorem mt_1015 {mu : Nat → Int → Int} {k j u m n pr : Int} (i : Int) : st (mTellT mu k j u m) 1034 n pr 1015 i = if i = mu 913 0 then j else mu 1015 i := by
  unfold mTellT
  rw [st_F (by decide), st_F (by decide), st_F (by decide), st_F (by decide), st_F (by decide), st_F (by decide), st_F (by decide), st_i, st_F (by decide), st_F (by decide)]
theorem mt_1016 {mu : Nat → Int → Int} {k j u m n pr : Int} (i : Int) : st (mTellT mu k j u m) 1034 n pr 1016 i = if i = mu 913 0 then u else mu 1016 i := by
  unfold mTellT
  rw [st_F (by decide), st_F (by decide), st_F (by decide), st_F (by decide), st_F (by decide), st_F (by decide), st_i, st_F (by decide), st_F (by decide), st_F (by decide)]
theorem mt_1017 {mu : Nat → Int → Int} {k j u m n pr : Int} (i : Int) : st (mTellT mu k j u m) 1034 n pr 1017 i = if i = mu 913 0 then mu 901 0 else mu 1017 i := by
  unfold mTellT
  rw [st_F (by decide), st_F (by decide), st_F (by decide), st_F (by decide), st_F (by decide), st_i, st_F (by decide), st_F (by decide), st_F (by decide), st_F (by decide)]
theorem mt_1018 {mu : Nat → Int → Int} {k j u m n pr : Int} (i : Int) : st (mTellT mu k j u m) 1034 n pr 1018 i = if i = mu 913 0 then m else mu 1018 i := by
  unfold mTellT
  rw [st_F (by decide), st_F (by decide), st_F (by decide), st_F (by decide), st_i, st_F (by decide), st_F (by decide), st_F (by decide), st_F (by decide), st_F (by decide)]
theorem mt_1019 {mu : Nat → Int → Int} {k j u m n pr : Int} (i : Int) : st (mTellT mu k j u m) 1034 n pr 1019 i = if i = mu 913 0 then (-1) else mu 1019 i := by
  unfold mTellT
  rw [st_F (by decide), st_F (by decide), st_F (by decide), st_i, st_F (by decide), st_F (by decide), st_F (by decide), st_F (by decide), st_F (by decide), st_F (by decide)]
theorem mt_1024 {mu : Nat → Int → Int} {k j u m n pr : Int} (i : Int) : st (mTellT mu k j u m) 1034 n pr 1024 i = if i = mu 913 0 then (-1) else mu 1024 i := by
  unfold mTellT
  rw [st_F (by decide), st_F (by decide), st_i, st_F (by decide), st_F (by decide), st_F (by decide), st_F (by decide), st_F (by decide), st_F (by decide), st_F (by decide)]
theorem mt_1034 {mu : Nat → Int → Int} {k j u m pr : Int} (i : Int) : st (mTellT mu k j u m) 1034 (mu 913 0) pr 1034 i = if i = mu 913 0 then pr else mu 1034 i := by
  rw [st_i]; rfl
theorem mt_913 {mu : Nat → Int → Int} {k j u m n pr : Int} : st (mTellT mu k j u m) 1034 n pr 913 0 = mu 913 0 + 1 := by
  rw [st_F (by decide)]
  exact st_s
theorem r_tell {sg mu : Nat → Int → Int} (h : Rel sg mu) (hG : GC sg) (hM : GM mu) {k j u m pr : Int} (hk : 0 ≤ k ∧ k ≤ 2) (hj : 0 ≤ j ∧ j ≤ 35) (hu : 0 ≤ u ∧ u ≤ 9) (hm : 0 ≤ m ∧ m ≤ 100000) (hpr : 0 ≤ pr ∧ pr ≤ 100) (hkm : k = 0 → m ≤ 100) (hn : sg 503 0 < 24) : Rel (tellT sg k j u m pr) (st (mTellT mu k j u m) 1034 (mu 913 0) pr) ∧ GC (tellT sg k j u m pr) ∧ GM (st (mTellT mu k j u m) 1034 (mu 913 0) pr) := by
  have hGp := hG
  obtain ⟨hS, hPA, hPS, hPN, hPO, hPL, hJ1, hJ2, hIA, hIN, hIS, hIP, hJ3, hJ8, hJ4, hZ, hK, hPR, hJ5, hT⟩ := h
  have g3 := gr_503 hG 0
  have hS2 := hS.2.1
  have f : ∀ {F : Nat}, ¬ (100 ≤ F ∧ F < 115) → F ≠ 700 → F ≠ 600 → F ≠ 503 → tellT sg k j u m pr F = sg F := fun h1 h2 h3 h4 => te_f h1 h2 h3 h4
  have g : ∀ {F : Nat}, F ≠ 900 → F ≠ 1014 → F ≠ 1015 → F ≠ 1016 → F ≠ 1017 → F ≠ 1018 → F ≠ 1019 → F ≠ 1024 → F ≠ 913 → F ≠ 1034 → st (mTellT mu k j u m) 1034 (mu 913 0) pr F = mu F := fun h0 h1 h2 h3 h4 h5 h6 h7 h8 h9 => mt_f h0 h1 h2 h3 h4 h5 h6 h7 h8 h9
  have zn := hZ.1 (sg 503 0) (Int.le_refl _) hn
  have hgm : GM (st (mTellT mu k j u m) 1034 (mu 913 0) pr) := gc_1034 (gm_tell hM hk hj hu hm hkm (by omega)) _ hpr
  have hneed : needO (tellT sg k j u m pr) = needO sg := needO_ext (f (F := 204) (by decide) (by decide) (by decide) (by decide)) (f (F := 403) (by decide) (by decide) (by decide) (by decide))
  have hland : ∀ p, landO (tellT sg k j u m pr) p = landO sg p := fun p => landO_at (a := tellT sg k j u m pr) (b := sg) (by rw [f (F := 201) (by decide) (by decide) (by decide) (by decide)]) (by rw [f (F := 207) (by decide) (by decide) (by decide) (by decide)]) (by rw [f (F := 205) (by decide) (by decide) (by decide) (by decide)]) (by rw [f (F := 204) (by decide) (by decide) (by decide) (by decide)]) (fun _ => by rw [f (F := 301) (by decide) (by decide) (by decide) (by decide)]) (fun _ => ⟨by rw [f (F := 401) (by decide) (by decide) (by decide) (by decide)], by rw [f (F := 402) (by decide) (by decide) (by decide) (by decide)]⟩)
  refine ⟨⟨?_, ?_, ?_, ?_, ?_, ?_, ?_, ?_, fun i p1 p2 => ?_, fun i p1 p2 => ?_, fun i p1 p2 => ?_, fun i p1 p2 => ?_, fun i p1 p2 => ?_, fun i p1 p2 => ?_, fun i p1 p2 => ?_, ⟨fun i p1 p2 => ?_, ?_⟩, ?_, ?_, ?_, ?_⟩, gc_tell hGp hk hj hu hm hpr hkm hn, hgm⟩
  · unfold RSc
    rw [te_503, f (F := 506) (by decide) (by decide) (by decide) (by decide), f (F := 505) (by decide) (by decide) (by decide) (by decide), mt_913, g (F := 901) (by decide) (by decide) (by decide) (by decide) (by decide) (by decide) (by decide) (by decide) (by decide) (by decide), g (F := 926) (by decide) (by decide) (by decide) (by decide) (by decide) (by decide) (by decide) (by decide) (by decide) (by decide)]
    exact ⟨hS.1, by omega, hS.2.2⟩
  · unfold RPA
    rw [f (F := 201) (by decide) (by decide) (by decide) (by decide), f (F := 202) (by decide) (by decide) (by decide) (by decide), g (F := 1003) (by decide) (by decide) (by decide) (by decide) (by decide) (by decide) (by decide) (by decide) (by decide) (by decide), g (F := 1004) (by decide) (by decide) (by decide) (by decide) (by decide) (by decide) (by decide) (by decide) (by decide) (by decide)]; exact hPA
  · unfold RPS
    rw [f (F := 203) (by decide) (by decide) (by decide) (by decide), f (F := 205) (by decide) (by decide) (by decide) (by decide), f (F := 206) (by decide) (by decide) (by decide) (by decide), f (F := 208) (by decide) (by decide) (by decide) (by decide), g (F := 1005) (by decide) (by decide) (by decide) (by decide) (by decide) (by decide) (by decide) (by decide) (by decide) (by decide), g (F := 1007) (by decide) (by decide) (by decide) (by decide) (by decide) (by decide) (by decide) (by decide) (by decide) (by decide), g (F := 1008) (by decide) (by decide) (by decide) (by decide) (by decide) (by decide) (by decide) (by decide) (by decide) (by decide), g (F := 1009) (by decide) (by decide) (by decide) (by decide) (by decide) (by decide) (by decide) (by decide) (by decide) (by decide)]; exact hPS
  · unfold RPN
    rw [hneed, g (F := 1006) (by decide) (by decide) (by decide) (by decide) (by decide) (by decide) (by decide) (by decide) (by decide) (by decide)]; exact hPN
  · unfold RPO
    rw [f (F := 209) (by decide) (by decide) (by decide) (by decide), f (F := 210) (by decide) (by decide) (by decide) (by decide), g (F := 1010) (by decide) (by decide) (by decide) (by decide) (by decide) (by decide) (by decide) (by decide) (by decide) (by decide), g (F := 1011) (by decide) (by decide) (by decide) (by decide) (by decide) (by decide) (by decide) (by decide) (by decide) (by decide)]; exact hPO
  · intro p p1 p2
    rw [hland, f (F := 206) (by decide) (by decide) (by decide) (by decide), g (F := 1012) (by decide) (by decide) (by decide) (by decide) (by decide) (by decide) (by decide) (by decide) (by decide) (by decide)]; exact hPL p p1 p2
  · unfold J1
    rw [f (F := 203) (by decide) (by decide) (by decide) (by decide), f (F := 206) (by decide) (by decide) (by decide) (by decide)]; exact hJ1
  · unfold J2
    rw [hneed, f (F := 209) (by decide) (by decide) (by decide) (by decide), f (F := 203) (by decide) (by decide) (by decide) (by decide), f (F := 210) (by decide) (by decide) (by decide) (by decide)]; exact hJ2
  · rw [te_503] at p2
    rw [mt_1014, mt_1015, mt_1016, mt_1017, mt_1018, mt_1034, te_r (F := 101) (by decide) rfl, te_r (F := 102) (by decide) rfl, te_r (F := 103) (by decide) rfl, te_r (F := 104) (by decide) rfl, te_r (F := 105) (by decide) rfl, te_r (F := 106) (by decide) rfl, hS2]
    by_cases e : i = sg 503 0
    · simp only [if_pos e]
      exact ⟨rfl, rfl, rfl, hS.1, rfl, rfl⟩
    · simp only [if_neg e]
      exact hIA i p1 (by omega)
  · rw [te_503] at p2
    rw [mt_1019, g (F := 1020) (by decide) (by decide) (by decide) (by decide) (by decide) (by decide) (by decide) (by decide) (by decide) (by decide), te_r (F := 107) (by decide) rfl, te_r (F := 108) (by decide) rfl, te_r (F := 109) (by decide) rfl, hS2]
    by_cases e : i = sg 503 0
    · rw [if_pos e, if_pos e, if_pos e, if_pos e, e]
      exact ⟨rfl, zn.1⟩
    · rw [if_neg e, if_neg e, if_neg e, if_neg e]
      exact hIN i p1 (by omega)
  · rw [te_503] at p2
    rw [g (F := 1021) (by decide) (by decide) (by decide) (by decide) (by decide) (by decide) (by decide) (by decide) (by decide) (by decide), te_r (F := 110) (by decide) rfl]
    by_cases e : i = sg 503 0
    · rw [if_pos e, e]; exact zn.2.1
    · rw [if_neg e]; exact hIS i p1 (by omega)
  · rw [te_503] at p2
    rw [mt_1024, g (F := 1022) (by decide) (by decide) (by decide) (by decide) (by decide) (by decide) (by decide) (by decide) (by decide) (by decide), g (F := 1023) (by decide) (by decide) (by decide) (by decide) (by decide) (by decide) (by decide) (by decide) (by decide) (by decide), g (F := 1025) (by decide) (by decide) (by decide) (by decide) (by decide) (by decide) (by decide) (by decide) (by decide) (by decide), te_r (F := 111) (by decide) rfl, te_r (F := 112) (by decide) rfl, te_r (F := 113) (by decide) rfl, te_r (F := 114) (by decide) rfl, hS2]
    by_cases e : i = sg 503 0
    · simp only [if_pos e]
      rw [e]
      exact ⟨zn.2.2.1, zn.2.2.2.1, rfl, zn.2.2.2.2.1⟩
    · simp only [if_neg e]
      exact hIP i p1 (by omega)
  · rw [te_503] at p2
    rw [te_r (F := 111) (by decide) rfl, te_r (F := 112) (by decide) rfl, te_r (F := 113) (by decide) rfl, te_r (F := 114) (by decide) rfl]
    by_cases e : i = sg 503 0
    · simp only [if_pos e]
      exact ⟨fun _ => rfl, fun _ => rfl⟩
    · simp only [if_neg e]
      exact hJ3 i p1 (by omega)
  · rw [te_503] at p2
    rw [te_r (F := 108) (by decide) rfl, te_r (F := 109) (by decide) rfl]
    by_cases e : i = sg 503 0
    · rw [if_pos e, if_pos e]; exact fun z => z
    · rw [if_neg e, if_neg e]; exact hJ8 i p1 (by omega)
  · rw [te_503] at p2
    rw [te_r (F := 102) (by decide) rfl, te_r (F := 110) (by decide) rfl, f (F := 206) (by decide) (by decide) (by decide) (by decide)]
    by_cases e : i = sg 503 0
    · rw [if_pos e, if_pos e]; exact fun _ => rfl
    · rw [if_neg e, if_neg e]; exact hJ4 i p1 (by omega)
  · rw [te_503] at p1
    rw [g (F := 1020) (by decide) (by decide) (by decide) (by decide) (by decide) (by decide) (by decide) (by decide) (by decide) (by decide), g (F := 1021) (by decide) (by decide) (by decide) (by decide) (by decide) (by decide) (by decide) (by decide) (by decide) (by decide), g (F := 1022) (by decide) (by decide) (by decide) (by decide) (by decide) (by decide) (by decide) (by decide) (by decide) (by decide), g (F := 1023) (by decide) (by decide) (by decide) (by decide) (by decide) (by decide) (by decide) (by decide) (by decide) (by decide), g (F := 1025) (by decide) (by decide) (by decide) (by decide) (by decide) (by decide) (by decide) (by decide) (by decide) (by decide), mt_1034, hS2, if_neg (by omega)]
    exact hZ.1 i (by omega) p2
  · rw [f (F := 505) (by decide) (by decide) (by decide) (by decide), g (F := 1029) (by decide) (by decide) (by decide) (by decide) (by decide) (by decide) (by decide) (by decide) (by decide) (by decide)]; exact hZ.2
  · unfold RK
    rw [f (F := 505) (by decide) (by decide) (by decide) (by decide), f (F := 401) (by decide) (by decide) (by decide) (by decide), f (F := 402) (by decide) (by decide) (by decide) (by decide), f (F := 403) (by decide) (by decide) (by decide) (by decide), f (F := 404) (by decide) (by decide) (by decide) (by decide), f (F := 405) (by decide) (by decide) (by decide) (by decide), g (F := 1027) (by decide) (by decide) (by decide) (by decide) (by decide) (by decide) (by decide) (by decide) (by decide) (by decide), g (F := 1028) (by decide) (by decide) (by decide) (by decide) (by decide) (by decide) (by decide) (by decide) (by decide) (by decide), g (F := 1029) (by decide) (by decide) (by decide) (by decide) (by decide) (by decide) (by decide) (by decide) (by decide) (by decide), g (F := 1030) (by decide) (by decide) (by decide) (by decide) (by decide) (by decide) (by decide) (by decide) (by decide) (by decide), g (F := 1031) (by decide) (by decide) (by decide) (by decide) (by decide) (by decide) (by decide) (by decide) (by decide) (by decide)]; exact hK
  · have z : RPR sg (st (mTellT mu k j u m) 1034 (mu 913 0) pr) := by
      unfold RPR
      rw [g (F := 1002) (by decide) (by decide) (by decide) (by decide) (by decide) (by decide) (by decide) (by decide) (by decide) (by decide)]; exact hPR
    exact RPR_ext z (f (F := 300) (by decide) (by decide) (by decide) (by decide)) (f (F := 301) (by decide) (by decide) (by decide) (by decide)) (f (F := 302) (by decide) (by decide) (by decide) (by decide)) (f (F := 602) (by decide) (by decide) (by decide) (by decide)) (by rw [f (F := 506) (by decide) (by decide) (by decide) (by decide)])
  · unfold J5
    rw [f (F := 506) (by decide) (by decide) (by decide) (by decide), f (F := 300) (by decide) (by decide) (by decide) (by decide), f (F := 602) (by decide) (by decide) (by decide) (by decide)]; exact hJ5
  · have en : (sg 503 0 + 1).toNat = (sg 503 0).toNat + 1 := by omega
    have ec : (((sg 503 0).toNat : Nat) : Int) = sg 503 0 := by omega
    have es : ∀ F : Nat, sumN (fun q => mu F q) ((sg 503 0).toNat + 1) = sumN (fun q => mu F q) (sg 503 0).toNat + mu F (sg 503 0) := fun F => by
      show sumN (fun q => mu F q) (sg 503 0).toNat + mu F (((sg 503 0).toNat : Nat) : Int) = _
      rw [ec]
    unfold RTo
    rw [te_503, f (F := 507) (by decide) (by decide) (by decide) (by decide), f (F := 508) (by decide) (by decide) (by decide) (by decide), f (F := 509) (by decide) (by decide) (by decide) (by decide), f (F := 510) (by decide) (by decide) (by decide) (by decide), f (F := 511) (by decide) (by decide) (by decide) (by decide), g (F := 1021) (by decide) (by decide) (by decide) (by decide) (by decide) (by decide) (by decide) (by decide) (by decide) (by decide), g (F := 1022) (by decide) (by decide) (by decide) (by decide) (by decide) (by decide) (by decide) (by decide) (by decide) (by decide), g (F := 932) (by decide) (by decide) (by decide) (by decide) (by decide) (by decide) (by decide) (by decide) (by decide) (by decide), g (F := 933) (by decide) (by decide) (by decide) (by decide) (by decide) (by decide) (by decide) (by decide) (by decide) (by decide), g (F := 1012) (by decide) (by decide) (by decide) (by decide) (by decide) (by decide) (by decide) (by decide) (by decide) (by decide), en, es 1021, es 1022, zn.2.1, zn.2.2.1]
    exact ⟨by have := hT.1; omega, by have := hT.2.1; omega, hT.2.2⟩
theorem mt_id {sg mu : Nat → Int → Int} (h : Rel sg mu) {k j u m : Int} (hn : sg 503 0 < 24) : st (mTellT mu k j u m) 1034 (mu 913 0) 0 = mTellT mu k j u m := by
  have hS : RSc sg mu := h.1
  have hZ : RZ sg mu := h.2.2.2.2.2.2.2.2.2.2.2.2.2.2.2.1
  have z := (hZ.1 (sg 503 0) (Int.le_refl _) hn).2.2.2.2.2
  refine st_id ?_
  rw [hS.2.1]; exact z
theorem tellE_q (mu : Nat → Int → Int) (x u b : Int) : (tellE mu x u b = 1 ∧ (¬ (0 ≤ x ∧ x ≤ 35) ∨ ¬ (0 ≤ u ∧ u ≤ 9))) ∨ ((0 ≤ x ∧ x ≤ 35) ∧ (0 ≤ u ∧ u ≤ 9) ∧ ((tellE mu x u b = 2 ∧ b = 0) ∨ (b ≠ 0 ∧ ((tellE mu x u b = 3 ∧ (mu 913 0 = 24 ∨ mu 1005 x ≠ 0)) ∨ (tellE mu x u b = 0 ∧ mu 913 0 ≠ 24 ∧ mu 1005 x = 0))))) := by
  unfold tellE
  (repeat' split) <;> omega
theorem s_charge {sg mu : Nat → Int → Int} (h : Rel sg mu) (hG : GC sg) (hM : GM mu) (x u ms : Int) : SimW [1, 2, 3] (chargeE sg x u ms) (tellE mu x u (bI (1 ≤ ms ∧ ms ≤ 100000))) (sg 503 0) (mu 913 0) sg (tellT sg 2 (pAt x) u ms 0) mu (mTellT mu 2 x u ms) := by
  have hS : RSc sg mu := h.1
  have hS2 := hS.2.1
  have g3 := gr_503 hG 0
  rcases tellE_q mu x u (bI (1 ≤ ms ∧ ms ≤ 100000)) with ⟨e, e2⟩ | ⟨hx, hu, hh⟩
  · refine w123_k h hG hM ?_ (Or.inl e)
    rw [e]; unfold chargeE
    rw [if_pos]
    by_cases k : 0 ≤ x ∧ x ≤ 35
    · rw [pAt_q k]; omega
    · rw [pAt_n k]; omega
  · have hp := pAt_q hx
    have hPS : RPS sg mu := h.2.2.1
    have z := (hPS x hx.1 (by omega)).1
    rcases bI_cases (1 ≤ ms ∧ ms ≤ 100000) with ⟨b1, b2⟩ | ⟨b1, b2⟩
    · rcases hh with ⟨-, y⟩ | ⟨-, ⟨e, e2⟩ | ⟨e, e2, e3⟩⟩
      · omega
      · refine w123_k h hG hM ?_ (Or.inr (Or.inr e))
        rw [e]; unfold chargeE
        rw [hp, if_neg (by omega), if_neg (by omega), if_pos (by omega)]
      · rw [hp, ← mt_id h (show sg 503 0 < 24 by omega)]
        refine w123_0 h hG hM ?_ e hS2.symm (r_tell h hG hM (by decide) (by omega) hu (by omega) (by decide) (fun z => absurd z (by decide)) (by omega))
        unfold chargeE
        rw [hp, if_neg (by omega), if_neg (by omega), if_neg (by omega)]
    · rcases hh with ⟨e, -⟩ | ⟨y, -⟩
      · refine w123_k h hG hM ?_ (Or.inr (Or.inl e))
        rw [e]; unfold chargeE
        rw [hp, if_neg (by omega), if_pos (by omega)]
      · exact absurd b2 y
theorem s_lease {sg mu : Nat → Int → Int} (h : Rel sg mu) (hG : GC sg) (hM : GM mu) (x u til pr : Int) : SimW [1, 2, 3] (leaseE sg x u til pr) (tellE mu x u (bI (mu 901 0 < til ∧ til ≤ 30000 ∧ 0 ≤ pr ∧ pr ≤ 100))) (sg 503 0) (mu 913 0) sg (tellT sg 1 (pAt x) u til pr) mu (st (mTellT mu 1 x u til) 1034 (mu 913 0) pr) := by
  have hS : RSc sg mu := h.1
  have hS1 := hS.1
  have hS2 := hS.2.1
  have g3 := gr_503 hG 0
  have g6 := gr_506 hG 0
  rcases tellE_q mu x u (bI (mu 901 0 < til ∧ til ≤ 30000 ∧ 0 ≤ pr ∧ pr ≤ 100)) with ⟨e, e2⟩ | ⟨hx, hu, hh⟩
  · refine w123_k h hG hM ?_ (Or.inl e)
    rw [e]; unfold leaseE
    rw [if_pos]
    by_cases k : 0 ≤ x ∧ x ≤ 35
    · rw [pAt_q k]; omega
    · rw [pAt_n k]; omega
  · have hp := pAt_q hx
    have hPS : RPS sg mu := h.2.2.1
    have z := (hPS x hx.1 (by omega)).1
    rcases bI_cases (mu 901 0 < til ∧ til ≤ 30000 ∧ 0 ≤ pr ∧ pr ≤ 100) with ⟨b1, b2⟩ | ⟨b1, b2⟩
    · rcases hh with ⟨-, y⟩ | ⟨-, ⟨e, e2⟩ | ⟨e, e2, e3⟩⟩
      · omega
      · refine w123_k h hG hM ?_ (Or.inr (Or.inr e))
        rw [e]; unfold leaseE
        rw [hp, if_neg (by omega), if_neg (by omega), if_pos (by omega)]
      · rw [hp]
        refine w123_0 h hG hM ?_ e hS2.symm (r_tell h hG hM (by decide) (by omega) hu (by omega) (by omega) (fun z => absurd z (by decide)) (by omega))
        unfold leaseE
        rw [hp, if_neg (by omega), if_neg (by omega), if_neg (by omega)]
    · rcases hh with ⟨e, -⟩ | ⟨y, -⟩
      · refine w123_k h hG hM ?_ (Or.inr (Or.inl e))
        rw [e]; unfold leaseE
        rw [hp, if_neg (by omega), if_pos (by omega)]
      · exact absurd b2 y
theorem s_own {sg mu : Nat → Int → Int} (h : Rel sg mu) (hG : GC sg) (hM : GM mu) (x u sh : Int) : SimW [1, 2, 3] (ownE sg x u sh) (tellE mu x u (mOwnBit mu x sh)) (sg 503 0) (mu 913 0) sg (tellT sg 0 (pAt x) u sh 0) mu (mTellT mu 0 x u sh) := by
  have hS : RSc sg mu := h.1
  have hS2 := hS.2.1
  have g3 := gr_503 hG 0
  rcases tellE_q mu x u (mOwnBit mu x sh) with ⟨e, e2⟩ | ⟨hx, hu, hh⟩
  · refine w123_k h hG hM ?_ (Or.inl e)
    rw [e]; unfold ownE
    rw [if_pos]
    by_cases k : 0 ≤ x ∧ x ≤ 35
    · rw [pAt_q k]; omega
    · rw [pAt_n k]; omega
  · have hp := pAt_q hx
    have hPS : RPS sg mu := h.2.2.1
    have hIA : RIA sg mu := h.2.2.2.2.2.2.2.2.1
    have z := (hPS x hx.1 (by omega)).1
    have es : mShares mu x = shares sg x := e_shares hS hIA hG
    have hb : mOwnBit mu x sh = bI ((1 ≤ sh ∧ sh ≤ 100) ∧ sh + shares sg x ≤ 100) := by unfold mOwnBit; rw [es]
    rcases bI_cases ((1 ≤ sh ∧ sh ≤ 100) ∧ sh + shares sg x ≤ 100) with ⟨b1, b2⟩ | ⟨b1, b2⟩
    · rcases hh with ⟨-, y⟩ | ⟨-, ⟨e, e2⟩ | ⟨e, e2, e3⟩⟩
      · omega
      · refine w123_k h hG hM ?_ (Or.inr (Or.inr e))
        rw [e]; unfold ownE
        rw [hp, if_neg (by omega), if_neg (by omega), if_pos (by omega)]
      · rw [hp, ← mt_id h (show sg 503 0 < 24 by omega)]
        refine w123_0 h hG hM ?_ e hS2.symm (r_tell h hG hM (by decide) (by omega) hu (by omega) (by decide) (fun _ => by omega) (by omega))
        unfold ownE
        rw [hp, if_neg (by omega), if_neg (by omega), if_neg (by omega)]
    · rcases hh with ⟨e, -⟩ | ⟨y, -⟩
      · refine w123_k h hG hM ?_ (Or.inr (Or.inl e))
        rw [e]; unfold ownE
        rw [hp, if_neg (by omega), if_pos (by omega)]
      · exact absurd (hb.trans b2) y
