def zM (f : Nat) (j : Int) : Int := if (f = 705 ∨ f = 722 ∨ f = 723 ∨ f = 724 ∨ f = 725 ∨ f = 726 ∨ f = 727 ∨ f = 728 ∨ f = 729 ∨ f = 730 ∨ f = 731 ∨ f = 732 ∨ f = 734 ∨ f = 735 ∨ f = 736 ∨ f = 737 ∨ f = 738 ∨ f = 739 ∨ f = 740 ∨ f = 741 ∨ f = 742 ∨ f = 743 ∨ f = 744 ∨ f = 745 ∨ f = 747 ∨ f = 748 ∨ f = 749 ∨ f = 750 ∨ f = 751 ∨ f = 754) ∧ j = 0 then 1 else 0
def miN : Nat → Nat → Int → Int
  | 0 => st (st (st zM 1002 0 5) 1002 1 20) 1002 2 30
  | n + 1 => st (st (st (st (miN n) 1003 n 10) 1006 n (-1)) 1008 n (-1)) 1010 n (-1)
theorem mi_s {i : Int} (hi : 0 ≤ i) : miN (i + 1).toNat = st (st (st (st (miN i.toNat) 1003 i 10) 1006 i (-1)) 1008 i (-1)) 1010 i (-1) := by
  have e : (i + 1).toNat = i.toNat + 1 := by omega
  rw [e]
  show st (st (st (st (miN i.toNat) 1003 (i.toNat : Int) 10) 1006 (i.toNat : Int) (-1)) 1008 (i.toNat : Int) (-1)) 1010 (i.toNat : Int) (-1) = _
  rw [Int.toNat_of_nonneg hi]
theorem gm_zM : GM zM := by
  refine ⟨fun f j h1 _ _ _ => ?_, ?_, fun i _ => by rw [show zM 1018 i = 0 from by unfold zM; rw [if_neg (by omega)]]; decide⟩
  · have e : zM f j = 0 := by unfold zM; rw [if_neg (by omega)]
    rw [e]
    unfold loM hiM
    constructor
    · (repeat' split) <;> omega
    · (repeat' split) <;> omega
  · exact ⟨rfl, rfl, rfl, rfl, rfl, rfl, rfl, rfl, rfl, rfl, rfl, rfl, rfl, rfl, rfl, rfl, rfl, rfl, rfl, rfl, rfl, rfl, rfl, rfl, rfl, rfl, rfl, rfl, rfl, rfl⟩
theorem gm_miN : ∀ n : Nat, GM (miN n)
  | 0 => gc_1002 (gc_1002 (gc_1002 gm_zM 0 (by decide)) 1 (by decide)) 2 (by decide)
  | n + 1 => gc_1010 (gc_1008 (gc_1006 (gc_1003 (gm_miN n) n (by decide)) n (by decide)) n (by decide)) n (by decide)

