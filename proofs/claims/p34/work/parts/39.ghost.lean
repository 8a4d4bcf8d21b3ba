/-! a ghost: the table of a model, of which the simulations tell the class's invariants -/
def loM (f : Nat) : Int := if f = 1006 then (-1) else if f = 1008 then (-1) else if f = 1010 then (-1) else if f = 1019 then (-1) else if f = 1024 then (-1) else if f = 1030 then (-1) else if f = 1031 then (-1) else 0
def hiM (f : Nat) : Int := if f = 900 then 3 else if f = 901 then 20000 else if f = 913 then 24 else if f = 926 then 4 else if f = 1002 then 1000 else if f = 1003 then 100 else if f = 1004 then 2 else if f = 1005 then 2 else if f = 1006 then 3 else if f = 1007 then 100 else if f = 1008 then 20000 else if f = 1009 then 1 else if f = 1010 then 23 else if f = 1011 then 100000 else if f = 1012 then 100000 else if f = 1014 then 2 else if f = 1015 then 35 else if f = 1016 then 9 else if f = 1017 then 20000 else if f = 1018 then 100000 else if f = 1019 then 20000 else if f = 1020 then 2 else if f = 1021 then 110000 else if f = 1023 then 110000 else if f = 1024 then 20000 else if f = 1025 then 1 else if f = 1027 then 50 else if f = 1028 then 50 else if f = 1029 then 2 else if f = 1030 then 20000 else if f = 1031 then 20000 else if f = 1034 then 100 else 0
def MRng (mu : Nat → Int → Int) : Prop := ∀ (f : Nat) (j : Int), 900 ≤ f → f ≠ 932 → f ≠ 933 → f ≠ 1022 → loM f ≤ mu f j ∧ mu f j ≤ hiM f
def MCnt (mu : Nat → Int → Int) : Prop := mu 705 0 = 1 ∧ mu 722 0 = 1 ∧ mu 723 0 = 1 ∧ mu 724 0 = 1 ∧ mu 725 0 = 1 ∧ mu 726 0 = 1 ∧ mu 727 0 = 1 ∧ mu 728 0 = 1 ∧ mu 729 0 = 1 ∧ mu 730 0 = 1 ∧ mu 731 0 = 1 ∧ mu 732 0 = 1 ∧ mu 734 0 = 1 ∧ mu 735 0 = 1 ∧ mu 736 0 = 1 ∧ mu 737 0 = 1 ∧ mu 738 0 = 1 ∧ mu 739 0 = 1 ∧ mu 740 0 = 1 ∧ mu 741 0 = 1 ∧ mu 742 0 = 1 ∧ mu 743 0 = 1 ∧ mu 744 0 = 1 ∧ mu 745 0 = 1 ∧ mu 747 0 = 1 ∧ mu 748 0 = 1 ∧ mu 749 0 = 1 ∧ mu 750 0 = 1 ∧ mu 751 0 = 1 ∧ mu 754 0 = 1
def MMea (mu : Nat → Int → Int) : Prop := ∀ i : Int, mu 1014 i = 0 → mu 1018 i ≤ 100
def GM (mu : Nat → Int → Int) : Prop := MRng mu ∧ MCnt mu ∧ MMea mu
theorem mr_900 {mu : Nat → Int → Int} (hG : GM mu) (j : Int) : (0) ≤ mu 900 j ∧ mu 900 j ≤ 3 := hG.1 900 j (by decide) (by decide) (by decide) (by decide)
theorem mr_901 {mu : Nat → Int → Int} (hG : GM mu) (j : Int) : (0) ≤ mu 901 j ∧ mu 901 j ≤ 20000 := hG.1 901 j (by decide) (by decide) (by decide) (by decide)
theorem mr_913 {mu : Nat → Int → Int} (hG : GM mu) (j : Int) : (0) ≤ mu 913 j ∧ mu 913 j ≤ 24 := hG.1 913 j (by decide) (by decide) (by decide) (by decide)
theorem mr_926 {mu : Nat → Int → Int} (hG : GM mu) (j : Int) : (0) ≤ mu 926 j ∧ mu 926 j ≤ 4 := hG.1 926 j (by decide) (by decide) (by decide) (by decide)
theorem mr_1002 {mu : Nat → Int → Int} (hG : GM mu) (j : Int) : (0) ≤ mu 1002 j ∧ mu 1002 j ≤ 1000 := hG.1 1002 j (by decide) (by decide) (by decide) (by decide)
theorem mr_1003 {mu : Nat → Int → Int} (hG : GM mu) (j : Int) : (0) ≤ mu 1003 j ∧ mu 1003 j ≤ 100 := hG.1 1003 j (by decide) (by decide) (by decide) (by decide)
theorem mr_1004 {mu : Nat → Int → Int} (hG : GM mu) (j : Int) : (0) ≤ mu 1004 j ∧ mu 1004 j ≤ 2 := hG.1 1004 j (by decide) (by decide) (by decide) (by decide)
theorem mr_1005 {mu : Nat → Int → Int} (hG : GM mu) (j : Int) : (0) ≤ mu 1005 j ∧ mu 1005 j ≤ 2 := hG.1 1005 j (by decide) (by decide) (by decide) (by decide)
theorem mr_1006 {mu : Nat → Int → Int} (hG : GM mu) (j : Int) : (-1) ≤ mu 1006 j ∧ mu 1006 j ≤ 3 := hG.1 1006 j (by decide) (by decide) (by decide) (by decide)
theorem mr_1007 {mu : Nat → Int → Int} (hG : GM mu) (j : Int) : (0) ≤ mu 1007 j ∧ mu 1007 j ≤ 100 := hG.1 1007 j (by decide) (by decide) (by decide) (by decide)
theorem mr_1008 {mu : Nat → Int → Int} (hG : GM mu) (j : Int) : (-1) ≤ mu 1008 j ∧ mu 1008 j ≤ 20000 := hG.1 1008 j (by decide) (by decide) (by decide) (by decide)
theorem mr_1009 {mu : Nat → Int → Int} (hG : GM mu) (j : Int) : (0) ≤ mu 1009 j ∧ mu 1009 j ≤ 1 := hG.1 1009 j (by decide) (by decide) (by decide) (by decide)
theorem mr_1010 {mu : Nat → Int → Int} (hG : GM mu) (j : Int) : (-1) ≤ mu 1010 j ∧ mu 1010 j ≤ 23 := hG.1 1010 j (by decide) (by decide) (by decide) (by decide)
theorem mr_1011 {mu : Nat → Int → Int} (hG : GM mu) (j : Int) : (0) ≤ mu 1011 j ∧ mu 1011 j ≤ 100000 := hG.1 1011 j (by decide) (by decide) (by decide) (by decide)
theorem mr_1012 {mu : Nat → Int → Int} (hG : GM mu) (j : Int) : (0) ≤ mu 1012 j ∧ mu 1012 j ≤ 100000 := hG.1 1012 j (by decide) (by decide) (by decide) (by decide)
theorem mr_1014 {mu : Nat → Int → Int} (hG : GM mu) (j : Int) : (0) ≤ mu 1014 j ∧ mu 1014 j ≤ 2 := hG.1 1014 j (by decide) (by decide) (by decide) (by decide)
theorem mr_1015 {mu : Nat → Int → Int} (hG : GM mu) (j : Int) : (0) ≤ mu 1015 j ∧ mu 1015 j ≤ 35 := hG.1 1015 j (by decide) (by decide) (by decide) (by decide)
theorem mr_1016 {mu : Nat → Int → Int} (hG : GM mu) (j : Int) : (0) ≤ mu 1016 j ∧ mu 1016 j ≤ 9 := hG.1 1016 j (by decide) (by decide) (by decide) (by decide)
theorem mr_1017 {mu : Nat → Int → Int} (hG : GM mu) (j : Int) : (0) ≤ mu 1017 j ∧ mu 1017 j ≤ 20000 := hG.1 1017 j (by decide) (by decide) (by decide) (by decide)
theorem mr_1018 {mu : Nat → Int → Int} (hG : GM mu) (j : Int) : (0) ≤ mu 1018 j ∧ mu 1018 j ≤ 100000 := hG.1 1018 j (by decide) (by decide) (by decide) (by decide)
theorem mr_1019 {mu : Nat → Int → Int} (hG : GM mu) (j : Int) : (-1) ≤ mu 1019 j ∧ mu 1019 j ≤ 20000 := hG.1 1019 j (by decide) (by decide) (by decide) (by decide)
theorem mr_1020 {mu : Nat → Int → Int} (hG : GM mu) (j : Int) : (0) ≤ mu 1020 j ∧ mu 1020 j ≤ 2 := hG.1 1020 j (by decide) (by decide) (by decide) (by decide)
theorem mr_1021 {mu : Nat → Int → Int} (hG : GM mu) (j : Int) : (0) ≤ mu 1021 j ∧ mu 1021 j ≤ 110000 := hG.1 1021 j (by decide) (by decide) (by decide) (by decide)
theorem mr_1023 {mu : Nat → Int → Int} (hG : GM mu) (j : Int) : (0) ≤ mu 1023 j ∧ mu 1023 j ≤ 110000 := hG.1 1023 j (by decide) (by decide) (by decide) (by decide)
theorem mr_1024 {mu : Nat → Int → Int} (hG : GM mu) (j : Int) : (-1) ≤ mu 1024 j ∧ mu 1024 j ≤ 20000 := hG.1 1024 j (by decide) (by decide) (by decide) (by decide)
theorem mr_1025 {mu : Nat → Int → Int} (hG : GM mu) (j : Int) : (0) ≤ mu 1025 j ∧ mu 1025 j ≤ 1 := hG.1 1025 j (by decide) (by decide) (by decide) (by decide)
theorem mr_1027 {mu : Nat → Int → Int} (hG : GM mu) (j : Int) : (0) ≤ mu 1027 j ∧ mu 1027 j ≤ 50 := hG.1 1027 j (by decide) (by decide) (by decide) (by decide)
theorem mr_1028 {mu : Nat → Int → Int} (hG : GM mu) (j : Int) : (0) ≤ mu 1028 j ∧ mu 1028 j ≤ 50 := hG.1 1028 j (by decide) (by decide) (by decide) (by decide)
theorem mr_1029 {mu : Nat → Int → Int} (hG : GM mu) (j : Int) : (0) ≤ mu 1029 j ∧ mu 1029 j ≤ 2 := hG.1 1029 j (by decide) (by decide) (by decide) (by decide)
theorem mr_1030 {mu : Nat → Int → Int} (hG : GM mu) (j : Int) : (-1) ≤ mu 1030 j ∧ mu 1030 j ≤ 20000 := hG.1 1030 j (by decide) (by decide) (by decide) (by decide)
theorem mr_1031 {mu : Nat → Int → Int} (hG : GM mu) (j : Int) : (-1) ≤ mu 1031 j ∧ mu 1031 j ≤ 20000 := hG.1 1031 j (by decide) (by decide) (by decide) (by decide)
theorem mr_1034 {mu : Nat → Int → Int} (hG : GM mu) (j : Int) : (0) ≤ mu 1034 j ∧ mu 1034 j ≤ 100 := hG.1 1034 j (by decide) (by decide) (by decide) (by decide)
theorem mh_902 {mu : Nat → Int → Int} (hG : GM mu) : mu 902 0 = 0 := by have h : (0 : Int) ≤ mu 902 0 ∧ mu 902 0 ≤ 0 := hG.1 902 0 (by decide) (by decide) (by decide) (by decide); omega
theorem mh_903 {mu : Nat → Int → Int} (hG : GM mu) : mu 903 0 = 0 := by have h : (0 : Int) ≤ mu 903 0 ∧ mu 903 0 ≤ 0 := hG.1 903 0 (by decide) (by decide) (by decide) (by decide); omega
theorem mh_904 {mu : Nat → Int → Int} (hG : GM mu) : mu 904 0 = 0 := by have h : (0 : Int) ≤ mu 904 0 ∧ mu 904 0 ≤ 0 := hG.1 904 0 (by decide) (by decide) (by decide) (by decide); omega
theorem mh_905 {mu : Nat → Int → Int} (hG : GM mu) : mu 905 0 = 0 := by have h : (0 : Int) ≤ mu 905 0 ∧ mu 905 0 ≤ 0 := hG.1 905 0 (by decide) (by decide) (by decide) (by decide); omega
theorem mh_906 {mu : Nat → Int → Int} (hG : GM mu) : mu 906 0 = 0 := by have h : (0 : Int) ≤ mu 906 0 ∧ mu 906 0 ≤ 0 := hG.1 906 0 (by decide) (by decide) (by decide) (by decide); omega
theorem mh_907 {mu : Nat → Int → Int} (hG : GM mu) : mu 907 0 = 0 := by have h : (0 : Int) ≤ mu 907 0 ∧ mu 907 0 ≤ 0 := hG.1 907 0 (by decide) (by decide) (by decide) (by decide); omega
theorem mh_908 {mu : Nat → Int → Int} (hG : GM mu) : mu 908 0 = 0 := by have h : (0 : Int) ≤ mu 908 0 ∧ mu 908 0 ≤ 0 := hG.1 908 0 (by decide) (by decide) (by decide) (by decide); omega
theorem mh_909 {mu : Nat → Int → Int} (hG : GM mu) : mu 909 0 = 0 := by have h : (0 : Int) ≤ mu 909 0 ∧ mu 909 0 ≤ 0 := hG.1 909 0 (by decide) (by decide) (by decide) (by decide); omega
theorem mh_910 {mu : Nat → Int → Int} (hG : GM mu) : mu 910 0 = 0 := by have h : (0 : Int) ≤ mu 910 0 ∧ mu 910 0 ≤ 0 := hG.1 910 0 (by decide) (by decide) (by decide) (by decide); omega
theorem mh_911 {mu : Nat → Int → Int} (hG : GM mu) : mu 911 0 = 0 := by have h : (0 : Int) ≤ mu 911 0 ∧ mu 911 0 ≤ 0 := hG.1 911 0 (by decide) (by decide) (by decide) (by decide); omega
theorem mh_912 {mu : Nat → Int → Int} (hG : GM mu) : mu 912 0 = 0 := by have h : (0 : Int) ≤ mu 912 0 ∧ mu 912 0 ≤ 0 := hG.1 912 0 (by decide) (by decide) (by decide) (by decide); omega
theorem mh_914 {mu : Nat → Int → Int} (hG : GM mu) : mu 914 0 = 0 := by have h : (0 : Int) ≤ mu 914 0 ∧ mu 914 0 ≤ 0 := hG.1 914 0 (by decide) (by decide) (by decide) (by decide); omega
theorem mh_915 {mu : Nat → Int → Int} (hG : GM mu) : mu 915 0 = 0 := by have h : (0 : Int) ≤ mu 915 0 ∧ mu 915 0 ≤ 0 := hG.1 915 0 (by decide) (by decide) (by decide) (by decide); omega
theorem mh_916 {mu : Nat → Int → Int} (hG : GM mu) : mu 916 0 = 0 := by have h : (0 : Int) ≤ mu 916 0 ∧ mu 916 0 ≤ 0 := hG.1 916 0 (by decide) (by decide) (by decide) (by decide); omega
theorem mh_917 {mu : Nat → Int → Int} (hG : GM mu) : mu 917 0 = 0 := by have h : (0 : Int) ≤ mu 917 0 ∧ mu 917 0 ≤ 0 := hG.1 917 0 (by decide) (by decide) (by decide) (by decide); omega
theorem mh_918 {mu : Nat → Int → Int} (hG : GM mu) : mu 918 0 = 0 := by have h : (0 : Int) ≤ mu 918 0 ∧ mu 918 0 ≤ 0 := hG.1 918 0 (by decide) (by decide) (by decide) (by decide); omega
theorem mh_919 {mu : Nat → Int → Int} (hG : GM mu) : mu 919 0 = 0 := by have h : (0 : Int) ≤ mu 919 0 ∧ mu 919 0 ≤ 0 := hG.1 919 0 (by decide) (by decide) (by decide) (by decide); omega
theorem mh_920 {mu : Nat → Int → Int} (hG : GM mu) : mu 920 0 = 0 := by have h : (0 : Int) ≤ mu 920 0 ∧ mu 920 0 ≤ 0 := hG.1 920 0 (by decide) (by decide) (by decide) (by decide); omega
theorem mh_921 {mu : Nat → Int → Int} (hG : GM mu) : mu 921 0 = 0 := by have h : (0 : Int) ≤ mu 921 0 ∧ mu 921 0 ≤ 0 := hG.1 921 0 (by decide) (by decide) (by decide) (by decide); omega
theorem mh_922 {mu : Nat → Int → Int} (hG : GM mu) : mu 922 0 = 0 := by have h : (0 : Int) ≤ mu 922 0 ∧ mu 922 0 ≤ 0 := hG.1 922 0 (by decide) (by decide) (by decide) (by decide); omega
theorem mh_923 {mu : Nat → Int → Int} (hG : GM mu) : mu 923 0 = 0 := by have h : (0 : Int) ≤ mu 923 0 ∧ mu 923 0 ≤ 0 := hG.1 923 0 (by decide) (by decide) (by decide) (by decide); omega
theorem mh_924 {mu : Nat → Int → Int} (hG : GM mu) : mu 924 0 = 0 := by have h : (0 : Int) ≤ mu 924 0 ∧ mu 924 0 ≤ 0 := hG.1 924 0 (by decide) (by decide) (by decide) (by decide); omega
theorem mh_925 {mu : Nat → Int → Int} (hG : GM mu) : mu 925 0 = 0 := by have h : (0 : Int) ≤ mu 925 0 ∧ mu 925 0 ≤ 0 := hG.1 925 0 (by decide) (by decide) (by decide) (by decide); omega
theorem mh_927 {mu : Nat → Int → Int} (hG : GM mu) : mu 927 0 = 0 := by have h : (0 : Int) ≤ mu 927 0 ∧ mu 927 0 ≤ 0 := hG.1 927 0 (by decide) (by decide) (by decide) (by decide); omega
theorem mh_928 {mu : Nat → Int → Int} (hG : GM mu) : mu 928 0 = 0 := by have h : (0 : Int) ≤ mu 928 0 ∧ mu 928 0 ≤ 0 := hG.1 928 0 (by decide) (by decide) (by decide) (by decide); omega
theorem mh_929 {mu : Nat → Int → Int} (hG : GM mu) : mu 929 0 = 0 := by have h : (0 : Int) ≤ mu 929 0 ∧ mu 929 0 ≤ 0 := hG.1 929 0 (by decide) (by decide) (by decide) (by decide); omega
theorem mh_930 {mu : Nat → Int → Int} (hG : GM mu) : mu 930 0 = 0 := by have h : (0 : Int) ≤ mu 930 0 ∧ mu 930 0 ≤ 0 := hG.1 930 0 (by decide) (by decide) (by decide) (by decide); omega
theorem mh_931 {mu : Nat → Int → Int} (hG : GM mu) : mu 931 0 = 0 := by have h : (0 : Int) ≤ mu 931 0 ∧ mu 931 0 ≤ 0 := hG.1 931 0 (by decide) (by decide) (by decide) (by decide); omega
theorem mh_934 {mu : Nat → Int → Int} (hG : GM mu) : mu 934 0 = 0 := by have h : (0 : Int) ≤ mu 934 0 ∧ mu 934 0 ≤ 0 := hG.1 934 0 (by decide) (by decide) (by decide) (by decide); omega
theorem mm_18 {mu : Nat → Int → Int} (hG : GM mu) (i : Int) : mu 1014 i = 0 → mu 1018 i ≤ 100 := hG.2.2 i
theorem gm_rng {mu : Nat → Int → Int} {f : Nat} {j v : Int} (h : MRng mu) (hv : loM f ≤ v ∧ v ≤ hiM f) : MRng (st mu f j v) := by
  intro f' j' h1 h2 h3 h4
  unfold st
  split
  · rename_i z; rw [z.1]; exact hv
  · exact h f' j' h1 h2 h3 h4
theorem gc_900 {mu : Nat → Int → Int} (hG : GM mu) (j : Int) {v : Int} (hv : (0) ≤ v ∧ v ≤ 3) : GM (st mu 900 j v) := ⟨gm_rng hG.1 hv, hG.2.1, hG.2.2⟩
theorem gc_901 {mu : Nat → Int → Int} (hG : GM mu) (j : Int) {v : Int} (hv : (0) ≤ v ∧ v ≤ 20000) : GM (st mu 901 j v) := ⟨gm_rng hG.1 hv, hG.2.1, hG.2.2⟩
theorem gc_913 {mu : Nat → Int → Int} (hG : GM mu) (j : Int) {v : Int} (hv : (0) ≤ v ∧ v ≤ 24) : GM (st mu 913 j v) := ⟨gm_rng hG.1 hv, hG.2.1, hG.2.2⟩
theorem gc_926 {mu : Nat → Int → Int} (hG : GM mu) (j : Int) {v : Int} (hv : (0) ≤ v ∧ v ≤ 4) : GM (st mu 926 j v) := ⟨gm_rng hG.1 hv, hG.2.1, hG.2.2⟩
theorem gc_1002 {mu : Nat → Int → Int} (hG : GM mu) (j : Int) {v : Int} (hv : (0) ≤ v ∧ v ≤ 1000) : GM (st mu 1002 j v) := ⟨gm_rng hG.1 hv, hG.2.1, hG.2.2⟩
theorem gc_1003 {mu : Nat → Int → Int} (hG : GM mu) (j : Int) {v : Int} (hv : (0) ≤ v ∧ v ≤ 100) : GM (st mu 1003 j v) := ⟨gm_rng hG.1 hv, hG.2.1, hG.2.2⟩
theorem gc_1004 {mu : Nat → Int → Int} (hG : GM mu) (j : Int) {v : Int} (hv : (0) ≤ v ∧ v ≤ 2) : GM (st mu 1004 j v) := ⟨gm_rng hG.1 hv, hG.2.1, hG.2.2⟩
theorem gc_1005 {mu : Nat → Int → Int} (hG : GM mu) (j : Int) {v : Int} (hv : (0) ≤ v ∧ v ≤ 2) : GM (st mu 1005 j v) := ⟨gm_rng hG.1 hv, hG.2.1, hG.2.2⟩
theorem gc_1006 {mu : Nat → Int → Int} (hG : GM mu) (j : Int) {v : Int} (hv : (-1) ≤ v ∧ v ≤ 3) : GM (st mu 1006 j v) := ⟨gm_rng hG.1 hv, hG.2.1, hG.2.2⟩
theorem gc_1007 {mu : Nat → Int → Int} (hG : GM mu) (j : Int) {v : Int} (hv : (0) ≤ v ∧ v ≤ 100) : GM (st mu 1007 j v) := ⟨gm_rng hG.1 hv, hG.2.1, hG.2.2⟩
theorem gc_1008 {mu : Nat → Int → Int} (hG : GM mu) (j : Int) {v : Int} (hv : (-1) ≤ v ∧ v ≤ 20000) : GM (st mu 1008 j v) := ⟨gm_rng hG.1 hv, hG.2.1, hG.2.2⟩
theorem gc_1009 {mu : Nat → Int → Int} (hG : GM mu) (j : Int) {v : Int} (hv : (0) ≤ v ∧ v ≤ 1) : GM (st mu 1009 j v) := ⟨gm_rng hG.1 hv, hG.2.1, hG.2.2⟩
theorem gc_1010 {mu : Nat → Int → Int} (hG : GM mu) (j : Int) {v : Int} (hv : (-1) ≤ v ∧ v ≤ 23) : GM (st mu 1010 j v) := ⟨gm_rng hG.1 hv, hG.2.1, hG.2.2⟩
theorem gc_1011 {mu : Nat → Int → Int} (hG : GM mu) (j : Int) {v : Int} (hv : (0) ≤ v ∧ v ≤ 100000) : GM (st mu 1011 j v) := ⟨gm_rng hG.1 hv, hG.2.1, hG.2.2⟩
theorem gc_1012 {mu : Nat → Int → Int} (hG : GM mu) (j : Int) {v : Int} (hv : (0) ≤ v ∧ v ≤ 100000) : GM (st mu 1012 j v) := ⟨gm_rng hG.1 hv, hG.2.1, hG.2.2⟩
theorem gc_1015 {mu : Nat → Int → Int} (hG : GM mu) (j : Int) {v : Int} (hv : (0) ≤ v ∧ v ≤ 35) : GM (st mu 1015 j v) := ⟨gm_rng hG.1 hv, hG.2.1, hG.2.2⟩
theorem gc_1016 {mu : Nat → Int → Int} (hG : GM mu) (j : Int) {v : Int} (hv : (0) ≤ v ∧ v ≤ 9) : GM (st mu 1016 j v) := ⟨gm_rng hG.1 hv, hG.2.1, hG.2.2⟩
theorem gc_1017 {mu : Nat → Int → Int} (hG : GM mu) (j : Int) {v : Int} (hv : (0) ≤ v ∧ v ≤ 20000) : GM (st mu 1017 j v) := ⟨gm_rng hG.1 hv, hG.2.1, hG.2.2⟩
theorem gc_1019 {mu : Nat → Int → Int} (hG : GM mu) (j : Int) {v : Int} (hv : (-1) ≤ v ∧ v ≤ 20000) : GM (st mu 1019 j v) := ⟨gm_rng hG.1 hv, hG.2.1, hG.2.2⟩
theorem gc_1020 {mu : Nat → Int → Int} (hG : GM mu) (j : Int) {v : Int} (hv : (0) ≤ v ∧ v ≤ 2) : GM (st mu 1020 j v) := ⟨gm_rng hG.1 hv, hG.2.1, hG.2.2⟩
theorem gc_1021 {mu : Nat → Int → Int} (hG : GM mu) (j : Int) {v : Int} (hv : (0) ≤ v ∧ v ≤ 110000) : GM (st mu 1021 j v) := ⟨gm_rng hG.1 hv, hG.2.1, hG.2.2⟩
theorem gc_1023 {mu : Nat → Int → Int} (hG : GM mu) (j : Int) {v : Int} (hv : (0) ≤ v ∧ v ≤ 110000) : GM (st mu 1023 j v) := ⟨gm_rng hG.1 hv, hG.2.1, hG.2.2⟩
theorem gc_1024 {mu : Nat → Int → Int} (hG : GM mu) (j : Int) {v : Int} (hv : (-1) ≤ v ∧ v ≤ 20000) : GM (st mu 1024 j v) := ⟨gm_rng hG.1 hv, hG.2.1, hG.2.2⟩
theorem gc_1025 {mu : Nat → Int → Int} (hG : GM mu) (j : Int) {v : Int} (hv : (0) ≤ v ∧ v ≤ 1) : GM (st mu 1025 j v) := ⟨gm_rng hG.1 hv, hG.2.1, hG.2.2⟩
theorem gc_1027 {mu : Nat → Int → Int} (hG : GM mu) (j : Int) {v : Int} (hv : (0) ≤ v ∧ v ≤ 50) : GM (st mu 1027 j v) := ⟨gm_rng hG.1 hv, hG.2.1, hG.2.2⟩
theorem gc_1028 {mu : Nat → Int → Int} (hG : GM mu) (j : Int) {v : Int} (hv : (0) ≤ v ∧ v ≤ 50) : GM (st mu 1028 j v) := ⟨gm_rng hG.1 hv, hG.2.1, hG.2.2⟩
theorem gc_1029 {mu : Nat → Int → Int} (hG : GM mu) (j : Int) {v : Int} (hv : (0) ≤ v ∧ v ≤ 2) : GM (st mu 1029 j v) := ⟨gm_rng hG.1 hv, hG.2.1, hG.2.2⟩
theorem gc_1030 {mu : Nat → Int → Int} (hG : GM mu) (j : Int) {v : Int} (hv : (-1) ≤ v ∧ v ≤ 20000) : GM (st mu 1030 j v) := ⟨gm_rng hG.1 hv, hG.2.1, hG.2.2⟩
theorem gc_1031 {mu : Nat → Int → Int} (hG : GM mu) (j : Int) {v : Int} (hv : (-1) ≤ v ∧ v ≤ 20000) : GM (st mu 1031 j v) := ⟨gm_rng hG.1 hv, hG.2.1, hG.2.2⟩
theorem gc_1034 {mu : Nat → Int → Int} (hG : GM mu) (j : Int) {v : Int} (hv : (0) ≤ v ∧ v ≤ 100) : GM (st mu 1034 j v) := ⟨gm_rng hG.1 hv, hG.2.1, hG.2.2⟩
theorem gc_932 {mu : Nat → Int → Int} (hG : GM mu) (j : Int) {v : Int} (_ : True) : GM (st mu 932 j v) := ⟨fun f' j' h1 h2 h3 h4 => by rw [st_f (by omega)]; exact hG.1 f' j' h1 h2 h3 h4, hG.2.1, hG.2.2⟩
theorem gc_933 {mu : Nat → Int → Int} (hG : GM mu) (j : Int) {v : Int} (_ : True) : GM (st mu 933 j v) := ⟨fun f' j' h1 h2 h3 h4 => by rw [st_f (by omega)]; exact hG.1 f' j' h1 h2 h3 h4, hG.2.1, hG.2.2⟩
theorem gc_1022 {mu : Nat → Int → Int} (hG : GM mu) (j : Int) {v : Int} (_ : True) : GM (st mu 1022 j v) := ⟨fun f' j' h1 h2 h3 h4 => by rw [st_f (by omega)]; exact hG.1 f' j' h1 h2 h3 h4, hG.2.1, hG.2.2⟩

