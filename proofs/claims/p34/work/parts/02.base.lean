/-! whole numbers behind the machine's ints and longs -/
def iI (x : Int) : Int32 := Int32.ofInt x
def lI (x : Int) : Int64 := Int64.ofInt x
abbrev in32 (x : Int) : Prop := -2147483648 ≤ x ∧ x < 2147483648
abbrev in64 (x : Int) : Prop := -9223372036854775808 ≤ x ∧ x < 9223372036854775808
theorem iI_toInt {x : Int} (h : in32 x) : (iI x).toInt = x := Int32.toInt_ofInt_of_le h.1 h.2
theorem lI_toInt {x : Int} (h : in64 x) : (lI x).toInt = x := Int64.toInt_ofInt_of_le h.1 h.2
theorem iI_self (x : Int32) : iI x.toInt = x := Int32.ofInt_toInt x
theorem iI_in (x : Int32) : in32 x.toInt := ⟨Int32.le_toInt x, Int32.toInt_lt x⟩
theorem iI_add (a b : Int) : iI a + iI b = iI (a + b) := (Int32.ofInt_add a b).symm
theorem iI_sub (a b : Int) : iI a - iI b = iI (a - b) := (Int32.ofInt_sub a b).symm
theorem iI_mul (a b : Int) : iI a * iI b = iI (a * b) := (Int32.ofInt_mul a b).symm
theorem lI_add (a b : Int) : lI a + lI b = lI (a + b) := (Int64.ofInt_add a b).symm
theorem lI_sub (a b : Int) : lI a - lI b = lI (a - b) := (Int64.ofInt_sub a b).symm
theorem lI_mul (a b : Int) : lI a * lI b = lI (a * b) := (Int64.ofInt_mul a b).symm
theorem iI_div {a b : Int} (ha : 0 ≤ a ∧ a < 2147483648) (hb : 0 < b ∧ b < 2147483648) : iI a / iI b = iI (a / b) := by
  rw [← Int.tdiv_eq_ediv_of_nonneg ha.1]
  exact (Int32.ofInt_tdiv (by show (-2147483648 : Int) ≤ a; omega) (by show a ≤ (2147483647 : Int); omega) (by show (-2147483648 : Int) ≤ b; omega) (by show b ≤ (2147483647 : Int); omega)).symm
theorem lI_div {a b : Int} (ha : 0 ≤ a ∧ a < 9223372036854775808) (hb : 0 < b ∧ b < 9223372036854775808) : lI a / lI b = lI (a / b) := by
  rw [← Int.tdiv_eq_ediv_of_nonneg ha.1]
  exact (Int64.ofInt_tdiv (by show (-9223372036854775808 : Int) ≤ a; omega) (by show a ≤ (9223372036854775807 : Int); omega) (by show (-9223372036854775808 : Int) ≤ b; omega) (by show b ≤ (9223372036854775807 : Int); omega)).symm
theorem iI_lI {a : Int} (h : in32 a) : (iI a).toInt64 = lI a := Int32.toInt64_ofInt (by show (-2147483648 : Int) ≤ a; omega) (by show a ≤ (2147483647 : Int); omega)
theorem lI_iI (a : Int) : (lI a).toInt32 = iI a := Int64.toInt32_ofInt
theorem iI_inj {a b : Int} (ha : in32 a) (hb : in32 b) : iI a = iI b ↔ a = b := ⟨fun h => by rw [← iI_toInt ha, ← iI_toInt hb, h], fun h => by rw [h]⟩
theorem lI_inj {a b : Int} (ha : in64 a) (hb : in64 b) : lI a = lI b ↔ a = b := ⟨fun h => by rw [← lI_toInt ha, ← lI_toInt hb, h], fun h => by rw [h]⟩
theorem iI_lt {a b : Int} (ha : in32 a) (hb : in32 b) : iI a < iI b ↔ a < b := by rw [Int32.lt_iff_toInt_lt, iI_toInt ha, iI_toInt hb]
theorem iI_le {a b : Int} (ha : in32 a) (hb : in32 b) : iI a ≤ iI b ↔ a ≤ b := by rw [Int32.le_iff_toInt_le, iI_toInt ha, iI_toInt hb]
theorem lI_lt {a b : Int} (ha : in64 a) (hb : in64 b) : lI a < lI b ↔ a < b := by rw [Int64.lt_iff_toInt_lt, lI_toInt ha, lI_toInt hb]
theorem iI_0 : iI 0 = 0 := rfl
theorem in32_0 : in32 0 := ⟨by decide, by decide⟩
theorem iI_clamp {a : Int} (h : in32 a) : (iI a).toNatClampNeg = a.toNat := Int32.toNatClampNeg_ofInt_of_le h.1 h.2
theorem iI_vin {a : Int} {n : Nat} (h : 0 ≤ a ∧ a < n) (hn : n < 2147483648) : vp_in (iI a) n := by
  have h32 : in32 a := ⟨by omega, by omega⟩
  rw [vp_in_iff, iI_toInt h32]; exact h
theorem iI_arr (a : Nat) : Nat.toInt32 a = iI (a : Int) := Int32.ofInt_eq_ofNat.symm
/-- a truth value as the machine has it -/
noncomputable def bI (P : Prop) : Int := @ite Int P (Classical.propDecidable P) 1 0
theorem bI_t {P : Prop} (h : P) : bI P = 1 := if_pos h
theorem bI_f {P : Prop} (h : ¬ P) : bI P = 0 := if_neg h
theorem bI_cases (P : Prop) : (P ∧ bI P = 1) ∨ (¬ P ∧ bI P = 0) := (Classical.em P).elim (fun h => Or.inl ⟨h, bI_t h⟩) (fun h => Or.inr ⟨h, bI_f h⟩)
theorem bI_in (P : Prop) : 0 ≤ bI P ∧ bI P ≤ 1 := by rcases bI_cases P with ⟨-, h⟩ | ⟨-, h⟩ <;> rw [h] <;> decide
theorem bI_1 {P : Prop} : bI P = 1 ↔ P := ⟨fun h => by rcases bI_cases P with ⟨q, -⟩ | ⟨-, q⟩; exact q; rw [q] at h; exact absurd h (by decide), bI_t⟩
theorem bI_0 {P : Prop} : bI P = 0 ↔ ¬ P := ⟨fun h => by rcases bI_cases P with ⟨-, q⟩ | ⟨q, -⟩; rw [q] at h; exact absurd h (by decide); exact q, bI_f⟩
theorem bI_eq {P : Prop} {b : Int} (h : (P → b = 1) ∧ (¬ P → b = 0)) : bI P = b := by rcases bI_cases P with ⟨p, q⟩ | ⟨p, q⟩; rw [q, h.1 p]; rw [q, h.2 p]
/-- a reference by its number: below 0 it is null -/
def ro (f : Int → Nat) (v : Int) : Option Nat := if v < 0 then none else some (f v)
def rv (f : Int → Nat) (v : Int) : Value := va_rf (ro f v)
theorem rv_n {f : Int → Nat} {v : Int} (h : v < 0) : rv f v = .null := by unfold rv ro; rw [if_pos h]; rfl
theorem rv_p {f : Int → Nat} {v : Int} (h : 0 ≤ v) : rv f v = .ref (f v) := by unfold rv ro; rw [if_neg (by omega)]; rfl
theorem rv_cat (f : Int → Nat) (v : Int) : (rv f v).category = 1 := by unfold rv; cases ro f v <;> rfl
theorem rv_ret (f : Int → Nat) (v : Int) : rv f v = .null ∨ ∃ a, rv f v = .ref a := by unfold rv; cases ro f v <;> simp [va_rf]
theorem rv_fit (f : Int → Nat) (v : Int) (n : String) : narrow (.object n) (rv f v) = rv f v ∧ fits (.object n) (rv f v) = true := by unfold rv; cases ro f v <;> exact ⟨rfl, rfl⟩

section XB
variable {p : Program} {l : Launch} {e : Env} {R : Room} {s : State} {m : MethodId} {args : Array Value} {below : List Frame} {meth : Method} {c : Code} {H : Heap} {locs : List Loc} {cells slots : Nat} {Q : State → Prop}
variable {cc : ByteArray} {pc : Nat} {ls : Array Slot} {rest : List Value}
theorem xr_iadd (hexec : p.tables.exec = Jvm.exec) (hb : c.code = cc) {a b : Int} (d : decode cc pc = .ok (.iadd, 1)) (k : W p l e R s m args below meth c H locs cells slots Q (F0 m (pc + 1) ls (.int (iI (a + b)) :: rest))) : W p l e R s m args below meth c H locs cells slots Q (F0 m pc ls (.int (iI b) :: .int (iI a) :: rest)) := by
  refine lv_iadd hexec hb d ?_
  rw [iI_add]
  exact k
theorem xr_isub (hexec : p.tables.exec = Jvm.exec) (hb : c.code = cc) {a b : Int} (d : decode cc pc = .ok (.isub, 1)) (k : W p l e R s m args below meth c H locs cells slots Q (F0 m (pc + 1) ls (.int (iI (a - b)) :: rest))) : W p l e R s m args below meth c H locs cells slots Q (F0 m pc ls (.int (iI b) :: .int (iI a) :: rest)) := by
  refine lv_isub hexec hb d ?_
  rw [iI_sub]
  exact k
theorem xr_imul (hexec : p.tables.exec = Jvm.exec) (hb : c.code = cc) {a b : Int} (d : decode cc pc = .ok (.imul, 1)) (k : W p l e R s m args below meth c H locs cells slots Q (F0 m (pc + 1) ls (.int (iI (a * b)) :: rest))) : W p l e R s m args below meth c H locs cells slots Q (F0 m pc ls (.int (iI b) :: .int (iI a) :: rest)) := by
  refine lv_imul hexec hb d ?_
  rw [iI_mul]
  exact k
theorem xr_idiv (hexec : p.tables.exec = Jvm.exec) (hb : c.code = cc) {a b : Int} (d : decode cc pc = .ok (.idiv, 1)) (ha : 0 ≤ a ∧ a < 2147483648) (hq : 0 < b ∧ b < 2147483648) (k : W p l e R s m args below meth c H locs cells slots Q (F0 m (pc + 1) ls (.int (iI (a / b)) :: rest))) : W p l e R s m args below meth c H locs cells slots Q (F0 m pc ls (.int (iI b) :: .int (iI a) :: rest)) := by
  refine lv_idiv hexec hb d (fun h => ?_) ?_
  · have h0 : iI b = iI 0 := h
    have h1 := (iI_inj ⟨by omega, by omega⟩ ⟨by decide, by decide⟩).mp h0
    omega
  · rw [iI_div ha hq]; exact k
theorem xr_ladd (hexec : p.tables.exec = Jvm.exec) (hb : c.code = cc) {a b : Int} (d : decode cc pc = .ok (.ladd, 1)) (k : W p l e R s m args below meth c H locs cells slots Q (F0 m (pc + 1) ls (.long (lI (a + b)) :: rest))) : W p l e R s m args below meth c H locs cells slots Q (F0 m pc ls (.long (lI b) :: .long (lI a) :: rest)) := by
  refine lv_ladd hexec hb d ?_
  rw [lI_add]
  exact k
theorem xr_lsub (hexec : p.tables.exec = Jvm.exec) (hb : c.code = cc) {a b : Int} (d : decode cc pc = .ok (.lsub, 1)) (k : W p l e R s m args below meth c H locs cells slots Q (F0 m (pc + 1) ls (.long (lI (a - b)) :: rest))) : W p l e R s m args below meth c H locs cells slots Q (F0 m pc ls (.long (lI b) :: .long (lI a) :: rest)) := by
  refine lv_lsub hexec hb d ?_
  rw [lI_sub]
  exact k
theorem xr_lmul (hexec : p.tables.exec = Jvm.exec) (hb : c.code = cc) {a b : Int} (d : decode cc pc = .ok (.lmul, 1)) (k : W p l e R s m args below meth c H locs cells slots Q (F0 m (pc + 1) ls (.long (lI (a * b)) :: rest))) : W p l e R s m args below meth c H locs cells slots Q (F0 m pc ls (.long (lI b) :: .long (lI a) :: rest)) := by
  refine lv_lmul hexec hb d ?_
  rw [lI_mul]
  exact k
theorem xr_ldiv (hexec : p.tables.exec = Jvm.exec) (hb : c.code = cc) {a b : Int} (d : decode cc pc = .ok (.ldiv, 1)) (ha : 0 ≤ a ∧ a < 9223372036854775808) (hq : 0 < b ∧ b < 9223372036854775808) (k : W p l e R s m args below meth c H locs cells slots Q (F0 m (pc + 1) ls (.long (lI (a / b)) :: rest))) : W p l e R s m args below meth c H locs cells slots Q (F0 m pc ls (.long (lI b) :: .long (lI a) :: rest)) := by
  refine lv_ldiv hexec hb d (fun h => ?_) ?_
  · have h0 : lI b = lI 0 := h
    have h1 := (lI_inj ⟨by omega, by omega⟩ ⟨by decide, by decide⟩).mp h0
    omega
  · rw [lI_div ha hq]; exact k
theorem xr_irem (hexec : p.tables.exec = Jvm.exec) (hb : c.code = cc) {a b : Int} (d : decode cc pc = .ok (.irem, 1)) (ha : 0 ≤ a ∧ a < 2147483648) (hq : 0 < b ∧ b < 2147483648) (k : W p l e R s m args below meth c H locs cells slots Q (F0 m (pc + 1) ls (.int (iI (a % b)) :: rest))) : W p l e R s m args below meth c H locs cells slots Q (F0 m pc ls (.int (iI b) :: .int (iI a) :: rest)) := by
  refine lv_irem hexec hb d (fun h => ?_) ?_
  · have h0 : iI b = iI 0 := h
    have h1 := (iI_inj ⟨by omega, by omega⟩ ⟨by decide, by decide⟩).mp h0
    omega
  · rw [iI_div ha hq, iI_mul, iI_sub, show a - a / b * b = a % b by rw [Int.emod_def, Int.mul_comm]]; exact k
theorem xr_i2l (hexec : p.tables.exec = Jvm.exec) (hb : c.code = cc) {a : Int} (d : decode cc pc = .ok (.i2l, 1)) (ha : in32 a) (k : W p l e R s m args below meth c H locs cells slots Q (F0 m (pc + 1) ls (.long (lI a) :: rest))) : W p l e R s m args below meth c H locs cells slots Q (F0 m pc ls (.int (iI a) :: rest)) := by
  exact lv_i2l hexec hb d (iI_lI ha) k
theorem xr_l2i (hexec : p.tables.exec = Jvm.exec) (hb : c.code = cc) {a : Int} (d : decode cc pc = .ok (.l2i, 1)) (k : W p l e R s m args below meth c H locs cells slots Q (F0 m (pc + 1) ls (.int (iI a) :: rest))) : W p l e R s m args below meth c H locs cells slots Q (F0 m pc ls (.long (lI a) :: rest)) := by
  exact lv_l2i hexec hb d (lI_iI a) k
theorem xr_icmp_eq (hexec : p.tables.exec = Jvm.exec) (hb : c.code = cc) {a b : Int} {off : Int} {tgt : Nat} (d : decode cc pc = .ok (.if_icmp .eq off, 3)) (ht : (pc : Int) + off = (tgt : Int)) (ha : in32 a) (hq : in32 b) (k1 : a = b → W p l e R s m args below meth c H locs cells slots Q (F0 m tgt ls rest)) (k2 : a ≠ b → W p l e R s m args below meth c H locs cells slots Q (F0 m (pc + 3) ls rest)) : W p l e R s m args below meth c H locs cells slots Q (F0 m pc ls (.int (iI b) :: .int (iI a) :: rest)) := by
  refine lv_icmp_eq hexec hb d ht (fun h => k1 ?_) (fun h => k2 ?_)
  · have h1 := (iI_inj ha hq).mp h; omega
  · have h1 := (not_congr (iI_inj ha hq)).mp h; omega
theorem xr_if_eq (hexec : p.tables.exec = Jvm.exec) (hb : c.code = cc) {a : Int} {off : Int} {tgt : Nat} (d : decode cc pc = .ok (.ifCond .eq off, 3)) (ht : (pc : Int) + off = (tgt : Int)) (ha : in32 a) (k1 : a = 0 → W p l e R s m args below meth c H locs cells slots Q (F0 m tgt ls rest)) (k2 : a ≠ 0 → W p l e R s m args below meth c H locs cells slots Q (F0 m (pc + 3) ls rest)) : W p l e R s m args below meth c H locs cells slots Q (F0 m pc ls (.int (iI a) :: rest)) := by
  have hq : in32 0 := in32_0
  refine lv_if_eq hexec hb d ht (fun h => k1 ?_) (fun h => k2 ?_)
  · have h1 := (iI_inj ha (in32_0)).mp (iI_0 ▸ h); omega
  · have h1 := (not_congr (iI_inj ha (in32_0))).mp (iI_0 ▸ h); omega
theorem xr_icmp_ne (hexec : p.tables.exec = Jvm.exec) (hb : c.code = cc) {a b : Int} {off : Int} {tgt : Nat} (d : decode cc pc = .ok (.if_icmp .ne off, 3)) (ht : (pc : Int) + off = (tgt : Int)) (ha : in32 a) (hq : in32 b) (k1 : a ≠ b → W p l e R s m args below meth c H locs cells slots Q (F0 m tgt ls rest)) (k2 : a = b → W p l e R s m args below meth c H locs cells slots Q (F0 m (pc + 3) ls rest)) : W p l e R s m args below meth c H locs cells slots Q (F0 m pc ls (.int (iI b) :: .int (iI a) :: rest)) := by
  refine lv_icmp_ne hexec hb d ht (fun h => k1 ?_) (fun h => k2 ?_)
  · have h1 := (not_congr (iI_inj ha hq)).mp h; omega
  · have h1 := (iI_inj ha hq).mp h; omega
theorem xr_if_ne (hexec : p.tables.exec = Jvm.exec) (hb : c.code = cc) {a : Int} {off : Int} {tgt : Nat} (d : decode cc pc = .ok (.ifCond .ne off, 3)) (ht : (pc : Int) + off = (tgt : Int)) (ha : in32 a) (k1 : a ≠ 0 → W p l e R s m args below meth c H locs cells slots Q (F0 m tgt ls rest)) (k2 : a = 0 → W p l e R s m args below meth c H locs cells slots Q (F0 m (pc + 3) ls rest)) : W p l e R s m args below meth c H locs cells slots Q (F0 m pc ls (.int (iI a) :: rest)) := by
  have hq : in32 0 := in32_0
  refine lv_if_ne hexec hb d ht (fun h => k1 ?_) (fun h => k2 ?_)
  · have h1 := (not_congr (iI_inj ha (in32_0))).mp (iI_0 ▸ h); omega
  · have h1 := (iI_inj ha (in32_0)).mp (iI_0 ▸ h); omega
theorem xr_icmp_lt (hexec : p.tables.exec = Jvm.exec) (hb : c.code = cc) {a b : Int} {off : Int} {tgt : Nat} (d : decode cc pc = .ok (.if_icmp .lt off, 3)) (ht : (pc : Int) + off = (tgt : Int)) (ha : in32 a) (hq : in32 b) (k1 : a < b → W p l e R s m args below meth c H locs cells slots Q (F0 m tgt ls rest)) (k2 : b ≤ a → W p l e R s m args below meth c H locs cells slots Q (F0 m (pc + 3) ls rest)) : W p l e R s m args below meth c H locs cells slots Q (F0 m pc ls (.int (iI b) :: .int (iI a) :: rest)) := by
  refine lv_icmp_lt hexec hb d ht (fun h => k1 ?_) (fun h => k2 ?_)
  · have h1 := (iI_lt ha hq).mp h; omega
  · have h1 := (not_congr (iI_lt ha hq)).mp h; omega
theorem xr_if_lt (hexec : p.tables.exec = Jvm.exec) (hb : c.code = cc) {a : Int} {off : Int} {tgt : Nat} (d : decode cc pc = .ok (.ifCond .lt off, 3)) (ht : (pc : Int) + off = (tgt : Int)) (ha : in32 a) (k1 : a < 0 → W p l e R s m args below meth c H locs cells slots Q (F0 m tgt ls rest)) (k2 : 0 ≤ a → W p l e R s m args below meth c H locs cells slots Q (F0 m (pc + 3) ls rest)) : W p l e R s m args below meth c H locs cells slots Q (F0 m pc ls (.int (iI a) :: rest)) := by
  have hq : in32 0 := in32_0
  refine lv_if_lt hexec hb d ht (fun h => k1 ?_) (fun h => k2 ?_)
  · have h1 := (iI_lt ha (in32_0)).mp (iI_0 ▸ h); omega
  · have h1 := (not_congr (iI_lt ha (in32_0))).mp (iI_0 ▸ h); omega
theorem xr_icmp_ge (hexec : p.tables.exec = Jvm.exec) (hb : c.code = cc) {a b : Int} {off : Int} {tgt : Nat} (d : decode cc pc = .ok (.if_icmp .ge off, 3)) (ht : (pc : Int) + off = (tgt : Int)) (ha : in32 a) (hq : in32 b) (k1 : b ≤ a → W p l e R s m args below meth c H locs cells slots Q (F0 m tgt ls rest)) (k2 : a < b → W p l e R s m args below meth c H locs cells slots Q (F0 m (pc + 3) ls rest)) : W p l e R s m args below meth c H locs cells slots Q (F0 m pc ls (.int (iI b) :: .int (iI a) :: rest)) := by
  refine lv_icmp_ge hexec hb d ht (fun h => k1 ?_) (fun h => k2 ?_)
  · have h1 := (iI_le hq ha).mp h; omega
  · have h1 := (not_congr (iI_le hq ha)).mp h; omega
theorem xr_if_ge (hexec : p.tables.exec = Jvm.exec) (hb : c.code = cc) {a : Int} {off : Int} {tgt : Nat} (d : decode cc pc = .ok (.ifCond .ge off, 3)) (ht : (pc : Int) + off = (tgt : Int)) (ha : in32 a) (k1 : 0 ≤ a → W p l e R s m args below meth c H locs cells slots Q (F0 m tgt ls rest)) (k2 : a < 0 → W p l e R s m args below meth c H locs cells slots Q (F0 m (pc + 3) ls rest)) : W p l e R s m args below meth c H locs cells slots Q (F0 m pc ls (.int (iI a) :: rest)) := by
  have hq : in32 0 := in32_0
  refine lv_if_ge hexec hb d ht (fun h => k1 ?_) (fun h => k2 ?_)
  · have h1 := (iI_le (in32_0) ha).mp (iI_0 ▸ h); omega
  · have h1 := (not_congr (iI_le (in32_0) ha)).mp (iI_0 ▸ h); omega
theorem xr_icmp_gt (hexec : p.tables.exec = Jvm.exec) (hb : c.code = cc) {a b : Int} {off : Int} {tgt : Nat} (d : decode cc pc = .ok (.if_icmp .gt off, 3)) (ht : (pc : Int) + off = (tgt : Int)) (ha : in32 a) (hq : in32 b) (k1 : b < a → W p l e R s m args below meth c H locs cells slots Q (F0 m tgt ls rest)) (k2 : a ≤ b → W p l e R s m args below meth c H locs cells slots Q (F0 m (pc + 3) ls rest)) : W p l e R s m args below meth c H locs cells slots Q (F0 m pc ls (.int (iI b) :: .int (iI a) :: rest)) := by
  refine lv_icmp_gt hexec hb d ht (fun h => k1 ?_) (fun h => k2 ?_)
  · have h1 := (iI_lt hq ha).mp h; omega
  · have h1 := (not_congr (iI_lt hq ha)).mp h; omega
theorem xr_if_gt (hexec : p.tables.exec = Jvm.exec) (hb : c.code = cc) {a : Int} {off : Int} {tgt : Nat} (d : decode cc pc = .ok (.ifCond .gt off, 3)) (ht : (pc : Int) + off = (tgt : Int)) (ha : in32 a) (k1 : 0 < a → W p l e R s m args below meth c H locs cells slots Q (F0 m tgt ls rest)) (k2 : a ≤ 0 → W p l e R s m args below meth c H locs cells slots Q (F0 m (pc + 3) ls rest)) : W p l e R s m args below meth c H locs cells slots Q (F0 m pc ls (.int (iI a) :: rest)) := by
  have hq : in32 0 := in32_0
  refine lv_if_gt hexec hb d ht (fun h => k1 ?_) (fun h => k2 ?_)
  · have h1 := (iI_lt (in32_0) ha).mp (iI_0 ▸ h); omega
  · have h1 := (not_congr (iI_lt (in32_0) ha)).mp (iI_0 ▸ h); omega
theorem xr_icmp_le (hexec : p.tables.exec = Jvm.exec) (hb : c.code = cc) {a b : Int} {off : Int} {tgt : Nat} (d : decode cc pc = .ok (.if_icmp .le off, 3)) (ht : (pc : Int) + off = (tgt : Int)) (ha : in32 a) (hq : in32 b) (k1 : a ≤ b → W p l e R s m args below meth c H locs cells slots Q (F0 m tgt ls rest)) (k2 : b < a → W p l e R s m args below meth c H locs cells slots Q (F0 m (pc + 3) ls rest)) : W p l e R s m args below meth c H locs cells slots Q (F0 m pc ls (.int (iI b) :: .int (iI a) :: rest)) := by
  refine lv_icmp_le hexec hb d ht (fun h => k1 ?_) (fun h => k2 ?_)
  · have h1 := (iI_le ha hq).mp h; omega
  · have h1 := (not_congr (iI_le ha hq)).mp h; omega
theorem xr_if_le (hexec : p.tables.exec = Jvm.exec) (hb : c.code = cc) {a : Int} {off : Int} {tgt : Nat} (d : decode cc pc = .ok (.ifCond .le off, 3)) (ht : (pc : Int) + off = (tgt : Int)) (ha : in32 a) (k1 : a ≤ 0 → W p l e R s m args below meth c H locs cells slots Q (F0 m tgt ls rest)) (k2 : 0 < a → W p l e R s m args below meth c H locs cells slots Q (F0 m (pc + 3) ls rest)) : W p l e R s m args below meth c H locs cells slots Q (F0 m pc ls (.int (iI a) :: rest)) := by
  have hq : in32 0 := in32_0
  refine lv_if_le hexec hb d ht (fun h => k1 ?_) (fun h => k2 ?_)
  · have h1 := (iI_le ha (in32_0)).mp (iI_0 ▸ h); omega
  · have h1 := (not_congr (iI_le ha (in32_0))).mp (iI_0 ▸ h); omega
theorem xr_ifb_eq (hexec : p.tables.exec = Jvm.exec) (hb : c.code = cc) {P : Prop} {off : Int} {tgt : Nat} (d : decode cc pc = .ok (.ifCond .eq off, 3)) (ht : (pc : Int) + off = (tgt : Int)) (k1 : ¬ P → W p l e R s m args below meth c H locs cells slots Q (F0 m tgt ls rest)) (k2 : P → W p l e R s m args below meth c H locs cells slots Q (F0 m (pc + 3) ls rest)) : W p l e R s m args below meth c H locs cells slots Q (F0 m pc ls (.int (iI (bI P)) :: rest)) := by
  have hr := bI_in P
  refine xr_if_eq hexec hb d ht ⟨by omega, by omega⟩ (fun h => k1 ?_) (fun h => k2 ?_)
  · rcases bI_cases P with ⟨q, z⟩ | ⟨q, z⟩
    · first | exact q | (rw [z] at h; exact absurd h (by decide))
    · first | exact q | (rw [z] at h; exact absurd h (by decide))
  · rcases bI_cases P with ⟨q, z⟩ | ⟨q, z⟩
    · first | exact q | (rw [z] at h; exact absurd h (by decide))
    · first | exact q | (rw [z] at h; exact absurd h (by decide))
theorem xr_ifb_ne (hexec : p.tables.exec = Jvm.exec) (hb : c.code = cc) {P : Prop} {off : Int} {tgt : Nat} (d : decode cc pc = .ok (.ifCond .ne off, 3)) (ht : (pc : Int) + off = (tgt : Int)) (k1 : P → W p l e R s m args below meth c H locs cells slots Q (F0 m tgt ls rest)) (k2 : ¬ P → W p l e R s m args below meth c H locs cells slots Q (F0 m (pc + 3) ls rest)) : W p l e R s m args below meth c H locs cells slots Q (F0 m pc ls (.int (iI (bI P)) :: rest)) := by
  have hr := bI_in P
  refine xr_if_ne hexec hb d ht ⟨by omega, by omega⟩ (fun h => k1 ?_) (fun h => k2 ?_)
  · rcases bI_cases P with ⟨q, z⟩ | ⟨q, z⟩
    · first | exact q | (rw [z] at h; exact absurd h (by decide))
    · first | exact q | (rw [z] at h; exact absurd h (by decide))
  · rcases bI_cases P with ⟨q, z⟩ | ⟨q, z⟩
    · first | exact q | (rw [z] at h; exact absurd h (by decide))
    · first | exact q | (rw [z] at h; exact absurd h (by decide))
theorem xr_lcmp (hexec : p.tables.exec = Jvm.exec) (hb : c.code = cc) {a b : Int} (d : decode cc pc = .ok (.lcmp, 1)) (ha : in64 a) (hq : in64 b) (k : ∀ y : Int, (y = -1 ∧ a < b) ∨ (y = 0 ∧ a = b) ∨ (y = 1 ∧ b < a) → W p l e R s m args below meth c H locs cells slots Q (F0 m (pc + 1) ls (.int (iI y) :: rest))) : W p l e R s m args below meth c H locs cells slots Q (F0 m pc ls (.long (lI b) :: .long (lI a) :: rest)) := by
  refine W.lcmp hexec hb d ?_
  have u : ∀ x y : Int64, lg_cmp x y = if y < x then 1 else if x = y then 0 else -1 := fun x y => rfl
  rw [u]
  rcases Int.lt_trichotomy a b with h | h | h
  · have h2 : ¬ lI b < lI a := fun z => by have := (lI_lt hq ha).mp z; omega
    have h3 : ¬ lI a = lI b := fun z => by have := (lI_inj ha hq).mp z; omega
    rw [if_neg h2, if_neg h3]; exact k (-1) (Or.inl ⟨rfl, h⟩)
  · have h2 : ¬ lI b < lI a := fun z => by have := (lI_lt hq ha).mp z; omega
    have h3 : lI a = lI b := by rw [h]
    rw [if_neg h2, if_pos h3]; exact k 0 (Or.inr (Or.inl ⟨rfl, h⟩))
  · have h1 := (lI_lt hq ha).mpr h
    rw [if_pos h1]; exact k 1 (Or.inr (Or.inr ⟨rfl, h⟩))
theorem xr_lcmp_same (hexec : p.tables.exec = Jvm.exec) (hb : c.code = cc) {x : Int64} (d : decode cc pc = .ok (.lcmp, 1)) (k : W p l e R s m args below meth c H locs cells slots Q (F0 m (pc + 1) ls (.int (iI 0) :: rest))) : W p l e R s m args below meth c H locs cells slots Q (F0 m pc ls (.long x :: .long x :: rest)) := by
  refine W.lcmp hexec hb d ?_
  have h2 : ¬ x < x := fun z => by have := Int64.lt_iff_toInt_lt.mp z; omega
  have e : lg_cmp x x = iI 0 := (if_neg h2).trans (if_pos rfl)
  rw [e]; exact k
theorem xr_ifnull (hexec : p.tables.exec = Jvm.exec) (hb : c.code = cc) {f : Int → Nat} {v : Int} {off : Int} {tgt : Nat} (d : decode cc pc = .ok (.ifnull off, 3)) (ht : (pc : Int) + off = (tgt : Int)) (k1 : v < 0 → W p l e R s m args below meth c H locs cells slots Q (F0 m tgt ls rest)) (k2 : 0 ≤ v → W p l e R s m args below meth c H locs cells slots Q (F0 m (pc + 3) ls rest)) : W p l e R s m args below meth c H locs cells slots Q (F0 m pc ls (rv f v :: rest)) := by
  by_cases h : v < 0
  · rw [rv_n h]; exact lv_ifnullN hexec hb d ht (k1 h)
  · rw [rv_p (by omega)]; exact lv_ifnull hexec hb d (k2 (by omega))
theorem xr_ifnonnull (hexec : p.tables.exec = Jvm.exec) (hb : c.code = cc) {f : Int → Nat} {v : Int} {off : Int} {tgt : Nat} (d : decode cc pc = .ok (.ifnonnull off, 3)) (ht : (pc : Int) + off = (tgt : Int)) (k1 : 0 ≤ v → W p l e R s m args below meth c H locs cells slots Q (F0 m tgt ls rest)) (k2 : v < 0 → W p l e R s m args below meth c H locs cells slots Q (F0 m (pc + 3) ls rest)) : W p l e R s m args below meth c H locs cells slots Q (F0 m pc ls (rv f v :: rest)) := by
  by_cases h : v < 0
  · rw [rv_n h]; exact lv_ifnonnullN hexec hb d (k2 h)
  · rw [rv_p (by omega)]; exact lv_ifnonnull hexec hb d ht (k1 (by omega))
theorem xr_aload_n (hexec : p.tables.exec = Jvm.exec) (hb : c.code = cc) {f : Int → Nat} {v : Int} {k : Fin 4} {i : Nat} (d : decode cc pc = .ok (.aload_n k, 1)) (hi : (k : Nat) = i) (hl : ls[i]? = some (.val (rv f v))) (kk : W p l e R s m args below meth c H locs cells slots Q (F0 m (pc + 1) ls (rv f v :: rest))) : W p l e R s m args below meth c H locs cells slots Q (F0 m pc ls rest) := by
  by_cases h : v < 0
  · rw [rv_n h] at hl kk; exact lv_aload_nN hexec hb d hi hl kk
  · rw [rv_p (by omega)] at hl kk; exact lv_aload_n hexec hb d hi hl kk
theorem xr_aload (hexec : p.tables.exec = Jvm.exec) (hb : c.code = cc) {f : Int → Nat} {v : Int} {i : Nat} (d : decode cc pc = .ok (.aload i, 2)) (hl : ls[i]? = some (.val (rv f v))) (kk : W p l e R s m args below meth c H locs cells slots Q (F0 m (pc + 2) ls (rv f v :: rest))) : W p l e R s m args below meth c H locs cells slots Q (F0 m pc ls rest) := by
  by_cases h : v < 0
  · rw [rv_n h] at hl kk; exact lv_aloadN hexec hb d hl kk
  · rw [rv_p (by omega)] at hl kk; exact lv_aload hexec hb d hl kk
theorem xr_astore_n (hexec : p.tables.exec = Jvm.exec) (hb : c.code = cc) {f : Int → Nat} {v : Int} {k : Fin 4} {i nL : Nat} {lv lv' : List (Nat × Value)} (d : decode cc pc = .ok (.astore_n k, 1)) (hi : (k : Nat) = i) (h : lv_has ls nL lv) (hn : i < nL) (hl : (i, rv f v) :: lv.filter (fun q => !(q.1 == i) && !(q.1 + 1 == i && q.2.category == 2)) = lv') (kk : ∀ ls' : Array Slot, lv_has ls' nL lv' → W p l e R s m args below meth c H locs cells slots Q (F0 m (pc + 1) ls' rest)) : W p l e R s m args below meth c H locs cells slots Q (F0 m pc ls (rv f v :: rest)) := by
  by_cases hv : v < 0
  · rw [rv_n hv] at hl ⊢; exact lv_astore_nN hexec hb d hi h hn hl kk
  · rw [rv_p (by omega)] at hl ⊢; exact lv_astore_n hexec hb d hi h hn hl kk
theorem xr_astore (hexec : p.tables.exec = Jvm.exec) (hb : c.code = cc) {f : Int → Nat} {v : Int} {i nL : Nat} {lv lv' : List (Nat × Value)} (d : decode cc pc = .ok (.astore i, 2)) (h : lv_has ls nL lv) (hn : i < nL) (hl : (i, rv f v) :: lv.filter (fun q => !(q.1 == i) && !(q.1 + 1 == i && q.2.category == 2)) = lv') (kk : ∀ ls' : Array Slot, lv_has ls' nL lv' → W p l e R s m args below meth c H locs cells slots Q (F0 m (pc + 2) ls' rest)) : W p l e R s m args below meth c H locs cells slots Q (F0 m pc ls (rv f v :: rest)) := by
  by_cases hv : v < 0
  · rw [rv_n hv] at hl ⊢; exact lv_astoreN hexec hb d h hn hl kk
  · rw [rv_p (by omega)] at hl ⊢; exact lv_astore hexec hb d h hn hl kk
end XB
