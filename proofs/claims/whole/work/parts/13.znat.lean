/-! branches on numbers that are not below 0; numbers of 64 bits -/
section ZN
variable {p : Program} {l : Launch} {e : Env} {R : Room} {s : State} {m : MethodId} {args : Array Value} {below : List Frame} {meth : Method} {c : Code} {H : Heap} {locs : List Loc} {cells slots : Nat} {Q : State → Prop}
variable {cc : ByteArray} {pc : Nat} {ls : Array Slot} {rest : List Value}
theorem z_icmp_lt (hexec : p.tables.exec = Jvm.exec) (hb : c.code = cc) {x y : Nat} (h1 : x < 2 ^ 31) (h2 : y < 2 ^ 31) {off : Int} {tgt : Nat} (hdg : decode cc pc = .ok (.if_icmp .lt off, 3)) (ht : (pc : Int) + off = (tgt : Int))
    (kt : x < y → W p l e R s m args below meth c H locs cells slots Q (F0 m tgt ls rest)) (kf : y ≤ x → W p l e R s m args below meth c H locs cells slots Q (F0 m (pc + 3) ls rest)) : W p l e R s m args below meth c H locs cells slots Q (F0 m pc ls (.int (nI y) :: .int (nI x) :: rest)) :=
  lv_icmp_lt hexec hb hdg ht (fun h => kt ((nI_ltI h1 h2).mp h)) (fun h => kf (by have := mt (nI_ltI h1 h2).mpr h; omega))
theorem z_icmp_ge (hexec : p.tables.exec = Jvm.exec) (hb : c.code = cc) {x y : Nat} (h1 : x < 2 ^ 31) (h2 : y < 2 ^ 31) {off : Int} {tgt : Nat} (hdg : decode cc pc = .ok (.if_icmp .ge off, 3)) (ht : (pc : Int) + off = (tgt : Int))
    (kt : y ≤ x → W p l e R s m args below meth c H locs cells slots Q (F0 m tgt ls rest)) (kf : x < y → W p l e R s m args below meth c H locs cells slots Q (F0 m (pc + 3) ls rest)) : W p l e R s m args below meth c H locs cells slots Q (F0 m pc ls (.int (nI y) :: .int (nI x) :: rest)) :=
  lv_icmp_ge hexec hb hdg ht (fun h => kt ((nI_leI h2 h1).mp h)) (fun h => kf (by have := mt (nI_leI h2 h1).mpr h; omega))
theorem z_icmp_gt (hexec : p.tables.exec = Jvm.exec) (hb : c.code = cc) {x y : Nat} (h1 : x < 2 ^ 31) (h2 : y < 2 ^ 31) {off : Int} {tgt : Nat} (hdg : decode cc pc = .ok (.if_icmp .gt off, 3)) (ht : (pc : Int) + off = (tgt : Int))
    (kt : y < x → W p l e R s m args below meth c H locs cells slots Q (F0 m tgt ls rest)) (kf : x ≤ y → W p l e R s m args below meth c H locs cells slots Q (F0 m (pc + 3) ls rest)) : W p l e R s m args below meth c H locs cells slots Q (F0 m pc ls (.int (nI y) :: .int (nI x) :: rest)) :=
  lv_icmp_gt hexec hb hdg ht (fun h => kt ((nI_ltI h2 h1).mp h)) (fun h => kf (by have := mt (nI_ltI h2 h1).mpr h; omega))
theorem z_icmp_le (hexec : p.tables.exec = Jvm.exec) (hb : c.code = cc) {x y : Nat} (h1 : x < 2 ^ 31) (h2 : y < 2 ^ 31) {off : Int} {tgt : Nat} (hdg : decode cc pc = .ok (.if_icmp .le off, 3)) (ht : (pc : Int) + off = (tgt : Int))
    (kt : x ≤ y → W p l e R s m args below meth c H locs cells slots Q (F0 m tgt ls rest)) (kf : y < x → W p l e R s m args below meth c H locs cells slots Q (F0 m (pc + 3) ls rest)) : W p l e R s m args below meth c H locs cells slots Q (F0 m pc ls (.int (nI y) :: .int (nI x) :: rest)) :=
  lv_icmp_le hexec hb hdg ht (fun h => kt ((nI_leI h1 h2).mp h)) (fun h => kf (by have := mt (nI_leI h1 h2).mpr h; omega))
theorem z_icmp_eq (hexec : p.tables.exec = Jvm.exec) (hb : c.code = cc) {x y : Nat} (h1 : x < 2 ^ 31) (h2 : y < 2 ^ 31) {off : Int} {tgt : Nat} (hdg : decode cc pc = .ok (.if_icmp .eq off, 3)) (ht : (pc : Int) + off = (tgt : Int))
    (kt : x = y → W p l e R s m args below meth c H locs cells slots Q (F0 m tgt ls rest)) (kf : x ≠ y → W p l e R s m args below meth c H locs cells slots Q (F0 m (pc + 3) ls rest)) : W p l e R s m args below meth c H locs cells slots Q (F0 m pc ls (.int (nI y) :: .int (nI x) :: rest)) :=
  lv_icmp_eq hexec hb hdg ht (fun h => kt ((nI_eq h1 h2).mp h)) (fun h => kf (by have := mt (nI_eq h1 h2).mpr h; omega))
theorem z_icmp_ne (hexec : p.tables.exec = Jvm.exec) (hb : c.code = cc) {x y : Nat} (h1 : x < 2 ^ 31) (h2 : y < 2 ^ 31) {off : Int} {tgt : Nat} (hdg : decode cc pc = .ok (.if_icmp .ne off, 3)) (ht : (pc : Int) + off = (tgt : Int))
    (kt : x ≠ y → W p l e R s m args below meth c H locs cells slots Q (F0 m tgt ls rest)) (kf : x = y → W p l e R s m args below meth c H locs cells slots Q (F0 m (pc + 3) ls rest)) : W p l e R s m args below meth c H locs cells slots Q (F0 m pc ls (.int (nI y) :: .int (nI x) :: rest)) :=
  lv_icmp_ne hexec hb hdg ht (fun h => kt (mt (nI_eq h1 h2).mpr h)) (fun h => kf ((nI_eq h1 h2).mp h))
theorem z_if_eq (hexec : p.tables.exec = Jvm.exec) (hb : c.code = cc) {x : Nat} (h1 : x < 2 ^ 31) {off : Int} {tgt : Nat} (hdg : decode cc pc = .ok (.ifCond .eq off, 3)) (ht : (pc : Int) + off = (tgt : Int))
    (kt : x = 0 → W p l e R s m args below meth c H locs cells slots Q (F0 m tgt ls rest)) (kf : x ≠ 0 → W p l e R s m args below meth c H locs cells slots Q (F0 m (pc + 3) ls rest)) : W p l e R s m args below meth c H locs cells slots Q (F0 m pc ls (.int (nI x) :: rest)) := by
  have e0 : nI x = 0 ↔ x = 0 := nI_eq h1 (by decide)
  have e1 : nI x ≤ 0 ↔ x ≤ 0 := nI_leI h1 (by decide)
  have e2 : (0 : Int32) < nI x ↔ 0 < x := nI_ltI (by decide) h1
  refine lv_if_eq hexec hb hdg ht (fun h => kt ?_) (fun h => kf ?_)
  all_goals first | exact e0.mp h | exact e2.mp h | (have := e1.mp h; omega) | exact mt e0.mpr h | (have := mt e1.mpr h; omega) | (have := mt e2.mpr h; omega) | exact Classical.byContradiction (fun g => h (mt e0.mp g))
theorem z_if_ne (hexec : p.tables.exec = Jvm.exec) (hb : c.code = cc) {x : Nat} (h1 : x < 2 ^ 31) {off : Int} {tgt : Nat} (hdg : decode cc pc = .ok (.ifCond .ne off, 3)) (ht : (pc : Int) + off = (tgt : Int))
    (kt : x ≠ 0 → W p l e R s m args below meth c H locs cells slots Q (F0 m tgt ls rest)) (kf : x = 0 → W p l e R s m args below meth c H locs cells slots Q (F0 m (pc + 3) ls rest)) : W p l e R s m args below meth c H locs cells slots Q (F0 m pc ls (.int (nI x) :: rest)) := by
  have e0 : nI x = 0 ↔ x = 0 := nI_eq h1 (by decide)
  have e1 : nI x ≤ 0 ↔ x ≤ 0 := nI_leI h1 (by decide)
  have e2 : (0 : Int32) < nI x ↔ 0 < x := nI_ltI (by decide) h1
  refine lv_if_ne hexec hb hdg ht (fun h => kt ?_) (fun h => kf ?_)
  all_goals first | exact e0.mp h | exact e2.mp h | (have := e1.mp h; omega) | exact mt e0.mpr h | (have := mt e1.mpr h; omega) | (have := mt e2.mpr h; omega) | exact Classical.byContradiction (fun g => h (mt e0.mp g))
theorem z_if_gt (hexec : p.tables.exec = Jvm.exec) (hb : c.code = cc) {x : Nat} (h1 : x < 2 ^ 31) {off : Int} {tgt : Nat} (hdg : decode cc pc = .ok (.ifCond .gt off, 3)) (ht : (pc : Int) + off = (tgt : Int))
    (kt : 0 < x → W p l e R s m args below meth c H locs cells slots Q (F0 m tgt ls rest)) (kf : x = 0 → W p l e R s m args below meth c H locs cells slots Q (F0 m (pc + 3) ls rest)) : W p l e R s m args below meth c H locs cells slots Q (F0 m pc ls (.int (nI x) :: rest)) := by
  have e0 : nI x = 0 ↔ x = 0 := nI_eq h1 (by decide)
  have e1 : nI x ≤ 0 ↔ x ≤ 0 := nI_leI h1 (by decide)
  have e2 : (0 : Int32) < nI x ↔ 0 < x := nI_ltI (by decide) h1
  refine lv_if_gt hexec hb hdg ht (fun h => kt ?_) (fun h => kf ?_)
  all_goals first | exact e0.mp h | exact e2.mp h | (have := e1.mp h; omega) | exact mt e0.mpr h | (have := mt e1.mpr h; omega) | (have := mt e2.mpr h; omega) | exact Classical.byContradiction (fun g => h (mt e0.mp g))
theorem z_if_le (hexec : p.tables.exec = Jvm.exec) (hb : c.code = cc) {x : Nat} (h1 : x < 2 ^ 31) {off : Int} {tgt : Nat} (hdg : decode cc pc = .ok (.ifCond .le off, 3)) (ht : (pc : Int) + off = (tgt : Int))
    (kt : x = 0 → W p l e R s m args below meth c H locs cells slots Q (F0 m tgt ls rest)) (kf : 0 < x → W p l e R s m args below meth c H locs cells slots Q (F0 m (pc + 3) ls rest)) : W p l e R s m args below meth c H locs cells slots Q (F0 m pc ls (.int (nI x) :: rest)) := by
  have e0 : nI x = 0 ↔ x = 0 := nI_eq h1 (by decide)
  have e1 : nI x ≤ 0 ↔ x ≤ 0 := nI_leI h1 (by decide)
  have e2 : (0 : Int32) < nI x ↔ 0 < x := nI_ltI (by decide) h1
  refine lv_if_le hexec hb hdg ht (fun h => kt ?_) (fun h => kf ?_)
  all_goals first | exact e0.mp h | exact e2.mp h | (have := e1.mp h; omega) | exact mt e0.mpr h | (have := mt e1.mpr h; omega) | (have := mt e2.mpr h; omega) | exact Classical.byContradiction (fun g => h (mt e0.mp g))
theorem z_if_ltN (hexec : p.tables.exec = Jvm.exec) (hb : c.code = cc) {x : Nat} (h1 : x < 2 ^ 31) {off : Int} {tgt : Nat} (hdg : decode cc pc = .ok (.ifCond .lt off, 3)) (ht : (pc : Int) + off = (tgt : Int))
    (kf : W p l e R s m args below meth c H locs cells slots Q (F0 m (pc + 3) ls rest)) : W p l e R s m args below meth c H locs cells slots Q (F0 m pc ls (.int (nI x) :: rest)) :=
  lv_if_lt hexec hb hdg ht (fun h => absurd h (nI_pos h1)) (fun _ => kf)
theorem z_if_geN (hexec : p.tables.exec = Jvm.exec) (hb : c.code = cc) {x : Nat} (h1 : x < 2 ^ 31) {off : Int} {tgt : Nat} (hdg : decode cc pc = .ok (.ifCond .ge off, 3)) (ht : (pc : Int) + off = (tgt : Int))
    (kt : W p l e R s m args below meth c H locs cells slots Q (F0 m tgt ls rest)) : W p l e R s m args below meth c H locs cells slots Q (F0 m pc ls (.int (nI x) :: rest)) :=
  lv_if_ge hexec hb hdg ht (fun _ => kt) (fun h => absurd (nI_pos' h1) h)
theorem z_iinc (hexec : p.tables.exec = Jvm.exec) (hb : c.code = cc) {i nL k : Nat} {n : Int} {x v : Nat} {lv lv' : List (Nat × Value)} (hdg : decode cc pc = .ok (.iinc i n, 3)) (h : lv_has ls nL lv) (hk : lv[k]? = some (i, .int (nI x))) (hv : nI x + Int32.ofInt n = nI v) (hn : i < nL) (hl : (i, Value.int (nI v)) :: lv.filter (fun q => !(q.1 == i) && !(q.1 + 1 == i && q.2.category == 2)) = lv')
    (kk : ∀ ls' : Array Slot, lv_has ls' nL lv' → W p l e R s m args below meth c H locs cells slots Q (F0 m (pc + 3) ls' rest)) : W p l e R s m args below meth c H locs cells slots Q (F0 m pc ls rest) :=
  lv_iinc hexec hb hdg h hk hv hn hl kk
end ZN
theorem nI_p1 (x : Nat) : nI x + Int32.ofInt 1 = nI (x + 1) := (nI_1 x)
theorem nI_m1 {x : Nat} (h : 0 < x) : nI x + Int32.ofInt (-1) = nI (x - 1) := by
  obtain ⟨k, rfl⟩ : ∃ k, x = k + 1 := ⟨x - 1, by omega⟩
  exact pk_m1 k
theorem zl_bv (n : Nat) : (lN n).toBitVec = BitVec.ofNat 64 n := rfl
theorem zl_inj {a b : Int64} (h : a.toBitVec = b.toBitVec) : a = b := Int64.toBitVec_inj.mp h
theorem zl_tn {n : Nat} (h : n < 2 ^ 64) : (lN n).toBitVec.toNat = n := by rw [zl_bv, BitVec.toNat_ofNat]; exact Nat.mod_eq_of_lt h
/-- the low 31 bits of a long -/
theorem zl_and {n : Nat} (h : n < 2 ^ 64) : lN n &&& 2147483647 = lN (n % 2147483648) := by
  apply zl_inj
  apply BitVec.eq_of_toNat_eq
  rw [Int64.toBitVec_and, BitVec.toNat_and, zl_tn h, zl_tn (by omega), show (2147483647 : Int64).toBitVec.toNat = 2 ^ 31 - 1 from rfl, Nat.and_two_pow_sub_one_eq_mod]
theorem zi_and {n : Nat} (h : n < 2 ^ 32) : nI n &&& 2147483647 = nI (n % 2147483648) := pk_andN h 31 rfl
/-- an int out of a long -/
theorem zl_i (n : Nat) : (lN n).toInt32 = nI n := lN_i n
theorem zl_i31 {n : Nat} : (lN n).toInt32 &&& 2147483647 = nI (n % 2147483648) := by
  rw [zl_i]
  have h : nI n = nI (n % 2 ^ 32) := by
    apply Int32.toBitVec_inj.mp
    apply BitVec.eq_of_toNat_eq
    show (BitVec.ofNat 32 n).toNat = (BitVec.ofNat 32 (n % 2 ^ 32)).toNat
    simp
  rw [h, zi_and (Nat.mod_lt _ (by decide))]
  congr 1
  omega
theorem zl_ushr31 {n : Nat} (h : n < 2 ^ 64) : ((lN n).toUInt64 >>> ((nI 31).toInt64.toUInt64 &&& Int64.toUInt64 63)).toInt64 = lN (n / 2147483648) := by
  apply zl_inj
  apply BitVec.eq_of_toNat_eq
  rw [show ((nI 31).toInt64.toUInt64 &&& Int64.toUInt64 63) = 31 from by decide, zl_tn (by omega)]
  show ((lN n).toBitVec >>> (31 % 64 : BitVec 64)).toNat = _
  rw [show (31 % 64 : BitVec 64) = 31#64 from by decide]
  show ((lN n).toBitVec >>> (31 : Nat)).toNat = _
  rw [BitVec.toNat_ushiftRight, zl_tn h, Nat.shiftRight_eq_div_pow]
theorem zl_ti {n : Nat} (h : n < 2 ^ 63) : (lN n).toInt = (n : Int) := pk_lT h
theorem zl_shr31 {n : Nat} (h : n < 2 ^ 63) : lN n >>> ((nI 31).toInt64 &&& 63) = lN (n / 2147483648) := by
  rw [show ((nI 31).toInt64 &&& 63 : Int64) = 31 from by decide]
  apply zl_inj
  apply BitVec.eq_of_toNat_eq
  rw [zl_tn (by omega)]
  show ((lN n).toBitVec.sshiftRight' ((31 : Int64).toBitVec.smod 64)).toNat = _
  rw [show ((31 : Int64).toBitVec.smod 64) = 31#64 from by decide]
  show ((lN n).toBitVec.sshiftRight 31).toNat = _
  rw [BitVec.sshiftRight_eq_of_msb_false (by rw [BitVec.msb_eq_false_iff_two_mul_lt, zl_tn (by omega)]; omega), BitVec.toNat_ushiftRight, zl_tn (by omega), Nat.shiftRight_eq_div_pow]
theorem zl_shl31 {n : Nat} : lN n <<< ((nI 31).toInt64 &&& 63) = lN (n * 2147483648) := by
  rw [show ((nI 31).toInt64 &&& 63 : Int64) = 31 from by decide]
  apply zl_inj
  apply BitVec.eq_of_toNat_eq
  show ((lN n).toBitVec <<< ((31 : Int64).toBitVec.smod 64)).toNat = _
  rw [show ((31 : Int64).toBitVec.smod 64) = 31#64 from by decide, zl_bv, zl_bv]
  show (BitVec.ofNat 64 n <<< (31 : Nat)).toNat = _
  rw [BitVec.toNat_shiftLeft, BitVec.toNat_ofNat, BitVec.toNat_ofNat, Nat.shiftLeft_eq]
  show n % 2 ^ 64 * 2147483648 % 2 ^ 64 = _
  rw [Nat.mod_mul_mod]
theorem zl_or {a b : Nat} (hb : b < 2147483648) (ha : a * 2147483648 + b < 2 ^ 64) : lN (a * 2147483648) ||| lN b = lN (a * 2147483648 + b) := by
  apply zl_inj
  apply BitVec.eq_of_toNat_eq
  have h1 : a * 2147483648 < 2 ^ 64 := Nat.lt_of_le_of_lt (Nat.le_add_right _ _) ha
  have h2 : b < 2 ^ 64 := Nat.lt_of_le_of_lt (Nat.le_add_left _ _) ha
  rw [Int64.toBitVec_or, BitVec.toNat_or, zl_tn h1, zl_tn h2, zl_tn ha]
  have h3 := Nat.two_pow_add_eq_or_of_lt (i := 31) (show b < 2 ^ 31 from hb) a
  rw [show (2 : Nat) ^ 31 = 2147483648 from rfl, Nat.mul_comm] at h3
  exact h3.symm
section ZN2
variable {p : Program} {l : Launch} {e : Env} {R : Room} {s : State} {m : MethodId} {args : Array Value} {below : List Frame} {meth : Method} {c : Code} {H : Heap} {locs : List Loc} {cells slots : Nat} {Q : State → Prop}
variable {cc : ByteArray} {pc : Nat} {ls : Array Slot} {rest : List Value}
theorem z_iadd (hexec : p.tables.exec = Jvm.exec) (hb : c.code = cc) {x y : Nat} (hdg : decode cc pc = .ok (.iadd, 1))
    (k : W p l e R s m args below meth c H locs cells slots Q (F0 m (pc + 1) ls (.int (nI (x + y)) :: rest))) : W p l e R s m args below meth c H locs cells slots Q (F0 m pc ls (.int (nI y) :: .int (nI x) :: rest)) :=
  lv_iadd hexec hb hdg (by rw [nI_add]; exact k)
theorem z_imul (hexec : p.tables.exec = Jvm.exec) (hb : c.code = cc) {x y : Nat} (hdg : decode cc pc = .ok (.imul, 1))
    (k : W p l e R s m args below meth c H locs cells slots Q (F0 m (pc + 1) ls (.int (nI (x * y)) :: rest))) : W p l e R s m args below meth c H locs cells slots Q (F0 m pc ls (.int (nI y) :: .int (nI x) :: rest)) :=
  lv_imul hexec hb hdg (by rw [pk_mul]; exact k)
theorem z_isub (hexec : p.tables.exec = Jvm.exec) (hb : c.code = cc) {x y : Nat} (h : y ≤ x) (hdg : decode cc pc = .ok (.isub, 1))
    (k : W p l e R s m args below meth c H locs cells slots Q (F0 m (pc + 1) ls (.int (nI (x - y)) :: rest))) : W p l e R s m args below meth c H locs cells slots Q (F0 m pc ls (.int (nI y) :: .int (nI x) :: rest)) :=
  lv_isub hexec hb hdg (by rw [pk_sub h]; exact k)
theorem z_ladd (hexec : p.tables.exec = Jvm.exec) (hb : c.code = cc) {x y : Nat} (hdg : decode cc pc = .ok (.ladd, 1))
    (k : W p l e R s m args below meth c H locs cells slots Q (F0 m (pc + 1) ls (.long (lN (x + y)) :: rest))) : W p l e R s m args below meth c H locs cells slots Q (F0 m pc ls (.long (lN y) :: .long (lN x) :: rest)) :=
  lv_ladd hexec hb hdg (by rw [lN_add]; exact k)
theorem z_lmul (hexec : p.tables.exec = Jvm.exec) (hb : c.code = cc) {x y : Nat} (hdg : decode cc pc = .ok (.lmul, 1))
    (k : W p l e R s m args below meth c H locs cells slots Q (F0 m (pc + 1) ls (.long (lN (x * y)) :: rest))) : W p l e R s m args below meth c H locs cells slots Q (F0 m pc ls (.long (lN y) :: .long (lN x) :: rest)) :=
  lv_lmul hexec hb hdg (by rw [lN_mul]; exact k)
theorem z_i2l (hexec : p.tables.exec = Jvm.exec) (hb : c.code = cc) {x : Nat} (h : x < 2 ^ 31) (hdg : decode cc pc = .ok (.i2l, 1))
    (k : W p l e R s m args below meth c H locs cells slots Q (F0 m (pc + 1) ls (.long (lN x) :: rest))) : W p l e R s m args below meth c H locs cells slots Q (F0 m pc ls (.int (nI x) :: rest)) :=
  lv_i2l hexec hb hdg (nI_l h) k
theorem z_l2i (hexec : p.tables.exec = Jvm.exec) (hb : c.code = cc) {x : Nat} (hdg : decode cc pc = .ok (.l2i, 1))
    (k : W p l e R s m args below meth c H locs cells slots Q (F0 m (pc + 1) ls (.int (nI x) :: rest))) : W p l e R s m args below meth c H locs cells slots Q (F0 m pc ls (.long (lN x) :: rest)) :=
  lv_l2i hexec hb hdg (lN_i x) k
theorem z_land31 (hexec : p.tables.exec = Jvm.exec) (hb : c.code = cc) {x : Nat} (h : x < 2 ^ 64) (hdg : decode cc pc = .ok (.land, 1))
    (k : W p l e R s m args below meth c H locs cells slots Q (F0 m (pc + 1) ls (.long (lN (x % 2147483648)) :: rest))) : W p l e R s m args below meth c H locs cells slots Q (F0 m pc ls (.long 2147483647 :: .long (lN x) :: rest)) :=
  lv_land hexec hb hdg (by rw [zl_and h]; exact k)
theorem z_lshr31 (hexec : p.tables.exec = Jvm.exec) (hb : c.code = cc) {x : Nat} (h : x < 2 ^ 63) (hdg : decode cc pc = .ok (.lshr, 1))
    (k : W p l e R s m args below meth c H locs cells slots Q (F0 m (pc + 1) ls (.long (lN (x / 2147483648)) :: rest))) : W p l e R s m args below meth c H locs cells slots Q (F0 m pc ls (.int (nI 31) :: .long (lN x) :: rest)) :=
  lv_lshr hexec hb hdg (zl_shr31 h) k
theorem z_lushr31 (hexec : p.tables.exec = Jvm.exec) (hb : c.code = cc) {x : Nat} (h : x < 2 ^ 64) (hdg : decode cc pc = .ok (.lushr, 1))
    (k : W p l e R s m args below meth c H locs cells slots Q (F0 m (pc + 1) ls (.long (lN (x / 2147483648)) :: rest))) : W p l e R s m args below meth c H locs cells slots Q (F0 m pc ls (.int (nI 31) :: .long (lN x) :: rest)) :=
  lv_lushr hexec hb hdg (zl_ushr31 h) k
theorem z_lshl31 (hexec : p.tables.exec = Jvm.exec) (hb : c.code = cc) {x : Nat} (hdg : decode cc pc = .ok (.lshl, 1))
    (k : W p l e R s m args below meth c H locs cells slots Q (F0 m (pc + 1) ls (.long (lN (x * 2147483648)) :: rest))) : W p l e R s m args below meth c H locs cells slots Q (F0 m pc ls (.int (nI 31) :: .long (lN x) :: rest)) :=
  lv_lshl hexec hb hdg zl_shl31 k
theorem z_lor31 (hexec : p.tables.exec = Jvm.exec) (hb : c.code = cc) {x y : Nat} (h : y < 2147483648) (h2 : x * 2147483648 + y < 2 ^ 64) (hdg : decode cc pc = .ok (.lor, 1))
    (k : W p l e R s m args below meth c H locs cells slots Q (F0 m (pc + 1) ls (.long (lN (x * 2147483648 + y)) :: rest))) : W p l e R s m args below meth c H locs cells slots Q (F0 m pc ls (.long (lN y) :: .long (lN (x * 2147483648)) :: rest)) :=
  lv_lor hexec hb hdg (by rw [zl_or h h2]; exact k)
theorem z_iand31 (hexec : p.tables.exec = Jvm.exec) (hb : c.code = cc) {x : Nat} (h : x < 2 ^ 32) (hdg : decode cc pc = .ok (.iand, 1))
    (k : W p l e R s m args below meth c H locs cells slots Q (F0 m (pc + 1) ls (.int (nI (x % 2147483648)) :: rest))) : W p l e R s m args below meth c H locs cells slots Q (F0 m pc ls (.int (nI 2147483647) :: .int (nI x) :: rest)) :=
  lv_iand hexec hb hdg (by rw [show nI 2147483647 = (2147483647 : Int32) from rfl, zi_and h]; exact k)
theorem z_ldiv (hexec : p.tables.exec = Jvm.exec) (hb : c.code = cc) {x y : Nat} (h : x < 2 ^ 63) (h0 : 0 < y) (h2 : y < 2 ^ 63) (hdg : decode cc pc = .ok (.ldiv, 1))
    (k : W p l e R s m args below meth c H locs cells slots Q (F0 m (pc + 1) ls (.long (lN (x / y)) :: rest))) : W p l e R s m args below meth c H locs cells slots Q (F0 m pc ls (.long (lN y) :: .long (lN x) :: rest)) :=
  lv_ldiv hexec hb hdg (fun q => by have := (pk_lEQ h2 (show 0 < 2 ^ 63 by decide)).mp q; omega) (by rw [pk_lDiv h h0 h2]; exact k)
theorem z_lrem (hexec : p.tables.exec = Jvm.exec) (hb : c.code = cc) {x y : Nat} (h : x < 2 ^ 63) (h0 : 0 < y) (h2 : y < 2 ^ 63) (hdg : decode cc pc = .ok (.lrem, 1))
    (k : W p l e R s m args below meth c H locs cells slots Q (F0 m (pc + 1) ls (.long (lN (x % y)) :: rest))) : W p l e R s m args below meth c H locs cells slots Q (F0 m pc ls (.long (lN y) :: .long (lN x) :: rest)) :=
  lv_lrem hexec hb hdg (fun q => by have := (pk_lEQ h2 (show 0 < 2 ^ 63 by decide)).mp q; omega) (by rw [pk_lRem h h0 h2]; exact k)
theorem z_idiv (hexec : p.tables.exec = Jvm.exec) (hb : c.code = cc) {x y : Nat} (h : x < 2 ^ 31) (h0 : 0 < y) (h2 : y < 2 ^ 31) (hdg : decode cc pc = .ok (.idiv, 1))
    (k : W p l e R s m args below meth c H locs cells slots Q (F0 m (pc + 1) ls (.int (nI (x / y)) :: rest))) : W p l e R s m args below meth c H locs cells slots Q (F0 m pc ls (.int (nI y) :: .int (nI x) :: rest)) :=
  lv_idiv hexec hb hdg (nI_ne0 h0 h2) (by rw [pk_div h h0 h2]; exact k)
theorem z_irem (hexec : p.tables.exec = Jvm.exec) (hb : c.code = cc) {x y : Nat} (h : x < 2 ^ 31) (h0 : 0 < y) (h2 : y < 2 ^ 31) (hdg : decode cc pc = .ok (.irem, 1))
    (k : W p l e R s m args below meth c H locs cells slots Q (F0 m (pc + 1) ls (.int (nI (x % y)) :: rest))) : W p l e R s m args below meth c H locs cells slots Q (F0 m pc ls (.int (nI y) :: .int (nI x) :: rest)) :=
  lv_irem hexec hb hdg (nI_ne0 h0 h2) (by rw [pk_rem h h0 h2]; exact k)
end ZN2
