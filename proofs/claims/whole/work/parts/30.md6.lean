theorem zl_cnt : ∀ k, k < 64 → ((nI k).toInt64 &&& 63 : Int64) = lN k := by decide
theorem zl_sm : ∀ k, k < 64 → (BitVec.ofNat 64 k).smod 64 = BitVec.ofNat 64 k := by decide
theorem zl_shr {n k : Nat} (hn : n < 2 ^ 63) (hk : k < 64) : lN n >>> ((nI k).toInt64 &&& 63) = lN (n / 2 ^ k) := by
  rw [zl_cnt k hk]
  apply zl_inj
  apply BitVec.eq_of_toNat_eq
  have h1 : n / 2 ^ k < 2 ^ 64 := Nat.lt_of_le_of_lt (Nat.div_le_self _ _) (by omega)
  rw [zl_tn h1]
  show ((lN n).toBitVec.sshiftRight' ((lN k).toBitVec.smod 64)).toNat = _
  rw [zl_bv k, zl_sm k hk]
  show ((lN n).toBitVec.sshiftRight ((BitVec.ofNat 64 k).toNat)).toNat = _
  rw [BitVec.toNat_ofNat, Nat.mod_eq_of_lt (by omega), BitVec.sshiftRight_eq_of_msb_false (by rw [BitVec.msb_eq_false_iff_two_mul_lt, zl_tn (by omega)]; omega), BitVec.toNat_ushiftRight, zl_tn (by omega), Nat.shiftRight_eq_div_pow]
theorem zl_and1 {n : Nat} (hn : n < 2 ^ 64) : lN n &&& lN 1 = lN (n % 2) := by
  apply zl_inj
  apply BitVec.eq_of_toNat_eq
  rw [Int64.toBitVec_and, BitVec.toNat_and, zl_tn hn, zl_tn (show (1 : Nat) < 2 ^ 64 by decide), zl_tn (show n % 2 < 2 ^ 64 by omega), show (1 : Nat) = 2 ^ 1 - 1 from rfl, Nat.and_two_pow_sub_one_eq_mod]
section ZN3
variable {p : Program} {l : Launch} {e : Env} {R : Room} {s : State} {m : MethodId} {args : Array Value} {below : List Frame} {meth : Method} {c : Code} {H : Heap} {locs : List Loc} {cells slots : Nat} {Q : State → Prop}
variable {cc : ByteArray} {pc : Nat} {ls : Array Slot} {rest : List Value}
theorem z_lshrK (hexec : p.tables.exec = Jvm.exec) (hb : c.code = cc) {x y : Nat} (h : x < 2 ^ 63) (h2 : y < 64) (hdg : decode cc pc = .ok (.lshr, 1))
    (k : W p l e R s m args below meth c H locs cells slots Q (F0 m (pc + 1) ls (.long (lN (x / 2 ^ y)) :: rest))) : W p l e R s m args below meth c H locs cells slots Q (F0 m pc ls (.int (nI y) :: .long (lN x) :: rest)) :=
  lv_lshr hexec hb hdg (zl_shr h h2) k
theorem z_land1 (hexec : p.tables.exec = Jvm.exec) (hb : c.code = cc) {x : Nat} (h : x < 2 ^ 64) (hdg : decode cc pc = .ok (.land, 1))
    (k : W p l e R s m args below meth c H locs cells slots Q (F0 m (pc + 1) ls (.long (lN (x % 2)) :: rest))) : W p l e R s m args below meth c H locs cells slots Q (F0 m pc ls (.long (lN 1) :: .long (lN x) :: rest)) :=
  lv_land hexec hb hdg (by rw [zl_and1 h]; exact k)
end ZN3
theorem vl_cons (d : Nat → Nat) (n : Nat) : vl d (n + 1) = d 0 + 2147483648 * vl (fun j => d (1 + j)) n := by
  rw [vl_split d (show 1 ≤ n + 1 by omega), vl_one, Nat.add_sub_cancel]; rfl
theorem vl_digit {d : Nat → Nat} {n q : Nat} (h : dg d n) (hq : q < n) : vl d n / bp q % 2147483648 = d q := by
  have h1 := vl_lt (h.le (show q ≤ n by omega))
  obtain ⟨r, rfl⟩ : ∃ r, n = q + (r + 1) := ⟨n - q - 1, by omega⟩
  rw [vl_split d (show q ≤ q + (r + 1) by omega), Nat.add_mul_div_left _ _ (bp_pos q), Nat.div_eq_of_lt h1, Nat.zero_add, Nat.add_sub_cancel_left, vl_cons, Nat.add_mul_mod_self_left]
  exact Nat.mod_eq_of_lt (h q hq)
theorem lmb_digit {F L : Nat → Nat} {a v : Nat} (na : nv F L a v) (q : Nat) : lmb F L a q = v / bp q % 2147483648 := by
  have := vl_digit (d := lmb F L a) (n := max (L a) (q + 1)) (q := q) (fun k _ => lmb_lt na k) (by omega)
  rw [lmb_vl na (by omega)] at this
  exact this.symm
theorem bit_mod {X r : Nat} (hr : r < 31) : X % 2147483648 / 2 ^ r % 2 = X / 2 ^ r % 2 := by
  have e : (2147483648 : Nat) = 2 ^ r * (2 * 2 ^ (30 - r)) := by
    rw [← Nat.pow_succ', ← Nat.pow_add, show r + (30 - r).succ = 31 by omega]
  have h : X = 2 ^ r * (2 * (2 ^ (30 - r) * (X / 2147483648))) + X % 2147483648 := by
    have := Nat.div_add_mod X 2147483648
    rw [← Nat.mul_assoc 2, ← Nat.mul_assoc, ← e]; omega
  have h2 : X / 2 ^ r = 2 * (2 ^ (30 - r) * (X / 2147483648)) + X % 2147483648 / 2 ^ r := by
    conv => lhs; rw [h]
    rw [Nat.mul_add_div (Nat.pow_pos (by decide))]
  omega
theorem bit_of {F L : Nat → Nat} {a v : Nat} (na : nv F L a v) (k : Nat) : lmb F L a (k / 31) / 2 ^ (k % 31) % 2 = v / 2 ^ k % 2 := by
  rw [lmb_digit na, bit_mod (Nat.mod_lt _ (by decide)), bp_2, Nat.div_div_eq_div_mul, ← Nat.pow_add, show 31 * (k / 31) + k % 31 = k by omega]
theorem bits_fin {v T P s n K : Nat} (hv : v < (T + 1) * P) (hJ : (T + 1) * 2 ^ s ≤ 2147483648) (hK : 2147483648 * P = 2 ^ K) (hn : n + s = K) : v < 2 ^ n := by
  have h1 : v * 2 ^ s < 2 ^ n * 2 ^ s := by
    rw [← Nat.pow_add, hn, ← hK]
    have a : v * 2 ^ s < (T + 1) * P * 2 ^ s := Nat.mul_lt_mul_of_pos_right hv (Nat.pow_pos (by decide))
    have b : (T + 1) * P * 2 ^ s = (T + 1) * 2 ^ s * P := by rw [Nat.mul_assoc, Nat.mul_comm P, ← Nat.mul_assoc]
    have c := mul_le_r P hJ
    omega
  exact Nat.lt_of_mul_lt_mul_right h1
theorem bits_step {T s : Nat} (hT : 0 < T) (h : T * 2 ^ s < 1073741824) : (T + 1) * 2 ^ (s + 1) ≤ 2147483648 := by
  have hs : s < 30 := by
    rcases Nat.lt_or_ge s 30 with c | c
    · exact c
    · have a : 2 ^ 30 ≤ 2 ^ s := Nat.pow_le_pow_right (by decide) c
      have b := mul_le_r (2 ^ s) (show 1 ≤ T by omega)
      omega
  have e : (1073741824 : Nat) = 2 ^ (30 - s) * 2 ^ s := by rw [← Nat.pow_add, show 30 - s + s = 30 by omega]
  rw [e] at h
  have h2 : T < 2 ^ (30 - s) := Nat.lt_of_mul_lt_mul_right h
  have h3 := mul_le_r (2 ^ s) (show T + 1 ≤ 2 ^ (30 - s) by omega)
  rw [Nat.pow_succ, ← Nat.mul_assoc]
  omega
theorem half_step {f h cy B2 : Nat} (hc : cy = B2 % 2) (hh : h = B2 / 2) : (cy * 2147483648 + f) / 2 + 2147483648 * h = (f + 2147483648 * B2) / 2 ∧ (cy * 2147483648 + f) % 2 = (f + 2147483648 * B2) % 2 := by omega
