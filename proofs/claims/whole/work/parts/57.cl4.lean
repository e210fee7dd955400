/-! division: Knuth's algorithm D -/
theorem to_step {T T1 U : Nat → Nat} {q at_ i c : Nat} (h3 : vl (fun j => T1 (at_ + j)) i + q * vl U i = vl (fun j => T (at_ + j)) i + c * bp i) (he : T1 (at_ + i) = T (at_ + i)) (hT : T (at_ + i) < 2147483648) :
    vl (fun j => va_up T1 (at_ + i) ((T1 (at_ + i) + 2147483648 - (c + q * U i) % 2147483648) % 2147483648) (at_ + j)) (i + 1) + q * vl U (i + 1) = vl (fun j => T (at_ + j)) (i + 1) + ((c + q * U i) / 2147483648 + (if T1 (at_ + i) < (c + q * U i) % 2147483648 then 1 else 0)) * bp (i + 1) := by
  rw [vl_s, vl_s, vl_s, va_up_self, vl_congr (d' := fun j => T1 (at_ + j)) (fun j hj => va_up_ne _ _ (by omega)), he, bp_s, Nat.mul_add, ← Nat.mul_assoc q]
  obtain ⟨t, ht⟩ : ∃ t, t = (if T (at_ + i) < (c + q * U i) % 2147483648 then 1 else 0) := ⟨_, rfl⟩
  rw [← ht]
  have e : (T (at_ + i) + 2147483648 - (c + q * U i) % 2147483648) % 2147483648 + (q * U i + c) = T (at_ + i) + ((c + q * U i) / 2147483648 + t) * 2147483648 := by rw [ht]; split <;> omega
  have e2 := congrArg (fun x => x * bp i) e
  simp only [Nat.add_mul] at e2
  rw [Nat.mul_assoc ((c + q * U i) / 2147483648), Nat.mul_assoc t] at e2
  rw [Nat.add_mul]
  omega
theorem to_lo {X V q w top c P : Nat} (hq : q = X / V ∨ q = X / V + 1) (hV : 0 < V) (hVP : V ≤ P) (hw : w < P) (hX : X = w + q * V - c * P + top * P) (h : w + q * V = X - top * P + c * P) (hXt : top * P ≤ X) (hct : c ≤ top) : q = X / V ∧ w = X % V ∧ top = c := by
  have h5 := Nat.div_add_mod X V
  have h6 := Nat.mod_lt X hV
  have hmul : c * P ≤ top * P := mul_le_r P hct
  rcases hq with rfl | rfl
  · have e : V * (X / V) = X / V * V := Nat.mul_comm ..
    have h7 : top = c := by
      rcases Nat.lt_or_ge c top with g | g
      · have := mul_le_r P (show c + 1 ≤ top by omega)
        rw [Nat.add_mul] at this
        omega
      · omega
    subst h7
    exact ⟨rfl, by omega, rfl⟩
  · have e : V * (X / V) = X / V * V := Nat.mul_comm ..
    rw [Nat.add_mul] at h
    omega
theorem to_hi {X V q w top c P w2 c2 : Nat} (hq : q = X / V ∨ q = X / V + 1) (hV : 0 < V) (hVP : V ≤ P) (hw : w < P) (h : w + q * V = X - top * P + c * P) (hXt : top * P ≤ X) (hct : top < c) (hw2 : w2 < P) (h2 : w2 + c2 * P = w + V) (hc2 : c2 ≤ 1) : q = X / V + 1 ∧ w2 = X % V := by
  have h5 := Nat.div_add_mod X V
  have h6 := Nat.mod_lt X hV
  have e : V * (X / V) = X / V * V := Nat.mul_comm ..
  have hmul := mul_le_r P (show top + 1 ≤ c by omega)
  rw [Nat.add_mul] at hmul
  rcases hq with rfl | rfl
  · omega
  · rw [Nat.add_mul] at h
    refine ⟨rfl, ?_⟩
    have h7 : c = top + c2 := by
      rcases Nat.lt_or_ge c (top + c2) with g | g
      · have g2 := mul_le_r P (show c + 1 ≤ top + c2 by omega)
        rw [Nat.add_mul, Nat.add_mul] at g2
        omega
      · rcases Nat.lt_or_ge (top + c2) c with g3 | g3
        · have g2 := mul_le_r P (show top + c2 + 1 ≤ c by omega)
          rw [Nat.add_mul, Nat.add_mul] at g2
          omega
        · omega
    subst h7
    rw [Nat.add_mul] at h
    omega
/-- a guess that two digits of the divisor allow is at most one too large -/
theorem kn_hi {X V b P v1 v2 vl0 u0 u1 u2 x0 q rest : Nat} (hb : b = 2147483648) (hV : V = (v1 * b + v2) * P + vl0) (hX : X = (u0 * b * b + u1 * b + u2) * P + x0) (hvl : vl0 < P) (hv1 : 1073741824 ≤ v1) (hh : u0 * b + u1 = q * v1 + rest) (hq : q < b) (ht : q * v2 ≤ rest * b + u2) : q ≤ X / V + 1 := by
  rcases Nat.eq_zero_or_pos q with h0 | h0
  · rw [h0]; exact Nat.zero_le _
  · obtain ⟨k, rfl⟩ : ∃ k, q = k + 1 := ⟨q - 1, by omega⟩
    have hVp : 0 < V := by
      have : 1 ≤ v1 * b + v2 := by have := Nat.mul_le_mul hv1 (show 1 ≤ b by omega); omega
      have := mul_le_r P this
      omega
    have key : k * V ≤ X := by
      have a1 : (k + 1) * (v1 * b + v2) ≤ u0 * b * b + u1 * b + u2 := by
        have e1 : (k + 1) * (v1 * b + v2) = (k + 1) * v1 * b + (k + 1) * v2 := by rw [Nat.mul_add, Nat.mul_assoc]
        have e2 : (u0 * b + u1) * b = ((k + 1) * v1 + rest) * b := by rw [hh]
        rw [Nat.add_mul, Nat.add_mul] at e2
        omega
      have a2 := mul_le_r P a1
      have a3 : k * V = k * (v1 * b + v2) * P + k * vl0 := by rw [hV, Nat.mul_add, Nat.mul_assoc]
      have a4 : k * vl0 ≤ b * P := Nat.mul_le_mul (by omega) (by omega)
      have a5 : b * P ≤ (v1 * b + v2) * P := mul_le_r P (by have := mul_le_r b (show 1 ≤ v1 by omega); omega)
      have a6 : (k + 1) * (v1 * b + v2) * P = k * (v1 * b + v2) * P + (v1 * b + v2) * P := by rw [Nat.add_mul k, Nat.one_mul, Nat.add_mul]
      omega
    have := (Nat.le_div_iff_mul_le hVp).mpr key
    omega
/-- .. and never too small -/
theorem kn_lo0 {X V b P v1 v2 vl0 u0 u1 u2 x0 : Nat} (hb : b = 2147483648) (hV : V = (v1 * b + v2) * P + vl0) (hX : X = (u0 * b * b + u1 * b + u2) * P + x0) (hx0 : x0 < P) (hu2 : u2 < b) (hv1 : 0 < v1) : X / V ≤ (u0 * b + u1) / v1 := by
  rw [Nat.le_div_iff_mul_le hv1]
  have h1 := Nat.div_mul_le_self X V
  have hP : 0 < P := by omega
  have h2 : X / V * v1 * (b * P) ≤ X / V * V := by
    rw [hV, Nat.mul_assoc]
    apply Nat.mul_le_mul_left
    rw [Nat.add_mul, ← Nat.mul_assoc]
    omega
  have h3 : X < (u0 * b + u1 + 1) * (b * P) := by
    rw [hX]
    have e1 : (u0 * b + u1 + 1) * (b * P) = (u0 * b * b + u1 * b + b) * P := by
      rw [← Nat.mul_assoc]
      congr 1
      rw [Nat.add_mul, Nat.add_mul, Nat.one_mul]
    rw [e1]
    have e2 := mul_le_r P (show u0 * b * b + u1 * b + u2 + 1 ≤ u0 * b * b + u1 * b + b by omega)
    rw [Nat.add_mul _ 1] at e2
    omega
  have h4 : X / V * v1 * (b * P) < (u0 * b + u1 + 1) * (b * P) := by omega
  have h5 := Nat.lt_of_mul_lt_mul_right h4
  omega
theorem kn_lo {X V b P v1 v2 vl0 u0 u1 u2 x0 q rest : Nat} (hV : V = (v1 * b + v2) * P + vl0) (hX : X = (u0 * b * b + u1 * b + u2) * P + x0) (hx0 : x0 < P) (hVp : 0 < V) (hh : u0 * b + u1 = q * v1 + rest) (ht : rest * b + u2 < q * v2) : X / V < q := by
  rw [Nat.div_lt_iff_lt_mul hVp]
  have a1 : u0 * b * b + u1 * b + u2 + 1 ≤ q * (v1 * b + v2) := by
    have e1 : q * (v1 * b + v2) = q * v1 * b + q * v2 := by rw [Nat.mul_add, Nat.mul_assoc]
    have e2 : (u0 * b + u1) * b = (q * v1 + rest) * b := by rw [hh]
    rw [Nat.add_mul, Nat.add_mul] at e2
    omega
  have a2 := mul_le_r P a1
  have a3 : q * V = q * (v1 * b + v2) * P + q * vl0 := by rw [hV, Nat.mul_add, Nat.mul_assoc]
  rw [Nat.add_mul _ 1] at a2
  rw [a3, hX]
  omega
theorem zl_shlK {n k : Nat} (hk : k < 64) : lN n <<< ((nI k).toInt64 &&& 63) = lN (n * 2 ^ k) := by
  rw [zl_cnt k hk]
  apply zl_inj
  apply BitVec.eq_of_toNat_eq
  show ((lN n).toBitVec <<< ((lN k).toBitVec.smod 64)).toNat = _
  rw [zl_bv k, zl_sm k hk, zl_bv, zl_bv]
  show (BitVec.ofNat 64 n <<< ((BitVec.ofNat 64 k).toNat)).toNat = _
  rw [BitVec.toNat_ofNat, Nat.mod_eq_of_lt (show k < 2 ^ 64 by omega), BitVec.toNat_shiftLeft, BitVec.toNat_ofNat, BitVec.toNat_ofNat, Nat.shiftLeft_eq, Nat.mod_mul_mod]
theorem zl_orK {a b k : Nat} (ha : a < 2 ^ k) (h : a + b * 2 ^ k < 2 ^ 64) : lN a ||| lN (b * 2 ^ k) = lN (a + b * 2 ^ k) := by
  apply zl_inj
  apply BitVec.eq_of_toNat_eq
  have h1 : b * 2 ^ k < 2 ^ 64 := Nat.lt_of_le_of_lt (Nat.le_add_left _ _) h
  have h2 : a < 2 ^ 64 := Nat.lt_of_le_of_lt (Nat.le_add_right _ _) h
  rw [Int64.toBitVec_or, BitVec.toNat_or, zl_tn h1, zl_tn h2, zl_tn h]
  have h3 := Nat.two_pow_add_eq_or_of_lt ha b
  rw [Nat.or_comm, Nat.mul_comm b, ← h3, Nat.add_comm]
theorem zl_ushrK {n k : Nat} (hn : n < 2 ^ 64) (hk : k < 64) : ((lN n).toUInt64 >>> ((nI k).toInt64.toUInt64 &&& Int64.toUInt64 63)).toInt64 = lN (n / 2 ^ k) := by
  have e : ∀ k, k < 64 → ((nI k).toInt64.toUInt64 &&& Int64.toUInt64 63) = UInt64.ofNat k := by decide
  have e2 : ∀ k, k < 64 → (BitVec.ofNat 64 k % 64 : BitVec 64).toNat = k := by decide
  apply zl_inj
  apply BitVec.eq_of_toNat_eq
  have h1 : n / 2 ^ k < 2 ^ 64 := Nat.lt_of_le_of_lt (Nat.div_le_self _ _) hn
  rw [e k hk, zl_tn h1]
  show ((lN n).toBitVec >>> ((BitVec.ofNat 64 k % 64 : BitVec 64).toNat)).toNat = _
  rw [e2 k hk, BitVec.toNat_ushiftRight, zl_tn hn, Nat.shiftRight_eq_div_pow]
section ZV
variable {p : Program} {l : Launch} {e : Env} {R : Room} {s : State} {m : MethodId} {args : Array Value} {below : List Frame} {meth : Method} {c : Code} {H : Heap} {locs : List Loc} {cells slots : Nat} {Q : State → Prop}
variable {cc : ByteArray} {pc : Nat} {ls : Array Slot} {rest : List Value}
theorem z_lshlK (hexec : p.tables.exec = Jvm.exec) (hb : c.code = cc) {x y : Nat} (h2 : y < 64) (hdg : decode cc pc = .ok (.lshl, 1))
    (k : W p l e R s m args below meth c H locs cells slots Q (F0 m (pc + 1) ls (.long (lN (x * 2 ^ y)) :: rest))) : W p l e R s m args below meth c H locs cells slots Q (F0 m pc ls (.int (nI y) :: .long (lN x) :: rest)) :=
  lv_lshl hexec hb hdg (zl_shlK h2) k
theorem z_lushrK (hexec : p.tables.exec = Jvm.exec) (hb : c.code = cc) {x y : Nat} (h : x < 2 ^ 64) (h2 : y < 64) (hdg : decode cc pc = .ok (.lushr, 1))
    (k : W p l e R s m args below meth c H locs cells slots Q (F0 m (pc + 1) ls (.long (lN (x / 2 ^ y)) :: rest))) : W p l e R s m args below meth c H locs cells slots Q (F0 m pc ls (.int (nI y) :: .long (lN x) :: rest)) :=
  lv_lushr hexec hb hdg (zl_ushrK h h2) k
theorem z_lorK (hexec : p.tables.exec = Jvm.exec) (hb : c.code = cc) {x y j : Nat} (h : x < 2 ^ j) (h2 : x + y * 2 ^ j < 2 ^ 64) (hdg : decode cc pc = .ok (.lor, 1))
    (k : W p l e R s m args below meth c H locs cells slots Q (F0 m (pc + 1) ls (.long (lN (x + y * 2 ^ j)) :: rest))) : W p l e R s m args below meth c H locs cells slots Q (F0 m pc ls (.long (lN (y * 2 ^ j)) :: .long (lN x) :: rest)) :=
  lv_lor hexec hb hdg (by rw [zl_orK h h2]; exact k)
theorem z_lsub (hexec : p.tables.exec = Jvm.exec) (hb : c.code = cc) {x y : Nat} (h : y ≤ x) (hdg : decode cc pc = .ok (.lsub, 1))
    (k : W p l e R s m args below meth c H locs cells slots Q (F0 m (pc + 1) ls (.long (lN (x - y)) :: rest))) : W p l e R s m args below meth c H locs cells slots Q (F0 m pc ls (.long (lN y) :: .long (lN x) :: rest)) :=
  lv_lsub hexec hb hdg (by rw [lN_sub h]; exact k)
end ZV
theorem nI_sub2 {x y : Nat} (hx : x < 2147483648) (hy : y < 2147483648) : nI x - nI y = nI ((x + 4294967296 - y) % 4294967296) := by
  have := nI_sub3 hx hy (Nat.zero_le 1)
  rw [show nI 0 = (0 : Int32) from rfl] at this
  simpa using this
theorem cmp_gtN {a b : Nat} (ha : a < 2 ^ 63) (hb : b < 2 ^ 63) : (0 : Int32) < lg_cmp (lN a) (lN b) ↔ b < a := by rw [lg_cmp_gt, pk_lLT hb ha]
theorem cmp_geN {a b : Nat} (ha : a < 2 ^ 63) (hb : b < 2 ^ 63) : (0 : Int32) ≤ lg_cmp (lN a) (lN b) ↔ b ≤ a := by rw [lg_cmp_ge, pk_lLE hb ha]
theorem nI_mk {n k : Nat} (h : k ≤ n) (hk : Int32.ofInt (-(k : Int)) = -nI k) : nI n + Int32.ofInt (-(k : Int)) = nI (n - k) := by
  rw [hk, ← pk_sub h, Int32.sub_eq_add_neg]
theorem su_step {d t1 : Nat → Nat} {sh i cy : Nat} (h3 : vl t1 i + cy * bp i = vl d i * 2 ^ sh) : (vl t1 i + (cy + d i * 2 ^ sh) % 2147483648 * bp i) + (cy + d i * 2 ^ sh) / 2147483648 * bp (i + 1) = vl d (i + 1) * 2 ^ sh := by
  have h1 := carry_s (cy + d i * 2 ^ sh) (bp i)
  rw [bp_s, vl_s, Nat.add_mul]
  rw [Nat.add_mul] at h1
  have e : d i * bp i * 2 ^ sh = d i * 2 ^ sh * bp i := by rw [Nat.mul_assoc, Nat.mul_comm (bp i), ← Nat.mul_assoc]
  omega
/-- the digits of a number give it back -/
theorem vl_digits {d : Nat → Nat} {V : Nat} : ∀ {n : Nat}, (∀ i, i < n → d i = V / bp i % 2147483648) → vl d n = V % bp n
  | 0, _ => by rw [vl_0, bp_0, Nat.mod_one]
  | n + 1, h => by
    rw [vl_s, vl_digits (n := n) (fun i hi => h i (by omega)), h n (by omega), bp_s, Nat.mul_comm 2147483648, Nat.mod_mul, Nat.mul_comm (bp n)]
theorem vl_two {d : Nat → Nat} {n i : Nat} (h : dg d (n + 1)) (hi : i < n) : vl d (n + 1) / bp i % 4611686018427387904 = d i + 2147483648 * d (i + 1) := by
  have h1 := vl_lt (h.le (show i ≤ n + 1 by omega))
  obtain ⟨r, rfl⟩ : ∃ r, n = i + (r + 1) := ⟨n - i - 1, by omega⟩
  rw [vl_split d (show i ≤ i + (r + 1) + 1 by omega), Nat.add_mul_div_left _ _ (bp_pos i), Nat.div_eq_of_lt h1, Nat.zero_add, show i + (r + 1) + 1 - i = r + 1 + 1 by omega, vl_cons, vl_cons]
  have e1 := h i (by omega)
  have e2 := h (i + 1) (by omega)
  show (d (i + 0) + 2147483648 * (d (i + (1 + 0)) + 2147483648 * _)) % _ = _
  rw [Nat.add_zero, Nat.add_zero]
  omega
