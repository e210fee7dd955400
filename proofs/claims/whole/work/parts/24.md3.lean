def bz (B : Nat → Nat) (t v : Nat) : Nat → Nat := if nl v = 0 then va_up B t 0 else B
theorem mix_dg {F F1 L : Nat → Nat} {a t k va : Nat} (na : nv F L a va) (h1 : ∀ j, (j < 72 * t ∨ 72 * t + k ≤ j) → F1 j = F j) (h2 : dg (fun j => F1 (72 * t + j)) k) (hk : k ≤ 72) : dg (fun j => F1 (72 * a + j)) (L a) := by
  intro i hi
  have hi72 := na.le
  show F1 (72 * a + i) < _
  by_cases c : 72 * a + i < 72 * t ∨ 72 * t + k ≤ 72 * a + i
  · rw [h1 _ c]; exact na.digs i hi
  · have e : a = t := by omega
    subst e
    exact h2 i (by omega)
theorem mix_lmb {F F1 L : Nat → Nat} {a t k va : Nat} (na : nv F L a va) (h1 : ∀ j, (j < 72 * t ∨ 72 * t + k ≤ j) → F1 j = F j) (hk : k < 72) : lmb F1 L a k = lmb F L a k := by
  unfold lmb
  split
  · exact h1 _ (by omega)
  · rfl
theorem up_out {F F1 : Nat → Nat} {t k x : Nat} (h1 : ∀ j, (j < 72 * t ∨ 72 * t + k ≤ j) → F1 j = F j) : ∀ j, (j < 72 * t ∨ 72 * t + (k + 1) ≤ j) → va_up F1 (72 * t + k) x j = F j := fun j hj => by
  rw [va_up_ne _ _ (by omega)]; exact h1 j (by omega)
theorem up_dg {F1 : Nat → Nat} {t k x : Nat} (h2 : dg (fun j => F1 (72 * t + j)) k) (hx : x < 2147483648) : dg (fun j => va_up F1 (72 * t + k) x (72 * t + j)) (k + 1) := fun j hj => by
  show va_up F1 _ _ _ < _
  by_cases c : j = k
  · subst c; rw [va_up_self]; exact hx
  · rw [va_up_ne _ _ (by omega)]; exact h2 j (by omega)
theorem up_vl {F1 : Nat → Nat} {t k x : Nat} : vl (fun j => va_up F1 (72 * t + k) x (72 * t + j)) (k + 1) = vl (fun j => F1 (72 * t + j)) k + x * bp k := by
  rw [vl_s, va_up_self, vl_congr (fun j hj => va_up_ne _ _ (by omega))]
theorem add_step {D c X Y x y k : Nat} (h : D + c * bp k = X + Y) : (D + (x + y + c) % 2147483648 * bp k) + (x + y + c) / 2147483648 * bp (k + 1) = (X + x * bp k) + (Y + y * bp k) := by
  have := carry_s (x + y + c) (bp k)
  rw [bp_s]
  rw [Nat.add_mul, Nat.add_mul] at this
  omega
theorem tr_of {d : Nat → Nat} {n v : Nat} (h : dg d n) (hv : vl d n = v) : tr d n = nl v := by rw [tr_nl h, hv]
theorem nv_of {F L : Nat → Nat} {t n v : Nat} (hd : dg (fun j => F (72 * t + j)) n) (hv : vl (fun j => F (72 * t + j)) n = v) (hn : n ≤ 72) : nv F (va_up L t (nl v)) t v := by
  have e := tr_of hd hv
  have h1 : nl v ≤ n := by rw [← e]; exact tr_le _ _
  refine ⟨va_up_self _ _ _, by omega, hd.le h1, ?_⟩
  rw [← e, tr_vl, hv]
/-- numbers of 64 bits below 0 -/
def bor (c : Nat) : Int64 := lN 0 - lN c
theorem zl_mod (n : Nat) : lN n = lN (n % 2 ^ 64) := by
  apply zl_inj
  apply BitVec.eq_of_toNat_eq
  show (BitVec.ofNat 64 n).toNat = (BitVec.ofNat 64 (n % 2 ^ 64)).toNat
  simp
theorem bor_sub {x y c : Nat} (hx : x < 2147483648) (hy : y < 2147483648) (hc : c ≤ 1) : lN x - lN y + bor c = lN (x + 18446744073709551616 - y - c) := by
  apply zl_inj
  apply BitVec.eq_of_toNat_eq
  rw [Int64.toBitVec_add, Int64.toBitVec_sub, bor, Int64.toBitVec_sub, zl_bv, zl_bv, zl_bv, zl_bv, zl_bv]
  simp only [BitVec.toNat_add, BitVec.toNat_sub, BitVec.toNat_ofNat, Int64.toBitVec_ofNat]
  omega
theorem bor_and {x y c : Nat} (hx : x < 2147483648) (hy : y < 2147483648) (hc : c ≤ 1) : (lN x - lN y + bor c) &&& 2147483647 = lN ((x + 2147483648 - y - c) % 2147483648) := by
  rw [bor_sub hx hy hc, zl_mod, zl_and (by omega)]
  congr 1
  omega
theorem bor_shr {x y c : Nat} (hx : x < 2147483648) (hy : y < 2147483648) (hc : c ≤ 1) : (lN x - lN y + bor c) >>> ((nI 31).toInt64 &&& 63) = bor (if x < y + c then 1 else 0) := by
  rw [bor_sub hx hy hc]
  split
  · rename_i h
    apply zl_inj
    apply BitVec.eq_of_toInt_eq
    rw [show ((nI 31).toInt64 &&& 63 : Int64) = 31 from by decide]
    show ((lN _).toBitVec.sshiftRight' ((31 : Int64).toBitVec.smod 64)).toInt = _
    rw [show ((31 : Int64).toBitVec.smod 64) = 31#64 from by decide]
    show ((lN _).toBitVec.sshiftRight 31).toInt = _
    rw [BitVec.toInt_sshiftRight, zl_bv, BitVec.toInt_ofNat', show (bor 1).toBitVec.toInt = -1 from by decide, Int.shiftRight_eq_div_pow]
    have e : ((x + 18446744073709551616 - y - c : Nat) : Int).bmod (2 ^ 64) = (x : Int) - y - c := by
      rw [show ((x + 18446744073709551616 - y - c : Nat) : Int) = ((x : Int) - y - c) + (2 ^ 64 : Nat) by omega, Int.add_bmod_right]
      apply Int.bmod_eq_of_le <;> omega
    rw [e]
    omega
  · rename_i h
    rw [zl_mod, show (x + 18446744073709551616 - y - c) % 2 ^ 64 = x - y - c by omega, zl_shr31 (by omega), show (x - y - c) / 2147483648 = 0 by omega]
    rfl
theorem sub_step {D c X Y x y k : Nat} (hc : c ≤ 1) (hx : x < 2147483648) (hy : y < 2147483648) (h : D + Y = X + c * bp k) : (D + (x + 2147483648 - y - c) % 2147483648 * bp k) + (Y + y * bp k) = (X + x * bp k) + (if x < y + c then 1 else 0) * bp (k + 1) := by
  rw [bp_s]
  split
  · rename_i g
    have e : (x + 2147483648 - y - c) % 2147483648 * bp k + y * bp k + c * bp k = x * bp k + 2147483648 * bp k := by
      rw [← Nat.add_mul, ← Nat.add_mul, ← Nat.add_mul]; congr 1; omega
    omega
  · rename_i g
    have e : (x + 2147483648 - y - c) % 2147483648 * bp k + y * bp k + c * bp k = x * bp k := by
      rw [← Nat.add_mul, ← Nat.add_mul]; congr 1; omega
    omega
theorem nv.lt {F L : Nat → Nat} {a v : Nat} (h : nv F L a v) : v < bp (L a) := by rw [h.1]; exact nl_lt v
