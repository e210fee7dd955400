theorem lmb_fr {F F1 L : Nat → Nat} {a t va : Nat} (na : nv F L a va) (hf : fr72 F F1 t) (hat : a ≠ t) (k : Nat) : lmb F1 L a k = lmb F L a k := by
  have := na.le
  unfold lmb; split
  · exact hf _ (by omega)
  · rfl
theorem mul_step {D c E x y f Y i k : Nat} (h : D + c * bp (i + k) = E + x * (bp i * Y)) : (D + (x * y + f + c) % 2147483648 * bp (i + k)) + (x * y + f + c) / 2147483648 * bp (i + (k + 1)) = (E + f * bp (i + k)) + x * (bp i * (Y + y * bp k)) := by
  have h1 := carry_s (x * y + f + c) (bp (i + k))
  rw [← Nat.add_assoc, bp_s]
  rw [Nat.add_mul, Nat.add_mul] at h1
  have h2 : x * (bp i * (Y + y * bp k)) = x * (bp i * Y) + x * y * bp (i + k) := by
    rw [Nat.mul_add, Nat.mul_add, bp_add]
    congr 1
    simp only [Nat.mul_assoc, Nat.mul_left_comm]
  omega
theorem mul_lt_bp {x y n k : Nat} (hx : x < bp n) (hy : y < bp k) : x * y < bp (n + k) := by
  rw [bp_add]
  exact Nat.mul_lt_mul'' hx hy
theorem sb_mul {a b : Int} (h : a * b ≠ 0) : sb (a * b) = if sb a = sb b then 0 else 1 := by
  have ha : a ≠ 0 := fun e => h (by rw [e, Int.zero_mul])
  have hb : b ≠ 0 := fun e => h (by rw [e, Int.mul_zero])
  have e1 := sb_or a
  have e2 := sb_or b
  have e3 := sb_or (a * b)
  rcases (show a < 0 ∨ 0 < a by omega) with p | p <;> rcases (show b < 0 ∨ 0 < b by omega) with q | q
  · have := Int.mul_pos_of_neg_of_neg p q; rw [if_pos (by omega)]; omega
  · have := Int.mul_neg_of_neg_of_pos p q; rw [if_neg (by omega)]; omega
  · have := Int.mul_neg_of_pos_of_neg p q; rw [if_neg (by omega)]; omega
  · have := Int.mul_pos p q; rw [if_pos (by omega)]; omega
theorem mul_post {B : Nat → Nat} {t x v : Nat} {za zb : Int} (hv : v = (za * zb).natAbs) (hx : x = if sb za = sb zb then 0 else 1) : (if nl v = 0 then va_up (va_up B t x) t 0 else va_up B t x) = va_up B t (sb (za * zb)) := by
  have hp := @nl_pos v
  by_cases h : za * zb = 0
  · rw [if_pos (by rw [hv, h]; rfl), va_up_up, h]; rfl
  · rw [if_neg (by omega), sb_mul h, hx]
theorem up_vl2 {F1 : Nat → Nat} {t i k x : Nat} : vl (fun j => va_up F1 (72 * t + (i + k)) x (72 * t + j)) (i + (k + 1)) = vl (fun j => F1 (72 * t + j)) (i + k) + x * bp (i + k) := up_vl (k := i + k)
theorem vl_s2 (d : Nat → Nat) (i k : Nat) : vl d (i + (k + 1)) = vl d (i + k) + d (i + k) * bp (i + k) := rfl
