theorem num_of {la n V : Nat} {d : Nat → Nat} (h : dg d n) (hv : vl d n = V) : wh la (tr d n) (if tr d n = 0 then nI 0 else nI 1) = wh la (nl ((V : Nat) : Int).natAbs) (sgI ((V : Nat) : Int)) := by
  rw [tr_of h hv, Int.natAbs_natCast]
  have hp := @nl_pos V
  rcases sgI_or ((V : Nat) : Int) with ⟨g, e⟩ | ⟨g, e⟩ | ⟨g, e⟩
  · omega
  · rw [e, if_pos (by omega)]
  · rw [e, if_neg (by omega)]
theorem num_hd {n V : Nat} {d : Nat → Nat} (h : dg d n) (hv : vl d n = V) : hd d ((V : Nat) : Int) := hd_of h (by rw [hv, Int.natAbs_natCast])
theorem num_le {n V r : Nat} {d : Nat → Nat} (h : dg d n) (hv : vl d n = V) (hn : n ≤ r) : nl ((V : Nat) : Int).natAbs ≤ r := by
  rw [Int.natAbs_natCast, ← tr_of h hv]; exact Nat.le_trans (tr_le _ _) hn
theorem dd_inv {da q1 : Nat → Nat} {q n left vb : Nat} (hb : 0 < vb) (hk : q + 1 ≤ n) (h3 : vl (fun j => q1 (q + 1 + j)) (n - (q + 1)) = vl (fun j => da (q + 1 + j)) (n - (q + 1)) / vb ∧ left = vl (fun j => da (q + 1 + j)) (n - (q + 1)) % vb) :
    vl (fun j => va_up q1 q ((left * 2147483648 + da q) / vb) (q + j)) (n - q) = vl (fun j => da (q + j)) (n - q) / vb ∧ (left * 2147483648 + da q) % vb = vl (fun j => da (q + j)) (n - q) % vb := by
  obtain ⟨r, hr⟩ : ∃ r, n - q = r + 1 := ⟨n - q - 1, by omega⟩
  rw [show n - (q + 1) = r by omega] at h3
  rw [hr, vl_cons, vl_cons]
  have e1 : vl (fun j => va_up q1 q ((left * 2147483648 + da q) / vb) (q + (1 + j))) r = vl (fun j => q1 (q + 1 + j)) r := vl_congr (fun j _ => by rw [va_up_ne _ _ (by omega), Nat.add_assoc q 1 j])
  have e2 : vl (fun j => da (q + (1 + j))) r = vl (fun j => da (q + 1 + j)) r := vl_congr (fun j _ => by rw [Nat.add_assoc q 1 j])
  rw [e1, e2, Nat.add_zero, va_up_self]
  exact div_step hb h3.1 h3.2
/-! one digit of the quotient -/
theorem dm_lt' {T : Nat → Nat} {q nb VV : Nat} (h : vl T (nb + (q + 1)) < VV * bp (q + 1)) : vl (fun j => T (q + j)) (nb + 1) < 2147483648 * VV := by
  rw [show nb + (q + 1) = q + (nb + 1) by omega, vl_app, bp_s] at h
  have e : VV * (2147483648 * bp q) = bp q * (2147483648 * VV) := by
    rw [Nat.mul_left_comm, Nat.mul_comm VV, Nat.mul_left_comm]
  have h1 : bp q * vl (fun j => T (q + j)) (nb + 1) < bp q * (2147483648 * VV) := by omega
  exact Nat.lt_of_mul_lt_mul_left h1
theorem dm_rest {T T4 : Nat → Nat} {q nb VV : Nat} (p1 : ∀ j, j < q → T4 j = T j) (p4 : vl (fun j => T4 (q + j)) nb = vl (fun j => T (q + j)) (nb + 1) % VV) (hT : dg T q) (hV : 0 < VV) : vl T4 (nb + q) < VV * bp q ∧ vl T (nb + (q + 1)) = vl (fun j => T (q + j)) (nb + 1) / VV * (VV * bp q) + vl T4 (nb + q) := by
  have e1 : vl T4 (nb + q) = vl T q + bp q * (vl (fun j => T (q + j)) (nb + 1) % VV) := by rw [Nat.add_comm nb q, vl_app, p4, vl_congr p1]
  have e2 : vl T (nb + (q + 1)) = vl T q + bp q * vl (fun j => T (q + j)) (nb + 1) := by rw [show nb + (q + 1) = q + (nb + 1) by omega, vl_app]
  have e3 := Nat.div_add_mod (vl (fun j => T (q + j)) (nb + 1)) VV
  have e4 := vl_lt hT
  have e5 := Nat.mod_lt (vl (fun j => T (q + j)) (nb + 1)) hV
  constructor
  · rw [e1]
    have := mul_le_r (bp q) (show vl (fun j => T (q + j)) (nb + 1) % VV + 1 ≤ VV by omega)
    rw [Nat.add_mul, Nat.mul_comm (_ % VV)] at this
    omega
  · rw [e1, e2]
    have e6 := congrArg (fun x => bp q * x) e3
    simp only [Nat.mul_add] at e6
    have e7 : bp q * (VV * (vl (fun j => T (q + j)) (nb + 1) / VV)) = vl (fun j => T (q + j)) (nb + 1) / VV * (VV * bp q) := by
      rw [Nat.mul_comm (bp q), Nat.mul_comm VV (_ / VV), Nat.mul_assoc]
    omega
theorem dm_quo {Q1 : Nat → Nat} {q n VV Y x R R' : Nat} (hn : q + 1 ≤ n) (h : Y = vl (fun j => Q1 (q + 1 + j)) (n - (q + 1)) * (VV * bp (q + 1)) + R) (hR : R = x * (VV * bp q) + R') : Y = vl (fun j => va_up Q1 q x (q + j)) (n - q) * (VV * bp q) + R' := by
  obtain ⟨r, hr⟩ : ∃ r, n - q = r + 1 := ⟨n - q - 1, by omega⟩
  rw [show n - (q + 1) = r by omega] at h
  rw [hr, vl_cons]
  have e1 : vl (fun j => va_up Q1 q x (q + (1 + j))) r = vl (fun j => Q1 (q + 1 + j)) r := vl_congr (fun j _ => by rw [va_up_ne _ _ (by omega), Nat.add_assoc q 1 j])
  rw [e1, Nat.add_zero, va_up_self, Nat.add_mul, h, hR, bp_s]
  have e2 : VV * (2147483648 * bp q) = 2147483648 * (VV * bp q) := by rw [Nat.mul_left_comm]
  rw [e2, ← Nat.mul_assoc, Nat.mul_comm _ 2147483648]
  omega
theorem sh_fit {t P low sh : Nat} (hl : low < P) (hs : t * 2 ^ sh < 2147483648) (hsh : sh ≤ 30) : (low + t * P) * 2 ^ sh < 2147483648 * P := by
  have e : (2147483648 : Nat) = 2 ^ (31 - sh) * 2 ^ sh := by rw [← Nat.pow_add, show 31 - sh + sh = 31 by omega]
  have hp : 0 < 2 ^ sh := Nat.pow_pos (by decide)
  have h1 : t < 2 ^ (31 - sh) := Nat.lt_of_mul_lt_mul_right (a := 2 ^ sh) (by omega)
  have h2 := mul_le_r (2 ^ sh) (show t + 1 ≤ 2 ^ (31 - sh) by omega)
  have h3 := mul_le_r P (show (t + 1) * 2 ^ sh ≤ 2147483648 by omega)
  have h4 : (low + t * P) * 2 ^ sh < ((t + 1) * P) * 2 ^ sh := Nat.mul_lt_mul_of_pos_right (by rw [Nat.add_mul]; omega) hp
  have h5 : (t + 1) * P * 2 ^ sh = (t + 1) * 2 ^ sh * P := by rw [Nat.mul_assoc, Nat.mul_comm P, ← Nat.mul_assoc]
  omega
theorem sh_dig {X sh : Nat} (hsh : sh ≤ 30) : X % 4611686018427387904 / 2 ^ sh % 2147483648 = X / 2 ^ sh % 2147483648 := by
  have e : (4611686018427387904 : Nat) = 2 ^ sh * (2147483648 * 2 ^ (31 - sh)) := by
    rw [Nat.mul_left_comm, ← Nat.pow_add, show sh + (31 - sh) = 31 by omega]
  rw [e, Nat.mod_mul_right_div_self, Nat.mod_mul_right_mod]
/-- the cells of two numbers, and of the divider's, are apart -/
def ap6 (la lb lqu lre tp bt : Nat) : Prop := (la ≠ lqu ∧ la ≠ lre ∧ la ≠ tp ∧ la ≠ bt) ∧ (lb ≠ lqu ∧ lb ≠ lre ∧ lb ≠ tp ∧ lb ≠ bt) ∧ (lqu ≠ lre ∧ lqu ≠ tp ∧ lqu ≠ bt ∧ lre ≠ tp ∧ lre ≠ bt ∧ tp ≠ bt)
def ap4 (a b qu re : Nat) : Prop := a ≠ qu ∧ a ≠ re ∧ b ≠ qu ∧ b ≠ re ∧ qu ≠ re
