theorem ni_clr' {d r : Nat} (hr : r < 31) : nI d &&& (nI (2 ^ r) ^^^ (-1)) = nI (d - d / 2 ^ r % 2 * 2 ^ r) := by
  have e : d = 2 ^ r * (2 * (d / 2 ^ r / 2) + d / 2 ^ r % 2) + d % 2 ^ r := by
    rw [show 2 * (d / 2 ^ r / 2) + d / 2 ^ r % 2 = d / 2 ^ r by omega]
    exact (Nat.div_add_mod d (2 ^ r)).symm
  have h := ni_clr (h := d / 2 ^ r / 2) hr (Nat.mod_lt d (Nat.pow_pos (by decide) : 0 < 2 ^ r)) (Nat.mod_lt (d / 2 ^ r) (by decide : 0 < 2))
  rw [← e] at h
  rw [h]
  congr 1
  rw [Nat.mul_add] at e
  have : 2 ^ r * (d / 2 ^ r % 2) = d / 2 ^ r % 2 * 2 ^ r := Nat.mul_comm ..
  omega
theorem ni_set' {d r : Nat} (hr : r < 31) (h0 : d / 2 ^ r % 2 = 0) : nI d ||| nI (2 ^ r) = nI (d + 2 ^ r) := by
  have e : d = 2 ^ r * (2 * (d / 2 ^ r / 2)) + d % 2 ^ r := by
    rw [show 2 * (d / 2 ^ r / 2) = d / 2 ^ r by omega]
    exact (Nat.div_add_mod d (2 ^ r)).symm
  have h := ni_set (h := d / 2 ^ r / 2) hr (Nat.mod_lt d (Nat.pow_pos (by decide) : 0 < 2 ^ r))
  rw [← e, Nat.mul_add, Nat.mul_one] at h
  rw [h]
  congr 1
  omega
theorem vl_upd {F : Nat → Nat} {t i x n : Nat} (hi : i < n) : vl (fun j => va_up F (72 * t + i) x (72 * t + j)) n + F (72 * t + i) * bp i = vl (fun j => F (72 * t + j)) n + x * bp i := by
  have key : ∀ n, i < n → vl (fun j => va_up F (72 * t + i) x (72 * t + j)) n + F (72 * t + i) * bp i = vl (fun j => F (72 * t + j)) n + x * bp i := by
    intro n
    induction n with
    | zero => intro h; omega
    | succ n ih =>
      intro h
      rw [vl_s, vl_s]
      by_cases c : i = n
      · subst c; rw [va_up_self, vl_congr (d' := fun j => F (72 * t + j)) (fun k hk => va_up_ne _ _ (by omega))]; omega
      · rw [va_up_ne _ _ (by omega)]; have := ih (by omega); omega
  exact key n hi
theorem bp_q (q : Nat) : 2 ^ (q % 31) * bp (q / 31) = 2 ^ q := by rw [bp_2, ← Nat.pow_add, show q % 31 + 31 * (q / 31) = q by omega]
theorem vl_bit {F : Nat → Nat} {t n q : Nat} (h : dg (fun j => F (72 * t + j)) n) (hq : q / 31 < n) : F (72 * t + q / 31) / 2 ^ (q % 31) % 2 = vl (fun j => F (72 * t + j)) n / 2 ^ q % 2 := by
  rw [show F (72 * t + q / 31) = vl (fun j => F (72 * t + j)) n / bp (q / 31) % 2147483648 from (vl_digit h hq).symm, bit_mod (Nat.mod_lt _ (by decide)), bp_2, Nat.div_div_eq_div_mul, ← Nat.pow_add, show 31 * (q / 31) + q % 31 = q by omega]
theorem bd_1 (va q : Nat) : va / 2 ^ q = 2 * (va / 2 ^ (q + 1)) + va / 2 ^ q % 2 := by
  rw [Nat.pow_succ, ← Nat.div_div_eq_div_mul]; omega
theorem bd_2 (va q : Nat) : va % 2 ^ (q + 1) = va / 2 ^ q % 2 * 2 ^ q + va % 2 ^ q := by
  rw [Nat.pow_succ, Nat.mod_mul, Nat.mul_comm (2 ^ q)]; omega
theorem bd_ac (P Q b : Nat) : P * (2 * Q + b) = Q * (P * 2) + b * P := by rw [Nat.mul_add, Nat.mul_comm P b, ← Nat.mul_assoc, Nat.mul_comm (P * 2) Q]
theorem bd_X {Q va q : Nat} : (Q * 2 ^ (q + 1) + va % 2 ^ (q + 1)) / 2 ^ q % 2 = va / 2 ^ q % 2 := by
  rw [bd_2, Nat.pow_succ, ← Nat.add_assoc, ← bd_ac, Nat.mul_add_div (Nat.pow_pos (by decide)), Nat.div_eq_of_lt (Nat.mod_lt _ (Nat.pow_pos (by decide)))]
  omega
theorem bd_lo {va vb q : Nat} (h : 2 * (va / 2 ^ (q + 1) % vb) + va / 2 ^ q % 2 < vb) : va / 2 ^ q / vb = 2 * (va / 2 ^ (q + 1) / vb) ∧ va / 2 ^ q % vb = 2 * (va / 2 ^ (q + 1) % vb) + va / 2 ^ q % 2 := by
  have e : va / 2 ^ q = vb * (2 * (va / 2 ^ (q + 1) / vb)) + (2 * (va / 2 ^ (q + 1) % vb) + va / 2 ^ q % 2) := by
    conv => lhs; rw [bd_1 va q]
    have := Nat.div_add_mod (va / 2 ^ (q + 1)) vb
    rw [Nat.mul_left_comm]
    omega
  constructor
  · conv => lhs; rw [e]
    rw [Nat.mul_add_div (by omega), Nat.div_eq_of_lt h]; omega
  · conv => lhs; rw [e]
    rw [Nat.mul_add_mod, Nat.mod_eq_of_lt h]
theorem bd_hi {va vb q : Nat} (hb : 0 < vb) (h : vb ≤ 2 * (va / 2 ^ (q + 1) % vb) + va / 2 ^ q % 2) : va / 2 ^ q / vb = 2 * (va / 2 ^ (q + 1) / vb) + 1 ∧ va / 2 ^ q % vb = 2 * (va / 2 ^ (q + 1) % vb) + va / 2 ^ q % 2 - vb := by
  have hm := Nat.mod_lt (va / 2 ^ (q + 1)) hb
  have hl : 2 * (va / 2 ^ (q + 1) % vb) + va / 2 ^ q % 2 - vb < vb := by omega
  have e : va / 2 ^ q = vb * (2 * (va / 2 ^ (q + 1) / vb) + 1) + (2 * (va / 2 ^ (q + 1) % vb) + va / 2 ^ q % 2 - vb) := by
    conv => lhs; rw [bd_1 va q]
    have := Nat.div_add_mod (va / 2 ^ (q + 1)) vb
    rw [Nat.mul_add, Nat.mul_left_comm]
    omega
  constructor
  · conv => lhs; rw [e]
    rw [Nat.mul_add_div (by omega), Nat.div_eq_of_lt hl]
  · conv => lhs; rw [e]
    rw [Nat.mul_add_mod, Nat.mod_eq_of_lt hl]
theorem m_trim2 (l : Launch) (Γ : zT) {o lF lL lB : Nat} (hok : mdk o lF lL lB) (G0 : zG) (fl : Nat → Int32) (F L B : Nat → Nat) (sz : Nat) (a n v : Nat) (ha : a < 455) (hLn : L a = n) (hL : n ≤ 72) (hd : dg (fun k => F (72 * a + k)) n) (hv : vl (fun k => F (72 * a + k)) n = v) : zMv l yX5_trim wsX5_trim (zR 1) Γ (md Γ o lF lL lB G0 fl F L B) sz [.ref o, .int (nI a)] (fun G' => G' = md Γ o lF lL lB G0 fl F (va_up L a (nl v)) (bz B a v)) 0 0 := by
  have h := m_trim l Γ hok G0 fl F L B sz a n ha hLn hL hd
  rw [tr_of hd hv] at h
  exact h
theorem smB {F L B : Nat → Nat} {t x : Nat} : sm t (t + 1) F L B F L (va_up B t x) := fun a ha => ⟨rfl, va_up_ne _ _ (by omega), fun _ _ => rfl⟩
theorem smL {F L B : Nat → Nat} {t x : Nat} : sm t (t + 1) F L B F (va_up L t x) B := fun a ha => ⟨va_up_ne _ _ (by omega), rfl, fun _ _ => rfl⟩
theorem smF {F L B F1 : Nat → Nat} {t : Nat} (h : fr72 F F1 t) : sm t (t + 1) F L B F1 L B := fun a ha => ⟨rfl, rfl, fun k hk => h _ (by omega)⟩
theorem divide_inv {F1 F2 : Nat → Nat} {a q n left vb : Nat} (hb : 0 < vb) (hk : q + 1 ≤ n) (hx : fr72 F1 F2 445) (ha : a < 445) (hq72 : q < 72) (h3 : vl (fun j => F2 (72 * 445 + (q + 1 + j))) (n - (q + 1)) = vl (fun j => F1 (72 * a + (q + 1 + j))) (n - (q + 1)) / vb ∧ left = vl (fun j => F1 (72 * a + (q + 1 + j))) (n - (q + 1)) % vb) :
    vl (fun j => va_up F2 (72 * 445 + q) ((left * 2147483648 + F2 (72 * a + q)) / vb) (72 * 445 + (q + j))) (n - q) = vl (fun j => F1 (72 * a + (q + j))) (n - q) / vb ∧ (left * 2147483648 + F2 (72 * a + q)) % vb = vl (fun j => F1 (72 * a + (q + j))) (n - q) % vb := by
  obtain ⟨r, hr⟩ : ∃ r, n - q = r + 1 := ⟨n - q - 1, by omega⟩
  rw [show n - (q + 1) = r by omega] at h3
  rw [hr, vl_cons, vl_cons]
  have e1 : vl (fun j => va_up F2 (72 * 445 + q) ((left * 2147483648 + F2 (72 * a + q)) / vb) (72 * 445 + (q + (1 + j)))) r = vl (fun j => F2 (72 * 445 + (q + 1 + j))) r := vl_congr (fun j _ => by rw [va_up_ne _ _ (by omega), Nat.add_assoc q 1 j])
  have e2 : vl (fun j => F1 (72 * a + (q + (1 + j)))) r = vl (fun j => F1 (72 * a + (q + 1 + j))) r := vl_congr (fun j _ => by rw [Nat.add_assoc q 1 j])
  rw [e1, e2, Nat.add_zero, va_up_self, Nat.add_zero, show F2 (72 * a + q) = F1 (72 * a + q) from hx _ (by omega)]
  exact div_step hb h3.1 h3.2
theorem set_lt {d r : Nat} (hr : r < 31) (h0 : d / 2 ^ r % 2 = 0) (hd : d < 2147483648) : d + 2 ^ r < 2147483648 := by
  have e : (2147483648 : Nat) = 2 ^ r * (2 * 2 ^ (30 - r)) := by rw [← Nat.pow_succ', ← Nat.pow_add, show r + (30 - r).succ = 31 by omega]
  have h1 : d / 2 ^ r < 2 * 2 ^ (30 - r) := by
    rw [Nat.div_lt_iff_lt_mul (Nat.pow_pos (by decide)), Nat.mul_comm]; omega
  have h2 : d / 2 ^ r + 2 ≤ 2 * 2 ^ (30 - r) := by omega
  have h3 := Nat.mul_le_mul_left (2 ^ r) h2
  have h4 := Nat.div_add_mod d (2 ^ r)
  have h5 := Nat.mod_lt d (Nat.pow_pos (by decide) : 0 < 2 ^ r)
  rw [Nat.mul_add] at h3
  omega
theorem bd_c1 (Q q : Nat) : (2 * Q + 1) * 2 ^ q = Q * 2 ^ (q + 1) + 2 ^ q := by rw [Nat.add_mul, Nat.one_mul, Nat.mul_comm 2, Nat.mul_assoc, Nat.pow_succ']
theorem bd_c0 (Q q : Nat) : 2 * Q * 2 ^ q = Q * 2 ^ (q + 1) := by rw [Nat.mul_comm 2, Nat.mul_assoc, Nat.pow_succ']
