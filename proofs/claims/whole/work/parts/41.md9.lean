theorem nz.sm {lo hi : Nat} {F L B F1 L1 B1 : Nat → Nat} {a : Nat} {z : Int} (h : nz F L B a z) (s : sm lo hi F L B F1 L1 B1) (ha : a < lo ∨ hi ≤ a) : nz F1 L1 B1 a z := ⟨s.nv ha h.1, by rw [s.B ha]; exact h.2⟩
theorem nz.B2 {F L B : Nat → Nat} {a : Nat} {z : Int} (h : nz F L B a z) : B a < 2 := by rw [h.2]; exact sb_lt z
theorem settle_B {B : Nat → Nat} {t x v : Nat} {z : Int} (hv : v = z.natAbs) (hx : z ≠ 0 → x = sb z) : bz (va_up B t x) t v = va_up B t (sb z) := by
  unfold bz
  have hp := @nl_pos v
  by_cases h : z = 0
  · rw [if_pos (by rw [hv, h]; rfl), va_up_up, h]; rfl
  · rw [if_neg (by omega), hx h]
/-- what the register holds while it is open -/
theorem reg_sz {sg : Int32} {g : Nat → Nat} {gv : Nat} (hsg : sg = -1 ∨ sg = 0 ∨ sg = 1) (hgv : gv ≤ 20) (hg : ∀ j, j < gv → g j < 2147483648) : nl (sg.toInt * (vl g gv : Nat)).natAbs ≤ 20 := by
  apply nl_le
  have h1 := Nat.lt_of_lt_of_le (vl_lt hg) (bp_le hgv)
  rcases hsg with rfl | rfl | rfl
  · rw [show (-1 : Int32).toInt = -1 from rfl]; omega
  · rw [show (0 : Int32).toInt = 0 from rfl]; omega
  · rw [show (1 : Int32).toInt = 1 from rfl]; omega
