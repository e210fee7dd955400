/-- 1 for a number below 0 -/
def sb (z : Int) : Nat := if z < 0 then 1 else 0
theorem sb_lt (z : Int) : sb z < 2 := by unfold sb; split <;> decide
theorem bz_up (B : Nat → Nat) (t v x : Nat) : va_up (bz B t v) t x = va_up B t x := by unfold bz; split; rw [va_up_up]; rfl
theorem bz_ap {B : Nat → Nat} {t v a : Nat} (h : a ≠ t) : bz B t v a = B a := by unfold bz; split; exact va_up_ne _ _ h; rfl
theorem add_post {Γ : zT} {o lF lL lB : Nat} {G0 : zG} {fl : Nat → Int32} {F L B : Nat → Nat} {t v x : Nat} {z : Int} (hv : v = z.natAbs) (hx : x = sb z) : md Γ o lF lL lB G0 fl F (va_up L t (nl v)) (va_up (bz B t v) t x) = md Γ o lF lL lB G0 fl F (va_up L t (nl z.natAbs)) (va_up B t (sb z)) := by rw [hv, hx, bz_up]
theorem sb_test1 (a b : Int) (va vb : Nat) (h1 : va = a.natAbs) (h2 : vb = b.natAbs) (h3 : sb a = sb b) : va + vb = (a + b).natAbs := by unfold sb at h3; split at h3 <;> split at h3 <;> omega
theorem sb_or (z : Int) : (z < 0 ∧ sb z = 1) ∨ (0 ≤ z ∧ sb z = 0) := by
  unfold sb; split
  · exact Or.inl ⟨by assumption, rfl⟩
  · exact Or.inr ⟨by omega, rfl⟩
