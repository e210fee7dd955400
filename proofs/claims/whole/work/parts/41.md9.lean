theorem nz.sm {lo hi : Nat} {F L B F1 L1 B1 : Nat → Nat} {a : Nat} {z : Int} (h : nz F L B a z) (s : sm lo hi F L B F1 L1 B1) (ha : a < lo ∨ hi ≤ a) : nz F1 L1 B1 a z := ⟨s.nv ha h.1, by rw [s.B ha]; exact h.2⟩
theorem nz.B2 {F L B : Nat → Nat} {a : Nat} {z : Int} (h : nz F L B a z) : B a < 2 := by rw [h.2]; exact sb_lt z
theorem settle_B {B : Nat → Nat} {t x v : Nat} {z : Int} (hv : v = z.natAbs) (hx : z ≠ 0 → x = sb z) : bz (va_up B t x) t v = va_up B t (sb z) := by
  unfold bz
  have hp := @nl_pos v
  by_cases h : z = 0
  · rw [if_pos (by rw [hv, h]; rfl), va_up_up, h]; rfl
  · rw [if_neg (by omega), hx h]
/-- what the register holds while it is open -/
theorem reg_sz {sg : Int32} {g : Nat → Nat} {gv : Nat} (hsg : sg = -1 ∨ sg = 0 ∨ sg = 1) (hgv : gv ≤ 20) (hg : ∀ j, j < gv → g j < 2147483648) : nl (sg.toInt * (vl g gv : Nat)).natAbs ≤ 20 := by
  apply nl_le
  have h1 := Nat.lt_of_lt_of_le (vl_lt hg) (bp_le hgv)
  rcases hsg with rfl | rfl | rfl
  · rw [show (-1 : Int32).toInt = -1 from rfl]; omega
  · rw [show (0 : Int32).toInt = 0 from rfl]; omega
  · rw [show (1 : Int32).toInt = 1 from rfl]; omega
def smQ (p : Nat → Prop) (F L B F' L' B' : Nat → Nat) : Prop := ∀ a, p a → L' a = L a ∧ B' a = B a ∧ ∀ k, k < 72 → F' (72 * a + k) = F (72 * a + k)
theorem sm.Q {lo hi : Nat} {p : Nat → Prop} {F L B F1 L1 B1 : Nat → Nat} (h : sm lo hi F L B F1 L1 B1) (hp : ∀ a, p a → a < lo ∨ hi ≤ a) : smQ p F L B F1 L1 B1 := fun a ha => h a (hp a ha)
theorem smQ.rf {p : Nat → Prop} {F L B : Nat → Nat} : smQ p F L B F L B := fun _ _ => ⟨rfl, rfl, fun _ _ => rfl⟩
theorem smQ.tr {p : Nat → Prop} {F L B F1 L1 B1 F2 L2 B2 : Nat → Nat} (h1 : smQ p F L B F1 L1 B1) (h2 : smQ p F1 L1 B1 F2 L2 B2) : smQ p F L B F2 L2 B2 := fun a ha => by
  obtain ⟨a1, b1, c1⟩ := h1 a ha
  obtain ⟨a2, b2, c2⟩ := h2 a ha
  exact ⟨a2.trans a1, b2.trans b1, fun k hk => (c2 k hk).trans (c1 k hk)⟩
theorem smQ.nv {p : Nat → Prop} {F L B F1 L1 B1 : Nat → Nat} (h : smQ p F L B F1 L1 B1) {a v : Nat} (ha : p a) (n : nv F L a v) : nv F1 L1 a v := by
  obtain ⟨h1, -, h3⟩ := h a ha
  refine ⟨by rw [h1]; exact n.1, n.2.1, fun k hk => ?_, ?_⟩
  · have := n.2.1; show F1 _ < _; rw [h3 k (by omega)]; exact n.2.2.1 k hk
  · have := n.2.1; rw [vl_congr (fun k hk => h3 k (by omega))]; exact n.2.2.2
theorem nz.Q {p : Nat → Prop} {F L B F1 L1 B1 : Nat → Nat} {a : Nat} {z : Int} (h : nz F L B a z) (s : smQ p F L B F1 L1 B1) (ha : p a) : nz F1 L1 B1 a z := ⟨s.nv ha h.1, by rw [(s a ha).2.1]; exact h.2⟩
theorem nz_0 {F L B : Nat → Nat} {a : Nat} (h : nv F L a 0) (hb : B a = 0) : nz F L B a 0 := ⟨h, hb⟩
theorem fit48_iff {X : Nat → Int} : ∀ {n : Nat}, fit48 X n = true ↔ ∀ k, k < n → nl (X k).natAbs ≤ 48
  | 0 => by simp [fit48]
  | n + 1 => by
    simp only [fit48, Bool.and_eq_true, decide_eq_true_eq, fit48_iff (n := n)]
    constructor
    · rintro ⟨h1, h2⟩ k hk
      by_cases c : k = n
      · subst c; exact h2
      · exact h1 k (by omega)
    · intro h; exact ⟨fun k hk => h k (by omega), h n (by omega)⟩
theorem zeroN_iff {X : Nat → Int} : ∀ {n : Nat}, zeroN X n = true ↔ ∀ k, k < n → X k = 0
  | 0 => by simp [zeroN]
  | n + 1 => by
    simp only [zeroN, Bool.and_eq_true, decide_eq_true_eq, zeroN_iff (n := n)]
    constructor
    · rintro ⟨h1, h2⟩ k hk
      by_cases c : k = n
      · subst c; exact h2
      · exact h1 k (by omega)
    · intro h; exact ⟨fun k hk => h k (by omega), h n (by omega)⟩
theorem gcdN_nl {X : Nat → Int} : ∀ {n : Nat}, (∀ k, k < n → nl (X k).natAbs ≤ 48) → nl (gcdN X n) ≤ 48
  | 0, _ => Nat.zero_le 48
  | n + 1, h => by
    have h1 := gcdN_nl (n := n) (fun k hk => h k (by omega))
    simp only [gcdN]
    rcases Nat.eq_zero_or_pos (X n).natAbs with c | c
    · rw [c, Nat.gcd_zero_right]; exact h1
    · exact Nat.le_trans (nl_mono (Nat.gcd_le_right _ c)) (h n (by omega))
