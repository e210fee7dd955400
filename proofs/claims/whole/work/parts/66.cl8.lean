/-! the divider, by ids -/
/-- the quotient and the remainder of numbers i and j -/
def divd (Γ : zT) (G : zG) (X : Nat → Nat) (vars : Nat) (Z : Nat → Int) (i j : Nat) (G' : zG) : Prop := fr X [33, 73, 34, 74, 77, 78] G G' ∧ ∃ Z', CW Γ G' X vars Z' ∧ (∀ k, k ≠ 33 → k ≠ 34 → Z' k = Z k) ∧ Z' 33 = (((Z i).natAbs / (Z j).natAbs : Nat) : Int) ∧ (Z' 34).natAbs = (Z i).natAbs % (Z j).natAbs
section DVD
variable {Γ : zT} {G : zG} {X : Nat → Nat} {vars : Nat} {Z : Nat → Int} {i j : Nat}
theorem dv_ap (hX : XI X vars) (vi : vw vars i) (vj : vw vars j) (hi : i ≠ 33 ∧ i ≠ 34) (hj : j ≠ 33 ∧ j ≠ 34) : ap6 (X (40 + i)) (X (40 + j)) (X (40 + 33)) (X (40 + 34)) (X 77) (X 78) := by
  have li := vi.lt
  have lj := vj.lt
  have h33 : vd vars (40 + 33) := by unfold vd vw; omega
  have h34 : vd vars (40 + 34) := by unfold vd vw; omega
  have h77 : vd vars 77 := by unfold vd vw; omega
  have h78 : vd vars 78 := by unfold vd vw; omega
  exact ⟨⟨hX.ne vi.e h33 (by omega), hX.ne vi.e h34 (by omega), hX.ne vi.e h77 (by omega), hX.ne vi.e h78 (by omega)⟩, ⟨hX.ne vj.e h33 (by omega), hX.ne vj.e h34 (by omega), hX.ne vj.e h77 (by omega), hX.ne vj.e h78 (by omega)⟩, hX.ne h33 h34 (by omega), hX.ne h33 h77 (by omega), hX.ne h33 h78 (by omega), hX.ne h34 h77 (by omega), hX.ne h34 h78 (by omega), hX.ne h77 h78 (by omega)⟩
theorem dv_ap4 (hX : XI X vars) (vi : vw vars i) (vj : vw vars j) (hi : i ≠ 33 ∧ i ≠ 34) (hj : j ≠ 33 ∧ j ≠ 34) : ap4 (X i) (X j) (X 33) (X 34) := by
  have h33 : vd vars 33 := by unfold vd vw; omega
  have h34 : vd vars 34 := by unfold vd vw; omega
  exact ⟨hX.ne vi.d h33 hi.1, hX.ne vi.d h34 hi.2, hX.ne vj.d h33 hj.1, hX.ne vj.d h34 hj.2, hX.ne h33 h34 (by omega)⟩
theorem divd_1 {G1 G2 : zG} (hC2 : CW Γ G2 X vars (va_up (va_up Z 33 0) 34 (Z i))) (hf1 : fr X [33, 40 + 33] G G1) (hf2 : fr X [34, 40 + 34] G1 G2) (hlt : (Z j).natAbs = 0 ∨ (Z i).natAbs < (Z j).natAbs) : divd Γ G X vars Z i j G2 := by
  refine ⟨(hf1.mono ?_).tr (hf2.mono ?_), _, hC2, ?_, ?_, ?_⟩
  · intro k hk; simp only [List.mem_cons, List.not_mem_nil, or_false] at hk ⊢; omega
  · intro k hk; simp only [List.mem_cons, List.not_mem_nil, or_false] at hk ⊢; omega
  · intro k h1 h2; rw [va_up_ne _ _ h2, va_up_ne _ _ h1]
  · rw [va_up_ne _ _ (by decide), va_up_self]
    rcases hlt with g | g
    · rw [g, Nat.div_zero]; rfl
    · rw [Nat.div_eq_of_lt g]; rfl
  · rw [va_up_self]
    rcases hlt with g | g
    · rw [g, Nat.mod_zero]
    · rw [Nat.mod_eq_of_lt g]
theorem divd_2 {G' : zG} {a b : Nat} (hX : XI X vars) (hC : CW Γ G X vars Z) (h : (∀ x, x ≠ X 33 → x ≠ X (40 + 33) → x ≠ X 34 → x ≠ X (40 + 34) → x ≠ X 77 → x ≠ X 78 → G' x = G x) ∧ (∃ T', G' (X 77) = some (zI Γ 49 T')) ∧ (∃ U', G' (X 78) = some (zI Γ 48 U')) ∧ NUM Γ G' (X 33) (X (40 + 33)) 48 ((a / b : Nat) : Int) ∧ NUM Γ G' (X 34) (X (40 + 34)) 48 ((a % b : Nat) : Int)) (ha : (Z i).natAbs = a) (hb : (Z j).natAbs = b) : divd Γ G X vars Z i j G' := by
  obtain ⟨h1, h2, h3, h4, h5⟩ := h
  subst ha; subst hb
  have hf : fr X [33, 73, 34, 74, 77, 78] G G' := fun x hx => h1 x (hx 33 (by simp)) (hx 73 (by simp)) (hx 34 (by simp)) (hx 74 (by simp)) (hx 77 (by simp)) (hx 78 (by simp))
  refine ⟨hf, va_up (va_up Z 33 (((Z i).natAbs / (Z j).natAbs : Nat) : Int)) 34 (((Z i).natAbs % (Z j).natAbs : Nat) : Int), ?_, ?_, ?_, ?_⟩
  · refine hC.of hX hf (fun k hk => ?_) (fun k hk hm => ?_) (fun k k1 k2 => ?_) (fun _ => h2) (fun _ => h3)
    · simp only [List.mem_cons, List.not_mem_nil, or_false] at hk
      exact ⟨by unfold vd vw; omega, by omega⟩
    · simp only [List.mem_cons, List.not_mem_nil, or_false] at hm
      have := hk.lt
      rcases (show k = 33 ∨ k = 34 by omega) with rfl | rfl
      · rw [va_up_ne _ _ (by decide), va_up_self]; exact h4
      · rw [va_up_self]; exact h5
    · simp only [List.mem_cons, List.not_mem_nil, or_false, not_or] at k1
      rw [va_up_ne _ _ (by omega), va_up_ne _ _ (by omega)]
  · intro k h1 h2; rw [va_up_ne _ _ h2, va_up_ne _ _ h1]
  · rw [va_up_ne _ _ (by decide), va_up_self]
  · rw [va_up_self, Int.natAbs_natCast]
theorem CW.sgn (hX : XI X vars) (h : CW Γ G X vars Z) (hi : vw vars i) {z : Int} (hz : z.natAbs = (Z i).natAbs) : was Γ G X vars Z i z (zup G (X i) (wh (X (40 + i)) (nl (Z i).natAbs) (sgI z))) := by
  obtain ⟨d, e1, e2, e3, e4⟩ := h.1 i hi
  have := was.mk hX h hi (z := z) (d := d) (by rw [hz]; exact e3) (by unfold hd at e4 ⊢; rw [hz]; exact e4)
  rw [zup_self _ e2, hz] at this
  exact this
end DVD
/-! Euclid's steps -/
def eus (st a b : Nat) : Prop := st = 0 ∨ (b < a ∧ a * b * 2 ^ (st - 1) ≤ bp 48 * bp 48)
theorem eus_step {st a b : Nat} (h : eus st a b) (ha : a < bp 48) (hb : b < bp 48) (h0 : 0 < b) : eus (st + 1) b (a % b) := by
  have hm := Nat.mod_lt a h0
  refine Or.inr ⟨hm, ?_⟩
  rw [Nat.add_sub_cancel]
  rcases h with rfl | ⟨h1, h2⟩
  · rw [Nat.pow_zero, Nat.mul_one]
    exact Nat.mul_le_mul (by omega) (by omega)
  · rcases st with _ | t
    · rw [Nat.pow_zero, Nat.mul_one]
      exact Nat.mul_le_mul (by omega) (by omega)
    · rw [Nat.add_sub_cancel] at h2
      have h3 : 2 * (a % b) ≤ a := by
        have e := Nat.div_add_mod a b
        have h4 : 1 ≤ a / b := (Nat.le_div_iff_mul_le h0).mpr (by omega)
        have h5 := Nat.mul_le_mul_left b h4
        omega
      calc b * (a % b) * 2 ^ (t + 1) = b * (2 * (a % b)) * 2 ^ t := by rw [Nat.pow_succ, Nat.mul_comm (2 ^ t) 2, ← Nat.mul_assoc, Nat.mul_assoc b, Nat.mul_comm (a % b) 2]
        _ ≤ b * a * 2 ^ t := Nat.mul_le_mul_right _ (Nat.mul_le_mul_left _ h3)
        _ = a * b * 2 ^ t := by rw [Nat.mul_comm b a]
        _ ≤ _ := h2
theorem bp_two (n : Nat) : bp n = 2 ^ (31 * n) := by
  induction n with
  | zero => rfl
  | succ n ih => rw [bp_s, ih, Nat.mul_succ, Nat.pow_add, Nat.mul_comm]
theorem eus_lt {st a b : Nat} (h : eus st a b) (h0 : 0 < b) : st < 3000 := by
  rcases h with rfl | ⟨h1, h2⟩
  · omega
  · have h3 : 1 ≤ a * b := Nat.mul_pos (by omega) h0
    have h4 := Nat.le_trans (mul_le_r (2 ^ (st - 1)) h3) h2
    rw [Nat.one_mul, bp_two, ← Nat.pow_add] at h4
    have h5 := (Nat.pow_le_pow_iff_right (by decide : 1 < 2)).mp h4
    omega
theorem gcd_step (a b : Nat) : Nat.gcd b (a % b) = Nat.gcd a b := by
  rw [Nat.gcd_comm a b, Nat.gcd_rec b a, Nat.gcd_comm]
/-! floors -/
theorem flr_pos {z : Int} {g : Nat} (hz : 0 ≤ z) : z / (g : Int) = ((z.natAbs / g : Nat) : Int) := by
  rw [Int.natCast_ediv, Int.natAbs_of_nonneg hz]
theorem flr_neg {z : Int} {g : Nat} (hg : 0 < g) (hz : z < 0) : z / (g : Int) = -((z.natAbs / g : Nat) : Int) - (if z.natAbs % g = 0 then 0 else 1) := by
  have e := Nat.div_add_mod z.natAbs g
  have hm := Nat.mod_lt z.natAbs hg
  have e2 : (g : Int) * ((z.natAbs / g : Nat) : Int) + ((z.natAbs % g : Nat) : Int) = (z.natAbs : Int) := by exact_mod_cast e
  split
  · rename_i h0
    refine ((Int.ediv_emod_unique (r := 0) (by omega)).mpr ⟨?_, by omega, by omega⟩).1
    rw [Int.sub_zero, Int.mul_neg]; omega
  · refine ((Int.ediv_emod_unique (r := (g : Int) - ((z.natAbs % g : Nat) : Int)) (by omega)).mpr ⟨?_, by omega, by omega⟩).1
    rw [Int.mul_sub, Int.mul_neg]; omega
