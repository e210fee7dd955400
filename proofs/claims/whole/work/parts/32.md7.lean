/-! numbers outside lo .. hi - 1 stay -/
def sm (lo hi : Nat) (F L B F' L' B' : Nat → Nat) : Prop := ∀ a, (a < lo ∨ hi ≤ a) → L' a = L a ∧ B' a = B a ∧ ∀ k, k < 72 → F' (72 * a + k) = F (72 * a + k)
theorem sm.rf {lo hi : Nat} {F L B : Nat → Nat} : sm lo hi F L B F L B := fun _ _ => ⟨rfl, rfl, fun _ _ => rfl⟩
theorem sm.tr {lo hi : Nat} {F L B F1 L1 B1 F2 L2 B2 : Nat → Nat} (h1 : sm lo hi F L B F1 L1 B1) (h2 : sm lo hi F1 L1 B1 F2 L2 B2) : sm lo hi F L B F2 L2 B2 := fun a ha => by
  obtain ⟨a1, b1, c1⟩ := h1 a ha
  obtain ⟨a2, b2, c2⟩ := h2 a ha
  exact ⟨a2.trans a1, b2.trans b1, fun k hk => (c2 k hk).trans (c1 k hk)⟩
theorem sm.wid {lo hi lo' hi' : Nat} {F L B F1 L1 B1 : Nat → Nat} (h1 : sm lo hi F L B F1 L1 B1) (hl : lo' ≤ lo) (hh : hi ≤ hi') : sm lo' hi' F L B F1 L1 B1 := fun a ha => h1 a (by omega)
theorem sm.nv {lo hi : Nat} {F L B F1 L1 B1 : Nat → Nat} (h : sm lo hi F L B F1 L1 B1) {a v : Nat} (ha : a < lo ∨ hi ≤ a) (n : nv F L a v) : nv F1 L1 a v := by
  obtain ⟨h1, -, h3⟩ := h a ha
  refine ⟨by rw [h1]; exact n.1, n.2.1, fun k hk => ?_, ?_⟩
  · have := n.2.1; show F1 _ < _; rw [h3 k (by omega)]; exact n.2.2.1 k hk
  · have := n.2.1; rw [vl_congr (fun k hk => h3 k (by omega))]; exact n.2.2.2
theorem sm.B {lo hi : Nat} {F L B F1 L1 B1 : Nat → Nat} (h : sm lo hi F L B F1 L1 B1) {a : Nat} (ha : a < lo ∨ hi ≤ a) : B1 a = B a := (h a ha).2.1
theorem sm.L {lo hi : Nat} {F L B F1 L1 B1 : Nat → Nat} (h : sm lo hi F L B F1 L1 B1) {a : Nat} (ha : a < lo ∨ hi ≤ a) : L1 a = L a := (h a ha).1
theorem sm_of {F L B F1 : Nat → Nat} {t x : Nat} {B1 : Nat → Nat} (hf : fr72 F F1 t) (hB : ∀ a, a ≠ t → B1 a = B a) : sm t (t + 1) F L B F1 (va_up L t x) B1 := fun a ha => ⟨va_up_ne _ _ (by omega), hB a (by omega), fun k hk => hf _ (by omega)⟩
theorem cpF_fr (F : Nat → Nat) (t f : Nat) {n : Nat} (hn : n ≤ 72) : fr72 F (cpF F t f n) t := fun j hj => by unfold cpF; rw [if_neg (by omega)]
theorem cpF_in (F : Nat → Nat) (t f : Nat) {n k : Nat} (hk : k < n) : cpF F t f n (72 * t + k) = F (72 * f + k) := by unfold cpF; rw [if_pos (by omega)]; congr 1; omega
theorem cpF_nv {F L : Nat → Nat} {t f v : Nat} (n : nv F L f v) : nv (cpF F t f (L f)) (va_up L t (L f)) t v := by
  refine ⟨by rw [va_up_self]; exact n.1, n.2.1, fun k hk => ?_, ?_⟩
  · show cpF F t f (L f) (72 * t + k) < _; rw [cpF_in F t f (by rw [n.1]; exact hk)]; exact n.2.2.1 k hk
  · rw [vl_congr (fun k hk => cpF_in F t f (by rw [n.1]; exact hk))]; exact n.2.2.2
section REL
variable {Γ : zT} {A : Nat → Prop} {H0 H : Heap} {locs : List Loc} {o lF lL lB : Nat} {G0 : zG} {fl : Nat → Int32} {F L B F1 : Nat → Nat} {t f v : Nat}
theorem copy_rel (hM : zM Γ A H0 (md Γ o lF lL lB G0 fl (cpF F t f (L f)) (va_up L t (L f)) (va_up B t (B f))) H locs) (n : nv F L f v) : ∃ F1 L1 B1, zM Γ A H0 (md Γ o lF lL lB G0 fl F1 L1 B1) H locs ∧ sm t (t + 1) F L B F1 L1 B1 ∧ nv F1 L1 t v ∧ B1 t = B f :=
  ⟨_, _, _, hM, sm_of (cpF_fr F t f n.le) (fun a h => va_up_ne _ _ h), cpF_nv n, va_up_self _ _ _⟩
theorem step_rel (hM : zM Γ A H0 (md Γ o lF lL lB G0 fl F1 (va_up L t (nl v)) (bz B t v)) H locs) (hf : fr72 F F1 t) (n : nv F1 (va_up L t (nl v)) t v) : ∃ L1 B1, zM Γ A H0 (md Γ o lF lL lB G0 fl F1 L1 B1) H locs ∧ sm t (t + 1) F L B F1 L1 B1 ∧ nv F1 L1 t v ∧ (B1 t = B t ∨ B1 t = 0) :=
  ⟨_, _, hM, sm_of hf (fun a h => bz_ap h), n, by unfold bz; split; exact Or.inr (va_up_self _ _ _); exact Or.inl rfl⟩
theorem sign_rel {z : Int} (hM : zM Γ A H0 (md Γ o lF lL lB G0 fl F1 (va_up L t (nl z.natAbs)) (va_up B t (sb z))) H locs) (hf : fr72 F F1 t) (n : nv F1 (va_up L t (nl z.natAbs)) t z.natAbs) : ∃ L1 B1, zM Γ A H0 (md Γ o lF lL lB G0 fl F1 L1 B1) H locs ∧ sm t (t + 1) F L B F1 L1 B1 ∧ nv F1 L1 t z.natAbs ∧ B1 t = sb z :=
  ⟨_, _, hM, sm_of hf (fun a h => va_up_ne _ _ h), n, va_up_self _ _ _⟩
theorem clear_rel (hM : zM Γ A H0 (md Γ o lF lL lB G0 fl F (va_up L t 0) (va_up B t 0)) H locs) : ∃ L1 B1, zM Γ A H0 (md Γ o lF lL lB G0 fl F L1 B1) H locs ∧ sm t (t + 1) F L B F L1 B1 ∧ nv F L1 t 0 ∧ B1 t = 0 :=
  ⟨_, _, hM, sm_of (fun _ _ => rfl) (fun a h => va_up_ne _ _ h), ⟨va_up_self _ _ _, by decide, fun k hk => absurd hk (by rw [nl_0]; omega), rfl⟩, va_up_self _ _ _⟩
end REL
/-! one step of long division by a digit -/
theorem div_step {f h HI vb left : Nat} (hb : 0 < vb) (h1 : h = HI / vb) (h2 : left = HI % vb) : (left * 2147483648 + f) / vb + 2147483648 * h = (f + 2147483648 * HI) / vb ∧ (left * 2147483648 + f) % vb = (f + 2147483648 * HI) % vb := by
  subst h1; subst h2
  have e : f + 2147483648 * HI = vb * (2147483648 * (HI / vb)) + (HI % vb * 2147483648 + f) := by
    have := Nat.div_add_mod HI vb
    have e2 : vb * (2147483648 * (HI / vb)) = 2147483648 * (vb * (HI / vb)) := by rw [Nat.mul_left_comm]
    omega
  rw [e, Nat.mul_add_div hb, Nat.mul_add_mod]
  exact ⟨by omega, rfl⟩
theorem div_digit_lt {left f vb : Nat} (hb : 0 < vb) (hl : left < vb) (hf : f < 2147483648) : (left * 2147483648 + f) / vb < 2147483648 := by
  rw [Nat.div_lt_iff_lt_mul hb]
  have := mul_le_r 2147483648 (show left + 1 ≤ vb by omega)
  rw [Nat.mul_comm 2147483648]
  omega
/-! bits of a digit -/
theorem tb_clr {r h b low : Nat} (hlow : low < 2 ^ r) (hb : b < 2) (i : Nat) : (2 ^ r * (2 * h) + low).testBit i = ((2 ^ r * (2 * h + b) + low).testBit i && decide (i ≠ r)) := by
  rw [Nat.testBit_two_pow_mul_add _ hlow, Nat.testBit_two_pow_mul_add _ hlow]
  by_cases c : i < r
  · simp [c]; omega
  · simp only [c, if_false]
    by_cases c2 : i = r
    · subst c2; simp [Nat.testBit_zero]
    · obtain ⟨q, hq⟩ : ∃ q, i - r = q + 1 := ⟨i - r - 1, by omega⟩
      rw [hq, Nat.testBit_succ, Nat.testBit_succ, show 2 * h / 2 = h by omega, show (2 * h + b) / 2 = h by omega]
      simp [c2]
theorem tb_set {r h low : Nat} (hlow : low < 2 ^ r) (i : Nat) : (2 ^ r * (2 * h + 1) + low).testBit i = ((2 ^ r * (2 * h) + low).testBit i || decide (i = r)) := by
  rw [Nat.testBit_two_pow_mul_add _ hlow, Nat.testBit_two_pow_mul_add _ hlow]
  by_cases c : i < r
  · simp [c]; omega
  · simp only [c, if_false]
    by_cases c2 : i = r
    · subst c2; simp [Nat.testBit_zero]
    · obtain ⟨q, hq⟩ : ∃ q, i - r = q + 1 := ⟨i - r - 1, by omega⟩
      rw [hq, Nat.testBit_succ, Nat.testBit_succ, show 2 * h / 2 = h by omega, show (2 * h + 1) / 2 = h by omega]
      simp [c2]
theorem ni_bv (n : Nat) : (nI n).toBitVec = BitVec.ofNat 32 n := rfl
theorem ni_clr {r h b low : Nat} (hr : r < 31) (hlow : low < 2 ^ r) (hb : b < 2) : nI (2 ^ r * (2 * h + b) + low) &&& (nI (2 ^ r) ^^^ (-1)) = nI (2 ^ r * (2 * h) + low) := by
  apply Int32.toBitVec_inj.mp
  apply BitVec.eq_of_getLsbD_eq
  intro i hi
  rw [Int32.toBitVec_and, Int32.toBitVec_xor, ni_bv, ni_bv, ni_bv, BitVec.getLsbD_and, BitVec.getLsbD_xor, BitVec.getLsbD_ofNat, BitVec.getLsbD_ofNat, BitVec.getLsbD_ofNat, tb_clr (h := h) hlow hb i, Nat.testBit_two_pow, show ((-1 : Int32).toBitVec).getLsbD i = decide (i < 32) from by rw [show (-1 : Int32).toBitVec = BitVec.allOnes 32 from by decide, BitVec.getLsbD_allOnes]]
  simp [hi]
  by_cases c : i = r
  · simp [c]
  · simp [c, Ne.symm c]
theorem ni_set {r h low : Nat} (hr : r < 31) (hlow : low < 2 ^ r) : nI (2 ^ r * (2 * h) + low) ||| nI (2 ^ r) = nI (2 ^ r * (2 * h + 1) + low) := by
  apply Int32.toBitVec_inj.mp
  apply BitVec.eq_of_getLsbD_eq
  intro i hi
  rw [Int32.toBitVec_or, ni_bv, ni_bv, ni_bv, BitVec.getLsbD_or, BitVec.getLsbD_ofNat, BitVec.getLsbD_ofNat, BitVec.getLsbD_ofNat, tb_set hlow i, Nat.testBit_two_pow]
  simp [hi, eq_comm]
theorem ni_shl : ∀ r, r < 31 → nI 1 <<< (nI r &&& 31) = nI (2 ^ r) := by decide
/-! greatest divisors -/
theorem odd_co {y : Nat} (h : y % 2 = 1) : Nat.Coprime 2 y := by
  unfold Nat.Coprime; rw [Nat.gcd_rec, h]; rfl
theorem gcd_half {x y : Nat} (hx : x % 2 = 0) (hy : y % 2 = 1) : Nat.gcd (x / 2) y = Nat.gcd x y := by
  have := (odd_co hy).gcd_mul_left_cancel (x / 2)
  rw [show 2 * (x / 2) = x by omega] at this
  exact this.symm
theorem gcd_half2 {x y : Nat} (hx : x % 2 = 0) (hy : y % 2 = 0) : 2 * Nat.gcd (x / 2) (y / 2) = Nat.gcd x y := by
  rw [← Nat.gcd_mul_left, show 2 * (x / 2) = x by omega, show 2 * (y / 2) = y by omega]
