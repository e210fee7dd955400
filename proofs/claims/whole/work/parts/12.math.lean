/-! numbers as digits of 31 bits -/
def bp (n : Nat) : Nat := 2147483648 ^ n
theorem bp_0 : bp 0 = 1 := rfl
theorem bp_1 : bp 1 = 2147483648 := rfl
theorem bp_s (n : Nat) : bp (n + 1) = 2147483648 * bp n := by simp only [bp, Nat.pow_succ]; omega
theorem bp_pos (n : Nat) : 0 < bp n := Nat.pow_pos (by decide)
theorem bp_add (a b : Nat) : bp (a + b) = bp a * bp b := Nat.pow_add ..
theorem bp_le {a b : Nat} (h : a ≤ b) : bp a ≤ bp b := Nat.pow_le_pow_right (by decide) h
theorem bp_lt {a b : Nat} (h : a < b) : bp a < bp b := Nat.pow_lt_pow_right (by decide) h
theorem bp_2 (n : Nat) : bp n = 2 ^ (31 * n) := by rw [Nat.pow_mul]; rfl
def vl (d : Nat → Nat) : Nat → Nat
  | 0 => 0
  | n + 1 => vl d n + d n * bp n
theorem vl_0 (d : Nat → Nat) : vl d 0 = 0 := rfl
theorem vl_s (d : Nat → Nat) (n : Nat) : vl d (n + 1) = vl d n + d n * bp n := rfl
def dg (d : Nat → Nat) (n : Nat) : Prop := ∀ k, k < n → d k < 2147483648
theorem dg.le {d : Nat → Nat} {n m : Nat} (h : dg d n) (hm : m ≤ n) : dg d m := fun k hk => h k (by omega)
theorem mul_le_r {a b : Nat} (c : Nat) (h : a ≤ b) : a * c ≤ b * c := Nat.mul_le_mul_right c h
theorem vl_lt {d : Nat → Nat} : ∀ {n : Nat}, dg d n → vl d n < bp n
  | 0, _ => by rw [vl_0, bp_0]; decide
  | n + 1, h => by
    have h1 := vl_lt (h.le (Nat.le_succ n))
    have h2 := mul_le_r (bp n) (show d n ≤ 2147483647 by have := h n (by omega); omega)
    rw [vl_s, bp_s]
    omega
theorem vl_congr {d d' : Nat → Nat} : ∀ {n : Nat}, (∀ k, k < n → d k = d' k) → vl d n = vl d' n
  | 0, _ => rfl
  | n + 1, h => by rw [vl_s, vl_s, vl_congr (fun k hk => h k (by omega)), h n (by omega)]
theorem vl_le_s (d : Nat → Nat) {n m : Nat} (h : n ≤ m) : vl d n ≤ vl d m := by
  induction m with
  | zero => rw [show n = 0 by omega]; exact Nat.le_refl _
  | succ m ih =>
    rcases Nat.lt_or_ge m n with h1 | h1
    · rw [show n = m + 1 by omega]; exact Nat.le_refl _
    · rw [vl_s]; have := ih h1; omega
/-- digits that are 0 from n on add nothing -/
theorem vl_pad {d : Nat → Nat} {n m : Nat} (h : n ≤ m) (hz : ∀ k, n ≤ k → k < m → d k = 0) : vl d m = vl d n := by
  induction m with
  | zero => rw [show n = 0 by omega]
  | succ m ih =>
    rcases Nat.lt_or_ge m n with h1 | h1
    · rw [show n = m + 1 by omega]
    · rw [vl_s, hz m h1 (by omega), ih h1 (fun k a b => hz k a (by omega))]; omega
theorem vl_top {d : Nat → Nat} {n : Nat} (h0 : 0 < n) (h : d (n - 1) ≠ 0) : bp (n - 1) ≤ vl d n := by
  obtain ⟨k, rfl⟩ : ∃ k, n = k + 1 := ⟨n - 1, by omega⟩
  rw [vl_s]
  have : 1 * bp k ≤ d k * bp k := mul_le_r _ (by simp at h; omega)
  simp at this ⊢
  omega
/-- the digits of a number -/
theorem vl_div {d : Nat → Nat} {n : Nat} (h : dg d n) {k : Nat} (hk : k ≤ n) : vl d n / bp k % bp (n - k) = vl (fun j => d (k + j)) (n - k) ∧ vl d n = vl d k + bp k * vl (fun j => d (k + j)) (n - k) := by
  have key : vl d n = vl d k + bp k * vl (fun j => d (k + j)) (n - k) := by
    obtain ⟨r, rfl⟩ : ∃ r, n = k + r := ⟨n - k, by omega⟩
    clear h
    rw [Nat.add_sub_cancel_left]
    induction r with
    | zero => simp [vl_0]
    | succ r ih =>
      rw [← Nat.add_assoc, vl_s, ih (by omega), vl_s, bp_add, Nat.mul_add]
      have : d (k + r) * (bp k * bp r) = bp k * (d (k + r) * bp r) := by rw [Nat.mul_left_comm]
      omega
  refine ⟨?_, key⟩
  have h1 := vl_lt (h.le hk)
  have h2 : vl (fun j => d (k + j)) (n - k) < bp (n - k) := vl_lt (fun j hj => h (k + j) (by omega))
  rw [key, Nat.add_mul_div_left _ _ (bp_pos k), Nat.div_eq_of_lt h1, Nat.zero_add, Nat.mod_eq_of_lt h2]
theorem vl_split (d : Nat → Nat) {n k : Nat} (hk : k ≤ n) : vl d n = vl d k + bp k * vl (fun j => d (k + j)) (n - k) := by
  obtain ⟨r, rfl⟩ : ∃ r, n = k + r := ⟨n - k, by omega⟩
  rw [Nat.add_sub_cancel_left]
  induction r with
  | zero => simp [vl_0]
  | succ r ih =>
    rw [← Nat.add_assoc, vl_s, ih (by omega), vl_s, bp_add, Nat.mul_add]
    have : d (k + r) * (bp k * bp r) = bp k * (d (k + r) * bp r) := by rw [Nat.mul_left_comm]
    omega
/-- how many digits a number has -/
def nl (v : Nat) : Nat := if v = 0 then 0 else v.log2 / 31 + 1
theorem nl_0 : nl 0 = 0 := rfl
theorem nl_lt (v : Nat) : v < bp (nl v) := by
  unfold nl
  by_cases h : v = 0
  · rw [if_pos h, h]; decide
  · rw [if_neg h, bp_2]
    refine Nat.lt_of_lt_of_le (Nat.lt_log2_self) (Nat.pow_le_pow_right (by decide) ?_)
    omega
theorem nl_ge {v : Nat} (h : v ≠ 0) : bp (nl v - 1) ≤ v := by
  unfold nl
  rw [if_neg h, Nat.add_sub_cancel, bp_2]
  refine Nat.le_trans (Nat.pow_le_pow_right (by decide) ?_) (Nat.log2_self_le h)
  omega
theorem nl_pos {v : Nat} : 0 < nl v ↔ v ≠ 0 := by
  unfold nl
  by_cases h : v = 0 <;> simp [h]
theorem nl_le {v n : Nat} (h : v < bp n) : nl v ≤ n := by
  by_cases h0 : v = 0
  · rw [h0, nl_0]; omega
  · rcases Nat.lt_or_ge n (nl v) with c | c
    · have := nl_ge h0
      have := bp_le (show n ≤ nl v - 1 by omega)
      omega
    · exact c
theorem nl_gt {v n : Nat} (h : bp n ≤ v) : n < nl v := by
  rcases Nat.lt_or_ge n (nl v) with c | c
  · exact c
  · have := nl_lt v
    have := bp_le c
    omega
theorem nl_eq {v n : Nat} (h1 : v < bp n) (h2 : 0 < n → bp (n - 1) ≤ v) : nl v = n := by
  have a := nl_le h1
  rcases Nat.eq_zero_or_pos n with c | c
  · omega
  · have := nl_gt (h2 c)
    omega
theorem nl_mono {v w : Nat} (h : v ≤ w) : nl v ≤ nl w := nl_le (Nat.lt_of_le_of_lt h (nl_lt w))
theorem nl_le_iff {v n : Nat} : nl v ≤ n ↔ v < bp n := ⟨fun h => Nat.lt_of_lt_of_le (nl_lt v) (bp_le h), nl_le⟩
theorem nl_vl {d : Nat → Nat} {n : Nat} (h : dg d n) (ht : 0 < n → d (n - 1) ≠ 0) : nl (vl d n) = n := nl_eq (vl_lt h) (fun h0 => vl_top h0 (ht h0))
/-- the length without zeros at the top -/
def tr (d : Nat → Nat) : Nat → Nat
  | 0 => 0
  | n + 1 => if d n = 0 then tr d n else n + 1
theorem tr_le (d : Nat → Nat) : ∀ n, tr d n ≤ n
  | 0 => Nat.le_refl 0
  | n + 1 => by unfold tr; split <;> have := tr_le d n <;> omega
theorem tr_top (d : Nat → Nat) : ∀ n, 0 < tr d n → d (tr d n - 1) ≠ 0
  | 0, h => by simp [tr] at h
  | n + 1, h => by
    unfold tr at h ⊢
    split
    · rename_i c; rw [if_pos c] at h; exact tr_top d n h
    · rename_i c; simpa using c
theorem tr_vl (d : Nat → Nat) : ∀ n, vl d (tr d n) = vl d n
  | 0 => rfl
  | n + 1 => by
    unfold tr
    split
    · rename_i c; rw [tr_vl d n, vl_s, c]; omega
    · rfl
theorem tr_nl {d : Nat → Nat} {n : Nat} (h : dg d n) : tr d n = nl (vl d n) := by
  rw [← tr_vl d n]
  exact (nl_vl (h.le (tr_le d n)) (tr_top d n)).symm
/-- two numbers by their digits from the top -/
theorem vl_cmp_lt {d d' : Nat → Nat} {n i : Nat} (hi : i < n) (h : dg d n) (h' : dg d' n) (he : ∀ k, i < k → k < n → d k = d' k) (hl : d i < d' i) : vl d n < vl d' n := by
  have key : vl d (i + 1) < vl d' (i + 1) := by
    rw [vl_s, vl_s]
    have a := vl_lt (h.le (show i ≤ n by omega))
    have b := mul_le_r (bp i) (show d i + 1 ≤ d' i by omega)
    rw [Nat.add_mul] at b
    omega
  rw [vl_split d (show i + 1 ≤ n by omega), vl_split d' (show i + 1 ≤ n by omega), vl_congr (d := fun j => d (i + 1 + j)) (d' := fun j => d' (i + 1 + j)) (fun k hk => he _ (by omega) (by omega))]
  omega
theorem vl_cmp_len {d d' : Nat → Nat} {n n' : Nat} (h : dg d n) (ht : 0 < n' → d' (n' - 1) ≠ 0) (hn : n < n') : vl d n < vl d' n' := by
  have a := vl_lt h
  have b := vl_top (d := d') (n := n') (by omega) (ht (by omega))
  have c := bp_le (show n ≤ n' - 1 by omega)
  omega
theorem vl_one (d : Nat → Nat) : vl d 1 = d 0 := by simp [vl, bp_0]
theorem vl_up {d : Nat → Nat} {i n x : Nat} (h : n ≤ i) : vl (va_up d i x) n = vl d n := vl_congr (fun k hk => va_up_ne _ _ (by omega))
