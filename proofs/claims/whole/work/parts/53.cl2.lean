theorem at_step {d1 d : Nat → Nat} {x at_ k cy : Nat} {db : Nat → Nat} (h3 : vl (fun j => d1 (at_ + j)) k + cy * bp k = vl (fun j => d (at_ + j)) k + x * vl db k) (he : d1 (at_ + k) = d (at_ + k)) :
    vl (fun j => va_up d1 (at_ + k) ((cy + (x * db k + d1 (at_ + k))) % 2147483648) (at_ + j)) (k + 1) + (cy + (x * db k + d1 (at_ + k))) / 2147483648 * bp (k + 1) = vl (fun j => d (at_ + j)) (k + 1) + x * vl db (k + 1) := by
  rw [vl_s, vl_s, vl_s, va_up_self, vl_congr (d' := fun j => d1 (at_ + j)) (fun j hj => va_up_ne _ _ (by omega)), he, bp_s]
  have h1 := carry_s (cy + (x * db k + d (at_ + k))) (bp k)
  rw [Nat.add_mul, Nat.add_mul] at h1
  rw [Nat.mul_add, ← Nat.mul_assoc x]
  omega
theorem vl_app (d : Nat → Nat) (i n : Nat) : vl d (i + n) = vl d i + bp i * vl (fun j => d (i + j)) n := by
  rw [vl_split d (Nat.le_add_right i n), Nat.add_sub_cancel_left]
theorem prod_step {d1 d2 db : Nat → Nat} {i nq Vq : Nat} (h1 : ∀ j, (j < i ∨ i + nq < j) → d2 j = d1 j) (h2 : vl (fun j => d2 (i + j)) (nq + 1) = vl (fun j => d1 (i + j)) nq + db i * Vq) (h3 : vl d1 (i + nq) = vl db i * Vq) : vl d2 (i + 1 + nq) = vl db (i + 1) * Vq := by
  rw [show i + 1 + nq = i + (nq + 1) by omega, vl_app, h2, vl_congr (d' := d1) (fun j hj => h1 j (Or.inl hj)), vl_s, Nat.add_mul, ← h3, vl_app, Nat.mul_add]
  have : bp i * (db i * Vq) = db i * bp i * Vq := by rw [← Nat.mul_assoc, Nat.mul_comm (bp i)]
  omega
theorem isub_and {x y c : Nat} (hy : y < 2147483648) (hc : c ≤ 1) : (x + 4294967296 - y - c) % 4294967296 % 2147483648 = (x + 2147483648 - y - c) % 2147483648 := by omega
theorem isub_ushr {x y c : Nat} (hx : x < 2147483648) (hy : y < 2147483648) (hc : c ≤ 1) : (x + 4294967296 - y - c) % 4294967296 / 2147483648 = if x < y + c then 1 else 0 := by split <;> omega
theorem sgI_or (z : Int) : (z < 0 ∧ sgI z = -1) ∨ (z = 0 ∧ sgI z = nI 0) ∨ (0 < z ∧ sgI z = nI 1) := by
  unfold sgI
  by_cases h : z < 0
  · rw [if_pos h]; exact Or.inl ⟨h, rfl⟩
  · rw [if_neg h]
    by_cases h2 : z = 0
    · rw [if_pos h2]; exact Or.inr (Or.inl ⟨h2, rfl⟩)
    · rw [if_neg h2]; exact Or.inr (Or.inr ⟨by omega, rfl⟩)
theorem sgI_mul_lt {a b : Int} : sgI a * sgI b < 0 ↔ (a < 0 ∧ 0 < b) ∨ (0 < a ∧ b < 0) := by
  rcases sgI_or a with ⟨h1, e1⟩ | ⟨h1, e1⟩ | ⟨h1, e1⟩ <;> rcases sgI_or b with ⟨h2, e2⟩ | ⟨h2, e2⟩ | ⟨h2, e2⟩ <;> rw [e1, e2]
  · exact ⟨fun h => absurd h (by decide), fun h => by omega⟩
  · exact ⟨fun h => absurd h (by decide), fun h => by omega⟩
  · exact ⟨fun _ => by omega, fun _ => by decide⟩
  · exact ⟨fun h => absurd h (by decide), fun h => by omega⟩
  · exact ⟨fun h => absurd h (by decide), fun h => by omega⟩
  · exact ⟨fun h => absurd h (by decide), fun h => by omega⟩
  · exact ⟨fun _ => by omega, fun _ => by decide⟩
  · exact ⟨fun h => absurd h (by decide), fun h => by omega⟩
  · exact ⟨fun h => absurd h (by decide), fun h => by omega⟩
theorem sgI_mul (a b : Int) : sgI a * sgI b = sgI (a * b) := by
  rcases sgI_or a with ⟨h1, e1⟩ | ⟨h1, e1⟩ | ⟨h1, e1⟩ <;> rcases sgI_or b with ⟨h2, e2⟩ | ⟨h2, e2⟩ | ⟨h2, e2⟩ <;> rw [e1, e2]
  · have := Int.mul_pos_of_neg_of_neg h1 h2; rcases sgI_or (a * b) with ⟨g, e⟩ | ⟨g, e⟩ | ⟨g, e⟩ <;> first | omega | (rw [e]; rfl)
  · subst h2; rw [Int.mul_zero]; rfl
  · have := Int.mul_neg_of_neg_of_pos h1 h2; rcases sgI_or (a * b) with ⟨g, e⟩ | ⟨g, e⟩ | ⟨g, e⟩ <;> first | omega | (rw [e]; rfl)
  · subst h1; rw [Int.zero_mul]; rfl
  · subst h1; rw [Int.zero_mul]; rfl
  · subst h1; rw [Int.zero_mul]; rfl
  · have := Int.mul_neg_of_pos_of_neg h1 h2; rcases sgI_or (a * b) with ⟨g, e⟩ | ⟨g, e⟩ | ⟨g, e⟩ <;> first | omega | (rw [e]; rfl)
  · subst h2; rw [Int.mul_zero]; rfl
  · have := Int.mul_pos h1 h2; rcases sgI_or (a * b) with ⟨g, e⟩ | ⟨g, e⟩ | ⟨g, e⟩ <;> first | omega | (rw [e]; rfl)
/-- the digits d hold |z| -/
def hd (d : Nat → Nat) (z : Int) : Prop := dg d (nl z.natAbs) ∧ vl d (nl z.natAbs) = z.natAbs
theorem hd.sf {d : Nat → Nat} {z : Int} (h : hd d z) : sf d (nl z.natAbs) := ⟨h.1, fun h0 => vl_nl_top h.1 h.2 h0⟩
theorem hd_of {d : Nat → Nat} {n : Nat} {z : Int} (h : dg d n) (hv : vl d n = z.natAbs) : hd d z := by
  have e := tr_of h hv
  have h1 : nl z.natAbs ≤ n := by rw [← e]; exact tr_le _ _
  exact ⟨h.le h1, by rw [← e, tr_vl, hv]⟩
theorem hd.up {d : Nat → Nat} {z : Int} (h : hd d z) {d' : Nat → Nat} (he : ∀ j, j < nl z.natAbs → d' j = d j) : hd d' z := ⟨fun j hj => by rw [he j hj]; exact h.1 j hj, by rw [vl_congr he]; exact h.2⟩
