theorem add_fin {la v : Nat} {z : Int} {ns : Int32} (hv : v = z.natAbs) (hs : z ≠ 0 → ns = sgI z) : wh la (nl v) (if nl v = 0 then nI 0 else ns) = wh la (nl z.natAbs) (sgI z) := by
  subst hv
  have hp := @nl_pos z.natAbs
  by_cases h : z = 0
  · subst h; rfl
  · rw [if_neg (by omega), hs h]
theorem sgI_0 {z : Int} : sgI z = 0 ↔ z = 0 := by
  rcases sgI_or z with ⟨h, e⟩ | ⟨h, e⟩ | ⟨h, e⟩ <;> rw [e]
  · exact ⟨fun q => absurd q (by decide), fun q => by omega⟩
  · exact ⟨fun _ => h, fun _ => rfl⟩
  · exact ⟨fun q => absurd q (by decide), fun q => by omega⟩
theorem sgI_neg {z : Int} (h : z < 0) : sgI z = -1 := by unfold sgI; rw [if_pos h]
theorem sgI_pos {z : Int} (h : 0 < z) : sgI z = nI 1 := by unfold sgI; rw [if_neg (by omega), if_neg (by omega)]
theorem inc_vl {e d2 : Nat → Nat} {i m : Nat} (him : i < m) (h1 : ∀ j, j < i → e j = 2147483647) (h2 : ∀ j, j < i → d2 j = 0) (h3 : d2 i = e i + 1) (h4 : ∀ j, i < j → j < m → d2 j = e j) : vl d2 m = vl e m + 1 := by
  rw [vl_split d2 (show i + 1 ≤ m by omega), vl_split e (show i + 1 ≤ m by omega), vl_congr (d := fun j => d2 (i + 1 + j)) (d' := fun j => e (i + 1 + j)) (fun j hj => h4 _ (by omega) (by omega)), vl_s, vl_s, h3, vl_pad (d := d2) (Nat.zero_le i) (fun j _ hj => h2 j hj), vl_0]
  have key : ∀ k, k ≤ i → vl e k + 1 = bp k := by
    intro k
    induction k with
    | zero => intro _; rfl
    | succ k ih => intro hk; have := ih (by omega); rw [vl_s, h1 k (by omega), bp_s]; omega
  have := key i (Nat.le_refl _)
  rw [Nat.add_mul]
  omega
