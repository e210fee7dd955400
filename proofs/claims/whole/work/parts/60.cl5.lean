/-- the object at a, its digits at la with room r, holds z -/
def NUM (Γ : zT) (G : zG) (a la r : Nat) (z : Int) : Prop := ∃ d, G a = some (wh la (nl z.natAbs) (sgI z)) ∧ G la = some (zI Γ r d) ∧ nl z.natAbs ≤ r ∧ hd d z
section ZU
variable {p : Program} {l : Launch} {e : Env} {R : Room} {s : State} {m : MethodId} {args : Array Value} {below : List Frame} {meth : Method} {c : Code} {H : Heap} {locs : List Loc} {cells slots : Nat} {Q : State → Prop}
variable {cc : ByteArray} {pc : Nat} {ls : Array Slot} {rest : List Value}
theorem z_iushrL (hexec : p.tables.exec = Jvm.exec) (hb : c.code = cc) {x : Nat} (j : Nat) (h : x < 2 ^ 32) (hj : (((nI j).toUInt32 &&& Int32.toUInt32 31).toBitVec % 32).toNat = j) (hdg : decode cc pc = .ok (.iushr, 1))
    (k : W p l e R s m args below meth c H locs cells slots Q (F0 m (pc + 1) ls (.int (nI (x / 2 ^ j)) :: rest))) : W p l e R s m args below meth c H locs cells slots Q (F0 m pc ls (.int (nI j) :: .int (nI x) :: rest)) :=
  lv_iushr hexec hb hdg (pk_ushrN h (nI j) j hj) k
end ZU
theorem lz_step {x y k j : Nat} (h1 : y * 2 ^ k ≤ x) (h2 : x < (y + 1) * 2 ^ k) : y / 2 ^ j * 2 ^ (k + j) ≤ x ∧ x < (y / 2 ^ j + 1) * 2 ^ (k + j) := by
  have hp : 0 < 2 ^ j := Nat.pow_pos (by decide)
  have e := Nat.div_add_mod y (2 ^ j)
  have hm := Nat.mod_lt y hp
  rw [Nat.pow_add, Nat.mul_comm (2 ^ k), ← Nat.mul_assoc, ← Nat.mul_assoc]
  constructor
  · exact Nat.le_trans (mul_le_r (2 ^ k) (show y / 2 ^ j * 2 ^ j ≤ y by rw [Nat.mul_comm]; omega)) h1
  · refine Nat.lt_of_lt_of_le h2 (mul_le_r (2 ^ k) ?_)
    rw [Nat.add_mul, Nat.mul_comm (y / 2 ^ j)]; omega
theorem lz_a {x y D t : Nat} (h1 : y * D ≤ x) (h2 : x < (y + 1) * D) : y * (D * 2 ^ t) ≤ x * 2 ^ t ∧ x * 2 ^ t < (y + 1) * (D * 2 ^ t) := by
  rw [← Nat.mul_assoc, ← Nat.mul_assoc]
  exact ⟨mul_le_r _ h1, Nat.mul_lt_mul_of_pos_right h2 (Nat.pow_pos (by decide))⟩
theorem lz_fin {x y n : Nat} (hx : x < 2147483648) (hn : n ≤ 31) (hy : 0 < y) (hy4 : y < 4) (hn0 : 0 < n) (h1 : y * 2 ^ (31 - n) ≤ x) (h2 : x < (y + 1) * 2 ^ (31 - n)) : ∃ sh, n - y / 2 = sh + 1 ∧ sh ≤ 30 ∧ 1073741824 ≤ x * 2 ^ sh ∧ x * 2 ^ sh < 2147483648 := by
  rcases (show y = 1 ∨ 2 ≤ y by omega) with rfl | hy2
  · obtain ⟨t, rfl⟩ : ∃ t, n = t + 1 := ⟨n - 1, by omega⟩
    have e : 2 ^ (31 - (t + 1)) * 2 ^ t = 1073741824 := by rw [← Nat.pow_add, show 31 - (t + 1) + t = 30 by omega]
    obtain ⟨g1, g2⟩ := lz_a (t := t) h1 h2
    rw [e] at g1 g2
    exact ⟨t, by omega, by omega, by omega, by omega⟩
  · rcases (show n = 1 ∨ 2 ≤ n by omega) with rfl | hn2
    · have := mul_le_r (2 ^ (31 - 1)) hy2
      omega
    · obtain ⟨t, rfl⟩ : ∃ t, n = t + 2 := ⟨n - 2, by omega⟩
      have e : 2 ^ (31 - (t + 2)) * 2 ^ t = 536870912 := by rw [← Nat.pow_add, show 31 - (t + 2) + t = 29 by omega]
      obtain ⟨g1, g2⟩ := lz_a (t := t) h1 h2
      rw [e] at g1 g2
      exact ⟨t, by omega, by omega, by omega, by omega⟩
