def pSum (a : Nat) : Prop := a < 427 ∨ (434 ≤ a ∧ a < 441) ∨ 443 ≤ a
theorem MRep.keep {F L B F1 L1 B1 : Nat → Nat} {σ : AS} (h : MRep F L B σ) (hA : AI σ) {lo hi : Nat} (s : sm lo hi F L B F1 L1 B1) (h1 : 441 ≤ lo) (h2 : hi ≤ 447 ∨ 448 ≤ lo) : MRep F1 L1 B1 σ := by
  obtain ⟨⟨vars, maxR, cells⟩, ⟨nr, inp, R⟩, ⟨fil, V⟩, ⟨se, be, S⟩, P, ⟨st, sg, gv, g, z⟩⟩ := σ
  obtain ⟨⟨hv1, hv6, hm1, hm60, hc4⟩, ⟨hnr, hinp, hsei, hRs⟩, ⟨hfil, hVs⟩, ⟨hse, hbe, hSs⟩, hPs, hst, hgv, hsg, hz1, hgd, hz20⟩ := hA
  obtain ⟨mR, mV, mS, mP, mg, mz, m1⟩ := h
  exact ⟨fun r k a b => (mR r k a b).sm s (by omega), fun k a => (mV k a).sm s (by omega), fun a k b => (mS a k b).sm s (by omega), fun k a => (mP k a).sm s (by omega), fun a j hj => ((s 440 (by omega)).2.2 j (by omega)).trans (mg a j hj), fun a => (mz a).sm s (by omega), s.nv (by omega) m1⟩
theorem nl_mul {a b : Nat} {x y : Nat} (ha : nl a ≤ x) (hb : nl b ≤ y) : nl (a * b) ≤ x + y := nl_le (mul_lt_bp (nl_le_iff.mp ha) (nl_le_iff.mp hb))
theorem nl_imul {a b : Int} {x y : Nat} (ha : nl a.natAbs ≤ x) (hb : nl b.natAbs ≤ y) : nl (a * b).natAbs ≤ x + y := by rw [Int.natAbs_mul]; exact nl_mul ha hb
/-- division of an integer, cut downwards -/
theorem fl_pos {x : Int} {g : Nat} (hx : ¬ x < 0) : (x / (g : Int)) = ((x.natAbs / g : Nat) : Int) := by
  obtain ⟨n, rfl⟩ := Int.eq_ofNat_of_zero_le (Int.not_lt.mp hx)
  simp
theorem fl_neg {x : Int} {g : Nat} (hg : 0 < g) (hx : x < 0) : (x / (g : Int)) = -((if 0 < x.natAbs % g then x.natAbs / g + 1 else x.natAbs / g : Nat) : Int) := by
  have e := Nat.div_add_mod x.natAbs g
  have hm := Nat.mod_lt x.natAbs hg
  have hq : ((g * (x.natAbs / g) : Nat) : Int) = (g : Int) * ((x.natAbs / g : Nat) : Int) := by rw [Int.natCast_mul]
  split
  · rename_i h
    have h1 : x = -((x.natAbs / g + 1 : Nat) : Int) * (g : Int) + ((g - x.natAbs % g : Nat) : Int) := by
      rw [Int.neg_mul, Int.natCast_add, Int.add_mul, Int.mul_comm _ (g : Int)]
      omega
    rw [Int.ediv_eq_iff_of_pos (by omega)] <;> omega
  · rename_i h
    have h1 : x = -((x.natAbs / g : Nat) : Int) * (g : Int) := by
      rw [Int.neg_mul, Int.mul_comm _ (g : Int)]
      omega
    conv => lhs; rw [h1]
    rw [Int.mul_ediv_cancel _ (by omega)]
