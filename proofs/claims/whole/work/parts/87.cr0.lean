/-! a new object stands for the start -/
theorem clampI_le (v : Int32) {most : Nat} (h1 : 1 ≤ most) (h2 : most < 100000) : 1 ≤ clampI v most ∧ clampI v most ≤ most := by
  unfold clampI
  split
  · omega
  · rename_i a
    split
    · omega
    · rename_i b
      have e1 : ¬ v.toInt < 1 := fun h => a (Int32.lt_iff_toInt_lt.mpr h)
      have e2 : ¬ (nI most).toInt < v.toInt := fun h => b (Int32.lt_iff_toInt_lt.mpr h)
      have e3 : v.toNatClampNeg = v.toInt.toNat := rfl
      have e4 := nI_clamp (n := most) (by omega)
      have e5 : (nI most).toNatClampNeg = (nI most).toInt.toNat := rfl
      omega
theorem nI_back {v : Int32} (h : ¬ v < 0) : nI v.toNatClampNeg = v := by
  have e1 : ¬ v.toInt < 0 := fun q => h (Int32.lt_iff_toInt_lt.mpr q)
  have e3 : v.toNatClampNeg = v.toInt.toNat := rfl
  have e6 := v.toInt_lt
  have e4 := nI_clamp (n := v.toNatClampNeg) (by omega)
  have e5 : (nI v.toNatClampNeg).toNatClampNeg = (nI v.toNatClampNeg).toInt.toNat := rfl
  have e7 : ¬ (nI v.toNatClampNeg).toInt < 0 := fun q => nI_nn (N := v.toNatClampNeg) (by
    have : v.toNatClampNeg < 2147483648 := by omega
    by_cases hm : v.toNatClampNeg = 2147483647
    · exfalso
      rw [hm] at q
      revert q
      decide
    · omega) (Int32.lt_iff_toInt_lt.mpr q)
  apply Int32.toInt_inj.mp
  omega
theorem clamp_mm {v : Int32} {most : Nat} (h1 : 1 ≤ most) (h2 : most < 100000) : (if nI 1 < (if v < nI most then v else nI most) then (if v < nI most then v else nI most) else nI 1) = nI (clampI v most) := by
  have e4 := nI_clamp (n := most) (by omega)
  have e5 : (nI most).toNatClampNeg = (nI most).toInt.toNat := rfl
  have t1 : (nI 1).toInt = 1 := rfl
  unfold clampI
  by_cases c1 : v < 1
  · have d1 : v.toInt < 1 := Int32.lt_iff_toInt_lt.mp c1
    rw [if_pos c1]
    have c2 : v < nI most := Int32.lt_iff_toInt_lt.mpr (by omega)
    rw [if_pos c2]
    by_cases c3 : nI 1 < v
    · have := Int32.lt_iff_toInt_lt.mp c3; omega
    · rw [if_neg c3]
  · have d1 : ¬ v.toInt < 1 := fun h => c1 (Int32.lt_iff_toInt_lt.mpr h)
    rw [if_neg c1]
    have hb : nI v.toNatClampNeg = v := nI_back (fun h => by have := Int32.lt_iff_toInt_lt.mp h; have e0 : (0 : Int32).toInt = 0 := rfl; omega)
    by_cases c2 : nI most < v
    · have d2 := Int32.lt_iff_toInt_lt.mp c2
      rw [if_pos c2]
      have c3 : ¬ v < nI most := fun h => by have := Int32.lt_iff_toInt_lt.mp h; omega
      rw [if_neg c3]
      by_cases c4 : nI 1 < nI most
      · rw [if_pos c4]
      · rw [if_neg c4]
        have d4 : ¬ (nI 1).toInt < (nI most).toInt := fun h => c4 (Int32.lt_iff_toInt_lt.mpr h)
        have : most = 1 := by omega
        rw [this]
    · rw [if_neg c2, hb]
      have d2 : ¬ (nI most).toInt < v.toInt := fun h => c2 (Int32.lt_iff_toInt_lt.mpr h)
      have e9 : (if v < nI most then v else nI most) = v := by
        by_cases c3 : v < nI most
        · rw [if_pos c3]
        · rw [if_neg c3]
          have d3 : ¬ v.toInt < (nI most).toInt := fun h => c3 (Int32.lt_iff_toInt_lt.mpr h)
          exact Int32.toInt_inj.mp (by omega)
      rw [e9]
      by_cases c4 : nI 1 < v
      · rw [if_pos c4]
      · rw [if_neg c4]
        have d4 : ¬ (nI 1).toInt < v.toInt := fun h => c4 (Int32.lt_iff_toInt_lt.mpr h)
        exact Int32.toInt_inj.mp (by omega)
theorem wrm_20 {i : Nat} (h : i < 14) : wrm i = 20 := if_pos h
theorem wrm_69 {i : Nat} (h : 14 ≤ i) (h2 : i < 28) : wrm i = 69 := by unfold wrm; rw [if_neg (by omega), if_pos h2]
theorem hd_zero : hd (fun _ => 0) 0 := by
  unfold hd
  rw [nl_0']
  exact ⟨fun k hk => by omega, rfl⟩
theorem crep_new {Γ : zT} {G G' : zG} {a vars maxR cz : Nat} {X : Nat → Nat} {S : Nat → Bool} (hv : 1 ≤ vars ∧ vars ≤ 6) (hm : 1 ≤ maxR ∧ maxR ≤ 60) (hz : cz ≤ 4000) (h : NWa Γ vars maxR cz G G' a X S) (hs : ∀ i, vd vars i → i ≠ 80 → S i = true)
    (hc : G' a = some (.inr (6, [.int (nI vars), .ref (X 81), .ref (X 82), .ref (X 84), .ref (X 85), .ref (X 83), .int (nI 0), .int (nI 0), .int (nI 0), .int (nI 0), .int (nI 0), .ref (X 86), .ref (X 87), .ref (X 28), .ref (X 29), .ref (X 30)]))) :
    ∃ X', X' 80 = a ∧ XI X' vars ∧ CRep Γ G' X' (as0 vars maxR cz) ∧ ∀ x e, x ≠ a → G x = some e → G' x = some e := by
  obtain ⟨X', hX'⟩ : ∃ X' : Nat → Nat, X' = fun i => if i = 80 then a else X i := ⟨_, rfl⟩
  have e80 : X' 80 = a := by rw [hX']; exact if_pos rfl
  have ex : ∀ i, i ≠ 80 → X' i = X i := fun i hi => by rw [hX']; exact if_neg hi
  have g : ∀ i, vd vars i → i ≠ 80 → G' (X' i) = some (KC Γ vars maxR cz X i) := fun i h1 h2 => by rw [ex i h2]; exact (h.1 i (hs i h1 h2)).2
  have v1 : ∀ i, 75 ≤ i → i < 79 → vd vars i := fun i h1 h2 => by unfold vd; omega
  have v2 : ∀ i, 80 ≤ i → i < 88 → vd vars i := fun i h1 h2 => by unfold vd; omega
  refine ⟨X', e80, fun i j hi hj => ?_, ?_, h.2.2.1⟩
  · by_cases c1 : i = 80 <;> by_cases c2 : j = 80
    · exact fun _ => c1.trans c2.symm
    · rw [c1, e80, ex j c2]; exact fun e => absurd e.symm (h.ne (hs j hj c2))
    · rw [c2, e80, ex i c1]; exact fun e => absurd e (h.ne (hs i hi c1))
    · rw [ex i c1, ex j c2]; exact h.2.1 i j (hs i hi c1) (hs j hj c2)
  · refine ⟨fun _ => 0, 0, cz, 0, fun _ => 0, fun _ => 0, ⟨?_, ⟨fun i hi => ?_, ?_, ⟨fun _ => 0, ?_⟩, ⟨fun _ => 0, ?_⟩, ⟨fun k => if k < vars + 1 then some (X (0 + k)) else none, ?_, ?_⟩, ⟨fun k => if k < vars then some (X (7 + k)) else none, ?_, ?_⟩, ⟨fun k => if k < vars + 1 then some (X (14 + k)) else none, ?_, ?_⟩, ⟨fun k => if k < vars + 1 then some (X (21 + k)) else none, ?_, ?_⟩⟩, ⟨⟨?_, ?_, ?_, ?_⟩, fun r k hr => absurd hr (by omega)⟩, ?_⟩, ⟨by omega, by omega⟩, fun e => absurd e (by omega), fun k hk => absurd hk (by omega), fun e => absurd e (by omega), fun k hk => rfl, fun e => absurd rfl e⟩
    · show G' (X' 80) = _
      rw [e80, hc, ex 81 (by omega), ex 82 (by omega), ex 84 (by omega), ex 85 (by omega), ex 83 (by omega), ex (86 + 0) (by omega), ex (87 - 0) (by omega), ex 28 (by omega), ex 29 (by omega), ex 30 (by omega)]
      rfl
    · have h35 := hi.lt
      refine ⟨fun _ => 0, ?_, ?_, ?_, hd_zero⟩
      · rw [g i hi.d (by omega), KC_w h35, ex (40 + i) (by omega), nl_0']; rfl
      · rw [g (40 + i) hi.e (by omega), KC_l h35]
      · rw [nl_0']; omega
    · rw [g 83 (v2 _ (by omega) (by omega)) (by omega), ex 32 (by omega), ex 33 (by omega), ex 34 (by omega), ex 77 (by omega), ex 78 (by omega)]; rfl
    · rw [g 77 (v1 _ (by omega) (by omega)) (by omega)]; rfl
    · rw [g 78 (v1 _ (by omega) (by omega)) (by omega)]; rfl
    · rw [g 84 (v2 _ (by omega) (by omega)) (by omega)]; rfl
    · intro k hk; exact (if_pos hk).trans (by rw [ex _ (by omega)])
    · rw [g 85 (v2 _ (by omega) (by omega)) (by omega)]; rfl
    · intro k hk; exact (if_pos hk).trans (by rw [ex _ (by omega)])
    · rw [g 86 (v2 _ (by omega) (by omega)) (by omega)]; rfl
    · intro k hk; exact (if_pos hk).trans (by rw [ex _ (by omega)])
    · rw [g 87 (v2 _ (by omega) (by omega)) (by omega)]; rfl
    · intro k hk; exact (if_pos hk).trans (by rw [ex _ (by omega)])
    · rw [g 81 (v2 _ (by omega) (by omega)) (by omega), ex 75 (by omega), ex 76 (by omega)]; rfl
    · rw [g 75 (v1 _ (by omega) (by omega)) (by omega)]; rfl
    · rw [g 76 (v1 _ (by omega) (by omega)) (by omega)]; rfl
    · omega
    · show G' (X' 82) = _
      rw [g 82 (v2 _ (by omega) (by omega)) (by omega), ex 31 (by omega)]; rfl
