/-! what always holds is kept by every call -/
def AJ : AS → Prop := fun σ => AI σ ∧ (σ.2.2.2.1.2.1 = 1 → σ.2.2.2.1.1 = 1)
theorem aj_clamp (w : Int32) : w.toNatClampNeg < 2147483648 := by
  have h1 := w.toInt_lt
  have h2 : w.toNatClampNeg = w.toInt.toNat := rfl
  omega
theorem aj_z {sg : Int32} (h : sg = -1 ∨ sg = 0 ∨ sg = 1) (v : Nat) : (sg.toInt * (v : Int)).natAbs ≤ v := by
  rcases h with rfl | rfl | rfl
  · show ((-1 : Int) * (v : Int)).natAbs ≤ v; omega
  · show ((0 : Int) * (v : Int)).natAbs ≤ v; omega
  · show ((1 : Int) * (v : Int)).natAbs ≤ v; omega
theorem aj_begin {σ : AS} (h : AJ σ) (sign : Int32) : AJ (op_begin sign σ).2 := by
  obtain ⟨⟨vars, maxR, cells⟩, ⟨nr, inp, R⟩, ⟨fil, V⟩, ⟨se, be, S⟩, P, ⟨st, sg, gv, g, z⟩⟩ := σ
  obtain ⟨⟨h1, h2, h3, h4, h5, h6, h7, h8, h9, h10, h11⟩, hb⟩ := h
  simp only [op_begin]
  split
  · exact ⟨⟨h1, h2, h3, h4, h5, h6, h7, h8, h9, h10, h11⟩, hb⟩
  · rename_i hn
    refine ⟨⟨h1, h2, h3, h4, h5, by omega, by omega, ?_, fun _ => ?_, fun j hj => by omega, ?_⟩, hb⟩
    · have c1 : ¬ sign < -1 := fun h => hn (Or.inl h)
      have c2 : ¬ 1 < sign := fun h => hn (Or.inr h)
      have d1 : ¬ sign.toInt < -1 := fun h => c1 (Int32.lt_iff_toInt_lt.mpr h)
      have d2 : ¬ 1 < sign.toInt := fun h => c2 (Int32.lt_iff_toInt_lt.mpr h)
      rcases (show sign.toInt = -1 ∨ sign.toInt = 0 ∨ sign.toInt = 1 by omega) with e | e | e
      · exact Or.inl (Int32.toInt_inj.mp e)
      · exact Or.inr (Or.inl (Int32.toInt_inj.mp e))
      · exact Or.inr (Or.inr (Int32.toInt_inj.mp e))
    · show (0 : Int) = sign.toInt * ((vl g 0 : Nat) : Int)
      rw [vl_0]; simp
    · show nl (0 : Int).natAbs ≤ 20
      rw [nl_0']; omega
theorem aj_limb {σ : AS} (h : AJ σ) (w : Int32) : AJ (op_limb w σ).2 := by
  obtain ⟨⟨vars, maxR, cells⟩, ⟨nr, inp, R⟩, ⟨fil, V⟩, ⟨se, be, S⟩, P, ⟨st, sg, gv, g, z⟩⟩ := σ
  obtain ⟨⟨h1, h2, h3, h4, h5, h6, h7, h8, h9, h10, h11⟩, hb⟩ := h
  simp only [op_limb]
  split
  · exact ⟨⟨h1, h2, h3, h4, h5, h6, h7, h8, h9, h10, h11⟩, hb⟩
  · rename_i hn
    have hgv : gv < 20 := by
      have : gv ≠ 20 := fun e => hn (Or.inr (Or.inr e))
      omega
    have hd : dg (va_up g gv w.toNatClampNeg) (gv + 1) := by
      intro k hk
      by_cases hk2 : k = gv
      · subst hk2; rw [va_up_self]; exact aj_clamp w
      · rw [va_up_ne _ _ hk2]; exact h10 k (by omega)
    refine ⟨⟨h1, h2, h3, h4, h5, h6, by omega, h8, fun _ => rfl, hd, ?_⟩, hb⟩
    exact Nat.le_trans (nl_mono (aj_z h8 _)) (Nat.le_trans (nl_le (vl_lt hd)) (by omega))
theorem aj_endCoef {σ : AS} (h : AJ σ) : AJ (op_endCoef σ).2 := by
  obtain ⟨⟨vars, maxR, cells⟩, ⟨nr, inp, R⟩, ⟨fil, V⟩, ⟨se, be, S⟩, P, ⟨st, sg, gv, g, z⟩⟩ := σ
  obtain ⟨⟨h1, h2, h3, h4, h5, h6, h7, h8, h9, h10, h11⟩, hb⟩ := h
  simp only [op_endCoef]
  split
  · exact ⟨⟨h1, h2, h3, h4, h5, h6, h7, h8, h9, h10, h11⟩, hb⟩
  · rename_i hn
    have hf : fil ≠ vars + 1 := fun e => hn (Or.inr e)
    refine ⟨⟨h1, h2, ⟨by omega, fun k hk => ?_⟩, h4, h5, by omega, h7, h8, fun e => by omega, h10, h11⟩, hb⟩
    by_cases hk2 : k = fil
    · subst hk2; rw [va_up_self]; exact h11
    · rw [va_up_ne _ _ hk2]; exact h3.2 k (by omega)
theorem aj_store {X : Nat → Int} {vars maxR cells nr inp : Nat} {R : Nat → Nat → Int} {C : Nat × (Nat → Int)} {D : Nat × Nat × (Nat → Int)} {P : Nat → Int} {E : Nat × Int32 × Nat × (Nat → Nat) × Int} {n : Nat} {σ' : AS} (h : op_store X ((vars, maxR, cells), (nr, inp, R), C, D, P, E) = (some n, σ')) : nr < maxR ∨ maxR < nr := by
  simp only [op_store] at h
  split at h
  · cases h
  · rename_i hn; have : nr ≠ maxR := fun e => hn (Or.inl e); omega
theorem aj_row {R : Nat → Nat → Int} {X : Nat → Int} {nr vars : Nat} (h : ∀ r k, r < nr → k ≤ vars → nl (R r k).natAbs ≤ 48) (hX : ∀ k, k ≤ vars → nl (X k).natAbs ≤ 48) : ∀ r k, r < nr + 1 → k ≤ vars → nl (va_up R nr X r k).natAbs ≤ 48 := by
  intro r k h1 h2
  by_cases hr : r = nr
  · subst hr; rw [va_up_self]; exact hX k h2
  · rw [va_up_ne _ _ hr]; exact h r k (by omega) h2
theorem aj_endCons {σ : AS} (h : AJ σ) : AJ (op_endCons σ).2 := by
  obtain ⟨⟨vars, maxR, cells⟩, ⟨nr, inp, R⟩, ⟨fil, V⟩, ⟨se, be, S⟩, P, ⟨st, sg, gv, g, z⟩⟩ := σ
  obtain ⟨⟨h1, h2, h3, h4, h5, h6, h7, h8, h9, h10, h11⟩, hb⟩ := h
  have k0 : AJ ((vars, maxR, cells), (nr, inp, R), (0, V), (se, be, S), P, (st, sg, gv, g, z)) := ⟨⟨h1, h2, ⟨by omega, fun k hk => by omega⟩, h4, h5, h6, h7, h8, h9, h10, h11⟩, hb⟩
  simp only [op_endCons]
  split
  · exact k0
  · split
    · exact k0
    · rename_i hs hf
      simp only [op_store]
      by_cases hc : nr = maxR ∨ cells < need V (vars + 1)
      · rw [if_pos hc]; exact k0
      · rw [if_neg hc]
        have hne : nr ≠ maxR := fun e => hc (Or.inl e)
        have hse : se = 0 := by have := h4.1; omega
        refine ⟨⟨⟨h1.1, h1.2.1, h1.2.2.1, h1.2.2.2.1, by omega⟩, ⟨by omega, by omega, fun _ => by rw [h2.2.2.1 hse], aj_row h2.2.2.2 (fun k hk => Nat.le_trans (h3.2 k (by omega)) (by omega))⟩, ⟨by omega, fun k hk => by omega⟩, h4, h5, h6, h7, h8, h9, h10, h11⟩, hb⟩
theorem aj_seal {σ : AS} (h : AJ σ) : AJ (op_seal σ).2 := by
  obtain ⟨⟨vars, maxR, cells⟩, ⟨nr, inp, R⟩, ⟨fil, V⟩, ⟨se, be, S⟩, P, ⟨st, sg, gv, g, z⟩⟩ := σ
  obtain ⟨⟨h1, h2, h3, h4, h5, h6, h7, h8, h9, h10, h11⟩, hb⟩ := h
  exact ⟨⟨h1, ⟨h2.1, h2.2.1, fun e => absurd (show (1 : Nat) = 0 from e) (by decide), h2.2.2.2⟩, h3, ⟨show (1 : Nat) < 2 by decide, h4.2.1, h4.2.2⟩, h5, h6, h7, h8, h9, h10, h11⟩, fun _ => rfl⟩
theorem aj_start {σ : AS} (h : AJ σ) : AJ (op_start σ).2 := by
  obtain ⟨⟨vars, maxR, cells⟩, ⟨nr, inp, R⟩, ⟨fil, V⟩, ⟨se, be, S⟩, P, ⟨st, sg, gv, g, z⟩⟩ := σ
  obtain ⟨⟨h1, h2, h3, h4, h5, h6, h7, h8, h9, h10, h11⟩, hb⟩ := h
  simp only [op_start]
  split
  · exact ⟨⟨h1, h2, h3, h4, h5, h6, h7, h8, h9, h10, h11⟩, hb⟩
  · refine ⟨⟨h1, h2, h3, ⟨h4.1, by omega, fun _ k hk => by show nl (0 : Int).natAbs ≤ 48; rw [nl_0']; omega⟩, h5, h6, h7, h8, h9, h10, h11⟩, fun _ => ?_⟩
    show se = 1
    have := h4.1; omega
theorem aj_add {σ : AS} (h : AJ σ) (row : Int32) : AJ (op_add row σ).2 := by
  obtain ⟨⟨vars, maxR, cells⟩, ⟨nr, inp, R⟩, ⟨fil, V⟩, ⟨se, be, S⟩, P, ⟨st, sg, gv, g, z⟩⟩ := σ
  have h0 := h
  obtain ⟨⟨h1, h2, h3, h4, h5, h6, h7, h8, h9, h10, h11⟩, hb⟩ := h
  simp only [op_add]
  split
  · exact h0
  · split
    · exact h0
    · split
      · exact h0
      · split
        · rename_i hf
          exact ⟨⟨h1, h2, h3, ⟨h4.1, h4.2.1, fun _ k hk => fit48_iff.mp hf k (by show k < vars + 1; omega)⟩, h5, by omega, h7, h8, fun e => by omega, h10, h11⟩, hb⟩
        · exact h0
theorem aj_end {σ : AS} (h : AJ σ) : AJ (op_end σ).2 := by
  obtain ⟨⟨vars, maxR, cells⟩, ⟨nr, inp, R⟩, ⟨fil, V⟩, ⟨se, be, S⟩, P, ⟨st, sg, gv, g, z⟩⟩ := σ
  have h0 := h
  obtain ⟨⟨h1, h2, h3, h4, h5, h6, h7, h8, h9, h10, h11⟩, hb⟩ := h
  simp only [op_end]
  split
  · exact h0
  · rename_i hbe
    have hbe1 : be = 1 := by have := h4.2.1; omega
    have hse : se = 1 := hb hbe1
    simp only [op_store]
    by_cases hc : nr = maxR ∨ cells < need S (vars + 1)
    · rw [if_pos hc]; exact h0
    · rw [if_neg hc]
      have hne : nr ≠ maxR := fun e => hc (Or.inl e)
      refine ⟨⟨⟨h1.1, h1.2.1, h1.2.2.1, h1.2.2.2.1, by omega⟩, ⟨by omega, by omega, fun e => by omega, aj_row h2.2.2.2 (h4.2.2 hbe1)⟩, h3, ⟨h4.1, by omega, fun e => by omega⟩, h5, h6, h7, h8, h9, h10, h11⟩, fun e => ?_⟩
      exact hse
theorem aj_div (x : Int) (d : Nat) : (x / (d : Int)).natAbs ≤ x.natAbs := Int.natAbs_ediv_le_natAbs _ _
theorem aj_lt {row : Int32} {nr : Nat} (hn : nr < 2147483648) (h1 : ¬ row < 0) (h2 : ¬ nI nr ≤ row) : row.toNatClampNeg < nr := by
  have e1 : ¬ row.toInt < 0 := fun h => h1 (Int32.lt_iff_toInt_lt.mpr h)
  have e2 : ¬ (nI nr).toInt ≤ row.toInt := fun h => h2 (Int32.le_iff_toInt_le.mpr h)
  have e3 : row.toNatClampNeg = row.toInt.toNat := rfl
  have e4 := nI_clamp (n := nr) (by omega)
  have e5 : (nI nr).toNatClampNeg = (nI nr).toInt.toNat := rfl
  omega
theorem aj_divide {σ : AS} (h : AJ σ) (row : Int32) : AJ (op_divide row σ).2 := by
  obtain ⟨⟨vars, maxR, cells⟩, ⟨nr, inp, R⟩, ⟨fil, V⟩, ⟨se, be, S⟩, P, ⟨st, sg, gv, g, z⟩⟩ := σ
  have h0 := h
  obtain ⟨⟨h1, h2, h3, h4, h5, h6, h7, h8, h9, h10, h11⟩, hb⟩ := h
  simp only [op_divide]
  by_cases hg : row < 0 ∨ nI nr ≤ row ∨ se = 0
  · rw [if_pos hg]; exact h0
  · rw [if_neg hg]
    split
    · exact h0
    · simp only [op_store]
      split
      · rename_i heq
        split at heq
        · cases heq; exact h0
        · cases heq
      · rename_i heq
        split at heq
        · cases heq
        · rename_i hc
          cases heq
          have hne : nr ≠ maxR := fun e => hc (Or.inl e)
          have hs : se ≠ 0 := fun e => hg (Or.inr (Or.inr e))
          have hr : row.toNatClampNeg < nr := aj_lt (by omega) (fun e => hg (Or.inl e)) (fun e => hg (Or.inr (Or.inl e)))
          exact ⟨⟨⟨h1.1, h1.2.1, h1.2.2.1, h1.2.2.2.1, by omega⟩, ⟨by omega, by omega, fun e => absurd e hs, aj_row h2.2.2.2 (fun k hk => Nat.le_trans (nl_mono (aj_div _ _)) (h2.2.2.2 _ k hr hk))⟩, h3, h4, h5, h6, h7, h8, h9, h10, h11⟩, hb⟩
theorem aj_evalStart {σ : AS} (h : AJ σ) : AJ (op_evalStart σ).2 := by
  obtain ⟨⟨vars, maxR, cells⟩, ⟨nr, inp, R⟩, ⟨fil, V⟩, ⟨se, be, S⟩, P, ⟨st, sg, gv, g, z⟩⟩ := σ
  obtain ⟨⟨h1, h2, h3, h4, h5, h6, h7, h8, h9, h10, h11⟩, hb⟩ := h
  exact ⟨⟨h1, h2, h3, h4, fun k hk => by show nl (0 : Int).natAbs ≤ 20; rw [nl_0']; omega, h6, h7, h8, h9, h10, h11⟩, hb⟩
theorem aj_evalPoint {σ : AS} (h : AJ σ) (var : Int32) : AJ (op_evalPoint var σ).2 := by
  obtain ⟨⟨vars, maxR, cells⟩, ⟨nr, inp, R⟩, ⟨fil, V⟩, ⟨se, be, S⟩, P, ⟨st, sg, gv, g, z⟩⟩ := σ
  have h0 := h
  obtain ⟨⟨h1, h2, h3, h4, h5, h6, h7, h8, h9, h10, h11⟩, hb⟩ := h
  simp only [op_evalPoint]
  split
  · exact h0
  · refine ⟨⟨h1, h2, h3, h4, fun k hk => ?_, by omega, h7, h8, fun e => by omega, h10, h11⟩, hb⟩
    by_cases hk2 : k = var.toNatClampNeg
    · rw [hk2, va_up_self]; exact h11
    · rw [va_up_ne _ _ hk2]; exact h5 k hk
/-- the start -/
def as0 (vars maxR cells : Nat) : AS := ((vars, maxR, cells), (0, 0, fun _ _ => 0), (0, fun _ => 0), (0, 0, fun _ => 0), fun _ => 0, (0, 0, 0, fun _ => 0, 0))
theorem aj_0 {vars maxR cells : Nat} (h : 1 ≤ vars ∧ vars ≤ 6 ∧ 1 ≤ maxR ∧ maxR ≤ 60 ∧ cells ≤ 4000) : AJ (as0 vars maxR cells) :=
  ⟨⟨h, ⟨by omega, by omega, fun _ => rfl, fun r k hr => by omega⟩, ⟨by omega, fun k hk => by omega⟩, ⟨by omega, by omega, fun e => by omega⟩, fun k hk => by show nl (0 : Int).natAbs ≤ 20; rw [nl_0']; omega, by omega, by omega, Or.inr (Or.inl rfl), fun e => by omega, fun j hj => by omega, by show nl (0 : Int).natAbs ≤ 20; rw [nl_0']; omega⟩, fun e => absurd (show (0 : Nat) = 1 from e) (by decide)⟩
